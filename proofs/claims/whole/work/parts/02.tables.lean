/-! names of classes, of fields: printed by the kit; tables: written by wip/whole/gen01.py out of the claim's own tables -/
def RX0 : String := "RookHouse$House"
def TX0 : u_T := fun k => match k with
  | 0 => ("RookHouse$House", "members", "I", false)
  | 1 => ("RookHouse$House", "here", "I", false)
  | 2 => ("RookHouse$House", "standing", "I", false)
  | 3 => ("RookHouse$House", "laws", "I", false)
  | 4 => ("RookHouse$House", "inForce", "I", false)
  | 5 => ("RookHouse$House", "sights", "I", false)
  | 6 => ("RookHouse$House", "voice", "[I", true)
  | 7 => ("RookHouse$House", "side", "[I", true)
  | 8 => ("RookHouse$House", "want", "[I", true)
  | 9 => ("RookHouse$House", "term", "[I", true)
  | 10 => ("RookHouse$House", "lawText", "[LRookHouse$Text;", true)
  | 11 => ("RookHouse$House", "sightFor", "[I", true)
  | _ => ("RookHouse$House", "sightAgainst", "[I", true)
def tyX0 : Nat → FieldType := fun k => match k with
  | 0 => .int
  | 1 => .int
  | 2 => .int
  | 3 => .int
  | 4 => .int
  | 5 => .int
  | 6 => .array .int
  | 7 => .array .int
  | 8 => .array .int
  | 9 => .array .int
  | 10 => .array (.object "RookHouse$Text")
  | 11 => .array .int
  | _ => .array .int
theorem nmX0 : ∀ a, a < 13 → ∀ b, b < 13 → a ≠ b → (TX0 a).2.1 ≠ (TX0 b).2.1 := by decide +kernel
theorem tyX0_ok : ∀ k, k < 13 → parseFieldDescriptor (TX0 k).2.2.1 = some (tyX0 k) := by decide +kernel
def RX1 : String := "RookHouse$Past"
def TX1 : u_T := fun k => match k with
  | 0 => ("RookHouse$Past", "size", "I", false)
  | _ => ("RookHouse$Past", "deed", "[I", true)
def tyX1 : Nat → FieldType := fun k => match k with
  | 0 => .int
  | _ => .array .int
theorem nmX1 : ∀ a, a < 2 → ∀ b, b < 2 → a ≠ b → (TX1 a).2.1 ≠ (TX1 b).2.1 := by decide +kernel
theorem tyX1_ok : ∀ k, k < 2 → parseFieldDescriptor (TX1 k).2.2.1 = some (tyX1 k) := by decide +kernel
def RX2 : String := "RookHouse$Reader"
def TX2 : u_T := fun k => match k with
  | 0 => ("RookHouse$Reader", "tokens", "LRookHouse$Tokens;", true)
  | 1 => ("RookHouse$Reader", "text", "LRookHouse$Text;", true)
  | 2 => ("RookHouse$Reader", "asOrders", "Z", false)
  | 3 => ("RookHouse$Reader", "fault", "I", false)
  | 4 => ("RookHouse$Reader", "next", "I", false)
  | 5 => ("RookHouse$Reader", "token", "I", false)
  | 6 => ("RookHouse$Reader", "number", "I", false)
  | 7 => ("RookHouse$Reader", "place", "I", false)
  | _ => ("RookHouse$Reader", "parts", "I", false)
def tyX2 : Nat → FieldType := fun k => match k with
  | 0 => .object "RookHouse$Tokens"
  | 1 => .object "RookHouse$Text"
  | 2 => .boolean
  | 3 => .int
  | 4 => .int
  | 5 => .int
  | 6 => .int
  | 7 => .int
  | _ => .int
theorem nmX2 : ∀ a, a < 9 → ∀ b, b < 9 → a ≠ b → (TX2 a).2.1 ≠ (TX2 b).2.1 := by decide +kernel
theorem tyX2_ok : ∀ k, k < 9 → parseFieldDescriptor (TX2 k).2.2.1 = some (tyX2 k) := by decide +kernel
def RX3 : String := "RookHouse$Reckoner"
def TX3 : u_T := fun k => match k with
  | 0 => ("RookHouse$Reckoner", "broken", "Z", false)
  | _ => ("RookHouse$Reckoner", "heap", "[J", true)
def tyX3 : Nat → FieldType := fun k => match k with
  | 0 => .boolean
  | _ => .array .long
theorem nmX3 : ∀ a, a < 2 → ∀ b, b < 2 → a ≠ b → (TX3 a).2.1 ≠ (TX3 b).2.1 := by decide +kernel
theorem tyX3_ok : ∀ k, k < 2 → parseFieldDescriptor (TX3 k).2.2.1 = some (tyX3 k) := by decide +kernel
def RX4 : String := "RookHouse$Table"
def TX4 : u_T := fun k => match k with
  | 0 => ("RookHouse$Table", "members", "I", false)
  | 1 => ("RookHouse$Table", "here", "I", false)
  | 2 => ("RookHouse$Table", "need", "I", false)
  | 3 => ("RookHouse$Table", "speak", "[I", true)
  | 4 => ("RookHouse$Table", "value", "[I", true)
  | 5 => ("RookHouse$Table", "barred", "[I", true)
  | 6 => ("RookHouse$Table", "on", "[I", true)
  | 7 => ("RookHouse$Table", "beaten", "[I", true)
  | 8 => ("RookHouse$Table", "tally", "[I", true)
  | 9 => ("RookHouse$Table", "others", "[I", true)
  | 10 => ("RookHouse$Table", "own", "[I", true)
  | 11 => ("RookHouse$Table", "words", "[I", true)
  | _ => ("RookHouse$Table", "reckoner", "LRookHouse$Reckoner;", true)
def tyX4 : Nat → FieldType := fun k => match k with
  | 0 => .int
  | 1 => .int
  | 2 => .int
  | 3 => .array .int
  | 4 => .array .int
  | 5 => .array .int
  | 6 => .array .int
  | 7 => .array .int
  | 8 => .array .int
  | 9 => .array .int
  | 10 => .array .int
  | 11 => .array .int
  | _ => .object "RookHouse$Reckoner"
theorem nmX4 : ∀ a, a < 13 → ∀ b, b < 13 → a ≠ b → (TX4 a).2.1 ≠ (TX4 b).2.1 := by decide +kernel
theorem tyX4_ok : ∀ k, k < 13 → parseFieldDescriptor (TX4 k).2.2.1 = some (tyX4 k) := by decide +kernel
def RX5 : String := "RookHouse$Tape"
def TX5 : u_T := fun k => match k with
  | 0 => ("RookHouse$Tape", "size", "I", false)
  | _ => ("RookHouse$Tape", "bytes", "[I", true)
def tyX5 : Nat → FieldType := fun k => match k with
  | 0 => .int
  | _ => .array .int
theorem nmX5 : ∀ a, a < 2 → ∀ b, b < 2 → a ≠ b → (TX5 a).2.1 ≠ (TX5 b).2.1 := by decide +kernel
theorem tyX5_ok : ∀ k, k < 2 → parseFieldDescriptor (TX5 k).2.2.1 = some (tyX5 k) := by decide +kernel
def RX6 : String := "RookHouse$Text"
def TX6 : u_T := fun k => match k with
  | 0 => ("RookHouse$Text", "clauses", "I", false)
  | 1 => ("RookHouse$Text", "steps", "I", false)
  | 2 => ("RookHouse$Text", "billsAsked", "I", false)
  | 3 => ("RookHouse$Text", "kind", "[I", true)
  | 4 => ("RookHouse$Text", "times", "[I", true)
  | 5 => ("RookHouse$Text", "sumAt", "[I", true)
  | 6 => ("RookHouse$Text", "testAt", "[I", true)
  | 7 => ("RookHouse$Text", "step", "[I", true)
  | _ => ("RookHouse$Text", "with", "[I", true)
def tyX6 : Nat → FieldType := fun k => match k with
  | 0 => .int
  | 1 => .int
  | 2 => .int
  | 3 => .array .int
  | 4 => .array .int
  | 5 => .array .int
  | 6 => .array .int
  | 7 => .array .int
  | _ => .array .int
theorem nmX6 : ∀ a, a < 9 → ∀ b, b < 9 → a ≠ b → (TX6 a).2.1 ≠ (TX6 b).2.1 := by decide +kernel
theorem tyX6_ok : ∀ k, k < 9 → parseFieldDescriptor (TX6 k).2.2.1 = some (tyX6 k) := by decide +kernel
def RX7 : String := "RookHouse$Tokens"
def TX7 : u_T := fun k => match k with
  | 0 => ("RookHouse$Tokens", "count", "I", false)
  | 1 => ("RookHouse$Tokens", "at", "[I", true)
  | 2 => ("RookHouse$Tokens", "code", "[I", true)
  | _ => ("RookHouse$Tokens", "number", "[I", true)
def tyX7 : Nat → FieldType := fun k => match k with
  | 0 => .int
  | 1 => .array .int
  | 2 => .array .int
  | _ => .array .int
theorem nmX7 : ∀ a, a < 4 → ∀ b, b < 4 → a ≠ b → (TX7 a).2.1 ≠ (TX7 b).2.1 := by decide +kernel
theorem tyX7_ok : ∀ k, k < 4 → parseFieldDescriptor (TX7 k).2.2.1 = some (tyX7 k) := by decide +kernel
def RX8 : String := "RookHouse"
def TX8 : u_T := fun k => match k with
  | 0 => ("RookHouse", "house", "LRookHouse$House;", true)
  | 1 => ("RookHouse", "before", "LRookHouse$House;", true)
  | 2 => ("RookHouse", "paper", "LRookHouse$House;", true)
  | 3 => ("RookHouse", "images", "[LRookHouse$House;", true)
  | 4 => ("RookHouse", "past", "LRookHouse$Past;", true)
  | 5 => ("RookHouse", "pastBefore", "LRookHouse$Past;", true)
  | 6 => ("RookHouse", "tape", "LRookHouse$Tape;", true)
  | 7 => ("RookHouse", "reader", "LRookHouse$Reader;", true)
  | 8 => ("RookHouse", "orderWords", "[I", true)
  | 9 => ("RookHouse", "table", "LRookHouse$Table;", true)
  | 10 => ("RookHouse", "order", "[I", true)
  | 11 => ("RookHouse", "chances", "[J", true)
  | 12 => ("RookHouse", "luck", "I", false)
  | 13 => ("RookHouse", "stoppedAt", "I", false)
  | 14 => ("RookHouse", "feathersHad", "I", false)
  | 15 => ("RookHouse", "refusals", "[I", true)
  | _ => ("RookHouse", "latestStatus", "I", false)
def tyX8 : Nat → FieldType := fun k => match k with
  | 0 => .object "RookHouse$House"
  | 1 => .object "RookHouse$House"
  | 2 => .object "RookHouse$House"
  | 3 => .array (.object "RookHouse$House")
  | 4 => .object "RookHouse$Past"
  | 5 => .object "RookHouse$Past"
  | 6 => .object "RookHouse$Tape"
  | 7 => .object "RookHouse$Reader"
  | 8 => .array .int
  | 9 => .object "RookHouse$Table"
  | 10 => .array .int
  | 11 => .array .long
  | 12 => .int
  | 13 => .int
  | 14 => .int
  | 15 => .array .int
  | _ => .int
theorem nmX8 : ∀ a, a < 17 → ∀ b, b < 17 → a ≠ b → (TX8 a).2.1 ≠ (TX8 b).2.1 := by decide +kernel
theorem tyX8_ok : ∀ k, k < 17 → parseFieldDescriptor (TX8 k).2.2.1 = some (tyX8 k) := by decide +kernel
def RX9 : String := "RookHouseModel"
def TX9 : u_T := fun k => match k with
  | 0 => ("RookHouseModel", "status", "I", false)
  | 1 => ("RookHouseModel", "refused", "[I", true)
  | 2 => ("RookHouseModel", "kept", "[I", true)
  | 3 => ("RookHouseModel", "images", "[I", true)
  | 4 => ("RookHouseModel", "hasImage", "[Z", true)
  | 5 => ("RookHouseModel", "aside", "[I", true)
  | 6 => ("RookHouseModel", "feathers0", "I", false)
  | 7 => ("RookHouseModel", "words", "[B", true)
  | 8 => ("RookHouseModel", "firstWord", "I", false)
  | 9 => ("RookHouseModel", "lastWord", "I", false)
  | 10 => ("RookHouseModel", "isOrders", "Z", false)
  | 11 => ("RookHouseModel", "tape", "[B", true)
  | 12 => ("RookHouseModel", "five", "[I", true)
  | 13 => ("RookHouseModel", "taped", "I", false)
  | 14 => ("RookHouseModel", "fault", "I", false)
  | 15 => ("RookHouseModel", "code", "[I", true)
  | 16 => ("RookHouseModel", "value", "[I", true)
  | 17 => ("RookHouseModel", "placed", "[I", true)
  | 18 => ("RookHouseModel", "tokens", "I", false)
  | 19 => ("RookHouseModel", "token", "I", false)
  | 20 => ("RookHouseModel", "leaves", "I", false)
  | 21 => ("RookHouseModel", "bad", "I", false)
  | 22 => ("RookHouseModel", "go", "I", false)
  | 23 => ("RookHouseModel", "goEnd", "I", false)
  | 24 => ("RookHouseModel", "broken", "Z", false)
  | 25 => ("RookHouseModel", "inOrders", "Z", false)
  | 26 => ("RookHouseModel", "asked", "[I", true)
  | 27 => ("RookHouseModel", "orderDone", "I", false)
  | 28 => ("RookHouseModel", "orderLatest", "I", false)
  | 29 => ("RookHouseModel", "orderFor", "[I", true)
  | 30 => ("RookHouseModel", "speak", "[I", true)
  | 31 => ("RookHouseModel", "worth", "[I", true)
  | 32 => ("RookHouseModel", "barred", "[Z", true)
  | 33 => ("RookHouseModel", "left0", "[I", true)
  | 34 => ("RookHouseModel", "leftAhead", "[I", true)
  | 35 => ("RookHouseModel", "undoMany", "I", false)
  | 36 => ("RookHouseModel", "does", "[Z", true)
  | 37 => ("RookHouseModel", "line", "[I", true)
  | 38 => ("RookHouseModel", "points", "[I", true)
  | 39 => ("RookHouseModel", "shares", "[J", true)
  | 40 => ("RookHouseModel", "stopped0", "I", false)
  | 41 => ("RookHouseModel", "orderAt", "I", false)
  | 42 => ("RookHouseModel", "howOften", "I", false)
  | 43 => ("RookHouseModel", "head", "I", false)
  | 44 => ("RookHouseModel", "sumsAre", "Z", false)
  | 45 => ("RookHouseModel", "testIs", "Z", false)
  | 46 => ("RookHouseModel", "sums", "[J", true)
  | 47 => ("RookHouseModel", "drawnMoved", "[I", true)
  | 48 => ("RookHouseModel", "drawnMany", "I", false)
  | _ => ("RookHouseModel", "latest", "I", false)
def tyX9 : Nat → FieldType := fun k => match k with
  | 0 => .int
  | 1 => .array .int
  | 2 => .array .int
  | 3 => .array .int
  | 4 => .array .boolean
  | 5 => .array .int
  | 6 => .int
  | 7 => .array .byte
  | 8 => .int
  | 9 => .int
  | 10 => .boolean
  | 11 => .array .byte
  | 12 => .array .int
  | 13 => .int
  | 14 => .int
  | 15 => .array .int
  | 16 => .array .int
  | 17 => .array .int
  | 18 => .int
  | 19 => .int
  | 20 => .int
  | 21 => .int
  | 22 => .int
  | 23 => .int
  | 24 => .boolean
  | 25 => .boolean
  | 26 => .array .int
  | 27 => .int
  | 28 => .int
  | 29 => .array .int
  | 30 => .array .int
  | 31 => .array .int
  | 32 => .array .boolean
  | 33 => .array .int
  | 34 => .array .int
  | 35 => .int
  | 36 => .array .boolean
  | 37 => .array .int
  | 38 => .array .int
  | 39 => .array .long
  | 40 => .int
  | 41 => .int
  | 42 => .int
  | 43 => .int
  | 44 => .boolean
  | 45 => .boolean
  | 46 => .array .long
  | 47 => .array .int
  | 48 => .int
  | _ => .int
theorem nmX9 : ∀ a, a < 50 → ∀ b, b < 50 → a ≠ b → (TX9 a).2.1 ≠ (TX9 b).2.1 := by decide +kernel
theorem tyX9_ok : ∀ k, k < 50 → parseFieldDescriptor (TX9 k).2.2.1 = some (tyX9 k) := by decide +kernel

abbrev am_cl : List vw_C := [(RX0, TX0, 13), (RX1, TX1, 2), (RX2, TX2, 9), (RX3, TX3, 2), (RX4, TX4, 13), (RX5, TX5, 2), (RX6, TX6, 9), (RX7, TX7, 4), (RX8, TX8, 17), (RX9, TX9, 50)]
def am_cn : Nat → String := fun k => match k with
  | 0 => "RookHouse$House"
  | 1 => "RookHouse$Past"
  | 2 => "RookHouse$Reader"
  | 3 => "RookHouse$Reckoner"
  | 4 => "RookHouse$Table"
  | 5 => "RookHouse$Tape"
  | 6 => "RookHouse$Text"
  | 7 => "RookHouse$Tokens"
  | 8 => "RookHouse"
  | 9 => "RookHouseModel"
  | 10 => "RookHouseLaw"
  | 11 => "java/lang/Integer"
  | 12 => "java/lang/Math"
  | 13 => "java/lang/String"
  | 14 => "java/lang/StringLatin1"
  | 15 => "java/lang/StringUTF16"
  | 16 => "jdk/internal/util/Preconditions"
  | 17 => "java/lang/Object"
  | _ => "java/lang/System"
def am_T : Nat → u_T := fun k => match k with
  | 0 => TX0
  | 1 => TX1
  | 2 => TX2
  | 3 => TX3
  | 4 => TX4
  | 5 => TX5
  | 6 => TX6
  | 7 => TX7
  | 8 => TX8
  | _ => TX9
def am_ty : Nat → Nat → FieldType := fun k => match k with
  | 0 => tyX0
  | 1 => tyX1
  | 2 => tyX2
  | 3 => tyX3
  | 4 => tyX4
  | 5 => tyX5
  | 6 => tyX6
  | 7 => tyX7
  | 8 => tyX8
  | _ => tyX9
def am_nf : Nat → Nat := fun k => match k with
  | 0 => 13
  | 1 => 2
  | 2 => 9
  | 3 => 2
  | 4 => 13
  | 5 => 2
  | 6 => 9
  | 7 => 4
  | 8 => 17
  | _ => 50
/-- a method: its class, its name, code, locals, what it returns, arguments (without the receiver), kind (0 instance, 1 static, 2 constructor), places of its words (code, instanceMethod or static, selects) -/
abbrev am_Me : Type := Nat × MethodName × ByteArray × Nat × Option FieldType × Nat × Nat × Nat × Nat × Nat
def am_mt0 : List am_Me := [
  (8, ⟨"RookHouse", "<init>", "()V"⟩, prog_1_method_1_code, 1, none, 0, 2, 149, 148, 0),
  (0, ⟨"RookHouse$House", "<init>", "()V"⟩, prog_2_method_1_code, 1, none, 0, 2, 157, 156, 0),
  (1, ⟨"RookHouse$Past", "<init>", "()V"⟩, prog_3_method_1_code, 1, none, 0, 2, 232, 231, 0),
  (5, ⟨"RookHouse$Tape", "<init>", "()V"⟩, prog_7_method_1_code, 1, none, 0, 2, 246, 245, 0),
  (2, ⟨"RookHouse$Reader", "<init>", "()V"⟩, prog_4_method_1_code, 1, none, 0, 2, 264, 263, 0),
  (7, ⟨"RookHouse$Tokens", "<init>", "()V"⟩, prog_9_method_1_code, 1, none, 0, 2, 270, 269, 0),
  (6, ⟨"RookHouse$Text", "<init>", "(I)V"⟩, prog_8_method_1_code, 2, none, 1, 2, 293, 292, 0),
  (4, ⟨"RookHouse$Table", "<init>", "()V"⟩, prog_6_method_1_code, 1, none, 0, 2, 380, 379, 0),
  (3, ⟨"RookHouse$Reckoner", "<init>", "()V"⟩, prog_5_method_1_code, 1, none, 0, 2, 386, 385, 0),
  (8, ⟨"RookHouse", "member", "(II)I"⟩, prog_1_method_2_code, 3, (some .int), 2, 0, 499, 497, 498),
  (8, ⟨"RookHouse", "canBeMember", "(II)Z"⟩, prog_1_method_49_code, 2, (some .boolean), 2, 1, 502, 501, 0),
  (8, ⟨"RookHouse", "refused", "(I)I"⟩, prog_1_method_43_code, 2, (some .int), 1, 0, 506, 505, 0),
  (1, ⟨"RookHouse$Past", "clear", "()V"⟩, prog_3_method_2_code, 1, none, 0, 0, 510, 508, 509),
  (0, ⟨"RookHouse$House", "addMember", "(II)I"⟩, prog_2_method_7_code, 5, (some .int), 2, 0, 514, 512, 513),
  (8, ⟨"RookHouse", "taken", "(I)I"⟩, prog_1_method_44_code, 2, (some .int), 1, 0, 518, 517, 1),
  (8, ⟨"RookHouse", "of", "(II)I"⟩, prog_1_method_3_code, 3, (some .int), 2, 0, 522, 520, 521),
  (0, ⟨"RookHouse$House", "hasMember", "(I)Z"⟩, prog_2_method_3_code, 2, (some .boolean), 1, 0, 526, 524, 525),
  (8, ⟨"RookHouse", "bitOf", "(II)I"⟩, prog_1_method_50_code, 2, (some .int), 2, 1, 529, 528, 0),
  (8, ⟨"RookHouse", "isBill", "(I)Z"⟩, prog_1_method_46_code, 1, (some .boolean), 1, 1, 532, 531, 0),
  (8, ⟨"RookHouse", "asks", "(III)I"⟩, prog_1_method_4_code, 5, (some .int), 3, 0, 536, 534, 535),
  (8, ⟨"RookHouse", "look", "(I)V"⟩, prog_1_method_51_code, 2, none, 1, 0, 540, 539, 2),
  (0, ⟨"RookHouse$House", "lawAt", "(I)LRookHouse$Text;"⟩, prog_2_method_5_code, 2, (some (.object "RookHouse$Text")), 1, 0, 544, 542, 543),
  (4, ⟨"RookHouse$Table", "fillBill", "(LRookHouse$House;LRookHouse$Text;I)V"⟩, prog_6_method_3_code, 6, none, 3, 0, 548, 546, 547),
  (11, ⟨"java/lang/Integer", "bitCount", "(I)I"⟩, prog_12_method_49_code, 1, (some .int), 1, 1, 556, 555, 0),
  (4, ⟨"RookHouse$Table", "applyLaw", "(LRookHouse$Text;II)V"⟩, prog_6_method_4_code, 10, none, 3, 0, 563, 562, 3),
  (3, ⟨"RookHouse$Reckoner", "reckon", "(LRookHouse$Text;I[I)I"⟩, prog_5_method_2_code, 9, (some .int), 3, 0, 567, 565, 566),
  (3, ⟨"RookHouse$Reckoner", "wordAt", "([II)I"⟩, prog_5_method_3_code, 2, (some .int), 2, 1, 571, 570, 0),
  (3, ⟨"RookHouse$Reckoner", "joined", "(IJJ)J"⟩, prog_5_method_4_code, 8, (some .long), 3, 0, 576, 575, 4),
  (4, ⟨"RookHouse$Table", "inFavour", "(I)I"⟩, prog_6_method_6_code, 4, (some .int), 1, 0, 583, 581, 582),
  (8, ⟨"RookHouse", "bill", "(II)I"⟩, prog_1_method_5_code, 3, (some .int), 2, 0, 587, 585, 586),
  (4, ⟨"RookHouse$Table", "voicesFor", "(I)I"⟩, prog_6_method_7_code, 2, (some .int), 1, 0, 591, 589, 590),
  (4, ⟨"RookHouse$Table", "voices", "(II)I"⟩, prog_6_method_5_code, 5, (some .int), 2, 0, 596, 594, 595),
  (4, ⟨"RookHouse$Table", "needed", "(II)I"⟩, prog_6_method_8_code, 3, (some .int), 2, 0, 601, 599, 600),
  (4, ⟨"RookHouse$Table", "carries", "(I)Z"⟩, prog_6_method_9_code, 2, (some .boolean), 1, 0, 605, 603, 604),
  (8, ⟨"RookHouse", "lookAtAll", "()V"⟩, prog_1_method_52_code, 1, none, 0, 0, 611, 610, 5),
  (4, ⟨"RookHouse$Table", "fillAll", "(LRookHouse$House;LRookHouse$Text;)V"⟩, prog_6_method_2_code, 4, none, 2, 0, 615, 613, 614),
  (4, ⟨"RookHouse$Table", "points", "(II)I"⟩, prog_6_method_18_code, 5, (some .int), 2, 0, 620, 618, 619),
  (4, ⟨"RookHouse$Table", "rank", "(II)I"⟩, prog_6_method_19_code, 6, (some .int), 2, 0, 624, 623, 6),
  (4, ⟨"RookHouse$Table", "valueOf", "(II)I"⟩, prog_6_method_17_code, 3, (some .int), 2, 0, 628, 626, 627),
  (4, ⟨"RookHouse$Table", "hasSeat", "(I)Z"⟩, prog_6_method_23_code, 1, (some .boolean), 1, 1, 631, 630, 0)]
def am_mt1 : List am_Me := [
  (8, ⟨"RookHouse", "terms", "(II)I"⟩, prog_1_method_6_code, 4, (some .int), 2, 0, 635, 633, 634),
  (8, ⟨"RookHouse", "feed", "(IIIII)I"⟩, prog_1_method_7_code, 6, (some .int), 5, 0, 640, 638, 639),
  (5, ⟨"RookHouse$Tape", "add", "(I)V"⟩, prog_7_method_2_code, 3, none, 1, 0, 644, 642, 643),
  (8, ⟨"RookHouse", "end", "(I)I"⟩, prog_1_method_8_code, 2, (some .int), 1, 0, 648, 646, 647),
  (8, ⟨"RookHouse", "row", "()I"⟩, prog_1_method_9_code, 4, (some .int), 0, 0, 652, 650, 651),
  (8, ⟨"RookHouse", "memberFromTape", "(I)Z"⟩, prog_1_method_53_code, 6, (some .boolean), 1, 0, 656, 655, 7),
  (8, ⟨"RookHouse", "isWant", "(I)Z"⟩, prog_1_method_48_code, 1, (some .boolean), 1, 1, 659, 658, 0),
  (8, ⟨"RookHouse", "feathers", "()I"⟩, prog_1_method_10_code, 1, (some .int), 0, 0, 663, 661, 662),
  (8, ⟨"RookHouse", "law", "()I"⟩, prog_1_method_11_code, 2, (some .int), 0, 0, 667, 665, 666),
  (2, ⟨"RookHouse$Reader", "readText", "(LRookHouse$Tape;Z)Z"⟩, prog_4_method_2_code, 4, (some .boolean), 2, 0, 671, 669, 670),
  (7, ⟨"RookHouse$Tokens", "scan", "(LRookHouse$Tape;)V"⟩, prog_9_method_2_code, 7, none, 1, 0, 675, 673, 674),
  (7, ⟨"RookHouse$Tokens", "isLetter", "(I)Z"⟩, prog_9_method_4_code, 1, (some .boolean), 1, 1, 679, 678, 0),
  (7, ⟨"RookHouse$Tokens", "wordOf", "(LRookHouse$Tape;II)I"⟩, prog_9_method_7_code, 4, (some .int), 3, 1, 682, 681, 0),
  (7, ⟨"RookHouse$Tokens", "spelling", "(I)Ljava/lang/String;"⟩, prog_9_method_9_code, 1, (some (.object "java/lang/String")), 1, 1, 685, 684, 0),
  (7, ⟨"RookHouse$Tokens", "isSpelled", "(LRookHouse$Tape;IILjava/lang/String;)Z"⟩, prog_9_method_8_code, 5, (some .boolean), 4, 1, 716, 715, 0),
  (13, ⟨"java/lang/String", "length", "()I"⟩, prog_14_method_54_code, 1, (some .int), 0, 0, 720, 718, 719),
  (13, ⟨"java/lang/String", "coder", "()B"⟩, prog_14_method_152_code, 1, (some .byte), 0, 0, 724, 722, 723),
  (13, ⟨"java/lang/String", "charAt", "(I)C"⟩, prog_14_method_56_code, 2, (some .char), 1, 0, 730, 728, 729),
  (13, ⟨"java/lang/String", "isLatin1", "()Z"⟩, prog_14_method_154_code, 1, (some .boolean), 0, 0, 734, 732, 733),
  (14, ⟨"java/lang/StringLatin1", "charAt", "([BI)C"⟩, prog_15_method_2_code, 2, (some .char), 2, 1, 737, 736, 0),
  (13, ⟨"java/lang/String", "checkIndex", "(II)V"⟩, prog_14_method_155_code, 2, none, 2, 1, 740, 739, 0),
  (16, ⟨"jdk/internal/util/Preconditions", "checkIndex", "(IILjava/util/function/BiFunction;)I"⟩, prog_18_method_11_code, 3, (some .int), 3, 1, 745, 744, 0),
  (15, ⟨"java/lang/StringUTF16", "charAt", "([BI)C"⟩, prog_16_method_83_code, 2, (some .char), 2, 1, 748, 747, 0),
  (15, ⟨"java/lang/StringUTF16", "checkIndex", "(I[B)V"⟩, prog_16_method_91_code, 2, none, 2, 1, 751, 750, 0),
  (15, ⟨"java/lang/StringUTF16", "length", "([B)I"⟩, prog_16_method_6_code, 1, (some .int), 1, 1, 754, 753, 0),
  (15, ⟨"java/lang/StringUTF16", "getChar", "([BI)C"⟩, prog_16_method_5_code, 2, (some .char), 2, 1, 758, 757, 0),
  (7, ⟨"RookHouse$Tokens", "add", "(III)V"⟩, prog_9_method_3_code, 4, none, 3, 0, 768, 767, 8),
  (7, ⟨"RookHouse$Tokens", "isDigit", "(I)Z"⟩, prog_9_method_5_code, 1, (some .boolean), 1, 1, 771, 770, 0),
  (7, ⟨"RookHouse$Tokens", "numberOf", "(LRookHouse$Tape;II)I"⟩, prog_9_method_6_code, 5, (some .int), 3, 1, 774, 773, 0),
  (6, ⟨"RookHouse$Text", "clear", "()V"⟩, prog_8_method_2_code, 2, none, 0, 0, 779, 777, 778),
  (2, ⟨"RookHouse$Reader", "advance", "()V"⟩, prog_4_method_19_code, 1, none, 0, 0, 783, 782, 9),
  (2, ⟨"RookHouse$Reader", "readOrder", "(I)Z"⟩, prog_4_method_4_code, 2, (some .boolean), 1, 0, 787, 786, 10),
  (2, ⟨"RookHouse$Reader", "take", "(I)Z"⟩, prog_4_method_20_code, 2, (some .boolean), 1, 0, 791, 790, 11),
  (2, ⟨"RookHouse$Reader", "readSumOf", "(III)Z"⟩, prog_4_method_5_code, 5, (some .boolean), 3, 0, 795, 794, 12),
  (2, ⟨"RookHouse$Reader", "fail", "()Z"⟩, prog_4_method_18_code, 1, (some .boolean), 0, 0, 799, 798, 13),
  (6, ⟨"RookHouse$Text", "setKind", "(II)V"⟩, prog_8_method_4_code, 3, none, 2, 0, 803, 801, 802),
  (2, ⟨"RookHouse$Reader", "readSum", "(I)Z"⟩, prog_4_method_12_code, 5, (some .boolean), 1, 0, 807, 806, 14),
  (2, ⟨"RookHouse$Reader", "readTerm", "(I)Z"⟩, prog_4_method_13_code, 5, (some .boolean), 1, 0, 811, 810, 15),
  (2, ⟨"RookHouse$Reader", "readPart", "(I)Z"⟩, prog_4_method_14_code, 4, (some .boolean), 1, 0, 815, 814, 16),
  (2, ⟨"RookHouse$Reader", "numberTo", "(I)I"⟩, prog_4_method_21_code, 2, (some .int), 1, 0, 819, 818, 17)]
def am_mt2 : List am_Me := [
  (2, ⟨"RookHouse$Reader", "orderWord", "(I)I"⟩, prog_4_method_17_code, 1, (some .int), 1, 1, 822, 821, 0),
  (2, ⟨"RookHouse$Reader", "lawWord", "(I)I"⟩, prog_4_method_16_code, 1, (some .int), 1, 1, 825, 824, 0),
  (2, ⟨"RookHouse$Reader", "readNumbered", "(I)Z"⟩, prog_4_method_15_code, 3, (some .boolean), 1, 0, 829, 828, 18),
  (6, ⟨"RookHouse$Text", "add", "(II)I"⟩, prog_8_method_5_code, 4, (some .int), 2, 0, 833, 831, 832),
  (2, ⟨"RookHouse$Reader", "readTimes", "(I)Z"⟩, prog_4_method_6_code, 3, (some .boolean), 1, 0, 837, 836, 19),
  (2, ⟨"RookHouse$Reader", "readIf", "(I)Z"⟩, prog_4_method_7_code, 3, (some .boolean), 1, 0, 841, 840, 20),
  (2, ⟨"RookHouse$Reader", "readTest", "(I)Z"⟩, prog_4_method_8_code, 5, (some .boolean), 1, 0, 845, 844, 21),
  (2, ⟨"RookHouse$Reader", "readBoth", "(I)Z"⟩, prog_4_method_9_code, 5, (some .boolean), 1, 0, 849, 848, 22),
  (2, ⟨"RookHouse$Reader", "readPlain", "(I)Z"⟩, prog_4_method_10_code, 4, (some .boolean), 1, 0, 853, 852, 23),
  (2, ⟨"RookHouse$Reader", "readBracket", "(I)Z"⟩, prog_4_method_11_code, 2, (some .boolean), 1, 0, 857, 856, 24),
  (6, ⟨"RookHouse$Text", "landHere", "(I)V"⟩, prog_8_method_6_code, 2, none, 1, 0, 861, 859, 860),
  (2, ⟨"RookHouse$Reader", "readLawClause", "(I)Z"⟩, prog_4_method_3_code, 2, (some .boolean), 1, 0, 865, 864, 25),
  (6, ⟨"RookHouse$Text", "copyFrom", "(LRookHouse$Text;)V"⟩, prog_8_method_3_code, 2, none, 1, 0, 871, 869, 870),
  (0, ⟨"RookHouse$House", "addLaw", "(LRookHouse$Text;)I"⟩, prog_2_method_6_code, 3, (some .int), 1, 0, 879, 877, 878),
  (8, ⟨"RookHouse", "orders", "()I"⟩, prog_1_method_12_code, 4, (some .int), 0, 0, 884, 882, 883),
  (0, ⟨"RookHouse$House", "copyFrom", "(LRookHouse$House;)V"⟩, prog_2_method_2_code, 3, none, 1, 0, 888, 886, 887),
  (1, ⟨"RookHouse$Past", "copyFrom", "(LRookHouse$Past;)V"⟩, prog_3_method_3_code, 2, none, 1, 0, 893, 891, 892),
  (8, ⟨"RookHouse", "runOnce", "(LRookHouse$Text;I)Z"⟩, prog_1_method_58_code, 9, (some .boolean), 2, 0, 898, 897, 26),
  (8, ⟨"RookHouse", "fillOrderWords", "(I)V"⟩, prog_1_method_60_code, 3, none, 1, 0, 902, 901, 27),
  (8, ⟨"RookHouse", "carryOut", "(IIII)I"⟩, prog_1_method_59_code, 5, (some .int), 4, 0, 908, 907, 28),
  (8, ⟨"RookHouse", "doPut", "(I)I"⟩, prog_1_method_54_code, 2, (some .int), 1, 0, 912, 911, 29),
  (1, ⟨"RookHouse$Past", "keep", "(III)V"⟩, prog_3_method_4_code, 5, none, 3, 0, 916, 914, 915),
  (8, ⟨"RookHouse", "doGo", "(I)I"⟩, prog_1_method_55_code, 2, (some .int), 1, 0, 920, 919, 30),
  (8, ⟨"RookHouse", "doSway", "(III)I"⟩, prog_1_method_56_code, 6, (some .int), 3, 0, 924, 923, 31),
  (8, ⟨"RookHouse", "doPass", "()I"⟩, prog_1_method_57_code, 2, (some .int), 0, 0, 928, 927, 32),
  (0, ⟨"RookHouse$House", "nextDay", "()V"⟩, prog_2_method_9_code, 1, none, 0, 0, 932, 930, 931),
  (8, ⟨"RookHouse", "fault", "()I"⟩, prog_1_method_13_code, 1, (some .int), 0, 0, 936, 934, 935),
  (8, ⟨"RookHouse", "stopped", "()I"⟩, prog_1_method_14_code, 1, (some .int), 0, 0, 940, 938, 939),
  (8, ⟨"RookHouse", "force", "(I)I"⟩, prog_1_method_15_code, 3, (some .int), 1, 0, 944, 942, 943),
  (0, ⟨"RookHouse$House", "hasLaw", "(I)Z"⟩, prog_2_method_4_code, 2, (some .boolean), 1, 0, 948, 946, 947),
  (8, ⟨"RookHouse", "put", "(I)I"⟩, prog_1_method_16_code, 2, (some .int), 1, 0, 952, 950, 951),
  (8, ⟨"RookHouse", "answered", "(I)I"⟩, prog_1_method_45_code, 2, (some .int), 1, 0, 956, 955, 33),
  (8, ⟨"RookHouse", "go", "(I)I"⟩, prog_1_method_17_code, 2, (some .int), 1, 0, 960, 958, 959),
  (8, ⟨"RookHouse", "sway", "(III)I"⟩, prog_1_method_18_code, 4, (some .int), 3, 0, 964, 962, 963),
  (8, ⟨"RookHouse", "pass", "()I"⟩, prog_1_method_19_code, 1, (some .int), 0, 0, 968, 966, 967),
  (8, ⟨"RookHouse", "undo", "()I"⟩, prog_1_method_20_code, 1, (some .int), 0, 0, 972, 970, 971),
  (1, ⟨"RookHouse$Past", "takeBack", "(LRookHouse$House;)I"⟩, prog_3_method_5_code, 5, (some .int), 1, 0, 976, 974, 975),
  (8, ⟨"RookHouse", "votes", "(II)I"⟩, prog_1_method_21_code, 3, (some .int), 2, 0, 980, 978, 979),
  (8, ⟨"RookHouse", "areTwoBills", "(II)Z"⟩, prog_1_method_47_code, 2, (some .boolean), 2, 1, 983, 982, 0),
  (4, ⟨"RookHouse$Table", "votesAgainst", "(II)I"⟩, prog_6_method_11_code, 5, (some .int), 2, 0, 987, 985, 986)]
def am_mt3 : List am_Me := [
  (4, ⟨"RookHouse$Table", "prefers", "(III)Z"⟩, prog_6_method_10_code, 5, (some .boolean), 3, 0, 991, 989, 990),
  (8, ⟨"RookHouse", "best", "()I"⟩, prog_1_method_22_code, 2, (some .int), 0, 0, 995, 993, 994),
  (4, ⟨"RookHouse$Table", "fillBeaten", "()V"⟩, prog_6_method_12_code, 5, none, 0, 0, 999, 997, 998),
  (8, ⟨"RookHouse", "rings", "()I"⟩, prog_1_method_23_code, 5, (some .int), 0, 0, 1004, 1002, 1003),
  (4, ⟨"RookHouse$Table", "isRing", "(III)Z"⟩, prog_6_method_13_code, 4, (some .boolean), 3, 0, 1008, 1006, 1007),
  (4, ⟨"RookHouse$Table", "doesBeat", "(II)Z"⟩, prog_6_method_14_code, 3, (some .boolean), 2, 0, 1012, 1011, 34),
  (8, ⟨"RookHouse", "agenda", "(II)I"⟩, prog_1_method_24_code, 5, (some .int), 2, 0, 1016, 1014, 1015),
  (8, ⟨"RookHouse", "firstOrder", "([I)V"⟩, prog_1_method_66_code, 2, none, 1, 1, 1019, 1018, 0),
  (4, ⟨"RookHouse$Table", "winner", "([I)I"⟩, prog_6_method_15_code, 4, (some .int), 1, 0, 1023, 1021, 1022),
  (8, ⟨"RookHouse", "nextOrder", "([I)V"⟩, prog_1_method_67_code, 5, none, 1, 1, 1026, 1025, 0),
  (8, ⟨"RookHouse", "swap", "([III)V"⟩, prog_1_method_68_code, 4, none, 3, 1, 1029, 1028, 0),
  (8, ⟨"RookHouse", "power", "(II)I"⟩, prog_1_method_25_code, 3, (some .int), 2, 0, 1033, 1031, 1032),
  (8, ⟨"RookHouse", "swings", "(IIZ)I"⟩, prog_1_method_61_code, 12, (some .int), 3, 0, 1037, 1036, 35),
  (8, ⟨"RookHouse", "ordersAround", "(II)I"⟩, prog_1_method_62_code, 3, (some .int), 2, 1, 1040, 1039, 0),
  (8, ⟨"RookHouse", "pivot", "(II)I"⟩, prog_1_method_26_code, 3, (some .int), 2, 0, 1046, 1044, 1045),
  (8, ⟨"RookHouse", "enough", "(II)I"⟩, prog_1_method_27_code, 3, (some .int), 2, 0, 1050, 1048, 1049),
  (8, ⟨"RookHouse", "fewest", "(IIZ)I"⟩, prog_1_method_63_code, 9, (some .int), 3, 0, 1054, 1053, 36),
  (8, ⟨"RookHouse", "isAnswer", "(IIZ)Z"⟩, prog_1_method_64_code, 6, (some .boolean), 3, 0, 1058, 1057, 37),
  (8, ⟨"RookHouse", "out", "(II)I"⟩, prog_1_method_28_code, 3, (some .int), 2, 0, 1062, 1060, 1061),
  (8, ⟨"RookHouse", "first", "()I"⟩, prog_1_method_29_code, 1, (some .int), 0, 0, 1066, 1064, 1065),
  (4, ⟨"RookHouse$Table", "leader", "()I"⟩, prog_6_method_20_code, 2, (some .int), 0, 0, 1070, 1068, 1069),
  (4, ⟨"RookHouse$Table", "mostOf", "([I)I"⟩, prog_6_method_24_code, 4, (some .int), 1, 1, 1074, 1073, 0),
  (8, ⟨"RookHouse", "falsely", "(II)I"⟩, prog_1_method_30_code, 6, (some .int), 2, 0, 1078, 1076, 1077),
  (4, ⟨"RookHouse$Table", "fillWithout", "(I)V"⟩, prog_6_method_21_code, 3, none, 1, 0, 1083, 1081, 1082),
  (4, ⟨"RookHouse$Table", "leaderIfTold", "([I)I"⟩, prog_6_method_22_code, 4, (some .int), 1, 0, 1087, 1085, 1086),
  (8, ⟨"RookHouse", "seen", "(II)I"⟩, prog_1_method_31_code, 3, (some .int), 2, 0, 1091, 1089, 1090),
  (8, ⟨"RookHouse", "forget", "()I"⟩, prog_1_method_32_code, 2, (some .int), 0, 0, 1095, 1093, 1094),
  (8, ⟨"RookHouse", "canBe", "()I"⟩, prog_1_method_33_code, 1, (some .int), 0, 0, 1099, 1097, 1098),
  (8, ⟨"RookHouse", "suspects", "()I"⟩, prog_1_method_65_code, 5, (some .int), 0, 0, 1103, 1102, 38),
  (8, ⟨"RookHouse", "ask", "(I)I"⟩, prog_1_method_34_code, 9, (some .int), 1, 0, 1108, 1106, 1107),
  (4, ⟨"RookHouse$Table", "mostAlike", "(III)I"⟩, prog_6_method_16_code, 7, (some .int), 3, 0, 1112, 1110, 1111),
  (8, ⟨"RookHouse", "few", "(II)J"⟩, prog_1_method_35_code, 8, (some .long), 2, 0, 1116, 1114, 1115),
  (8, ⟨"RookHouse", "compare", "(I)I"⟩, prog_1_method_36_code, 2, (some .int), 1, 0, 1123, 1121, 1122),
  (8, ⟨"RookHouse", "sessions", "(II)I"⟩, prog_1_method_37_code, 4, (some .int), 2, 0, 1127, 1125, 1126),
  (8, ⟨"RookHouse", "holdSession", "()V"⟩, prog_1_method_69_code, 5, none, 0, 0, 1132, 1131, 39),
  (8, ⟨"RookHouse", "draw", "(I)I"⟩, prog_1_method_70_code, 2, (some .int), 1, 0, 1136, 1135, 40),
  (0, ⟨"RookHouse$House", "setWant", "(III)V"⟩, prog_2_method_8_code, 4, none, 3, 0, 1143, 1141, 1142),
  (8, ⟨"RookHouse", "drawn", "(II)I"⟩, prog_1_method_38_code, 3, (some .int), 2, 0, 1149, 1147, 1148),
  (8, ⟨"RookHouse", "image", "(I)I"⟩, prog_1_method_39_code, 3, (some .int), 1, 0, 1153, 1151, 1152),
  (8, ⟨"RookHouse", "back", "(I)I"⟩, prog_1_method_40_code, 3, (some .int), 1, 0, 1157, 1155, 1156)]
def am_mt4 : List am_Me := [
  (8, ⟨"RookHouse", "count", "(I)I"⟩, prog_1_method_41_code, 2, (some .int), 1, 0, 1161, 1159, 1160),
  (8, ⟨"RookHouse", "status", "()I"⟩, prog_1_method_42_code, 1, (some .int), 0, 0, 1165, 1163, 1164),
  (9, ⟨"RookHouseModel", "<init>", "()V"⟩, prog_11_method_10_code, 1, none, 0, 2, 1170, 1169, 0),
  (9, ⟨"RookHouseModel", "image", "(I)I"⟩, prog_11_method_13_code, 3, (some .int), 1, 0, 1327, 1325, 1326),
  (9, ⟨"RookHouseModel", "lies", "(III)Z"⟩, prog_11_method_1_code, 3, (some .boolean), 3, 1, 1330, 1329, 0),
  (9, ⟨"RookHouseModel", "refuses", "(I)I"⟩, prog_11_method_3_code, 2, (some .int), 1, 0, 1334, 1333, 41),
  (9, ⟨"RookHouseModel", "good", "(I)I"⟩, prog_11_method_4_code, 2, (some .int), 1, 0, 1338, 1337, 42),
  (9, ⟨"RookHouseModel", "back", "(I)I"⟩, prog_11_method_14_code, 3, (some .int), 1, 0, 1342, 1340, 1341),
  (9, ⟨"RookHouseModel", "settled", "(I)I"⟩, prog_11_method_5_code, 2, (some .int), 1, 0, 1346, 1345, 43),
  (9, ⟨"RookHouseModel", "member", "(II)I"⟩, prog_11_method_21_code, 3, (some .int), 2, 0, 1350, 1348, 1349),
  (9, ⟨"RookHouseModel", "canMember", "(II)Z"⟩, prog_11_method_19_code, 2, (some .boolean), 2, 1, 1353, 1352, 0),
  (9, ⟨"RookHouseModel", "memberMany", "()I"⟩, prog_11_method_15_code, 1, (some .int), 0, 0, 1357, 1356, 44),
  (9, ⟨"RookHouseModel", "adds", "(II)I"⟩, prog_11_method_20_code, 5, (some .int), 2, 0, 1361, 1360, 45),
  (9, ⟨"RookHouseModel", "of", "(II)I"⟩, prog_11_method_22_code, 3, (some .int), 2, 0, 1365, 1363, 1364),
  (9, ⟨"RookHouseModel", "isMember", "(I)Z"⟩, prog_11_method_16_code, 2, (some .boolean), 1, 0, 1369, 1368, 46),
  (9, ⟨"RookHouseModel", "wantAt", "(II)I"⟩, prog_11_method_17_code, 3, (some .int), 2, 0, 1373, 1372, 47),
  (9, ⟨"RookHouseModel", "asks", "(III)I"⟩, prog_11_method_23_code, 4, (some .int), 3, 0, 1377, 1375, 1376),
  (9, ⟨"RookHouseModel", "isBill", "(I)Z"⟩, prog_11_method_8_code, 1, (some .boolean), 1, 1, 1380, 1379, 0),
  (9, ⟨"RookHouseModel", "laysTold", "()V"⟩, prog_11_method_75_code, 3, none, 0, 0, 1384, 1383, 48),
  (9, ⟨"RookHouseModel", "tells", "(IIII)I"⟩, prog_11_method_74_code, 12, (some .int), 4, 0, 1388, 1387, 49),
  (9, ⟨"RookHouseModel", "setsAsked", "(II)V"⟩, prog_11_method_73_code, 3, none, 2, 0, 1392, 1391, 50),
  (9, ⟨"RookHouseModel", "isStanding", "(I)Z"⟩, prog_11_method_18_code, 2, (some .boolean), 1, 0, 1396, 1395, 51),
  (9, ⟨"RookHouseModel", "isIn", "(II)Z"⟩, prog_11_method_6_code, 2, (some .boolean), 2, 1, 1399, 1398, 0),
  (9, ⟨"RookHouseModel", "hereMany", "()I"⟩, prog_11_method_67_code, 3, (some .int), 0, 0, 1403, 1402, 52),
  (9, ⟨"RookHouseModel", "codeAt", "(I)I"⟩, prog_11_method_61_code, 2, (some .int), 1, 0, 1407, 1406, 53),
  (9, ⟨"RookHouseModel", "sumOf", "(Z)J"⟩, prog_11_method_64_code, 7, (some .long), 1, 0, 1411, 1410, 54),
  (9, ⟨"RookHouseModel", "termOf", "(Z)J"⟩, prog_11_method_65_code, 7, (some .long), 1, 0, 1415, 1414, 55),
  (9, ⟨"RookHouseModel", "partOf", "(Z)J"⟩, prog_11_method_66_code, 4, (some .long), 1, 0, 1419, 1418, 56),
  (9, ⟨"RookHouseModel", "sign", "(C)I"⟩, prog_11_method_42_code, 1, (some .int), 1, 1, 1422, 1421, 0),
  (9, ⟨"RookHouseModel", "passes0", "(I)Z"⟩, prog_11_method_62_code, 3, (some .boolean), 1, 0, 1426, 1425, 57),
  (9, ⟨"RookHouseModel", "orderValue", "(II)I"⟩, prog_11_method_68_code, 3, (some .int), 2, 0, 1430, 1429, 58),
  (9, ⟨"RookHouseModel", "ones", "(I)I"⟩, prog_11_method_7_code, 3, (some .int), 1, 1, 1433, 1432, 0),
  (9, ⟨"RookHouseModel", "bounded", "(JZ)J"⟩, prog_11_method_63_code, 4, (some .long), 2, 0, 1437, 1436, 59),
  (9, ⟨"RookHouseModel", "testOf", "(Z)Z"⟩, prog_11_method_69_code, 4, (some .boolean), 1, 0, 1443, 1442, 60),
  (9, ⟨"RookHouseModel", "bothOf", "(Z)Z"⟩, prog_11_method_70_code, 4, (some .boolean), 1, 0, 1447, 1446, 61),
  (9, ⟨"RookHouseModel", "plainOf", "(Z)Z"⟩, prog_11_method_71_code, 3, (some .boolean), 1, 0, 1451, 1450, 62),
  (9, ⟨"RookHouseModel", "positiveOf", "(Z)Z"⟩, prog_11_method_72_code, 7, (some .boolean), 1, 0, 1455, 1454, 63),
  (9, ⟨"RookHouseModel", "isOn", "(II)Z"⟩, prog_11_method_77_code, 3, (some .boolean), 2, 0, 1460, 1459, 64),
  (9, ⟨"RookHouseModel", "isFor", "(II)Z"⟩, prog_11_method_78_code, 3, (some .boolean), 2, 0, 1464, 1463, 65),
  (9, ⟨"RookHouseModel", "bill", "(II)I"⟩, prog_11_method_24_code, 3, (some .int), 2, 0, 1468, 1466, 1467)]
def am_mt5 : List am_Me := [
  (9, ⟨"RookHouseModel", "everybody", "()I"⟩, prog_11_method_76_code, 1, (some .int), 0, 0, 1472, 1471, 66),
  (9, ⟨"RookHouseModel", "voicesFor", "(II)I"⟩, prog_11_method_82_code, 5, (some .int), 2, 0, 1476, 1475, 67),
  (9, ⟨"RookHouseModel", "voicesOf", "(II)I"⟩, prog_11_method_80_code, 5, (some .int), 2, 0, 1480, 1479, 68),
  (9, ⟨"RookHouseModel", "voicesOn", "(II)I"⟩, prog_11_method_81_code, 3, (some .int), 2, 0, 1484, 1483, 69),
  (9, ⟨"RookHouseModel", "onOf", "(II)I"⟩, prog_11_method_79_code, 5, (some .int), 2, 0, 1488, 1487, 70),
  (9, ⟨"RookHouseModel", "needed", "(II)I"⟩, prog_11_method_83_code, 3, (some .int), 2, 0, 1492, 1491, 71),
  (9, ⟨"RookHouseModel", "carries", "(II)Z"⟩, prog_11_method_84_code, 3, (some .boolean), 2, 0, 1496, 1495, 72),
  (9, ⟨"RookHouseModel", "pointsOf", "(I)I"⟩, prog_11_method_115_code, 4, (some .int), 1, 0, 1500, 1499, 73),
  (9, ⟨"RookHouseModel", "givenBy", "(II)I"⟩, prog_11_method_114_code, 3, (some .int), 2, 0, 1504, 1503, 74),
  (9, ⟨"RookHouseModel", "lessThan", "(II)I"⟩, prog_11_method_113_code, 5, (some .int), 2, 0, 1508, 1507, 75),
  (9, ⟨"RookHouseModel", "terms", "(II)I"⟩, prog_11_method_27_code, 4, (some .int), 2, 0, 1512, 1510, 1511),
  (9, ⟨"RookHouseModel", "isTerm", "(II)Z"⟩, prog_11_method_25_code, 2, (some .boolean), 2, 1, 1515, 1514, 0),
  (9, ⟨"RookHouseModel", "termAt", "(I)I"⟩, prog_11_method_26_code, 1, (some .int), 1, 1, 1518, 1517, 0),
  (9, ⟨"RookHouseModel", "row", "()I"⟩, prog_11_method_29_code, 7, (some .int), 0, 0, 1522, 1520, 1521),
  (9, ⟨"RookHouseModel", "canRow", "(I)Z"⟩, prog_11_method_28_code, 4, (some .boolean), 1, 0, 1526, 1525, 76),
  (9, ⟨"RookHouseModel", "isWant", "(I)Z"⟩, prog_11_method_9_code, 1, (some .boolean), 1, 1, 1529, 1528, 0),
  (9, ⟨"RookHouseModel", "feathers", "()I"⟩, prog_11_method_30_code, 1, (some .int), 0, 0, 1533, 1531, 1532),
  (9, ⟨"RookHouseModel", "feed", "(IIIII)I"⟩, prog_11_method_31_code, 7, (some .int), 5, 0, 1537, 1535, 1536),
  (9, ⟨"RookHouseModel", "end", "(I)I"⟩, prog_11_method_32_code, 2, (some .int), 1, 0, 1541, 1539, 1540),
  (9, ⟨"RookHouseModel", "law", "()I"⟩, prog_11_method_57_code, 1, (some .int), 0, 0, 1545, 1543, 1544),
  (9, ⟨"RookHouseModel", "readsAs", "(Z)Z"⟩, prog_11_method_55_code, 2, (some .boolean), 1, 0, 1549, 1548, 77),
  (9, ⟨"RookHouseModel", "reads", "()Z"⟩, prog_11_method_54_code, 2, (some .boolean), 0, 0, 1553, 1552, 78),
  (9, ⟨"RookHouseModel", "splits", "(I)V"⟩, prog_11_method_36_code, 6, none, 1, 0, 1557, 1556, 79),
  (9, ⟨"RookHouseModel", "isSmall", "(I)Z"⟩, prog_11_method_33_code, 1, (some .boolean), 1, 1, 1560, 1559, 0),
  (9, ⟨"RookHouseModel", "isDigit", "(I)Z"⟩, prog_11_method_34_code, 1, (some .boolean), 1, 1, 1563, 1562, 0),
  (9, ⟨"RookHouseModel", "wordOf", "(II)I"⟩, prog_11_method_35_code, 8, (some .int), 2, 0, 1567, 1566, 80),
  (9, ⟨"RookHouseModel", "readOne", "()V"⟩, prog_11_method_47_code, 1, none, 0, 0, 1572, 1571, 81),
  (9, ⟨"RookHouseModel", "readOrder", "()V"⟩, prog_11_method_46_code, 1, none, 0, 0, 1576, 1575, 82),
  (9, ⟨"RookHouseModel", "takes0", "(I)Z"⟩, prog_11_method_39_code, 3, (some .boolean), 1, 0, 1580, 1579, 83),
  (9, ⟨"RookHouseModel", "fine", "()Z"⟩, prog_11_method_37_code, 1, (some .boolean), 0, 0, 1584, 1583, 84),
  (9, ⟨"RookHouseModel", "readSum", "(I)V"⟩, prog_11_method_51_code, 2, none, 1, 0, 1588, 1587, 85),
  (9, ⟨"RookHouseModel", "readTerm", "(I)V"⟩, prog_11_method_52_code, 2, none, 1, 0, 1592, 1591, 86),
  (9, ⟨"RookHouseModel", "readPart", "(I)V"⟩, prog_11_method_53_code, 3, none, 1, 0, 1596, 1595, 87),
  (9, ⟨"RookHouseModel", "faults", "()V"⟩, prog_11_method_38_code, 1, none, 0, 0, 1600, 1599, 88),
  (9, ⟨"RookHouseModel", "must", "(I)V"⟩, prog_11_method_40_code, 2, none, 1, 0, 1604, 1603, 89),
  (9, ⟨"RookHouseModel", "leaf", "()V"⟩, prog_11_method_41_code, 1, none, 0, 0, 1608, 1607, 90),
  (9, ⟨"RookHouseModel", "mustNumber", "(II)V"⟩, prog_11_method_43_code, 3, none, 2, 0, 1612, 1611, 91),
  (9, ⟨"RookHouseModel", "readMore", "(I)V"⟩, prog_11_method_45_code, 2, none, 1, 0, 1616, 1615, 92),
  (9, ⟨"RookHouseModel", "readTest", "(I)V"⟩, prog_11_method_48_code, 2, none, 1, 0, 1620, 1619, 93),
  (9, ⟨"RookHouseModel", "readBoth", "(I)V"⟩, prog_11_method_49_code, 2, none, 1, 0, 1624, 1623, 94)]
def am_mt6 : List am_Me := [
  (9, ⟨"RookHouseModel", "readPlain", "(I)V"⟩, prog_11_method_50_code, 4, none, 1, 0, 1628, 1627, 95),
  (9, ⟨"RookHouseModel", "readClause", "()V"⟩, prog_11_method_44_code, 1, none, 0, 0, 1632, 1631, 96),
  (9, ⟨"RookHouseModel", "lays", "(I)V"⟩, prog_11_method_56_code, 3, none, 1, 0, 1636, 1635, 97),
  (9, ⟨"RookHouseModel", "fault", "()I"⟩, prog_11_method_58_code, 1, (some .int), 0, 0, 1640, 1638, 1639),
  (9, ⟨"RookHouseModel", "force", "(I)I"⟩, prog_11_method_60_code, 3, (some .int), 1, 0, 1644, 1642, 1643),
  (9, ⟨"RookHouseModel", "isLaw", "(I)Z"⟩, prog_11_method_59_code, 2, (some .boolean), 1, 0, 1648, 1647, 98),
  (9, ⟨"RookHouseModel", "undo", "()I"⟩, prog_11_method_86_code, 3, (some .int), 0, 0, 1652, 1650, 1651),
  (9, ⟨"RookHouseModel", "put", "(I)I"⟩, prog_11_method_94_code, 2, (some .int), 1, 0, 1656, 1654, 1655),
  (9, ⟨"RookHouseModel", "putsKept", "(I)I"⟩, prog_11_method_89_code, 3, (some .int), 1, 0, 1660, 1659, 99),
  (9, ⟨"RookHouseModel", "carriesNow", "(I)Z"⟩, prog_11_method_88_code, 2, (some .boolean), 1, 0, 1664, 1663, 100),
  (9, ⟨"RookHouseModel", "keeps", "(I)V"⟩, prog_11_method_85_code, 4, none, 1, 0, 1668, 1667, 101),
  (9, ⟨"RookHouseModel", "goodOr", "(I)I"⟩, prog_11_method_87_code, 2, (some .int), 1, 0, 1672, 1671, 102),
  (9, ⟨"RookHouseModel", "go", "(I)I"⟩, prog_11_method_95_code, 2, (some .int), 1, 0, 1676, 1674, 1675),
  (9, ⟨"RookHouseModel", "goesKept", "(I)I"⟩, prog_11_method_90_code, 2, (some .int), 1, 0, 1680, 1679, 103),
  (9, ⟨"RookHouseModel", "sway", "(III)I"⟩, prog_11_method_96_code, 4, (some .int), 3, 0, 1684, 1682, 1683),
  (9, ⟨"RookHouseModel", "swaysKept", "(III)I"⟩, prog_11_method_91_code, 5, (some .int), 3, 0, 1688, 1687, 104),
  (9, ⟨"RookHouseModel", "pass", "()I"⟩, prog_11_method_97_code, 1, (some .int), 0, 0, 1692, 1690, 1691),
  (9, ⟨"RookHouseModel", "passesKept", "()I"⟩, prog_11_method_93_code, 1, (some .int), 0, 0, 1696, 1695, 105),
  (9, ⟨"RookHouseModel", "dayPasses", "()I"⟩, prog_11_method_92_code, 3, (some .int), 0, 0, 1700, 1699, 106),
  (9, ⟨"RookHouseModel", "votes", "(II)I"⟩, prog_11_method_99_code, 3, (some .int), 2, 0, 1704, 1702, 1703),
  (9, ⟨"RookHouseModel", "votesFor", "(II)I"⟩, prog_11_method_98_code, 5, (some .int), 2, 0, 1708, 1707, 107),
  (9, ⟨"RookHouseModel", "best", "()I"⟩, prog_11_method_102_code, 5, (some .int), 0, 0, 1712, 1710, 1711),
  (9, ⟨"RookHouseModel", "laysBeats", "()V"⟩, prog_11_method_101_code, 3, none, 0, 0, 1716, 1715, 108),
  (9, ⟨"RookHouseModel", "beats", "(II)Z"⟩, prog_11_method_100_code, 3, (some .boolean), 2, 0, 1720, 1719, 109),
  (9, ⟨"RookHouseModel", "rings", "()I"⟩, prog_11_method_103_code, 5, (some .int), 0, 0, 1724, 1722, 1723),
  (9, ⟨"RookHouseModel", "agenda", "(II)I"⟩, prog_11_method_106_code, 6, (some .int), 2, 0, 1728, 1726, 1727),
  (9, ⟨"RookHouseModel", "laysLine", "(I)V"⟩, prog_11_method_104_code, 8, none, 1, 0, 1732, 1731, 110),
  (9, ⟨"RookHouseModel", "winner", "()I"⟩, prog_11_method_105_code, 3, (some .int), 0, 0, 1736, 1735, 111),
  (9, ⟨"RookHouseModel", "power", "(II)I"⟩, prog_11_method_109_code, 3, (some .int), 2, 0, 1740, 1738, 1739),
  (9, ⟨"RookHouseModel", "decides", "(IIZ)I"⟩, prog_11_method_108_code, 10, (some .int), 3, 0, 1744, 1743, 112),
  (9, ⟨"RookHouseModel", "allOrders", "(I)I"⟩, prog_11_method_107_code, 3, (some .int), 1, 1, 1747, 1746, 0),
  (9, ⟨"RookHouseModel", "pivot", "(II)I"⟩, prog_11_method_110_code, 3, (some .int), 2, 0, 1751, 1749, 1750),
  (9, ⟨"RookHouseModel", "enough", "(II)I"⟩, prog_11_method_111_code, 7, (some .int), 2, 0, 1755, 1753, 1754),
  (9, ⟨"RookHouseModel", "out", "(II)I"⟩, prog_11_method_112_code, 6, (some .int), 2, 0, 1759, 1757, 1758),
  (9, ⟨"RookHouseModel", "first", "()I"⟩, prog_11_method_118_code, 1, (some .int), 0, 0, 1763, 1761, 1762),
  (9, ⟨"RookHouseModel", "firstNow", "()I"⟩, prog_11_method_117_code, 2, (some .int), 0, 0, 1767, 1766, 113),
  (9, ⟨"RookHouseModel", "mostPoints", "()I"⟩, prog_11_method_116_code, 3, (some .int), 0, 0, 1771, 1770, 114),
  (9, ⟨"RookHouseModel", "compare", "(I)I"⟩, prog_11_method_119_code, 4, (some .int), 1, 0, 1775, 1773, 1774),
  (9, ⟨"RookHouseModel", "falsely", "(II)I"⟩, prog_11_method_121_code, 6, (some .int), 2, 0, 1779, 1777, 1778),
  (9, ⟨"RookHouseModel", "firstBy", "(I)I"⟩, prog_11_method_120_code, 4, (some .int), 1, 0, 1783, 1782, 115)]
def am_mt7 : List am_Me := [
  (9, ⟨"RookHouseModel", "seen", "(II)I"⟩, prog_11_method_122_code, 4, (some .int), 2, 0, 1787, 1785, 1786),
  (9, ⟨"RookHouseModel", "forget", "()I"⟩, prog_11_method_123_code, 2, (some .int), 0, 0, 1791, 1789, 1790),
  (9, ⟨"RookHouseModel", "canBe", "()I"⟩, prog_11_method_126_code, 3, (some .int), 0, 0, 1795, 1793, 1794),
  (9, ⟨"RookHouseModel", "isSo", "(I)Z"⟩, prog_11_method_125_code, 4, (some .boolean), 1, 0, 1799, 1798, 116),
  (9, ⟨"RookHouseModel", "wouldVote", "(III)Z"⟩, prog_11_method_124_code, 4, (some .boolean), 3, 0, 1803, 1802, 117),
  (9, ⟨"RookHouseModel", "ask", "(I)I"⟩, prog_11_method_128_code, 9, (some .int), 1, 0, 1807, 1805, 1806),
  (9, ⟨"RookHouseModel", "mostAlike", "(III)I"⟩, prog_11_method_127_code, 7, (some .int), 3, 0, 1812, 1811, 118),
  (9, ⟨"RookHouseModel", "greater", "(II)I"⟩, prog_11_method_2_code, 2, (some .int), 2, 1, 1815, 1814, 0),
  (9, ⟨"RookHouseModel", "few", "(II)J"⟩, prog_11_method_129_code, 6, (some .long), 2, 0, 1819, 1817, 1818),
  (9, ⟨"RookHouseModel", "stopped", "()I"⟩, prog_11_method_130_code, 1, (some .int), 0, 0, 1826, 1824, 1825),
  (9, ⟨"RookHouseModel", "orders", "()I"⟩, prog_11_method_131_code, 5, (some .int), 0, 0, 1830, 1828, 1829),
  (9, ⟨"RookHouseModel", "laysAside", "(I)V"⟩, prog_11_method_11_code, 3, none, 1, 0, 1834, 1833, 119),
  (9, ⟨"RookHouseModel", "runs", "(I)Z"⟩, prog_11_method_136_code, 5, (some .boolean), 1, 0, 1838, 1837, 120),
  (9, ⟨"RookHouseModel", "goesAlong", "(IZ)V"⟩, prog_11_method_133_code, 5, none, 2, 0, 1842, 1841, 121),
  (9, ⟨"RookHouseModel", "laysFor", "()V"⟩, prog_11_method_132_code, 2, none, 0, 0, 1846, 1845, 122),
  (9, ⟨"RookHouseModel", "obeys", "()I"⟩, prog_11_method_135_code, 3, (some .int), 0, 0, 1850, 1849, 123),
  (9, ⟨"RookHouseModel", "small", "(J)I"⟩, prog_11_method_134_code, 2, (some .int), 1, 1, 1853, 1852, 0),
  (9, ⟨"RookHouseModel", "takesBack", "(I)V"⟩, prog_11_method_12_code, 3, none, 1, 0, 1858, 1857, 124),
  (9, ⟨"RookHouseModel", "sessions", "(II)I"⟩, prog_11_method_139_code, 5, (some .int), 2, 0, 1862, 1860, 1861),
  (9, ⟨"RookHouseModel", "sessionDay", "()V"⟩, prog_11_method_138_code, 5, none, 0, 0, 1866, 1865, 125),
  (9, ⟨"RookHouseModel", "draws", "(I)I"⟩, prog_11_method_137_code, 2, (some .int), 1, 0, 1870, 1869, 126),
  (9, ⟨"RookHouseModel", "drawn", "(II)I"⟩, prog_11_method_140_code, 3, (some .int), 2, 0, 1877, 1875, 1876),
  (9, ⟨"RookHouseModel", "count", "(I)I"⟩, prog_11_method_141_code, 2, (some .int), 1, 0, 1881, 1879, 1880),
  (9, ⟨"RookHouseModel", "status", "()I"⟩, prog_11_method_142_code, 1, (some .int), 0, 0, 1885, 1883, 1884)]
def am_mt : List am_Me := am_mt0 ++ (am_mt1 ++ (am_mt2 ++ (am_mt3 ++ (am_mt4 ++ (am_mt5 ++ (am_mt6 ++ (am_mt7)))))))
set_option maxRecDepth 100000 in
theorem am_cd0 : lw_tbl[149]? = some (.code ⟨"RookHouse", "<init>", "()V"⟩ prog_1_method_1_code 1 none) := rfl
set_option maxRecDepth 100000 in
theorem am_cd1 : lw_tbl[157]? = some (.code ⟨"RookHouse$House", "<init>", "()V"⟩ prog_2_method_1_code 1 none) := rfl
set_option maxRecDepth 100000 in
theorem am_cd2 : lw_tbl[232]? = some (.code ⟨"RookHouse$Past", "<init>", "()V"⟩ prog_3_method_1_code 1 none) := rfl
set_option maxRecDepth 100000 in
theorem am_cd3 : lw_tbl[246]? = some (.code ⟨"RookHouse$Tape", "<init>", "()V"⟩ prog_7_method_1_code 1 none) := rfl
set_option maxRecDepth 100000 in
theorem am_cd4 : lw_tbl[264]? = some (.code ⟨"RookHouse$Reader", "<init>", "()V"⟩ prog_4_method_1_code 1 none) := rfl
set_option maxRecDepth 100000 in
theorem am_cd5 : lw_tbl[270]? = some (.code ⟨"RookHouse$Tokens", "<init>", "()V"⟩ prog_9_method_1_code 1 none) := rfl
set_option maxRecDepth 100000 in
theorem am_cd6 : lw_tbl[293]? = some (.code ⟨"RookHouse$Text", "<init>", "(I)V"⟩ prog_8_method_1_code 2 none) := rfl
set_option maxRecDepth 100000 in
theorem am_cd7 : lw_tbl[380]? = some (.code ⟨"RookHouse$Table", "<init>", "()V"⟩ prog_6_method_1_code 1 none) := rfl
set_option maxRecDepth 100000 in
theorem am_cd8 : lw_tbl[386]? = some (.code ⟨"RookHouse$Reckoner", "<init>", "()V"⟩ prog_5_method_1_code 1 none) := rfl
set_option maxRecDepth 100000 in
theorem am_cd9 : lw_tbl[499]? = some (.code ⟨"RookHouse", "member", "(II)I"⟩ prog_1_method_2_code 3 (some .int)) := rfl
set_option maxRecDepth 100000 in
theorem am_cd10 : lw_tbl[502]? = some (.code ⟨"RookHouse", "canBeMember", "(II)Z"⟩ prog_1_method_49_code 2 (some .boolean)) := rfl
set_option maxRecDepth 100000 in
theorem am_cd11 : lw_tbl[506]? = some (.code ⟨"RookHouse", "refused", "(I)I"⟩ prog_1_method_43_code 2 (some .int)) := rfl
set_option maxRecDepth 100000 in
theorem am_cd12 : lw_tbl[510]? = some (.code ⟨"RookHouse$Past", "clear", "()V"⟩ prog_3_method_2_code 1 none) := rfl
set_option maxRecDepth 100000 in
theorem am_cd13 : lw_tbl[514]? = some (.code ⟨"RookHouse$House", "addMember", "(II)I"⟩ prog_2_method_7_code 5 (some .int)) := rfl
set_option maxRecDepth 100000 in
theorem am_cd14 : lw_tbl[518]? = some (.code ⟨"RookHouse", "taken", "(I)I"⟩ prog_1_method_44_code 2 (some .int)) := rfl
set_option maxRecDepth 100000 in
theorem am_cd15 : lw_tbl[522]? = some (.code ⟨"RookHouse", "of", "(II)I"⟩ prog_1_method_3_code 3 (some .int)) := rfl
set_option maxRecDepth 100000 in
theorem am_cd16 : lw_tbl[526]? = some (.code ⟨"RookHouse$House", "hasMember", "(I)Z"⟩ prog_2_method_3_code 2 (some .boolean)) := rfl
set_option maxRecDepth 100000 in
theorem am_cd17 : lw_tbl[529]? = some (.code ⟨"RookHouse", "bitOf", "(II)I"⟩ prog_1_method_50_code 2 (some .int)) := rfl
set_option maxRecDepth 100000 in
theorem am_cd18 : lw_tbl[532]? = some (.code ⟨"RookHouse", "isBill", "(I)Z"⟩ prog_1_method_46_code 1 (some .boolean)) := rfl
set_option maxRecDepth 100000 in
theorem am_cd19 : lw_tbl[536]? = some (.code ⟨"RookHouse", "asks", "(III)I"⟩ prog_1_method_4_code 5 (some .int)) := rfl
set_option maxRecDepth 100000 in
theorem am_cd20 : lw_tbl[540]? = some (.code ⟨"RookHouse", "look", "(I)V"⟩ prog_1_method_51_code 2 none) := rfl
set_option maxRecDepth 100000 in
theorem am_cd21 : lw_tbl[544]? = some (.code ⟨"RookHouse$House", "lawAt", "(I)LRookHouse$Text;"⟩ prog_2_method_5_code 2 (some (.object "RookHouse$Text"))) := rfl
set_option maxRecDepth 100000 in
theorem am_cd22 : lw_tbl[548]? = some (.code ⟨"RookHouse$Table", "fillBill", "(LRookHouse$House;LRookHouse$Text;I)V"⟩ prog_6_method_3_code 6 none) := rfl
set_option maxRecDepth 100000 in
theorem am_cd23 : lw_tbl[556]? = some (.code ⟨"java/lang/Integer", "bitCount", "(I)I"⟩ prog_12_method_49_code 1 (some .int)) := rfl
set_option maxRecDepth 100000 in
theorem am_cd24 : lw_tbl[563]? = some (.code ⟨"RookHouse$Table", "applyLaw", "(LRookHouse$Text;II)V"⟩ prog_6_method_4_code 10 none) := rfl
set_option maxRecDepth 100000 in
theorem am_cd25 : lw_tbl[567]? = some (.code ⟨"RookHouse$Reckoner", "reckon", "(LRookHouse$Text;I[I)I"⟩ prog_5_method_2_code 9 (some .int)) := rfl
set_option maxRecDepth 100000 in
theorem am_cd26 : lw_tbl[571]? = some (.code ⟨"RookHouse$Reckoner", "wordAt", "([II)I"⟩ prog_5_method_3_code 2 (some .int)) := rfl
set_option maxRecDepth 100000 in
theorem am_cd27 : lw_tbl[576]? = some (.code ⟨"RookHouse$Reckoner", "joined", "(IJJ)J"⟩ prog_5_method_4_code 8 (some .long)) := rfl
set_option maxRecDepth 100000 in
theorem am_cd28 : lw_tbl[583]? = some (.code ⟨"RookHouse$Table", "inFavour", "(I)I"⟩ prog_6_method_6_code 4 (some .int)) := rfl
set_option maxRecDepth 100000 in
theorem am_cd29 : lw_tbl[587]? = some (.code ⟨"RookHouse", "bill", "(II)I"⟩ prog_1_method_5_code 3 (some .int)) := rfl
set_option maxRecDepth 100000 in
theorem am_cd30 : lw_tbl[591]? = some (.code ⟨"RookHouse$Table", "voicesFor", "(I)I"⟩ prog_6_method_7_code 2 (some .int)) := rfl
set_option maxRecDepth 100000 in
theorem am_cd31 : lw_tbl[596]? = some (.code ⟨"RookHouse$Table", "voices", "(II)I"⟩ prog_6_method_5_code 5 (some .int)) := rfl
set_option maxRecDepth 100000 in
theorem am_cd32 : lw_tbl[601]? = some (.code ⟨"RookHouse$Table", "needed", "(II)I"⟩ prog_6_method_8_code 3 (some .int)) := rfl
set_option maxRecDepth 100000 in
theorem am_cd33 : lw_tbl[605]? = some (.code ⟨"RookHouse$Table", "carries", "(I)Z"⟩ prog_6_method_9_code 2 (some .boolean)) := rfl
set_option maxRecDepth 100000 in
theorem am_cd34 : lw_tbl[611]? = some (.code ⟨"RookHouse", "lookAtAll", "()V"⟩ prog_1_method_52_code 1 none) := rfl
set_option maxRecDepth 100000 in
theorem am_cd35 : lw_tbl[615]? = some (.code ⟨"RookHouse$Table", "fillAll", "(LRookHouse$House;LRookHouse$Text;)V"⟩ prog_6_method_2_code 4 none) := rfl
set_option maxRecDepth 100000 in
theorem am_cd36 : lw_tbl[620]? = some (.code ⟨"RookHouse$Table", "points", "(II)I"⟩ prog_6_method_18_code 5 (some .int)) := rfl
set_option maxRecDepth 100000 in
theorem am_cd37 : lw_tbl[624]? = some (.code ⟨"RookHouse$Table", "rank", "(II)I"⟩ prog_6_method_19_code 6 (some .int)) := rfl
set_option maxRecDepth 100000 in
theorem am_cd38 : lw_tbl[628]? = some (.code ⟨"RookHouse$Table", "valueOf", "(II)I"⟩ prog_6_method_17_code 3 (some .int)) := rfl
set_option maxRecDepth 100000 in
theorem am_cd39 : lw_tbl[631]? = some (.code ⟨"RookHouse$Table", "hasSeat", "(I)Z"⟩ prog_6_method_23_code 1 (some .boolean)) := rfl
set_option maxRecDepth 100000 in
theorem am_cd40 : lw_tbl[635]? = some (.code ⟨"RookHouse", "terms", "(II)I"⟩ prog_1_method_6_code 4 (some .int)) := rfl
set_option maxRecDepth 100000 in
theorem am_cd41 : lw_tbl[640]? = some (.code ⟨"RookHouse", "feed", "(IIIII)I"⟩ prog_1_method_7_code 6 (some .int)) := rfl
set_option maxRecDepth 100000 in
theorem am_cd42 : lw_tbl[644]? = some (.code ⟨"RookHouse$Tape", "add", "(I)V"⟩ prog_7_method_2_code 3 none) := rfl
set_option maxRecDepth 100000 in
theorem am_cd43 : lw_tbl[648]? = some (.code ⟨"RookHouse", "end", "(I)I"⟩ prog_1_method_8_code 2 (some .int)) := rfl
set_option maxRecDepth 100000 in
theorem am_cd44 : lw_tbl[652]? = some (.code ⟨"RookHouse", "row", "()I"⟩ prog_1_method_9_code 4 (some .int)) := rfl
set_option maxRecDepth 100000 in
theorem am_cd45 : lw_tbl[656]? = some (.code ⟨"RookHouse", "memberFromTape", "(I)Z"⟩ prog_1_method_53_code 6 (some .boolean)) := rfl
set_option maxRecDepth 100000 in
theorem am_cd46 : lw_tbl[659]? = some (.code ⟨"RookHouse", "isWant", "(I)Z"⟩ prog_1_method_48_code 1 (some .boolean)) := rfl
set_option maxRecDepth 100000 in
theorem am_cd47 : lw_tbl[663]? = some (.code ⟨"RookHouse", "feathers", "()I"⟩ prog_1_method_10_code 1 (some .int)) := rfl
set_option maxRecDepth 100000 in
theorem am_cd48 : lw_tbl[667]? = some (.code ⟨"RookHouse", "law", "()I"⟩ prog_1_method_11_code 2 (some .int)) := rfl
set_option maxRecDepth 100000 in
theorem am_cd49 : lw_tbl[671]? = some (.code ⟨"RookHouse$Reader", "readText", "(LRookHouse$Tape;Z)Z"⟩ prog_4_method_2_code 4 (some .boolean)) := rfl
set_option maxRecDepth 100000 in
theorem am_cd50 : lw_tbl[675]? = some (.code ⟨"RookHouse$Tokens", "scan", "(LRookHouse$Tape;)V"⟩ prog_9_method_2_code 7 none) := rfl
set_option maxRecDepth 100000 in
theorem am_cd51 : lw_tbl[679]? = some (.code ⟨"RookHouse$Tokens", "isLetter", "(I)Z"⟩ prog_9_method_4_code 1 (some .boolean)) := rfl
set_option maxRecDepth 100000 in
theorem am_cd52 : lw_tbl[682]? = some (.code ⟨"RookHouse$Tokens", "wordOf", "(LRookHouse$Tape;II)I"⟩ prog_9_method_7_code 4 (some .int)) := rfl
set_option maxRecDepth 100000 in
theorem am_cd53 : lw_tbl[685]? = some (.code ⟨"RookHouse$Tokens", "spelling", "(I)Ljava/lang/String;"⟩ prog_9_method_9_code 1 (some (.object "java/lang/String"))) := rfl
set_option maxRecDepth 100000 in
theorem am_cd54 : lw_tbl[716]? = some (.code ⟨"RookHouse$Tokens", "isSpelled", "(LRookHouse$Tape;IILjava/lang/String;)Z"⟩ prog_9_method_8_code 5 (some .boolean)) := rfl
set_option maxRecDepth 100000 in
theorem am_cd55 : lw_tbl[720]? = some (.code ⟨"java/lang/String", "length", "()I"⟩ prog_14_method_54_code 1 (some .int)) := rfl
set_option maxRecDepth 100000 in
theorem am_cd56 : lw_tbl[724]? = some (.code ⟨"java/lang/String", "coder", "()B"⟩ prog_14_method_152_code 1 (some .byte)) := rfl
set_option maxRecDepth 100000 in
theorem am_cd57 : lw_tbl[730]? = some (.code ⟨"java/lang/String", "charAt", "(I)C"⟩ prog_14_method_56_code 2 (some .char)) := rfl
set_option maxRecDepth 100000 in
theorem am_cd58 : lw_tbl[734]? = some (.code ⟨"java/lang/String", "isLatin1", "()Z"⟩ prog_14_method_154_code 1 (some .boolean)) := rfl
set_option maxRecDepth 100000 in
theorem am_cd59 : lw_tbl[737]? = some (.code ⟨"java/lang/StringLatin1", "charAt", "([BI)C"⟩ prog_15_method_2_code 2 (some .char)) := rfl
set_option maxRecDepth 100000 in
theorem am_cd60 : lw_tbl[740]? = some (.code ⟨"java/lang/String", "checkIndex", "(II)V"⟩ prog_14_method_155_code 2 none) := rfl
set_option maxRecDepth 100000 in
theorem am_cd61 : lw_tbl[745]? = some (.code ⟨"jdk/internal/util/Preconditions", "checkIndex", "(IILjava/util/function/BiFunction;)I"⟩ prog_18_method_11_code 3 (some .int)) := rfl
set_option maxRecDepth 100000 in
theorem am_cd62 : lw_tbl[748]? = some (.code ⟨"java/lang/StringUTF16", "charAt", "([BI)C"⟩ prog_16_method_83_code 2 (some .char)) := rfl
set_option maxRecDepth 100000 in
theorem am_cd63 : lw_tbl[751]? = some (.code ⟨"java/lang/StringUTF16", "checkIndex", "(I[B)V"⟩ prog_16_method_91_code 2 none) := rfl
set_option maxRecDepth 100000 in
theorem am_cd64 : lw_tbl[754]? = some (.code ⟨"java/lang/StringUTF16", "length", "([B)I"⟩ prog_16_method_6_code 1 (some .int)) := rfl
set_option maxRecDepth 100000 in
theorem am_cd65 : lw_tbl[758]? = some (.code ⟨"java/lang/StringUTF16", "getChar", "([BI)C"⟩ prog_16_method_5_code 2 (some .char)) := rfl
set_option maxRecDepth 100000 in
theorem am_cd66 : lw_tbl[768]? = some (.code ⟨"RookHouse$Tokens", "add", "(III)V"⟩ prog_9_method_3_code 4 none) := rfl
set_option maxRecDepth 100000 in
theorem am_cd67 : lw_tbl[771]? = some (.code ⟨"RookHouse$Tokens", "isDigit", "(I)Z"⟩ prog_9_method_5_code 1 (some .boolean)) := rfl
set_option maxRecDepth 100000 in
theorem am_cd68 : lw_tbl[774]? = some (.code ⟨"RookHouse$Tokens", "numberOf", "(LRookHouse$Tape;II)I"⟩ prog_9_method_6_code 5 (some .int)) := rfl
set_option maxRecDepth 100000 in
theorem am_cd69 : lw_tbl[779]? = some (.code ⟨"RookHouse$Text", "clear", "()V"⟩ prog_8_method_2_code 2 none) := rfl
set_option maxRecDepth 100000 in
theorem am_cd70 : lw_tbl[783]? = some (.code ⟨"RookHouse$Reader", "advance", "()V"⟩ prog_4_method_19_code 1 none) := rfl
set_option maxRecDepth 100000 in
theorem am_cd71 : lw_tbl[787]? = some (.code ⟨"RookHouse$Reader", "readOrder", "(I)Z"⟩ prog_4_method_4_code 2 (some .boolean)) := rfl
set_option maxRecDepth 100000 in
theorem am_cd72 : lw_tbl[791]? = some (.code ⟨"RookHouse$Reader", "take", "(I)Z"⟩ prog_4_method_20_code 2 (some .boolean)) := rfl
set_option maxRecDepth 100000 in
theorem am_cd73 : lw_tbl[795]? = some (.code ⟨"RookHouse$Reader", "readSumOf", "(III)Z"⟩ prog_4_method_5_code 5 (some .boolean)) := rfl
set_option maxRecDepth 100000 in
theorem am_cd74 : lw_tbl[799]? = some (.code ⟨"RookHouse$Reader", "fail", "()Z"⟩ prog_4_method_18_code 1 (some .boolean)) := rfl
set_option maxRecDepth 100000 in
theorem am_cd75 : lw_tbl[803]? = some (.code ⟨"RookHouse$Text", "setKind", "(II)V"⟩ prog_8_method_4_code 3 none) := rfl
set_option maxRecDepth 100000 in
theorem am_cd76 : lw_tbl[807]? = some (.code ⟨"RookHouse$Reader", "readSum", "(I)Z"⟩ prog_4_method_12_code 5 (some .boolean)) := rfl
set_option maxRecDepth 100000 in
theorem am_cd77 : lw_tbl[811]? = some (.code ⟨"RookHouse$Reader", "readTerm", "(I)Z"⟩ prog_4_method_13_code 5 (some .boolean)) := rfl
set_option maxRecDepth 100000 in
theorem am_cd78 : lw_tbl[815]? = some (.code ⟨"RookHouse$Reader", "readPart", "(I)Z"⟩ prog_4_method_14_code 4 (some .boolean)) := rfl
set_option maxRecDepth 100000 in
theorem am_cd79 : lw_tbl[819]? = some (.code ⟨"RookHouse$Reader", "numberTo", "(I)I"⟩ prog_4_method_21_code 2 (some .int)) := rfl
set_option maxRecDepth 100000 in
theorem am_cd80 : lw_tbl[822]? = some (.code ⟨"RookHouse$Reader", "orderWord", "(I)I"⟩ prog_4_method_17_code 1 (some .int)) := rfl
set_option maxRecDepth 100000 in
theorem am_cd81 : lw_tbl[825]? = some (.code ⟨"RookHouse$Reader", "lawWord", "(I)I"⟩ prog_4_method_16_code 1 (some .int)) := rfl
set_option maxRecDepth 100000 in
theorem am_cd82 : lw_tbl[829]? = some (.code ⟨"RookHouse$Reader", "readNumbered", "(I)Z"⟩ prog_4_method_15_code 3 (some .boolean)) := rfl
set_option maxRecDepth 100000 in
theorem am_cd83 : lw_tbl[833]? = some (.code ⟨"RookHouse$Text", "add", "(II)I"⟩ prog_8_method_5_code 4 (some .int)) := rfl
set_option maxRecDepth 100000 in
theorem am_cd84 : lw_tbl[837]? = some (.code ⟨"RookHouse$Reader", "readTimes", "(I)Z"⟩ prog_4_method_6_code 3 (some .boolean)) := rfl
set_option maxRecDepth 100000 in
theorem am_cd85 : lw_tbl[841]? = some (.code ⟨"RookHouse$Reader", "readIf", "(I)Z"⟩ prog_4_method_7_code 3 (some .boolean)) := rfl
set_option maxRecDepth 100000 in
theorem am_cd86 : lw_tbl[845]? = some (.code ⟨"RookHouse$Reader", "readTest", "(I)Z"⟩ prog_4_method_8_code 5 (some .boolean)) := rfl
set_option maxRecDepth 100000 in
theorem am_cd87 : lw_tbl[849]? = some (.code ⟨"RookHouse$Reader", "readBoth", "(I)Z"⟩ prog_4_method_9_code 5 (some .boolean)) := rfl
set_option maxRecDepth 100000 in
theorem am_cd88 : lw_tbl[853]? = some (.code ⟨"RookHouse$Reader", "readPlain", "(I)Z"⟩ prog_4_method_10_code 4 (some .boolean)) := rfl
set_option maxRecDepth 100000 in
theorem am_cd89 : lw_tbl[857]? = some (.code ⟨"RookHouse$Reader", "readBracket", "(I)Z"⟩ prog_4_method_11_code 2 (some .boolean)) := rfl
set_option maxRecDepth 100000 in
theorem am_cd90 : lw_tbl[861]? = some (.code ⟨"RookHouse$Text", "landHere", "(I)V"⟩ prog_8_method_6_code 2 none) := rfl
set_option maxRecDepth 100000 in
theorem am_cd91 : lw_tbl[865]? = some (.code ⟨"RookHouse$Reader", "readLawClause", "(I)Z"⟩ prog_4_method_3_code 2 (some .boolean)) := rfl
set_option maxRecDepth 100000 in
theorem am_cd92 : lw_tbl[871]? = some (.code ⟨"RookHouse$Text", "copyFrom", "(LRookHouse$Text;)V"⟩ prog_8_method_3_code 2 none) := rfl
set_option maxRecDepth 100000 in
theorem am_cd93 : lw_tbl[879]? = some (.code ⟨"RookHouse$House", "addLaw", "(LRookHouse$Text;)I"⟩ prog_2_method_6_code 3 (some .int)) := rfl
set_option maxRecDepth 100000 in
theorem am_cd94 : lw_tbl[884]? = some (.code ⟨"RookHouse", "orders", "()I"⟩ prog_1_method_12_code 4 (some .int)) := rfl
set_option maxRecDepth 100000 in
theorem am_cd95 : lw_tbl[888]? = some (.code ⟨"RookHouse$House", "copyFrom", "(LRookHouse$House;)V"⟩ prog_2_method_2_code 3 none) := rfl
set_option maxRecDepth 100000 in
theorem am_cd96 : lw_tbl[893]? = some (.code ⟨"RookHouse$Past", "copyFrom", "(LRookHouse$Past;)V"⟩ prog_3_method_3_code 2 none) := rfl
set_option maxRecDepth 100000 in
theorem am_cd97 : lw_tbl[898]? = some (.code ⟨"RookHouse", "runOnce", "(LRookHouse$Text;I)Z"⟩ prog_1_method_58_code 9 (some .boolean)) := rfl
set_option maxRecDepth 100000 in
theorem am_cd98 : lw_tbl[902]? = some (.code ⟨"RookHouse", "fillOrderWords", "(I)V"⟩ prog_1_method_60_code 3 none) := rfl
set_option maxRecDepth 100000 in
theorem am_cd99 : lw_tbl[908]? = some (.code ⟨"RookHouse", "carryOut", "(IIII)I"⟩ prog_1_method_59_code 5 (some .int)) := rfl
set_option maxRecDepth 100000 in
theorem am_cd100 : lw_tbl[912]? = some (.code ⟨"RookHouse", "doPut", "(I)I"⟩ prog_1_method_54_code 2 (some .int)) := rfl
set_option maxRecDepth 100000 in
theorem am_cd101 : lw_tbl[916]? = some (.code ⟨"RookHouse$Past", "keep", "(III)V"⟩ prog_3_method_4_code 5 none) := rfl
set_option maxRecDepth 100000 in
theorem am_cd102 : lw_tbl[920]? = some (.code ⟨"RookHouse", "doGo", "(I)I"⟩ prog_1_method_55_code 2 (some .int)) := rfl
set_option maxRecDepth 100000 in
theorem am_cd103 : lw_tbl[924]? = some (.code ⟨"RookHouse", "doSway", "(III)I"⟩ prog_1_method_56_code 6 (some .int)) := rfl
set_option maxRecDepth 100000 in
theorem am_cd104 : lw_tbl[928]? = some (.code ⟨"RookHouse", "doPass", "()I"⟩ prog_1_method_57_code 2 (some .int)) := rfl
set_option maxRecDepth 100000 in
theorem am_cd105 : lw_tbl[932]? = some (.code ⟨"RookHouse$House", "nextDay", "()V"⟩ prog_2_method_9_code 1 none) := rfl
set_option maxRecDepth 100000 in
theorem am_cd106 : lw_tbl[936]? = some (.code ⟨"RookHouse", "fault", "()I"⟩ prog_1_method_13_code 1 (some .int)) := rfl
set_option maxRecDepth 100000 in
theorem am_cd107 : lw_tbl[940]? = some (.code ⟨"RookHouse", "stopped", "()I"⟩ prog_1_method_14_code 1 (some .int)) := rfl
set_option maxRecDepth 100000 in
theorem am_cd108 : lw_tbl[944]? = some (.code ⟨"RookHouse", "force", "(I)I"⟩ prog_1_method_15_code 3 (some .int)) := rfl
set_option maxRecDepth 100000 in
theorem am_cd109 : lw_tbl[948]? = some (.code ⟨"RookHouse$House", "hasLaw", "(I)Z"⟩ prog_2_method_4_code 2 (some .boolean)) := rfl
set_option maxRecDepth 100000 in
theorem am_cd110 : lw_tbl[952]? = some (.code ⟨"RookHouse", "put", "(I)I"⟩ prog_1_method_16_code 2 (some .int)) := rfl
set_option maxRecDepth 100000 in
theorem am_cd111 : lw_tbl[956]? = some (.code ⟨"RookHouse", "answered", "(I)I"⟩ prog_1_method_45_code 2 (some .int)) := rfl
set_option maxRecDepth 100000 in
theorem am_cd112 : lw_tbl[960]? = some (.code ⟨"RookHouse", "go", "(I)I"⟩ prog_1_method_17_code 2 (some .int)) := rfl
set_option maxRecDepth 100000 in
theorem am_cd113 : lw_tbl[964]? = some (.code ⟨"RookHouse", "sway", "(III)I"⟩ prog_1_method_18_code 4 (some .int)) := rfl
set_option maxRecDepth 100000 in
theorem am_cd114 : lw_tbl[968]? = some (.code ⟨"RookHouse", "pass", "()I"⟩ prog_1_method_19_code 1 (some .int)) := rfl
set_option maxRecDepth 100000 in
theorem am_cd115 : lw_tbl[972]? = some (.code ⟨"RookHouse", "undo", "()I"⟩ prog_1_method_20_code 1 (some .int)) := rfl
set_option maxRecDepth 100000 in
theorem am_cd116 : lw_tbl[976]? = some (.code ⟨"RookHouse$Past", "takeBack", "(LRookHouse$House;)I"⟩ prog_3_method_5_code 5 (some .int)) := rfl
set_option maxRecDepth 100000 in
theorem am_cd117 : lw_tbl[980]? = some (.code ⟨"RookHouse", "votes", "(II)I"⟩ prog_1_method_21_code 3 (some .int)) := rfl
set_option maxRecDepth 100000 in
theorem am_cd118 : lw_tbl[983]? = some (.code ⟨"RookHouse", "areTwoBills", "(II)Z"⟩ prog_1_method_47_code 2 (some .boolean)) := rfl
set_option maxRecDepth 100000 in
theorem am_cd119 : lw_tbl[987]? = some (.code ⟨"RookHouse$Table", "votesAgainst", "(II)I"⟩ prog_6_method_11_code 5 (some .int)) := rfl
set_option maxRecDepth 100000 in
theorem am_cd120 : lw_tbl[991]? = some (.code ⟨"RookHouse$Table", "prefers", "(III)Z"⟩ prog_6_method_10_code 5 (some .boolean)) := rfl
set_option maxRecDepth 100000 in
theorem am_cd121 : lw_tbl[995]? = some (.code ⟨"RookHouse", "best", "()I"⟩ prog_1_method_22_code 2 (some .int)) := rfl
set_option maxRecDepth 100000 in
theorem am_cd122 : lw_tbl[999]? = some (.code ⟨"RookHouse$Table", "fillBeaten", "()V"⟩ prog_6_method_12_code 5 none) := rfl
set_option maxRecDepth 100000 in
theorem am_cd123 : lw_tbl[1004]? = some (.code ⟨"RookHouse", "rings", "()I"⟩ prog_1_method_23_code 5 (some .int)) := rfl
set_option maxRecDepth 100000 in
theorem am_cd124 : lw_tbl[1008]? = some (.code ⟨"RookHouse$Table", "isRing", "(III)Z"⟩ prog_6_method_13_code 4 (some .boolean)) := rfl
set_option maxRecDepth 100000 in
theorem am_cd125 : lw_tbl[1012]? = some (.code ⟨"RookHouse$Table", "doesBeat", "(II)Z"⟩ prog_6_method_14_code 3 (some .boolean)) := rfl
set_option maxRecDepth 100000 in
theorem am_cd126 : lw_tbl[1016]? = some (.code ⟨"RookHouse", "agenda", "(II)I"⟩ prog_1_method_24_code 5 (some .int)) := rfl
set_option maxRecDepth 100000 in
theorem am_cd127 : lw_tbl[1019]? = some (.code ⟨"RookHouse", "firstOrder", "([I)V"⟩ prog_1_method_66_code 2 none) := rfl
set_option maxRecDepth 100000 in
theorem am_cd128 : lw_tbl[1023]? = some (.code ⟨"RookHouse$Table", "winner", "([I)I"⟩ prog_6_method_15_code 4 (some .int)) := rfl
set_option maxRecDepth 100000 in
theorem am_cd129 : lw_tbl[1026]? = some (.code ⟨"RookHouse", "nextOrder", "([I)V"⟩ prog_1_method_67_code 5 none) := rfl
set_option maxRecDepth 100000 in
theorem am_cd130 : lw_tbl[1029]? = some (.code ⟨"RookHouse", "swap", "([III)V"⟩ prog_1_method_68_code 4 none) := rfl
set_option maxRecDepth 100000 in
theorem am_cd131 : lw_tbl[1033]? = some (.code ⟨"RookHouse", "power", "(II)I"⟩ prog_1_method_25_code 3 (some .int)) := rfl
set_option maxRecDepth 100000 in
theorem am_cd132 : lw_tbl[1037]? = some (.code ⟨"RookHouse", "swings", "(IIZ)I"⟩ prog_1_method_61_code 12 (some .int)) := rfl
set_option maxRecDepth 100000 in
theorem am_cd133 : lw_tbl[1040]? = some (.code ⟨"RookHouse", "ordersAround", "(II)I"⟩ prog_1_method_62_code 3 (some .int)) := rfl
set_option maxRecDepth 100000 in
theorem am_cd134 : lw_tbl[1046]? = some (.code ⟨"RookHouse", "pivot", "(II)I"⟩ prog_1_method_26_code 3 (some .int)) := rfl
set_option maxRecDepth 100000 in
theorem am_cd135 : lw_tbl[1050]? = some (.code ⟨"RookHouse", "enough", "(II)I"⟩ prog_1_method_27_code 3 (some .int)) := rfl
set_option maxRecDepth 100000 in
theorem am_cd136 : lw_tbl[1054]? = some (.code ⟨"RookHouse", "fewest", "(IIZ)I"⟩ prog_1_method_63_code 9 (some .int)) := rfl
set_option maxRecDepth 100000 in
theorem am_cd137 : lw_tbl[1058]? = some (.code ⟨"RookHouse", "isAnswer", "(IIZ)Z"⟩ prog_1_method_64_code 6 (some .boolean)) := rfl
set_option maxRecDepth 100000 in
theorem am_cd138 : lw_tbl[1062]? = some (.code ⟨"RookHouse", "out", "(II)I"⟩ prog_1_method_28_code 3 (some .int)) := rfl
set_option maxRecDepth 100000 in
theorem am_cd139 : lw_tbl[1066]? = some (.code ⟨"RookHouse", "first", "()I"⟩ prog_1_method_29_code 1 (some .int)) := rfl
set_option maxRecDepth 100000 in
theorem am_cd140 : lw_tbl[1070]? = some (.code ⟨"RookHouse$Table", "leader", "()I"⟩ prog_6_method_20_code 2 (some .int)) := rfl
set_option maxRecDepth 100000 in
theorem am_cd141 : lw_tbl[1074]? = some (.code ⟨"RookHouse$Table", "mostOf", "([I)I"⟩ prog_6_method_24_code 4 (some .int)) := rfl
set_option maxRecDepth 100000 in
theorem am_cd142 : lw_tbl[1078]? = some (.code ⟨"RookHouse", "falsely", "(II)I"⟩ prog_1_method_30_code 6 (some .int)) := rfl
set_option maxRecDepth 100000 in
theorem am_cd143 : lw_tbl[1083]? = some (.code ⟨"RookHouse$Table", "fillWithout", "(I)V"⟩ prog_6_method_21_code 3 none) := rfl
set_option maxRecDepth 100000 in
theorem am_cd144 : lw_tbl[1087]? = some (.code ⟨"RookHouse$Table", "leaderIfTold", "([I)I"⟩ prog_6_method_22_code 4 (some .int)) := rfl
set_option maxRecDepth 100000 in
theorem am_cd145 : lw_tbl[1091]? = some (.code ⟨"RookHouse", "seen", "(II)I"⟩ prog_1_method_31_code 3 (some .int)) := rfl
set_option maxRecDepth 100000 in
theorem am_cd146 : lw_tbl[1095]? = some (.code ⟨"RookHouse", "forget", "()I"⟩ prog_1_method_32_code 2 (some .int)) := rfl
set_option maxRecDepth 100000 in
theorem am_cd147 : lw_tbl[1099]? = some (.code ⟨"RookHouse", "canBe", "()I"⟩ prog_1_method_33_code 1 (some .int)) := rfl
set_option maxRecDepth 100000 in
theorem am_cd148 : lw_tbl[1103]? = some (.code ⟨"RookHouse", "suspects", "()I"⟩ prog_1_method_65_code 5 (some .int)) := rfl
set_option maxRecDepth 100000 in
theorem am_cd149 : lw_tbl[1108]? = some (.code ⟨"RookHouse", "ask", "(I)I"⟩ prog_1_method_34_code 9 (some .int)) := rfl
set_option maxRecDepth 100000 in
theorem am_cd150 : lw_tbl[1112]? = some (.code ⟨"RookHouse$Table", "mostAlike", "(III)I"⟩ prog_6_method_16_code 7 (some .int)) := rfl
set_option maxRecDepth 100000 in
theorem am_cd151 : lw_tbl[1116]? = some (.code ⟨"RookHouse", "few", "(II)J"⟩ prog_1_method_35_code 8 (some .long)) := rfl
set_option maxRecDepth 100000 in
theorem am_cd152 : lw_tbl[1123]? = some (.code ⟨"RookHouse", "compare", "(I)I"⟩ prog_1_method_36_code 2 (some .int)) := rfl
set_option maxRecDepth 100000 in
theorem am_cd153 : lw_tbl[1127]? = some (.code ⟨"RookHouse", "sessions", "(II)I"⟩ prog_1_method_37_code 4 (some .int)) := rfl
set_option maxRecDepth 100000 in
theorem am_cd154 : lw_tbl[1132]? = some (.code ⟨"RookHouse", "holdSession", "()V"⟩ prog_1_method_69_code 5 none) := rfl
set_option maxRecDepth 100000 in
theorem am_cd155 : lw_tbl[1136]? = some (.code ⟨"RookHouse", "draw", "(I)I"⟩ prog_1_method_70_code 2 (some .int)) := rfl
set_option maxRecDepth 100000 in
theorem am_cd156 : lw_tbl[1143]? = some (.code ⟨"RookHouse$House", "setWant", "(III)V"⟩ prog_2_method_8_code 4 none) := rfl
set_option maxRecDepth 100000 in
theorem am_cd157 : lw_tbl[1149]? = some (.code ⟨"RookHouse", "drawn", "(II)I"⟩ prog_1_method_38_code 3 (some .int)) := rfl
set_option maxRecDepth 100000 in
theorem am_cd158 : lw_tbl[1153]? = some (.code ⟨"RookHouse", "image", "(I)I"⟩ prog_1_method_39_code 3 (some .int)) := rfl
set_option maxRecDepth 100000 in
theorem am_cd159 : lw_tbl[1157]? = some (.code ⟨"RookHouse", "back", "(I)I"⟩ prog_1_method_40_code 3 (some .int)) := rfl
set_option maxRecDepth 100000 in
theorem am_cd160 : lw_tbl[1161]? = some (.code ⟨"RookHouse", "count", "(I)I"⟩ prog_1_method_41_code 2 (some .int)) := rfl
set_option maxRecDepth 100000 in
theorem am_cd161 : lw_tbl[1165]? = some (.code ⟨"RookHouse", "status", "()I"⟩ prog_1_method_42_code 1 (some .int)) := rfl
set_option maxRecDepth 100000 in
theorem am_cd162 : lw_tbl[1170]? = some (.code ⟨"RookHouseModel", "<init>", "()V"⟩ prog_11_method_10_code 1 none) := rfl
set_option maxRecDepth 100000 in
theorem am_cd163 : lw_tbl[1327]? = some (.code ⟨"RookHouseModel", "image", "(I)I"⟩ prog_11_method_13_code 3 (some .int)) := rfl
set_option maxRecDepth 100000 in
theorem am_cd164 : lw_tbl[1330]? = some (.code ⟨"RookHouseModel", "lies", "(III)Z"⟩ prog_11_method_1_code 3 (some .boolean)) := rfl
set_option maxRecDepth 100000 in
theorem am_cd165 : lw_tbl[1334]? = some (.code ⟨"RookHouseModel", "refuses", "(I)I"⟩ prog_11_method_3_code 2 (some .int)) := rfl
set_option maxRecDepth 100000 in
theorem am_cd166 : lw_tbl[1338]? = some (.code ⟨"RookHouseModel", "good", "(I)I"⟩ prog_11_method_4_code 2 (some .int)) := rfl
set_option maxRecDepth 100000 in
theorem am_cd167 : lw_tbl[1342]? = some (.code ⟨"RookHouseModel", "back", "(I)I"⟩ prog_11_method_14_code 3 (some .int)) := rfl
set_option maxRecDepth 100000 in
theorem am_cd168 : lw_tbl[1346]? = some (.code ⟨"RookHouseModel", "settled", "(I)I"⟩ prog_11_method_5_code 2 (some .int)) := rfl
set_option maxRecDepth 100000 in
theorem am_cd169 : lw_tbl[1350]? = some (.code ⟨"RookHouseModel", "member", "(II)I"⟩ prog_11_method_21_code 3 (some .int)) := rfl
set_option maxRecDepth 100000 in
theorem am_cd170 : lw_tbl[1353]? = some (.code ⟨"RookHouseModel", "canMember", "(II)Z"⟩ prog_11_method_19_code 2 (some .boolean)) := rfl
set_option maxRecDepth 100000 in
theorem am_cd171 : lw_tbl[1357]? = some (.code ⟨"RookHouseModel", "memberMany", "()I"⟩ prog_11_method_15_code 1 (some .int)) := rfl
set_option maxRecDepth 100000 in
theorem am_cd172 : lw_tbl[1361]? = some (.code ⟨"RookHouseModel", "adds", "(II)I"⟩ prog_11_method_20_code 5 (some .int)) := rfl
set_option maxRecDepth 100000 in
theorem am_cd173 : lw_tbl[1365]? = some (.code ⟨"RookHouseModel", "of", "(II)I"⟩ prog_11_method_22_code 3 (some .int)) := rfl
set_option maxRecDepth 100000 in
theorem am_cd174 : lw_tbl[1369]? = some (.code ⟨"RookHouseModel", "isMember", "(I)Z"⟩ prog_11_method_16_code 2 (some .boolean)) := rfl
set_option maxRecDepth 100000 in
theorem am_cd175 : lw_tbl[1373]? = some (.code ⟨"RookHouseModel", "wantAt", "(II)I"⟩ prog_11_method_17_code 3 (some .int)) := rfl
set_option maxRecDepth 100000 in
theorem am_cd176 : lw_tbl[1377]? = some (.code ⟨"RookHouseModel", "asks", "(III)I"⟩ prog_11_method_23_code 4 (some .int)) := rfl
set_option maxRecDepth 100000 in
theorem am_cd177 : lw_tbl[1380]? = some (.code ⟨"RookHouseModel", "isBill", "(I)Z"⟩ prog_11_method_8_code 1 (some .boolean)) := rfl
set_option maxRecDepth 100000 in
theorem am_cd178 : lw_tbl[1384]? = some (.code ⟨"RookHouseModel", "laysTold", "()V"⟩ prog_11_method_75_code 3 none) := rfl
set_option maxRecDepth 100000 in
theorem am_cd179 : lw_tbl[1388]? = some (.code ⟨"RookHouseModel", "tells", "(IIII)I"⟩ prog_11_method_74_code 12 (some .int)) := rfl
set_option maxRecDepth 100000 in
theorem am_cd180 : lw_tbl[1392]? = some (.code ⟨"RookHouseModel", "setsAsked", "(II)V"⟩ prog_11_method_73_code 3 none) := rfl
set_option maxRecDepth 100000 in
theorem am_cd181 : lw_tbl[1396]? = some (.code ⟨"RookHouseModel", "isStanding", "(I)Z"⟩ prog_11_method_18_code 2 (some .boolean)) := rfl
set_option maxRecDepth 100000 in
theorem am_cd182 : lw_tbl[1399]? = some (.code ⟨"RookHouseModel", "isIn", "(II)Z"⟩ prog_11_method_6_code 2 (some .boolean)) := rfl
set_option maxRecDepth 100000 in
theorem am_cd183 : lw_tbl[1403]? = some (.code ⟨"RookHouseModel", "hereMany", "()I"⟩ prog_11_method_67_code 3 (some .int)) := rfl
set_option maxRecDepth 100000 in
theorem am_cd184 : lw_tbl[1407]? = some (.code ⟨"RookHouseModel", "codeAt", "(I)I"⟩ prog_11_method_61_code 2 (some .int)) := rfl
set_option maxRecDepth 100000 in
theorem am_cd185 : lw_tbl[1411]? = some (.code ⟨"RookHouseModel", "sumOf", "(Z)J"⟩ prog_11_method_64_code 7 (some .long)) := rfl
set_option maxRecDepth 100000 in
theorem am_cd186 : lw_tbl[1415]? = some (.code ⟨"RookHouseModel", "termOf", "(Z)J"⟩ prog_11_method_65_code 7 (some .long)) := rfl
set_option maxRecDepth 100000 in
theorem am_cd187 : lw_tbl[1419]? = some (.code ⟨"RookHouseModel", "partOf", "(Z)J"⟩ prog_11_method_66_code 4 (some .long)) := rfl
set_option maxRecDepth 100000 in
theorem am_cd188 : lw_tbl[1422]? = some (.code ⟨"RookHouseModel", "sign", "(C)I"⟩ prog_11_method_42_code 1 (some .int)) := rfl
set_option maxRecDepth 100000 in
theorem am_cd189 : lw_tbl[1426]? = some (.code ⟨"RookHouseModel", "passes0", "(I)Z"⟩ prog_11_method_62_code 3 (some .boolean)) := rfl
set_option maxRecDepth 100000 in
theorem am_cd190 : lw_tbl[1430]? = some (.code ⟨"RookHouseModel", "orderValue", "(II)I"⟩ prog_11_method_68_code 3 (some .int)) := rfl
set_option maxRecDepth 100000 in
theorem am_cd191 : lw_tbl[1433]? = some (.code ⟨"RookHouseModel", "ones", "(I)I"⟩ prog_11_method_7_code 3 (some .int)) := rfl
set_option maxRecDepth 100000 in
theorem am_cd192 : lw_tbl[1437]? = some (.code ⟨"RookHouseModel", "bounded", "(JZ)J"⟩ prog_11_method_63_code 4 (some .long)) := rfl
set_option maxRecDepth 100000 in
theorem am_cd193 : lw_tbl[1443]? = some (.code ⟨"RookHouseModel", "testOf", "(Z)Z"⟩ prog_11_method_69_code 4 (some .boolean)) := rfl
set_option maxRecDepth 100000 in
theorem am_cd194 : lw_tbl[1447]? = some (.code ⟨"RookHouseModel", "bothOf", "(Z)Z"⟩ prog_11_method_70_code 4 (some .boolean)) := rfl
set_option maxRecDepth 100000 in
theorem am_cd195 : lw_tbl[1451]? = some (.code ⟨"RookHouseModel", "plainOf", "(Z)Z"⟩ prog_11_method_71_code 3 (some .boolean)) := rfl
set_option maxRecDepth 100000 in
theorem am_cd196 : lw_tbl[1455]? = some (.code ⟨"RookHouseModel", "positiveOf", "(Z)Z"⟩ prog_11_method_72_code 7 (some .boolean)) := rfl
set_option maxRecDepth 100000 in
theorem am_cd197 : lw_tbl[1460]? = some (.code ⟨"RookHouseModel", "isOn", "(II)Z"⟩ prog_11_method_77_code 3 (some .boolean)) := rfl
set_option maxRecDepth 100000 in
theorem am_cd198 : lw_tbl[1464]? = some (.code ⟨"RookHouseModel", "isFor", "(II)Z"⟩ prog_11_method_78_code 3 (some .boolean)) := rfl
set_option maxRecDepth 100000 in
theorem am_cd199 : lw_tbl[1468]? = some (.code ⟨"RookHouseModel", "bill", "(II)I"⟩ prog_11_method_24_code 3 (some .int)) := rfl
set_option maxRecDepth 100000 in
theorem am_cd200 : lw_tbl[1472]? = some (.code ⟨"RookHouseModel", "everybody", "()I"⟩ prog_11_method_76_code 1 (some .int)) := rfl
set_option maxRecDepth 100000 in
theorem am_cd201 : lw_tbl[1476]? = some (.code ⟨"RookHouseModel", "voicesFor", "(II)I"⟩ prog_11_method_82_code 5 (some .int)) := rfl
set_option maxRecDepth 100000 in
theorem am_cd202 : lw_tbl[1480]? = some (.code ⟨"RookHouseModel", "voicesOf", "(II)I"⟩ prog_11_method_80_code 5 (some .int)) := rfl
set_option maxRecDepth 100000 in
theorem am_cd203 : lw_tbl[1484]? = some (.code ⟨"RookHouseModel", "voicesOn", "(II)I"⟩ prog_11_method_81_code 3 (some .int)) := rfl
set_option maxRecDepth 100000 in
theorem am_cd204 : lw_tbl[1488]? = some (.code ⟨"RookHouseModel", "onOf", "(II)I"⟩ prog_11_method_79_code 5 (some .int)) := rfl
set_option maxRecDepth 100000 in
theorem am_cd205 : lw_tbl[1492]? = some (.code ⟨"RookHouseModel", "needed", "(II)I"⟩ prog_11_method_83_code 3 (some .int)) := rfl
set_option maxRecDepth 100000 in
theorem am_cd206 : lw_tbl[1496]? = some (.code ⟨"RookHouseModel", "carries", "(II)Z"⟩ prog_11_method_84_code 3 (some .boolean)) := rfl
set_option maxRecDepth 100000 in
theorem am_cd207 : lw_tbl[1500]? = some (.code ⟨"RookHouseModel", "pointsOf", "(I)I"⟩ prog_11_method_115_code 4 (some .int)) := rfl
set_option maxRecDepth 100000 in
theorem am_cd208 : lw_tbl[1504]? = some (.code ⟨"RookHouseModel", "givenBy", "(II)I"⟩ prog_11_method_114_code 3 (some .int)) := rfl
set_option maxRecDepth 100000 in
theorem am_cd209 : lw_tbl[1508]? = some (.code ⟨"RookHouseModel", "lessThan", "(II)I"⟩ prog_11_method_113_code 5 (some .int)) := rfl
set_option maxRecDepth 100000 in
theorem am_cd210 : lw_tbl[1512]? = some (.code ⟨"RookHouseModel", "terms", "(II)I"⟩ prog_11_method_27_code 4 (some .int)) := rfl
set_option maxRecDepth 100000 in
theorem am_cd211 : lw_tbl[1515]? = some (.code ⟨"RookHouseModel", "isTerm", "(II)Z"⟩ prog_11_method_25_code 2 (some .boolean)) := rfl
set_option maxRecDepth 100000 in
theorem am_cd212 : lw_tbl[1518]? = some (.code ⟨"RookHouseModel", "termAt", "(I)I"⟩ prog_11_method_26_code 1 (some .int)) := rfl
set_option maxRecDepth 100000 in
theorem am_cd213 : lw_tbl[1522]? = some (.code ⟨"RookHouseModel", "row", "()I"⟩ prog_11_method_29_code 7 (some .int)) := rfl
set_option maxRecDepth 100000 in
theorem am_cd214 : lw_tbl[1526]? = some (.code ⟨"RookHouseModel", "canRow", "(I)Z"⟩ prog_11_method_28_code 4 (some .boolean)) := rfl
set_option maxRecDepth 100000 in
theorem am_cd215 : lw_tbl[1529]? = some (.code ⟨"RookHouseModel", "isWant", "(I)Z"⟩ prog_11_method_9_code 1 (some .boolean)) := rfl
set_option maxRecDepth 100000 in
theorem am_cd216 : lw_tbl[1533]? = some (.code ⟨"RookHouseModel", "feathers", "()I"⟩ prog_11_method_30_code 1 (some .int)) := rfl
set_option maxRecDepth 100000 in
theorem am_cd217 : lw_tbl[1537]? = some (.code ⟨"RookHouseModel", "feed", "(IIIII)I"⟩ prog_11_method_31_code 7 (some .int)) := rfl
set_option maxRecDepth 100000 in
theorem am_cd218 : lw_tbl[1541]? = some (.code ⟨"RookHouseModel", "end", "(I)I"⟩ prog_11_method_32_code 2 (some .int)) := rfl
set_option maxRecDepth 100000 in
theorem am_cd219 : lw_tbl[1545]? = some (.code ⟨"RookHouseModel", "law", "()I"⟩ prog_11_method_57_code 1 (some .int)) := rfl
set_option maxRecDepth 100000 in
theorem am_cd220 : lw_tbl[1549]? = some (.code ⟨"RookHouseModel", "readsAs", "(Z)Z"⟩ prog_11_method_55_code 2 (some .boolean)) := rfl
set_option maxRecDepth 100000 in
theorem am_cd221 : lw_tbl[1553]? = some (.code ⟨"RookHouseModel", "reads", "()Z"⟩ prog_11_method_54_code 2 (some .boolean)) := rfl
set_option maxRecDepth 100000 in
theorem am_cd222 : lw_tbl[1557]? = some (.code ⟨"RookHouseModel", "splits", "(I)V"⟩ prog_11_method_36_code 6 none) := rfl
set_option maxRecDepth 100000 in
theorem am_cd223 : lw_tbl[1560]? = some (.code ⟨"RookHouseModel", "isSmall", "(I)Z"⟩ prog_11_method_33_code 1 (some .boolean)) := rfl
set_option maxRecDepth 100000 in
theorem am_cd224 : lw_tbl[1563]? = some (.code ⟨"RookHouseModel", "isDigit", "(I)Z"⟩ prog_11_method_34_code 1 (some .boolean)) := rfl
set_option maxRecDepth 100000 in
theorem am_cd225 : lw_tbl[1567]? = some (.code ⟨"RookHouseModel", "wordOf", "(II)I"⟩ prog_11_method_35_code 8 (some .int)) := rfl
set_option maxRecDepth 100000 in
theorem am_cd226 : lw_tbl[1572]? = some (.code ⟨"RookHouseModel", "readOne", "()V"⟩ prog_11_method_47_code 1 none) := rfl
set_option maxRecDepth 100000 in
theorem am_cd227 : lw_tbl[1576]? = some (.code ⟨"RookHouseModel", "readOrder", "()V"⟩ prog_11_method_46_code 1 none) := rfl
set_option maxRecDepth 100000 in
theorem am_cd228 : lw_tbl[1580]? = some (.code ⟨"RookHouseModel", "takes0", "(I)Z"⟩ prog_11_method_39_code 3 (some .boolean)) := rfl
set_option maxRecDepth 100000 in
theorem am_cd229 : lw_tbl[1584]? = some (.code ⟨"RookHouseModel", "fine", "()Z"⟩ prog_11_method_37_code 1 (some .boolean)) := rfl
set_option maxRecDepth 100000 in
theorem am_cd230 : lw_tbl[1588]? = some (.code ⟨"RookHouseModel", "readSum", "(I)V"⟩ prog_11_method_51_code 2 none) := rfl
set_option maxRecDepth 100000 in
theorem am_cd231 : lw_tbl[1592]? = some (.code ⟨"RookHouseModel", "readTerm", "(I)V"⟩ prog_11_method_52_code 2 none) := rfl
set_option maxRecDepth 100000 in
theorem am_cd232 : lw_tbl[1596]? = some (.code ⟨"RookHouseModel", "readPart", "(I)V"⟩ prog_11_method_53_code 3 none) := rfl
set_option maxRecDepth 100000 in
theorem am_cd233 : lw_tbl[1600]? = some (.code ⟨"RookHouseModel", "faults", "()V"⟩ prog_11_method_38_code 1 none) := rfl
set_option maxRecDepth 100000 in
theorem am_cd234 : lw_tbl[1604]? = some (.code ⟨"RookHouseModel", "must", "(I)V"⟩ prog_11_method_40_code 2 none) := rfl
set_option maxRecDepth 100000 in
theorem am_cd235 : lw_tbl[1608]? = some (.code ⟨"RookHouseModel", "leaf", "()V"⟩ prog_11_method_41_code 1 none) := rfl
set_option maxRecDepth 100000 in
theorem am_cd236 : lw_tbl[1612]? = some (.code ⟨"RookHouseModel", "mustNumber", "(II)V"⟩ prog_11_method_43_code 3 none) := rfl
set_option maxRecDepth 100000 in
theorem am_cd237 : lw_tbl[1616]? = some (.code ⟨"RookHouseModel", "readMore", "(I)V"⟩ prog_11_method_45_code 2 none) := rfl
set_option maxRecDepth 100000 in
theorem am_cd238 : lw_tbl[1620]? = some (.code ⟨"RookHouseModel", "readTest", "(I)V"⟩ prog_11_method_48_code 2 none) := rfl
set_option maxRecDepth 100000 in
theorem am_cd239 : lw_tbl[1624]? = some (.code ⟨"RookHouseModel", "readBoth", "(I)V"⟩ prog_11_method_49_code 2 none) := rfl
set_option maxRecDepth 100000 in
theorem am_cd240 : lw_tbl[1628]? = some (.code ⟨"RookHouseModel", "readPlain", "(I)V"⟩ prog_11_method_50_code 4 none) := rfl
set_option maxRecDepth 100000 in
theorem am_cd241 : lw_tbl[1632]? = some (.code ⟨"RookHouseModel", "readClause", "()V"⟩ prog_11_method_44_code 1 none) := rfl
set_option maxRecDepth 100000 in
theorem am_cd242 : lw_tbl[1636]? = some (.code ⟨"RookHouseModel", "lays", "(I)V"⟩ prog_11_method_56_code 3 none) := rfl
set_option maxRecDepth 100000 in
theorem am_cd243 : lw_tbl[1640]? = some (.code ⟨"RookHouseModel", "fault", "()I"⟩ prog_11_method_58_code 1 (some .int)) := rfl
set_option maxRecDepth 100000 in
theorem am_cd244 : lw_tbl[1644]? = some (.code ⟨"RookHouseModel", "force", "(I)I"⟩ prog_11_method_60_code 3 (some .int)) := rfl
set_option maxRecDepth 100000 in
theorem am_cd245 : lw_tbl[1648]? = some (.code ⟨"RookHouseModel", "isLaw", "(I)Z"⟩ prog_11_method_59_code 2 (some .boolean)) := rfl
set_option maxRecDepth 100000 in
theorem am_cd246 : lw_tbl[1652]? = some (.code ⟨"RookHouseModel", "undo", "()I"⟩ prog_11_method_86_code 3 (some .int)) := rfl
set_option maxRecDepth 100000 in
theorem am_cd247 : lw_tbl[1656]? = some (.code ⟨"RookHouseModel", "put", "(I)I"⟩ prog_11_method_94_code 2 (some .int)) := rfl
set_option maxRecDepth 100000 in
theorem am_cd248 : lw_tbl[1660]? = some (.code ⟨"RookHouseModel", "putsKept", "(I)I"⟩ prog_11_method_89_code 3 (some .int)) := rfl
set_option maxRecDepth 100000 in
theorem am_cd249 : lw_tbl[1664]? = some (.code ⟨"RookHouseModel", "carriesNow", "(I)Z"⟩ prog_11_method_88_code 2 (some .boolean)) := rfl
set_option maxRecDepth 100000 in
theorem am_cd250 : lw_tbl[1668]? = some (.code ⟨"RookHouseModel", "keeps", "(I)V"⟩ prog_11_method_85_code 4 none) := rfl
set_option maxRecDepth 100000 in
theorem am_cd251 : lw_tbl[1672]? = some (.code ⟨"RookHouseModel", "goodOr", "(I)I"⟩ prog_11_method_87_code 2 (some .int)) := rfl
set_option maxRecDepth 100000 in
theorem am_cd252 : lw_tbl[1676]? = some (.code ⟨"RookHouseModel", "go", "(I)I"⟩ prog_11_method_95_code 2 (some .int)) := rfl
set_option maxRecDepth 100000 in
theorem am_cd253 : lw_tbl[1680]? = some (.code ⟨"RookHouseModel", "goesKept", "(I)I"⟩ prog_11_method_90_code 2 (some .int)) := rfl
set_option maxRecDepth 100000 in
theorem am_cd254 : lw_tbl[1684]? = some (.code ⟨"RookHouseModel", "sway", "(III)I"⟩ prog_11_method_96_code 4 (some .int)) := rfl
set_option maxRecDepth 100000 in
theorem am_cd255 : lw_tbl[1688]? = some (.code ⟨"RookHouseModel", "swaysKept", "(III)I"⟩ prog_11_method_91_code 5 (some .int)) := rfl
set_option maxRecDepth 100000 in
theorem am_cd256 : lw_tbl[1692]? = some (.code ⟨"RookHouseModel", "pass", "()I"⟩ prog_11_method_97_code 1 (some .int)) := rfl
set_option maxRecDepth 100000 in
theorem am_cd257 : lw_tbl[1696]? = some (.code ⟨"RookHouseModel", "passesKept", "()I"⟩ prog_11_method_93_code 1 (some .int)) := rfl
set_option maxRecDepth 100000 in
theorem am_cd258 : lw_tbl[1700]? = some (.code ⟨"RookHouseModel", "dayPasses", "()I"⟩ prog_11_method_92_code 3 (some .int)) := rfl
set_option maxRecDepth 100000 in
theorem am_cd259 : lw_tbl[1704]? = some (.code ⟨"RookHouseModel", "votes", "(II)I"⟩ prog_11_method_99_code 3 (some .int)) := rfl
set_option maxRecDepth 100000 in
theorem am_cd260 : lw_tbl[1708]? = some (.code ⟨"RookHouseModel", "votesFor", "(II)I"⟩ prog_11_method_98_code 5 (some .int)) := rfl
set_option maxRecDepth 100000 in
theorem am_cd261 : lw_tbl[1712]? = some (.code ⟨"RookHouseModel", "best", "()I"⟩ prog_11_method_102_code 5 (some .int)) := rfl
set_option maxRecDepth 100000 in
theorem am_cd262 : lw_tbl[1716]? = some (.code ⟨"RookHouseModel", "laysBeats", "()V"⟩ prog_11_method_101_code 3 none) := rfl
set_option maxRecDepth 100000 in
theorem am_cd263 : lw_tbl[1720]? = some (.code ⟨"RookHouseModel", "beats", "(II)Z"⟩ prog_11_method_100_code 3 (some .boolean)) := rfl
set_option maxRecDepth 100000 in
theorem am_cd264 : lw_tbl[1724]? = some (.code ⟨"RookHouseModel", "rings", "()I"⟩ prog_11_method_103_code 5 (some .int)) := rfl
set_option maxRecDepth 100000 in
theorem am_cd265 : lw_tbl[1728]? = some (.code ⟨"RookHouseModel", "agenda", "(II)I"⟩ prog_11_method_106_code 6 (some .int)) := rfl
set_option maxRecDepth 100000 in
theorem am_cd266 : lw_tbl[1732]? = some (.code ⟨"RookHouseModel", "laysLine", "(I)V"⟩ prog_11_method_104_code 8 none) := rfl
set_option maxRecDepth 100000 in
theorem am_cd267 : lw_tbl[1736]? = some (.code ⟨"RookHouseModel", "winner", "()I"⟩ prog_11_method_105_code 3 (some .int)) := rfl
set_option maxRecDepth 100000 in
theorem am_cd268 : lw_tbl[1740]? = some (.code ⟨"RookHouseModel", "power", "(II)I"⟩ prog_11_method_109_code 3 (some .int)) := rfl
set_option maxRecDepth 100000 in
theorem am_cd269 : lw_tbl[1744]? = some (.code ⟨"RookHouseModel", "decides", "(IIZ)I"⟩ prog_11_method_108_code 10 (some .int)) := rfl
set_option maxRecDepth 100000 in
theorem am_cd270 : lw_tbl[1747]? = some (.code ⟨"RookHouseModel", "allOrders", "(I)I"⟩ prog_11_method_107_code 3 (some .int)) := rfl
set_option maxRecDepth 100000 in
theorem am_cd271 : lw_tbl[1751]? = some (.code ⟨"RookHouseModel", "pivot", "(II)I"⟩ prog_11_method_110_code 3 (some .int)) := rfl
set_option maxRecDepth 100000 in
theorem am_cd272 : lw_tbl[1755]? = some (.code ⟨"RookHouseModel", "enough", "(II)I"⟩ prog_11_method_111_code 7 (some .int)) := rfl
set_option maxRecDepth 100000 in
theorem am_cd273 : lw_tbl[1759]? = some (.code ⟨"RookHouseModel", "out", "(II)I"⟩ prog_11_method_112_code 6 (some .int)) := rfl
set_option maxRecDepth 100000 in
theorem am_cd274 : lw_tbl[1763]? = some (.code ⟨"RookHouseModel", "first", "()I"⟩ prog_11_method_118_code 1 (some .int)) := rfl
set_option maxRecDepth 100000 in
theorem am_cd275 : lw_tbl[1767]? = some (.code ⟨"RookHouseModel", "firstNow", "()I"⟩ prog_11_method_117_code 2 (some .int)) := rfl
set_option maxRecDepth 100000 in
theorem am_cd276 : lw_tbl[1771]? = some (.code ⟨"RookHouseModel", "mostPoints", "()I"⟩ prog_11_method_116_code 3 (some .int)) := rfl
set_option maxRecDepth 100000 in
theorem am_cd277 : lw_tbl[1775]? = some (.code ⟨"RookHouseModel", "compare", "(I)I"⟩ prog_11_method_119_code 4 (some .int)) := rfl
set_option maxRecDepth 100000 in
theorem am_cd278 : lw_tbl[1779]? = some (.code ⟨"RookHouseModel", "falsely", "(II)I"⟩ prog_11_method_121_code 6 (some .int)) := rfl
set_option maxRecDepth 100000 in
theorem am_cd279 : lw_tbl[1783]? = some (.code ⟨"RookHouseModel", "firstBy", "(I)I"⟩ prog_11_method_120_code 4 (some .int)) := rfl
set_option maxRecDepth 100000 in
theorem am_cd280 : lw_tbl[1787]? = some (.code ⟨"RookHouseModel", "seen", "(II)I"⟩ prog_11_method_122_code 4 (some .int)) := rfl
set_option maxRecDepth 100000 in
theorem am_cd281 : lw_tbl[1791]? = some (.code ⟨"RookHouseModel", "forget", "()I"⟩ prog_11_method_123_code 2 (some .int)) := rfl
set_option maxRecDepth 100000 in
theorem am_cd282 : lw_tbl[1795]? = some (.code ⟨"RookHouseModel", "canBe", "()I"⟩ prog_11_method_126_code 3 (some .int)) := rfl
set_option maxRecDepth 100000 in
theorem am_cd283 : lw_tbl[1799]? = some (.code ⟨"RookHouseModel", "isSo", "(I)Z"⟩ prog_11_method_125_code 4 (some .boolean)) := rfl
set_option maxRecDepth 100000 in
theorem am_cd284 : lw_tbl[1803]? = some (.code ⟨"RookHouseModel", "wouldVote", "(III)Z"⟩ prog_11_method_124_code 4 (some .boolean)) := rfl
set_option maxRecDepth 100000 in
theorem am_cd285 : lw_tbl[1807]? = some (.code ⟨"RookHouseModel", "ask", "(I)I"⟩ prog_11_method_128_code 9 (some .int)) := rfl
set_option maxRecDepth 100000 in
theorem am_cd286 : lw_tbl[1812]? = some (.code ⟨"RookHouseModel", "mostAlike", "(III)I"⟩ prog_11_method_127_code 7 (some .int)) := rfl
set_option maxRecDepth 100000 in
theorem am_cd287 : lw_tbl[1815]? = some (.code ⟨"RookHouseModel", "greater", "(II)I"⟩ prog_11_method_2_code 2 (some .int)) := rfl
set_option maxRecDepth 100000 in
theorem am_cd288 : lw_tbl[1819]? = some (.code ⟨"RookHouseModel", "few", "(II)J"⟩ prog_11_method_129_code 6 (some .long)) := rfl
set_option maxRecDepth 100000 in
theorem am_cd289 : lw_tbl[1826]? = some (.code ⟨"RookHouseModel", "stopped", "()I"⟩ prog_11_method_130_code 1 (some .int)) := rfl
set_option maxRecDepth 100000 in
theorem am_cd290 : lw_tbl[1830]? = some (.code ⟨"RookHouseModel", "orders", "()I"⟩ prog_11_method_131_code 5 (some .int)) := rfl
set_option maxRecDepth 100000 in
theorem am_cd291 : lw_tbl[1834]? = some (.code ⟨"RookHouseModel", "laysAside", "(I)V"⟩ prog_11_method_11_code 3 none) := rfl
set_option maxRecDepth 100000 in
theorem am_cd292 : lw_tbl[1838]? = some (.code ⟨"RookHouseModel", "runs", "(I)Z"⟩ prog_11_method_136_code 5 (some .boolean)) := rfl
set_option maxRecDepth 100000 in
theorem am_cd293 : lw_tbl[1842]? = some (.code ⟨"RookHouseModel", "goesAlong", "(IZ)V"⟩ prog_11_method_133_code 5 none) := rfl
set_option maxRecDepth 100000 in
theorem am_cd294 : lw_tbl[1846]? = some (.code ⟨"RookHouseModel", "laysFor", "()V"⟩ prog_11_method_132_code 2 none) := rfl
set_option maxRecDepth 100000 in
theorem am_cd295 : lw_tbl[1850]? = some (.code ⟨"RookHouseModel", "obeys", "()I"⟩ prog_11_method_135_code 3 (some .int)) := rfl
set_option maxRecDepth 100000 in
theorem am_cd296 : lw_tbl[1853]? = some (.code ⟨"RookHouseModel", "small", "(J)I"⟩ prog_11_method_134_code 2 (some .int)) := rfl
set_option maxRecDepth 100000 in
theorem am_cd297 : lw_tbl[1858]? = some (.code ⟨"RookHouseModel", "takesBack", "(I)V"⟩ prog_11_method_12_code 3 none) := rfl
set_option maxRecDepth 100000 in
theorem am_cd298 : lw_tbl[1862]? = some (.code ⟨"RookHouseModel", "sessions", "(II)I"⟩ prog_11_method_139_code 5 (some .int)) := rfl
set_option maxRecDepth 100000 in
theorem am_cd299 : lw_tbl[1866]? = some (.code ⟨"RookHouseModel", "sessionDay", "()V"⟩ prog_11_method_138_code 5 none) := rfl
set_option maxRecDepth 100000 in
theorem am_cd300 : lw_tbl[1870]? = some (.code ⟨"RookHouseModel", "draws", "(I)I"⟩ prog_11_method_137_code 2 (some .int)) := rfl
set_option maxRecDepth 100000 in
theorem am_cd301 : lw_tbl[1877]? = some (.code ⟨"RookHouseModel", "drawn", "(II)I"⟩ prog_11_method_140_code 3 (some .int)) := rfl
set_option maxRecDepth 100000 in
theorem am_cd302 : lw_tbl[1881]? = some (.code ⟨"RookHouseModel", "count", "(I)I"⟩ prog_11_method_141_code 2 (some .int)) := rfl
set_option maxRecDepth 100000 in
theorem am_cd303 : lw_tbl[1885]? = some (.code ⟨"RookHouseModel", "status", "()I"⟩ prog_11_method_142_code 1 (some .int)) := rfl
theorem am_mc0 : ∀ M ∈ am_mt0, lw_tbl[M.2.2.2.2.2.2.2.1]? = some (Cond.code M.2.1 M.2.2.1 M.2.2.2.1 M.2.2.2.2.1) := List.forall_mem_cons.mpr ⟨am_cd0, List.forall_mem_cons.mpr ⟨am_cd1, List.forall_mem_cons.mpr ⟨am_cd2, List.forall_mem_cons.mpr ⟨am_cd3, List.forall_mem_cons.mpr ⟨am_cd4, List.forall_mem_cons.mpr ⟨am_cd5, List.forall_mem_cons.mpr ⟨am_cd6, List.forall_mem_cons.mpr ⟨am_cd7, List.forall_mem_cons.mpr ⟨am_cd8, List.forall_mem_cons.mpr ⟨am_cd9, List.forall_mem_cons.mpr ⟨am_cd10, List.forall_mem_cons.mpr ⟨am_cd11, List.forall_mem_cons.mpr ⟨am_cd12, List.forall_mem_cons.mpr ⟨am_cd13, List.forall_mem_cons.mpr ⟨am_cd14, List.forall_mem_cons.mpr ⟨am_cd15, List.forall_mem_cons.mpr ⟨am_cd16, List.forall_mem_cons.mpr ⟨am_cd17, List.forall_mem_cons.mpr ⟨am_cd18, List.forall_mem_cons.mpr ⟨am_cd19, List.forall_mem_cons.mpr ⟨am_cd20, List.forall_mem_cons.mpr ⟨am_cd21, List.forall_mem_cons.mpr ⟨am_cd22, List.forall_mem_cons.mpr ⟨am_cd23, List.forall_mem_cons.mpr ⟨am_cd24, List.forall_mem_cons.mpr ⟨am_cd25, List.forall_mem_cons.mpr ⟨am_cd26, List.forall_mem_cons.mpr ⟨am_cd27, List.forall_mem_cons.mpr ⟨am_cd28, List.forall_mem_cons.mpr ⟨am_cd29, List.forall_mem_cons.mpr ⟨am_cd30, List.forall_mem_cons.mpr ⟨am_cd31, List.forall_mem_cons.mpr ⟨am_cd32, List.forall_mem_cons.mpr ⟨am_cd33, List.forall_mem_cons.mpr ⟨am_cd34, List.forall_mem_cons.mpr ⟨am_cd35, List.forall_mem_cons.mpr ⟨am_cd36, List.forall_mem_cons.mpr ⟨am_cd37, List.forall_mem_cons.mpr ⟨am_cd38, List.forall_mem_cons.mpr ⟨am_cd39, (fun _ h => absurd h List.not_mem_nil)⟩⟩⟩⟩⟩⟩⟩⟩⟩⟩⟩⟩⟩⟩⟩⟩⟩⟩⟩⟩⟩⟩⟩⟩⟩⟩⟩⟩⟩⟩⟩⟩⟩⟩⟩⟩⟩⟩⟩⟩
theorem am_mc1 : ∀ M ∈ am_mt1, lw_tbl[M.2.2.2.2.2.2.2.1]? = some (Cond.code M.2.1 M.2.2.1 M.2.2.2.1 M.2.2.2.2.1) := List.forall_mem_cons.mpr ⟨am_cd40, List.forall_mem_cons.mpr ⟨am_cd41, List.forall_mem_cons.mpr ⟨am_cd42, List.forall_mem_cons.mpr ⟨am_cd43, List.forall_mem_cons.mpr ⟨am_cd44, List.forall_mem_cons.mpr ⟨am_cd45, List.forall_mem_cons.mpr ⟨am_cd46, List.forall_mem_cons.mpr ⟨am_cd47, List.forall_mem_cons.mpr ⟨am_cd48, List.forall_mem_cons.mpr ⟨am_cd49, List.forall_mem_cons.mpr ⟨am_cd50, List.forall_mem_cons.mpr ⟨am_cd51, List.forall_mem_cons.mpr ⟨am_cd52, List.forall_mem_cons.mpr ⟨am_cd53, List.forall_mem_cons.mpr ⟨am_cd54, List.forall_mem_cons.mpr ⟨am_cd55, List.forall_mem_cons.mpr ⟨am_cd56, List.forall_mem_cons.mpr ⟨am_cd57, List.forall_mem_cons.mpr ⟨am_cd58, List.forall_mem_cons.mpr ⟨am_cd59, List.forall_mem_cons.mpr ⟨am_cd60, List.forall_mem_cons.mpr ⟨am_cd61, List.forall_mem_cons.mpr ⟨am_cd62, List.forall_mem_cons.mpr ⟨am_cd63, List.forall_mem_cons.mpr ⟨am_cd64, List.forall_mem_cons.mpr ⟨am_cd65, List.forall_mem_cons.mpr ⟨am_cd66, List.forall_mem_cons.mpr ⟨am_cd67, List.forall_mem_cons.mpr ⟨am_cd68, List.forall_mem_cons.mpr ⟨am_cd69, List.forall_mem_cons.mpr ⟨am_cd70, List.forall_mem_cons.mpr ⟨am_cd71, List.forall_mem_cons.mpr ⟨am_cd72, List.forall_mem_cons.mpr ⟨am_cd73, List.forall_mem_cons.mpr ⟨am_cd74, List.forall_mem_cons.mpr ⟨am_cd75, List.forall_mem_cons.mpr ⟨am_cd76, List.forall_mem_cons.mpr ⟨am_cd77, List.forall_mem_cons.mpr ⟨am_cd78, List.forall_mem_cons.mpr ⟨am_cd79, (fun _ h => absurd h List.not_mem_nil)⟩⟩⟩⟩⟩⟩⟩⟩⟩⟩⟩⟩⟩⟩⟩⟩⟩⟩⟩⟩⟩⟩⟩⟩⟩⟩⟩⟩⟩⟩⟩⟩⟩⟩⟩⟩⟩⟩⟩⟩
theorem am_mc2 : ∀ M ∈ am_mt2, lw_tbl[M.2.2.2.2.2.2.2.1]? = some (Cond.code M.2.1 M.2.2.1 M.2.2.2.1 M.2.2.2.2.1) := List.forall_mem_cons.mpr ⟨am_cd80, List.forall_mem_cons.mpr ⟨am_cd81, List.forall_mem_cons.mpr ⟨am_cd82, List.forall_mem_cons.mpr ⟨am_cd83, List.forall_mem_cons.mpr ⟨am_cd84, List.forall_mem_cons.mpr ⟨am_cd85, List.forall_mem_cons.mpr ⟨am_cd86, List.forall_mem_cons.mpr ⟨am_cd87, List.forall_mem_cons.mpr ⟨am_cd88, List.forall_mem_cons.mpr ⟨am_cd89, List.forall_mem_cons.mpr ⟨am_cd90, List.forall_mem_cons.mpr ⟨am_cd91, List.forall_mem_cons.mpr ⟨am_cd92, List.forall_mem_cons.mpr ⟨am_cd93, List.forall_mem_cons.mpr ⟨am_cd94, List.forall_mem_cons.mpr ⟨am_cd95, List.forall_mem_cons.mpr ⟨am_cd96, List.forall_mem_cons.mpr ⟨am_cd97, List.forall_mem_cons.mpr ⟨am_cd98, List.forall_mem_cons.mpr ⟨am_cd99, List.forall_mem_cons.mpr ⟨am_cd100, List.forall_mem_cons.mpr ⟨am_cd101, List.forall_mem_cons.mpr ⟨am_cd102, List.forall_mem_cons.mpr ⟨am_cd103, List.forall_mem_cons.mpr ⟨am_cd104, List.forall_mem_cons.mpr ⟨am_cd105, List.forall_mem_cons.mpr ⟨am_cd106, List.forall_mem_cons.mpr ⟨am_cd107, List.forall_mem_cons.mpr ⟨am_cd108, List.forall_mem_cons.mpr ⟨am_cd109, List.forall_mem_cons.mpr ⟨am_cd110, List.forall_mem_cons.mpr ⟨am_cd111, List.forall_mem_cons.mpr ⟨am_cd112, List.forall_mem_cons.mpr ⟨am_cd113, List.forall_mem_cons.mpr ⟨am_cd114, List.forall_mem_cons.mpr ⟨am_cd115, List.forall_mem_cons.mpr ⟨am_cd116, List.forall_mem_cons.mpr ⟨am_cd117, List.forall_mem_cons.mpr ⟨am_cd118, List.forall_mem_cons.mpr ⟨am_cd119, (fun _ h => absurd h List.not_mem_nil)⟩⟩⟩⟩⟩⟩⟩⟩⟩⟩⟩⟩⟩⟩⟩⟩⟩⟩⟩⟩⟩⟩⟩⟩⟩⟩⟩⟩⟩⟩⟩⟩⟩⟩⟩⟩⟩⟩⟩⟩
theorem am_mc3 : ∀ M ∈ am_mt3, lw_tbl[M.2.2.2.2.2.2.2.1]? = some (Cond.code M.2.1 M.2.2.1 M.2.2.2.1 M.2.2.2.2.1) := List.forall_mem_cons.mpr ⟨am_cd120, List.forall_mem_cons.mpr ⟨am_cd121, List.forall_mem_cons.mpr ⟨am_cd122, List.forall_mem_cons.mpr ⟨am_cd123, List.forall_mem_cons.mpr ⟨am_cd124, List.forall_mem_cons.mpr ⟨am_cd125, List.forall_mem_cons.mpr ⟨am_cd126, List.forall_mem_cons.mpr ⟨am_cd127, List.forall_mem_cons.mpr ⟨am_cd128, List.forall_mem_cons.mpr ⟨am_cd129, List.forall_mem_cons.mpr ⟨am_cd130, List.forall_mem_cons.mpr ⟨am_cd131, List.forall_mem_cons.mpr ⟨am_cd132, List.forall_mem_cons.mpr ⟨am_cd133, List.forall_mem_cons.mpr ⟨am_cd134, List.forall_mem_cons.mpr ⟨am_cd135, List.forall_mem_cons.mpr ⟨am_cd136, List.forall_mem_cons.mpr ⟨am_cd137, List.forall_mem_cons.mpr ⟨am_cd138, List.forall_mem_cons.mpr ⟨am_cd139, List.forall_mem_cons.mpr ⟨am_cd140, List.forall_mem_cons.mpr ⟨am_cd141, List.forall_mem_cons.mpr ⟨am_cd142, List.forall_mem_cons.mpr ⟨am_cd143, List.forall_mem_cons.mpr ⟨am_cd144, List.forall_mem_cons.mpr ⟨am_cd145, List.forall_mem_cons.mpr ⟨am_cd146, List.forall_mem_cons.mpr ⟨am_cd147, List.forall_mem_cons.mpr ⟨am_cd148, List.forall_mem_cons.mpr ⟨am_cd149, List.forall_mem_cons.mpr ⟨am_cd150, List.forall_mem_cons.mpr ⟨am_cd151, List.forall_mem_cons.mpr ⟨am_cd152, List.forall_mem_cons.mpr ⟨am_cd153, List.forall_mem_cons.mpr ⟨am_cd154, List.forall_mem_cons.mpr ⟨am_cd155, List.forall_mem_cons.mpr ⟨am_cd156, List.forall_mem_cons.mpr ⟨am_cd157, List.forall_mem_cons.mpr ⟨am_cd158, List.forall_mem_cons.mpr ⟨am_cd159, (fun _ h => absurd h List.not_mem_nil)⟩⟩⟩⟩⟩⟩⟩⟩⟩⟩⟩⟩⟩⟩⟩⟩⟩⟩⟩⟩⟩⟩⟩⟩⟩⟩⟩⟩⟩⟩⟩⟩⟩⟩⟩⟩⟩⟩⟩⟩
theorem am_mc4 : ∀ M ∈ am_mt4, lw_tbl[M.2.2.2.2.2.2.2.1]? = some (Cond.code M.2.1 M.2.2.1 M.2.2.2.1 M.2.2.2.2.1) := List.forall_mem_cons.mpr ⟨am_cd160, List.forall_mem_cons.mpr ⟨am_cd161, List.forall_mem_cons.mpr ⟨am_cd162, List.forall_mem_cons.mpr ⟨am_cd163, List.forall_mem_cons.mpr ⟨am_cd164, List.forall_mem_cons.mpr ⟨am_cd165, List.forall_mem_cons.mpr ⟨am_cd166, List.forall_mem_cons.mpr ⟨am_cd167, List.forall_mem_cons.mpr ⟨am_cd168, List.forall_mem_cons.mpr ⟨am_cd169, List.forall_mem_cons.mpr ⟨am_cd170, List.forall_mem_cons.mpr ⟨am_cd171, List.forall_mem_cons.mpr ⟨am_cd172, List.forall_mem_cons.mpr ⟨am_cd173, List.forall_mem_cons.mpr ⟨am_cd174, List.forall_mem_cons.mpr ⟨am_cd175, List.forall_mem_cons.mpr ⟨am_cd176, List.forall_mem_cons.mpr ⟨am_cd177, List.forall_mem_cons.mpr ⟨am_cd178, List.forall_mem_cons.mpr ⟨am_cd179, List.forall_mem_cons.mpr ⟨am_cd180, List.forall_mem_cons.mpr ⟨am_cd181, List.forall_mem_cons.mpr ⟨am_cd182, List.forall_mem_cons.mpr ⟨am_cd183, List.forall_mem_cons.mpr ⟨am_cd184, List.forall_mem_cons.mpr ⟨am_cd185, List.forall_mem_cons.mpr ⟨am_cd186, List.forall_mem_cons.mpr ⟨am_cd187, List.forall_mem_cons.mpr ⟨am_cd188, List.forall_mem_cons.mpr ⟨am_cd189, List.forall_mem_cons.mpr ⟨am_cd190, List.forall_mem_cons.mpr ⟨am_cd191, List.forall_mem_cons.mpr ⟨am_cd192, List.forall_mem_cons.mpr ⟨am_cd193, List.forall_mem_cons.mpr ⟨am_cd194, List.forall_mem_cons.mpr ⟨am_cd195, List.forall_mem_cons.mpr ⟨am_cd196, List.forall_mem_cons.mpr ⟨am_cd197, List.forall_mem_cons.mpr ⟨am_cd198, List.forall_mem_cons.mpr ⟨am_cd199, (fun _ h => absurd h List.not_mem_nil)⟩⟩⟩⟩⟩⟩⟩⟩⟩⟩⟩⟩⟩⟩⟩⟩⟩⟩⟩⟩⟩⟩⟩⟩⟩⟩⟩⟩⟩⟩⟩⟩⟩⟩⟩⟩⟩⟩⟩⟩
theorem am_mc5 : ∀ M ∈ am_mt5, lw_tbl[M.2.2.2.2.2.2.2.1]? = some (Cond.code M.2.1 M.2.2.1 M.2.2.2.1 M.2.2.2.2.1) := List.forall_mem_cons.mpr ⟨am_cd200, List.forall_mem_cons.mpr ⟨am_cd201, List.forall_mem_cons.mpr ⟨am_cd202, List.forall_mem_cons.mpr ⟨am_cd203, List.forall_mem_cons.mpr ⟨am_cd204, List.forall_mem_cons.mpr ⟨am_cd205, List.forall_mem_cons.mpr ⟨am_cd206, List.forall_mem_cons.mpr ⟨am_cd207, List.forall_mem_cons.mpr ⟨am_cd208, List.forall_mem_cons.mpr ⟨am_cd209, List.forall_mem_cons.mpr ⟨am_cd210, List.forall_mem_cons.mpr ⟨am_cd211, List.forall_mem_cons.mpr ⟨am_cd212, List.forall_mem_cons.mpr ⟨am_cd213, List.forall_mem_cons.mpr ⟨am_cd214, List.forall_mem_cons.mpr ⟨am_cd215, List.forall_mem_cons.mpr ⟨am_cd216, List.forall_mem_cons.mpr ⟨am_cd217, List.forall_mem_cons.mpr ⟨am_cd218, List.forall_mem_cons.mpr ⟨am_cd219, List.forall_mem_cons.mpr ⟨am_cd220, List.forall_mem_cons.mpr ⟨am_cd221, List.forall_mem_cons.mpr ⟨am_cd222, List.forall_mem_cons.mpr ⟨am_cd223, List.forall_mem_cons.mpr ⟨am_cd224, List.forall_mem_cons.mpr ⟨am_cd225, List.forall_mem_cons.mpr ⟨am_cd226, List.forall_mem_cons.mpr ⟨am_cd227, List.forall_mem_cons.mpr ⟨am_cd228, List.forall_mem_cons.mpr ⟨am_cd229, List.forall_mem_cons.mpr ⟨am_cd230, List.forall_mem_cons.mpr ⟨am_cd231, List.forall_mem_cons.mpr ⟨am_cd232, List.forall_mem_cons.mpr ⟨am_cd233, List.forall_mem_cons.mpr ⟨am_cd234, List.forall_mem_cons.mpr ⟨am_cd235, List.forall_mem_cons.mpr ⟨am_cd236, List.forall_mem_cons.mpr ⟨am_cd237, List.forall_mem_cons.mpr ⟨am_cd238, List.forall_mem_cons.mpr ⟨am_cd239, (fun _ h => absurd h List.not_mem_nil)⟩⟩⟩⟩⟩⟩⟩⟩⟩⟩⟩⟩⟩⟩⟩⟩⟩⟩⟩⟩⟩⟩⟩⟩⟩⟩⟩⟩⟩⟩⟩⟩⟩⟩⟩⟩⟩⟩⟩⟩
theorem am_mc6 : ∀ M ∈ am_mt6, lw_tbl[M.2.2.2.2.2.2.2.1]? = some (Cond.code M.2.1 M.2.2.1 M.2.2.2.1 M.2.2.2.2.1) := List.forall_mem_cons.mpr ⟨am_cd240, List.forall_mem_cons.mpr ⟨am_cd241, List.forall_mem_cons.mpr ⟨am_cd242, List.forall_mem_cons.mpr ⟨am_cd243, List.forall_mem_cons.mpr ⟨am_cd244, List.forall_mem_cons.mpr ⟨am_cd245, List.forall_mem_cons.mpr ⟨am_cd246, List.forall_mem_cons.mpr ⟨am_cd247, List.forall_mem_cons.mpr ⟨am_cd248, List.forall_mem_cons.mpr ⟨am_cd249, List.forall_mem_cons.mpr ⟨am_cd250, List.forall_mem_cons.mpr ⟨am_cd251, List.forall_mem_cons.mpr ⟨am_cd252, List.forall_mem_cons.mpr ⟨am_cd253, List.forall_mem_cons.mpr ⟨am_cd254, List.forall_mem_cons.mpr ⟨am_cd255, List.forall_mem_cons.mpr ⟨am_cd256, List.forall_mem_cons.mpr ⟨am_cd257, List.forall_mem_cons.mpr ⟨am_cd258, List.forall_mem_cons.mpr ⟨am_cd259, List.forall_mem_cons.mpr ⟨am_cd260, List.forall_mem_cons.mpr ⟨am_cd261, List.forall_mem_cons.mpr ⟨am_cd262, List.forall_mem_cons.mpr ⟨am_cd263, List.forall_mem_cons.mpr ⟨am_cd264, List.forall_mem_cons.mpr ⟨am_cd265, List.forall_mem_cons.mpr ⟨am_cd266, List.forall_mem_cons.mpr ⟨am_cd267, List.forall_mem_cons.mpr ⟨am_cd268, List.forall_mem_cons.mpr ⟨am_cd269, List.forall_mem_cons.mpr ⟨am_cd270, List.forall_mem_cons.mpr ⟨am_cd271, List.forall_mem_cons.mpr ⟨am_cd272, List.forall_mem_cons.mpr ⟨am_cd273, List.forall_mem_cons.mpr ⟨am_cd274, List.forall_mem_cons.mpr ⟨am_cd275, List.forall_mem_cons.mpr ⟨am_cd276, List.forall_mem_cons.mpr ⟨am_cd277, List.forall_mem_cons.mpr ⟨am_cd278, List.forall_mem_cons.mpr ⟨am_cd279, (fun _ h => absurd h List.not_mem_nil)⟩⟩⟩⟩⟩⟩⟩⟩⟩⟩⟩⟩⟩⟩⟩⟩⟩⟩⟩⟩⟩⟩⟩⟩⟩⟩⟩⟩⟩⟩⟩⟩⟩⟩⟩⟩⟩⟩⟩⟩
theorem am_mc7 : ∀ M ∈ am_mt7, lw_tbl[M.2.2.2.2.2.2.2.1]? = some (Cond.code M.2.1 M.2.2.1 M.2.2.2.1 M.2.2.2.2.1) := List.forall_mem_cons.mpr ⟨am_cd280, List.forall_mem_cons.mpr ⟨am_cd281, List.forall_mem_cons.mpr ⟨am_cd282, List.forall_mem_cons.mpr ⟨am_cd283, List.forall_mem_cons.mpr ⟨am_cd284, List.forall_mem_cons.mpr ⟨am_cd285, List.forall_mem_cons.mpr ⟨am_cd286, List.forall_mem_cons.mpr ⟨am_cd287, List.forall_mem_cons.mpr ⟨am_cd288, List.forall_mem_cons.mpr ⟨am_cd289, List.forall_mem_cons.mpr ⟨am_cd290, List.forall_mem_cons.mpr ⟨am_cd291, List.forall_mem_cons.mpr ⟨am_cd292, List.forall_mem_cons.mpr ⟨am_cd293, List.forall_mem_cons.mpr ⟨am_cd294, List.forall_mem_cons.mpr ⟨am_cd295, List.forall_mem_cons.mpr ⟨am_cd296, List.forall_mem_cons.mpr ⟨am_cd297, List.forall_mem_cons.mpr ⟨am_cd298, List.forall_mem_cons.mpr ⟨am_cd299, List.forall_mem_cons.mpr ⟨am_cd300, List.forall_mem_cons.mpr ⟨am_cd301, List.forall_mem_cons.mpr ⟨am_cd302, List.forall_mem_cons.mpr ⟨am_cd303, (fun _ h => absurd h List.not_mem_nil)⟩⟩⟩⟩⟩⟩⟩⟩⟩⟩⟩⟩⟩⟩⟩⟩⟩⟩⟩⟩⟩⟩⟩⟩
theorem am_mc : ∀ M ∈ am_mt, lw_tbl[M.2.2.2.2.2.2.2.1]? = some (Cond.code M.2.1 M.2.2.1 M.2.2.2.1 M.2.2.2.2.1) := List.forall_mem_append.mpr ⟨am_mc0, List.forall_mem_append.mpr ⟨am_mc1, List.forall_mem_append.mpr ⟨am_mc2, List.forall_mem_append.mpr ⟨am_mc3, List.forall_mem_append.mpr ⟨am_mc4, List.forall_mem_append.mpr ⟨am_mc5, List.forall_mem_append.mpr ⟨am_mc6, am_mc7⟩⟩⟩⟩⟩⟩⟩
/-- field links: (class, entry) as one number, the class of the object, the field, the word's place -/
def am_fl : List (Nat × Nat × Nat × Nat) := [
  (43, 0, 0, 163),
  (80083, 0, 0, 164),
  (40054, 0, 0, 165),
  (46, 0, 1, 166),
  (40067, 0, 1, 167),
  (80106, 0, 1, 168),
  (10030, 0, 1, 169),
  (49, 0, 2, 170),
  (40086, 0, 2, 171),
  (80137, 0, 2, 172),
  (10025, 0, 2, 173),
  (52, 0, 3, 174),
  (80176, 0, 3, 175),
  (39, 0, 4, 176),
  (80224, 0, 4, 177),
  (55, 0, 5, 178),
  (80300, 0, 5, 179),
  (9, 0, 6, 180),
  (80100, 0, 6, 181),
  (40077, 0, 6, 182),
  (15, 0, 7, 183),
  (80103, 0, 7, 184),
  (40083, 0, 7, 185),
  (18, 0, 8, 186),
  (80115, 0, 8, 187),
  (40080, 0, 8, 188),
  (10033, 0, 8, 189),
  (24, 0, 9, 190),
  (40071, 0, 9, 191),
  (10036, 0, 9, 192),
  (80161, 0, 9, 193),
  (29, 0, 10, 194),
  (33, 0, 11, 195),
  (80303, 0, 11, 196),
  (36, 0, 12, 197),
  (80306, 0, 12, 198),
  (10015, 1, 0, 234),
  (80244, 1, 0, 235),
  (10011, 1, 1, 236),
  (70025, 5, 0, 248),
  (50015, 5, 0, 249),
  (20035, 5, 0, 250),
  (80164, 5, 0, 251),
  (50009, 5, 1, 252),
  (70036, 5, 1, 253),
  (80343, 5, 1, 254),
  (70021, 7, 0, 272),
  (20150, 7, 0, 273),
  (70011, 7, 1, 274),
  (20161, 7, 1, 275),
  (70015, 7, 2, 276),
  (20153, 7, 2, 277),
  (70018, 7, 3, 278),
  (20156, 7, 3, 279),
  (60036, 6, 0, 298),
  (20063, 6, 0, 299),
  (40102, 6, 0, 300),
  (80208, 6, 0, 301),
  (60040, 6, 1, 302),
  (30019, 6, 1, 303),
  (20091, 6, 1, 304),
  (80189, 6, 1, 305),
  (60043, 6, 2, 306),
  (20144, 6, 2, 307),
  (80356, 6, 2, 308),
  (60009, 6, 3, 309),
  (40114, 6, 3, 310),
  (80382, 6, 3, 311),
  (60015, 6, 4, 312),
  (20105, 6, 4, 313),
  (80211, 6, 4, 314),
  (60018, 6, 5, 315),
  (40117, 6, 5, 316),
  (20087, 6, 5, 317),
  (80375, 6, 5, 318),
  (60021, 6, 6, 319),
  (40107, 6, 6, 320),
  (20108, 6, 6, 321),
  (80366, 6, 6, 322),
  (60030, 6, 7, 323),
  (30025, 6, 7, 324),
  (60033, 6, 8, 325),
  (30029, 6, 8, 326),
  (20012, 2, 0, 346),
  (20023, 2, 1, 347),
  (80185, 2, 1, 348),
  (20043, 2, 2, 349),
  (20027, 2, 3, 350),
  (80218, 2, 3, 351),
  (20050, 2, 4, 352),
  (20123, 2, 5, 353),
  (20159, 2, 6, 354),
  (20147, 2, 7, 355),
  (20047, 2, 8, 356),
  (30015, 3, 0, 388),
  (40123, 3, 0, 389),
  (80378, 3, 0, 390),
  (30011, 3, 1, 391),
  (40066, 4, 0, 398),
  (40070, 4, 1, 399),
  (40074, 4, 2, 400),
  (40009, 4, 3, 401),
  (80122, 4, 3, 402),
  (40015, 4, 4, 403),
  (80125, 4, 4, 404),
  (40018, 4, 5, 405),
  (80128, 4, 5, 406),
  (40021, 4, 6, 407),
  (80131, 4, 6, 408),
  (40024, 4, 7, 409),
  (80258, 4, 7, 410),
  (40027, 4, 8, 411),
  (40030, 4, 9, 412),
  (40033, 4, 10, 413),
  (40036, 4, 11, 414),
  (40042, 4, 12, 415),
  (80362, 4, 12, 416),
  (80010, 8, 0, 444),
  (80016, 8, 1, 445),
  (80019, 8, 2, 446),
  (80022, 8, 3, 447),
  (80029, 8, 4, 448),
  (80033, 8, 5, 449),
  (80039, 8, 6, 450),
  (80046, 8, 7, 451),
  (80050, 8, 8, 452),
  (80057, 8, 9, 453),
  (80061, 8, 10, 454),
  (80064, 8, 11, 455),
  (80330, 8, 12, 456),
  (80071, 8, 13, 457),
  (80173, 8, 14, 458),
  (80068, 8, 15, 459),
  (80336, 8, 16, 460),
  (90003, 9, 0, 1172),
  (90007, 9, 1, 1173),
  (90028, 9, 2, 1174),
  (90031, 9, 3, 1175),
  (90034, 9, 4, 1176),
  (90038, 9, 5, 1177),
  (90182, 9, 6, 1178),
  (90041, 9, 7, 1179),
  (90263, 9, 8, 1180),
  (90266, 9, 9, 1181),
  (90237, 9, 10, 1182),
  (90045, 9, 11, 1183),
  (90048, 9, 12, 1184),
  (90179, 9, 13, 1185),
  (90051, 9, 14, 1186),
  (90054, 9, 15, 1187),
  (90057, 9, 16, 1188),
  (90060, 9, 17, 1189),
  (90188, 9, 18, 1190),
  (90208, 9, 19, 1191),
  (90217, 9, 20, 1192),
  (90201, 9, 21, 1193),
  (90294, 9, 22, 1194),
  (90291, 9, 23, 1195),
  (90304, 9, 24, 1196),
  (90324, 9, 25, 1197),
  (90063, 9, 26, 1198),
  (90333, 9, 27, 1199),
  (90336, 9, 28, 1200),
  (90066, 9, 29, 1201),
  (90069, 9, 30, 1202),
  (90072, 9, 31, 1203),
  (90075, 9, 32, 1204),
  (90078, 9, 33, 1205),
  (90081, 9, 34, 1206),
  (90011, 9, 35, 1207),
  (90084, 9, 36, 1208),
  (90087, 9, 37, 1209),
  (90090, 9, 38, 1210),
  (90093, 9, 39, 1211),
  (90097, 9, 40, 1212),
  (90455, 9, 41, 1213),
  (90473, 9, 42, 1214),
  (90467, 9, 43, 1215),
  (90470, 9, 44, 1216),
  (90476, 9, 45, 1217),
  (90100, 9, 46, 1218),
  (90103, 9, 47, 1219),
  (90106, 9, 48, 1220),
  (90494, 9, 49, 1221)]
/-- method links: (class, entry), the method (9999: none of the table), kind (0 virtual, 1 static, 2 constructor, 3 a nest mate's static, 4 Object(), 5 arraycopy, 6 max, 7 min), the word's place -/
def am_ml : List (Nat × Nat × Nat × Nat) := [
  (100009, 0, 2, 147),
  (80001, 9999, 4, 150),
  (80009, 1, 2, 155),
  (3, 9999, 4, 158),
  (80028, 2, 2, 230),
  (10003, 9999, 4, 233),
  (80038, 3, 2, 244),
  (50003, 9999, 4, 247),
  (80045, 4, 2, 262),
  (20003, 9999, 4, 265),
  (20011, 5, 2, 268),
  (70003, 9999, 4, 271),
  (20020, 6, 2, 291),
  (60003, 9999, 4, 294),
  (60024, 9999, 6, 295),
  (80056, 7, 2, 378),
  (40003, 9999, 4, 381),
  (40041, 8, 2, 384),
  (30003, 9999, 4, 387),
  (100013, 9, 0, 496),
  (80075, 10, 1, 500),
  (80079, 11, 0, 503),
  (80086, 12, 0, 507),
  (80089, 13, 0, 511),
  (80093, 14, 0, 515),
  (100018, 15, 0, 519),
  (80096, 16, 0, 523),
  (80109, 17, 1, 527),
  (80112, 18, 1, 530),
  (100022, 19, 0, 533),
  (80118, 20, 0, 537),
  (80321, 21, 0, 541),
  (80339, 22, 0, 545),
  (40050, 18, 3, 549),
  (40060, 9999, 7, 550),
  (40089, 17, 3, 553),
  (40092, 23, 1, 554),
  (40098, 24, 0, 560),
  (40110, 25, 0, 564),
  (30032, 9999, 7, 568),
  (30038, 26, 1, 569),
  (30042, 9999, 6, 572),
  (30045, 27, 0, 573),
  (40120, 9999, 6, 579),
  (80134, 28, 0, 580),
  (100027, 29, 0, 584),
  (80140, 30, 0, 588),
  (40127, 28, 0, 592),
  (40130, 31, 0, 593),
  (80143, 31, 0, 597),
  (80146, 32, 0, 598),
  (80149, 33, 0, 602),
  (40133, 30, 0, 606),
  (40136, 32, 0, 607),
  (80152, 34, 0, 608),
  (80325, 35, 0, 612),
  (40046, 22, 0, 616),
  (80155, 36, 0, 617),
  (40156, 37, 0, 621),
  (40142, 38, 0, 625),
  (40139, 39, 1, 629),
  (100031, 40, 0, 632),
  (100035, 41, 0, 637),
  (80167, 42, 0, 641),
  (100040, 43, 0, 645),
  (100045, 44, 0, 649),
  (80170, 45, 0, 653),
  (80346, 46, 1, 657),
  (100050, 47, 0, 660),
  (100054, 48, 0, 664),
  (80179, 49, 0, 668),
  (20031, 50, 0, 672),
  (70030, 9999, 7, 676),
  (70039, 51, 1, 677),
  (70043, 52, 1, 680),
  (70060, 53, 1, 683),
  (70064, 54, 1, 714),
  (70068, 55, 0, 717),
  (130335, 56, 0, 721),
  (70074, 57, 0, 727),
  (130492, 58, 0, 731),
  (130495, 59, 1, 735),
  (140009, 60, 1, 738),
  (131059, 61, 1, 743),
  (130498, 62, 1, 746),
  (150067, 63, 1, 749),
  (150048, 64, 1, 752),
  (150414, 60, 1, 755),
  (150071, 65, 1, 756),
  (70047, 66, 0, 765),
  (70051, 67, 1, 769),
  (70054, 68, 1, 772),
  (70057, 9999, 6, 775),
  (20040, 69, 0, 776),
  (20053, 70, 0, 780),
  (20056, 71, 0, 784),
  (20066, 72, 0, 788),
  (20073, 73, 0, 792),
  (20069, 74, 0, 796),
  (20080, 75, 0, 800),
  (20094, 76, 0, 804),
  (20129, 77, 0, 808),
  (20132, 78, 0, 812),
  (20101, 79, 0, 816),
  (20135, 80, 1, 820),
  (20138, 81, 1, 823),
  (20141, 82, 0, 826),
  (20097, 83, 0, 830),
  (20084, 84, 0, 834),
  (20077, 85, 0, 838),
  (20111, 86, 0, 842),
  (20114, 87, 0, 846),
  (20120, 88, 0, 850),
  (20126, 89, 0, 854),
  (20117, 90, 0, 858),
  (20060, 91, 0, 862),
  (80192, 6, 2, 867),
  (80194, 92, 0, 868),
  (60046, 9999, 7, 872),
  (60049, 9999, 5, 873),
  (80198, 93, 0, 876),
  (100058, 94, 0, 881),
  (80202, 95, 0, 885),
  (58, 9999, 5, 889),
  (80205, 96, 0, 890),
  (10019, 9999, 5, 894),
  (80214, 97, 0, 895),
  (80359, 98, 0, 899),
  (80261, 23, 1, 903),
  (80369, 25, 0, 904),
  (80385, 99, 0, 905),
  (80227, 100, 0, 909),
  (80349, 101, 0, 913),
  (80233, 102, 0, 917),
  (80236, 103, 0, 921),
  (80240, 104, 0, 925),
  (80353, 105, 0, 929),
  (100062, 106, 0, 933),
  (100066, 107, 0, 937),
  (100070, 108, 0, 941),
  (80221, 109, 0, 945),
  (100074, 110, 0, 949),
  (80230, 111, 0, 953),
  (100078, 112, 0, 957),
  (100082, 113, 0, 961),
  (100086, 114, 0, 965),
  (100090, 115, 0, 969),
  (80245, 116, 0, 973),
  (100094, 117, 0, 977),
  (80249, 118, 1, 981),
  (80252, 119, 0, 984),
  (40145, 120, 0, 988),
  (100098, 121, 0, 992),
  (80255, 122, 0, 996),
  (40149, 119, 0, 1000),
  (100102, 123, 0, 1001),
  (80266, 124, 0, 1005),
  (40152, 125, 0, 1009),
  (100106, 126, 0, 1013),
  (80270, 127, 1, 1017),
  (80274, 128, 0, 1020),
  (80278, 129, 1, 1024),
  (80402, 130, 1, 1027),
  (100110, 131, 0, 1030),
  (80281, 132, 0, 1034),
  (80389, 133, 1, 1038),
  (100114, 134, 0, 1043),
  (100118, 135, 0, 1047),
  (80285, 136, 0, 1051),
  (80395, 137, 0, 1055),
  (100122, 138, 0, 1059),
  (100126, 139, 0, 1063),
  (80288, 140, 0, 1067),
  (40159, 36, 0, 1071),
  (40162, 141, 1, 1072),
  (100130, 142, 0, 1075),
  (80291, 38, 0, 1079),
  (80294, 143, 0, 1080),
  (80297, 144, 0, 1084),
  (100134, 145, 0, 1088),
  (100138, 146, 0, 1092),
  (100142, 147, 0, 1096),
  (80309, 148, 0, 1100),
  (80399, 120, 0, 1104),
  (100146, 149, 0, 1105),
  (80312, 150, 0, 1109),
  (100150, 151, 0, 1113),
  (100155, 152, 0, 1120),
  (100159, 153, 0, 1124),
  (80333, 154, 0, 1129),
  (80406, 155, 0, 1133),
  (80409, 156, 0, 1140),
  (64, 16, 0, 1144),
  (68, 18, 3, 1145),
  (100163, 157, 0, 1146),
  (100167, 158, 0, 1150),
  (100171, 159, 0, 1154),
  (100175, 160, 0, 1158),
  (100179, 161, 0, 1162),
  (100012, 162, 2, 1168),
  (90022, 9999, 4, 1171),
  (100170, 163, 0, 1324),
  (90018, 164, 1, 1328),
  (90109, 165, 0, 1331),
  (90014, 166, 0, 1335),
  (100174, 167, 0, 1339),
  (90112, 168, 0, 1343),
  (100017, 169, 0, 1347),
  (90123, 170, 1, 1351),
  (90115, 171, 0, 1354),
  (90126, 172, 0, 1358),
  (100021, 173, 0, 1362),
  (90130, 174, 0, 1366),
  (90134, 175, 0, 1370),
  (100026, 176, 0, 1374),
  (90137, 177, 1, 1378),
  (90140, 178, 0, 1381),
  (90359, 179, 0, 1385),
  (90354, 180, 0, 1389),
  (90149, 181, 0, 1393),
  (90119, 182, 1, 1397),
  (90330, 183, 0, 1400),
  (90297, 184, 0, 1404),
  (90321, 185, 0, 1408),
  (90307, 186, 0, 1412),
  (90315, 187, 0, 1416),
  (90253, 188, 1, 1420),
  (90318, 189, 0, 1423),
  (90327, 190, 0, 1427),
  (90339, 191, 1, 1431),
  (90311, 192, 0, 1434),
  (90351, 193, 0, 1440),
  (90342, 194, 0, 1444),
  (90345, 195, 0, 1448),
  (90348, 196, 0, 1452),
  (90143, 197, 0, 1457),
  (90146, 198, 0, 1461),
  (100030, 199, 0, 1465),
  (90152, 200, 0, 1469),
  (90155, 201, 0, 1473),
  (90366, 202, 0, 1477),
  (90158, 203, 0, 1481),
  (90363, 204, 0, 1485),
  (90161, 205, 0, 1489),
  (90164, 206, 0, 1493),
  (90167, 207, 0, 1497),
  (90419, 208, 0, 1501),
  (90416, 209, 0, 1505),
  (100034, 210, 0, 1509),
  (90170, 211, 1, 1513),
  (90173, 212, 1, 1516),
  (100049, 213, 0, 1519),
  (90185, 214, 0, 1523),
  (90176, 215, 1, 1527),
  (100053, 216, 0, 1530),
  (100039, 217, 0, 1534),
  (100044, 218, 0, 1538),
  (100057, 219, 0, 1542),
  (90281, 220, 0, 1546),
  (90278, 221, 0, 1550),
  (90272, 222, 0, 1554),
  (90191, 223, 1, 1558),
  (90194, 224, 1, 1561),
  (90197, 225, 0, 1564),
  (90275, 226, 0, 1569),
  (90241, 227, 0, 1573),
  (90211, 228, 0, 1577),
  (90204, 229, 0, 1581),
  (90220, 230, 0, 1585),
  (90257, 231, 0, 1589),
  (90260, 232, 0, 1593),
  (90214, 233, 0, 1597),
  (90224, 234, 0, 1601),
  (90269, 235, 0, 1605),
  (90233, 236, 0, 1609),
  (90230, 237, 0, 1613),
  (90227, 238, 0, 1617),
  (90247, 239, 0, 1621),
  (90250, 240, 0, 1625),
  (90244, 241, 0, 1629),
  (90285, 242, 0, 1633),
  (100065, 243, 0, 1637),
  (100073, 244, 0, 1641),
  (90288, 245, 0, 1645),
  (100093, 246, 0, 1649),
  (100077, 247, 0, 1653),
  (90378, 248, 0, 1657),
  (90369, 249, 0, 1661),
  (90372, 250, 0, 1665),
  (90381, 251, 0, 1669),
  (100081, 252, 0, 1673),
  (90384, 253, 0, 1677),
  (100085, 254, 0, 1681),
  (90387, 255, 0, 1685),
  (100089, 256, 0, 1689),
  (90391, 257, 0, 1693),
  (90375, 258, 0, 1697),
  (100097, 259, 0, 1701),
  (90394, 260, 0, 1705),
  (100101, 261, 0, 1709),
  (90397, 262, 0, 1713),
  (90400, 263, 0, 1717),
  (100105, 264, 0, 1721),
  (100109, 265, 0, 1725),
  (90403, 266, 0, 1729),
  (90406, 267, 0, 1733),
  (100113, 268, 0, 1737),
  (90412, 269, 0, 1741),
  (90409, 270, 1, 1745),
  (100117, 271, 0, 1748),
  (100121, 272, 0, 1752),
  (100125, 273, 0, 1756),
  (100129, 274, 0, 1760),
  (90425, 275, 0, 1764),
  (90422, 276, 0, 1768),
  (100158, 277, 0, 1772),
  (100133, 278, 0, 1776),
  (90428, 279, 0, 1780),
  (100137, 280, 0, 1784),
  (100141, 281, 0, 1788),
  (100145, 282, 0, 1792),
  (90434, 283, 0, 1796),
  (90431, 284, 0, 1800),
  (100149, 285, 0, 1804),
  (90440, 282, 0, 1808),
  (90443, 286, 0, 1809),
  (90437, 287, 1, 1813),
  (100154, 288, 0, 1816),
  (100069, 289, 0, 1823),
  (100061, 290, 0, 1827),
  (90452, 291, 0, 1831),
  (90458, 292, 0, 1835),
  (90485, 293, 0, 1839),
  (90464, 294, 0, 1843),
  (90489, 295, 0, 1847),
  (90481, 296, 1, 1851),
  (90461, 297, 0, 1855),
  (100162, 298, 0, 1859),
  (90504, 299, 0, 1863),
  (90501, 300, 0, 1867),
  (100166, 301, 0, 1874),
  (100178, 302, 0, 1878),
  (100182, 303, 0, 1882)]
/-- class links: (class, entry), the class, the word's place -/
def am_kl : List (Nat × Nat × Nat) := [(100007, 8, 145), (80007, 0, 153), (27, 6, 161), (80026, 1, 228), (80036, 5, 242), (80043, 2, 260), (20009, 7, 266), (20018, 6, 289), (80054, 4, 376), (40039, 3, 382), (80183, 6, 866), (100010, 9, 1166)]
def am_il : List (Nat × Int32 × Nat) := [(110265, 1431655765, 557), (110266, 858993459, 558), (110267, 252645135, 559), (80329, 1000000, 1128), (90200, 1000000, 1568)]
def am_jl : List (Nat × Int64 × Nat) := [(30049, 1000000000, 577), (30051, -1000000000, 578), (80315, -1, 1117), (80317, 1000000000000, 1118), (80319, 10, 1119), (80412, 1103, 1137), (80414, 12345, 1138), (80416, 1000003, 1139), (90300, 1000000000, 1438), (90302, -1000000000, 1439), (90357, 9, 1456), (90446, -1, 1820), (90448, 1000000000000, 1821), (90450, 10, 1822), (90479, 1000000, 1854), (90492, 1103, 1871), (90497, 12345, 1872), (90499, 1000003, 1873)]
/-- String constants: (class, entry), the text's number -/
def am_tl : List (Nat × Nat) := [(70078, 0), (70080, 1), (70082, 2), (70084, 3), (70086, 4), (70088, 5), (70090, 6), (70092, 7), (70094, 8), (70096, 9), (70098, 10), (70100, 11), (70102, 12), (70104, 13), (70106, 14), (70108, 15), (70110, 16), (70112, 17), (70114, 18), (70116, 19), (70118, 20), (70120, 21), (70122, 22), (70124, 23), (70126, 24), (70128, 25), (70130, 26), (70132, 27)]
/-- their entries and texts -/
def am_tx : List (Nat × String) := [(78, "speaks"), (80, "wants"), (82, "bars"), (84, "put"), (86, "go"), (88, "sway"), (90, "pass"), (92, "on"), (94, "to"), (96, "times"), (98, "if"), (100, "or"), (102, "and"), (104, "not"), (106, "member"), (108, "voice"), (110, "side"), (112, "bill"), (114, "want"), (116, "stands"), (118, "here"), (120, "day"), (122, "mood"), (124, "done"), (126, "latest"), (128, "standing"), (130, "for"), (132, "")]
def am_tb : List (List Int32) := [[115, 112, 101, 97, 107, 115], [119, 97, 110, 116, 115], [98, 97, 114, 115], [112, 117, 116], [103, 111], [115, 119, 97, 121], [112, 97, 115, 115], [111, 110], [116, 111], [116, 105, 109, 101, 115], [105, 102], [111, 114], [97, 110, 100], [110, 111, 116], [109, 101, 109, 98, 101, 114], [118, 111, 105, 99, 101], [115, 105, 100, 101], [98, 105, 108, 108], [119, 97, 110, 116], [115, 116, 97, 110, 100, 115], [104, 101, 114, 101], [100, 97, 121], [109, 111, 111, 100], [100, 111, 110, 101], [108, 97, 116, 101, 115, 116], [115, 116, 97, 110, 100, 105, 110, 103], [102, 111, 114], []]
/-- places of the words initialized, instantiable, arrayClass -/
def am_pin : List (Nat × Nat) := [(0, 129), (1, 130), (2, 132), (3, 137), (4, 136), (5, 131), (6, 134), (7, 133), (8, 128), (9, 138), (10, 127), (11, 139), (12, 135), (13, 140), (14, 141), (15, 143), (16, 142), (18, 144)]
def am_pis : List (Nat × Nat) := [(0, 154), (1, 229), (2, 261), (3, 383), (4, 377), (5, 243), (6, 290), (7, 267), (8, 146), (9, 1167)]
