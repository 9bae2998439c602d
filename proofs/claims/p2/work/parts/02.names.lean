/-! ===== BEGIN words of one list among another's, by their places ===== -/
theorem goodIn_r {big : List Cond} (ws : List Cond) (ps : List Nat) (hp : ws = ps.filterMap (fun i => big[i]?)) (h : ws.all goodWord = true) : GoodIn big ws := by
  intro w hw
  have h1 := List.all_eq_true.mp h w hw
  rw [hp] at hw
  obtain ⟨i, -, hi⟩ := List.mem_filterMap.mp hw
  have hm : w ∈ big := by first | exact List.mem_of_getElem? hi | exact List.getElem?_mem hi
  exact ⟨hm, good_of_word h1⟩
theorem goodIn_app {big a b : List Cond} (ha : GoodIn big a) (hb : GoodIn big b) : GoodIn big (a ++ b) := fun w h => (List.mem_append.mp h).elim (ha w) (hb w)
theorem goodIn_ca {big a b : List Cond} {c : Cond} (ha : GoodIn big (c :: a)) (hb : GoodIn big b) : GoodIn big (c :: (a ++ b)) := fun w h => (List.mem_cons.mp h).elim (fun e => ha w (List.mem_cons.mpr (Or.inl e))) (fun h => (List.mem_append.mp h).elim (fun h => ha w (List.mem_cons.mpr (Or.inr h))) (hb w))
theorem goodIn_sub {big ws : List Cond} (hm : ∀ w ∈ ws, w ∈ big) (h : ws.all goodWord = true) : GoodIn big ws := fun w hw => ⟨hm w hw, good_of_word (List.all_eq_true.mp h w hw)⟩
/-! ===== END ===== -/

/-! ===== BEGIN printed: names, fields, word lists, decode rows ===== -/
def RX0 : String := "SchemaReader$Defaults"
def TX0 : u_T := fun k => match k with
  | _ => ("", "", "", false)
def tyX0 : Nat → FieldType := fun k => match k with
  | _ => .int
abbrev wsX00 : List Cond := u_ws RX0 TX0 0
theorem nmX0 : ∀ a, a < 0 → ∀ b, b < 0 → a ≠ b → (TX0 a).2.1 ≠ (TX0 b).2.1 := by decide +kernel
theorem tyX0_ok : ∀ k, k < 0 → parseFieldDescriptor (TX0 k).2.2.1 = some (tyX0 k) := by decide +kernel
def RX1 : String := "SchemaReader$Fault"
def TX1 : u_T := fun k => match k with
  | _ => ("", "", "", false)
def tyX1 : Nat → FieldType := fun k => match k with
  | _ => .int
abbrev wsX10 : List Cond := u_ws RX1 TX1 0
theorem nmX1 : ∀ a, a < 0 → ∀ b, b < 0 → a ≠ b → (TX1 a).2.1 ≠ (TX1 b).2.1 := by decide +kernel
theorem tyX1_ok : ∀ k, k < 0 → parseFieldDescriptor (TX1 k).2.2.1 = some (tyX1 k) := by decide +kernel
def RX2 : String := "SchemaReader$Keys"
def TX2 : u_T := fun k => match k with
  | 0 => ("SchemaReader$Keys", "heads", "[I", true)
  | 1 => ("SchemaReader$Keys", "places", "[I", true)
  | 2 => ("SchemaReader$Keys", "owners", "[I", true)
  | 3 => ("SchemaReader$Keys", "nexts", "[I", true)
  | _ => ("SchemaReader$Keys", "count", "I", false)
def tyX2 : Nat → FieldType := fun k => match k with
  | 0 => .array .int
  | 1 => .array .int
  | 2 => .array .int
  | 3 => .array .int
  | _ => .int
abbrev wsX20 : List Cond := u_ws RX2 TX2 5
theorem nmX2 : ∀ a, a < 5 → ∀ b, b < 5 → a ≠ b → (TX2 a).2.1 ≠ (TX2 b).2.1 := by decide +kernel
theorem tyX2_ok : ∀ k, k < 5 → parseFieldDescriptor (TX2 k).2.2.1 = some (tyX2 k) := by decide +kernel
abbrev cX2_init : ByteArray := prog_4_method_1_code
def yX2_init : MethodName := ⟨RX2, "<init>", "()V"⟩
abbrev cX2_clear : ByteArray := prog_4_method_2_code
def yX2_clear : MethodName := ⟨RX2, "clear", "()V"⟩
def RX3 : String := "SchemaReader$Kind"
def TX3 : u_T := fun k => match k with
  | _ => ("", "", "", false)
def tyX3 : Nat → FieldType := fun k => match k with
  | _ => .int
abbrev wsX30 : List Cond := u_ws RX3 TX3 0
theorem nmX3 : ∀ a, a < 0 → ∀ b, b < 0 → a ≠ b → (TX3 a).2.1 ≠ (TX3 b).2.1 := by decide +kernel
theorem tyX3_ok : ∀ k, k < 0 → parseFieldDescriptor (TX3 k).2.2.1 = some (tyX3 k) := by decide +kernel
def RX4 : String := "SchemaReader$Looker"
def TX4 : u_T := fun k => match k with
  | 0 => ("SchemaReader$Looker", "text", "LSchemaReader$Text;", true)
  | 1 => ("SchemaReader$Looker", "schema", "LSchemaReader$Schema;", true)
  | 2 => ("SchemaReader$Looker", "dueSlots", "[I", true)
  | 3 => ("SchemaReader$Looker", "dueValues", "[I", true)
  | 4 => ("SchemaReader$Looker", "dueCount", "I", false)
  | 5 => ("SchemaReader$Looker", "fault", "I", false)
  | _ => ("SchemaReader$Looker", "faultPlace", "I", false)
def tyX4 : Nat → FieldType := fun k => match k with
  | 0 => .object "SchemaReader$Text"
  | 1 => .object "SchemaReader$Schema"
  | 2 => .array .int
  | 3 => .array .int
  | 4 => .int
  | 5 => .int
  | _ => .int
abbrev wsX40 : List Cond := u_ws RX4 TX4 7
theorem nmX4 : ∀ a, a < 7 → ∀ b, b < 7 → a ≠ b → (TX4 a).2.1 ≠ (TX4 b).2.1 := by decide +kernel
theorem tyX4_ok : ∀ k, k < 7 → parseFieldDescriptor (TX4 k).2.2.1 = some (tyX4 k) := by decide +kernel
abbrev cX4_init : ByteArray := prog_6_method_1_code
def yX4_init : MethodName := ⟨RX4, "<init>", "(LSchemaReader$Text;LSchemaReader$Schema;)V"⟩
abbrev cX4_read : ByteArray := prog_6_method_3_code
def yX4_read : MethodName := ⟨RX4, "read", "()I"⟩
def RX5 : String := "SchemaReader$Pair"
def TX5 : u_T := fun k => match k with
  | _ => ("", "", "", false)
def tyX5 : Nat → FieldType := fun k => match k with
  | _ => .int
abbrev wsX50 : List Cond := u_ws RX5 TX5 0
theorem nmX5 : ∀ a, a < 0 → ∀ b, b < 0 → a ≠ b → (TX5 a).2.1 ≠ (TX5 b).2.1 := by decide +kernel
theorem tyX5_ok : ∀ k, k < 0 → parseFieldDescriptor (TX5 k).2.2.1 = some (tyX5 k) := by decide +kernel
def RX6 : String := "SchemaReader$Schema"
def TX6 : u_T := fun k => match k with
  | 0 => ("SchemaReader$Schema", "plain", "[B", true)
  | 1 => ("SchemaReader$Schema", "kinds", "[I", true)
  | 2 => ("SchemaReader$Schema", "meant", "[I", true)
  | 3 => ("SchemaReader$Schema", "firsts", "[I", true)
  | 4 => ("SchemaReader$Schema", "nexts", "[I", true)
  | 5 => ("SchemaReader$Schema", "names", "[I", true)
  | 6 => ("SchemaReader$Schema", "fieldNames", "[I", true)
  | 7 => ("SchemaReader$Schema", "amounts", "[I", true)
  | 8 => ("SchemaReader$Schema", "fieldDefaults", "[Z", true)
  | 9 => ("SchemaReader$Schema", "enumDefaults", "[Z", true)
  | 10 => ("SchemaReader$Schema", "letterCount", "I", false)
  | _ => ("SchemaReader$Schema", "slotCount", "I", false)
def tyX6 : Nat → FieldType := fun k => match k with
  | 0 => .array .byte
  | 1 => .array .int
  | 2 => .array .int
  | 3 => .array .int
  | 4 => .array .int
  | 5 => .array .int
  | 6 => .array .int
  | 7 => .array .int
  | 8 => .array .boolean
  | 9 => .array .boolean
  | 10 => .int
  | _ => .int
abbrev wsX60 : List Cond := u_ws RX6 TX6 12
theorem nmX6 : ∀ a, a < 12 → ∀ b, b < 12 → a ≠ b → (TX6 a).2.1 ≠ (TX6 b).2.1 := by decide +kernel
theorem tyX6_ok : ∀ k, k < 12 → parseFieldDescriptor (TX6 k).2.2.1 = some (tyX6 k) := by decide +kernel
abbrev cX6_init : ByteArray := prog_8_method_1_code
def yX6_init : MethodName := ⟨RX6, "<init>", "()V"⟩
abbrev cX6_clear : ByteArray := prog_8_method_2_code
def yX6_clear : MethodName := ⟨RX6, "clear", "()V"⟩
def RX7 : String := "SchemaReader$Text"
def TX7 : u_T := fun k => match k with
  | 0 => ("SchemaReader$Text", "tape", "[B", true)
  | 1 => ("SchemaReader$Text", "said", "[B", true)
  | 2 => ("SchemaReader$Text", "inner", "[I", true)
  | 3 => ("SchemaReader$Text", "next", "[I", true)
  | 4 => ("SchemaReader$Text", "amount", "[I", true)
  | 5 => ("SchemaReader$Text", "keys", "LSchemaReader$Keys;", true)
  | 6 => ("SchemaReader$Text", "length", "I", false)
  | _ => ("SchemaReader$Text", "wrongPlace", "I", false)
def tyX7 : Nat → FieldType := fun k => match k with
  | 0 => .array .byte
  | 1 => .array .byte
  | 2 => .array .int
  | 3 => .array .int
  | 4 => .array .int
  | 5 => .object "SchemaReader$Keys"
  | 6 => .int
  | _ => .int
abbrev wsX70 : List Cond := u_ws RX7 TX7 8
theorem nmX7 : ∀ a, a < 8 → ∀ b, b < 8 → a ≠ b → (TX7 a).2.1 ≠ (TX7 b).2.1 := by decide +kernel
theorem tyX7_ok : ∀ k, k < 8 → parseFieldDescriptor (TX7 k).2.2.1 = some (tyX7 k) := by decide +kernel
abbrev cX7_init : ByteArray := prog_9_method_1_code
def yX7_init : MethodName := ⟨RX7, "<init>", "()V"⟩
abbrev cX7_byteAt : ByteArray := prog_9_method_6_code
def yX7_byteAt : MethodName := ⟨RX7, "byteAt", "(I)I"⟩
abbrev cX7_isObject : ByteArray := prog_9_method_9_code
def yX7_isObject : MethodName := ⟨RX7, "isObject", "(I)Z"⟩
abbrev cX7_read : ByteArray := prog_9_method_21_code
def yX7_read : MethodName := ⟨RX7, "read", "()I"⟩
abbrev cX7_refuse : ByteArray := prog_9_method_22_code
def yX7_refuse : MethodName := ⟨RX7, "refuse", "(I)I"⟩
abbrev cX7_behindBlanks : ByteArray := prog_9_method_23_code
def yX7_behindBlanks : MethodName := ⟨RX7, "behindBlanks", "(I)I"⟩
abbrev cX7_isBlank : ByteArray := prog_9_method_24_code
def yX7_isBlank : MethodName := ⟨RX7, "isBlank", "(I)Z"⟩
abbrev cX7_readValue : ByteArray := prog_9_method_25_code
def yX7_readValue : MethodName := ⟨RX7, "readValue", "(II)I"⟩
abbrev cX7_readGroup : ByteArray := prog_9_method_26_code
def yX7_readGroup : MethodName := ⟨RX7, "readGroup", "(II)I"⟩
def RX8 : String := "SchemaReader"
def TX8 : u_T := fun k => match k with
  | 0 => ("SchemaReader", "text", "LSchemaReader$Text;", true)
  | 1 => ("SchemaReader", "kept", "[LSchemaReader$Schema;", true)
  | 2 => ("SchemaReader", "printSteps", "[J", true)
  | 3 => ("SchemaReader", "latest", "LSchemaReader$Schema;", false)
  | 4 => ("SchemaReader", "hasLatest", "Z", false)
  | 5 => ("SchemaReader", "faultPlace", "I", false)
  | _ => ("SchemaReader", "keptCount", "I", false)
def tyX8 : Nat → FieldType := fun k => match k with
  | 0 => .object "SchemaReader$Text"
  | 1 => .array (.object "SchemaReader$Schema")
  | 2 => .array .long
  | 3 => .object "SchemaReader$Schema"
  | 4 => .boolean
  | 5 => .int
  | _ => .int
abbrev wsX80 : List Cond := u_ws RX8 TX8 7
theorem nmX8 : ∀ a, a < 7 → ∀ b, b < 7 → a ≠ b → (TX8 a).2.1 ≠ (TX8 b).2.1 := by decide +kernel
theorem tyX8_ok : ∀ k, k < 7 → parseFieldDescriptor (TX8 k).2.2.1 = some (tyX8 k) := by decide +kernel
abbrev cX8_init : ByteArray := prog_1_method_1_code
def yX8_init : MethodName := ⟨RX8, "<init>", "()V"⟩
abbrev cX8_schema : ByteArray := prog_1_method_4_code
def yX8_schema : MethodName := ⟨RX8, "schema", "()I"⟩
abbrev cX8_printStep : ByteArray := prog_1_method_14_code
def yX8_printStep : MethodName := ⟨RX8, "printStep", "(I)J"⟩
def RX9 : String := "SchemaReaderModel$Text"
def TX9 : u_T := fun k => match k with
  | _ => ("", "", "", false)
def tyX9 : Nat → FieldType := fun k => match k with
  | _ => .int
abbrev wsX90 : List Cond := u_ws RX9 TX9 0
theorem nmX9 : ∀ a, a < 0 → ∀ b, b < 0 → a ≠ b → (TX9 a).2.1 ≠ (TX9 b).2.1 := by decide +kernel
theorem tyX9_ok : ∀ k, k < 0 → parseFieldDescriptor (TX9 k).2.2.1 = some (tyX9 k) := by decide +kernel
def RX10 : String := "SchemaReaderModel"
def TX10 : u_T := fun k => match k with
  | _ => ("", "", "", false)
def tyX10 : Nat → FieldType := fun k => match k with
  | _ => .int
abbrev wsX100 : List Cond := u_ws RX10 TX10 0
theorem nmX10 : ∀ a, a < 0 → ∀ b, b < 0 → a ≠ b → (TX10 a).2.1 ≠ (TX10 b).2.1 := by decide +kernel
theorem tyX10_ok : ∀ k, k < 0 → parseFieldDescriptor (TX10 k).2.2.1 = some (tyX10 k) := by decide +kernel
def RJ11 : String := "java/lang/Character"
def TJ11 : u_T := fun k => match k with
  | _ => ("", "", "", false)
def tyJ11 : Nat → FieldType := fun k => match k with
  | _ => .int
abbrev wsJ110 : List Cond := u_ws RJ11 TJ11 0
theorem nmJ11 : ∀ a, a < 0 → ∀ b, b < 0 → a ≠ b → (TJ11 a).2.1 ≠ (TJ11 b).2.1 := by decide +kernel
theorem tyJ11_ok : ∀ k, k < 0 → parseFieldDescriptor (TJ11 k).2.2.1 = some (tyJ11 k) := by decide +kernel
def RJ9 : String := "java/lang/Math"
def TJ9 : u_T := fun k => match k with
  | _ => ("", "", "", false)
def tyJ9 : Nat → FieldType := fun k => match k with
  | _ => .int
abbrev wsJ90 : List Cond := u_ws RJ9 TJ9 0
theorem nmJ9 : ∀ a, a < 0 → ∀ b, b < 0 → a ≠ b → (TJ9 a).2.1 ≠ (TJ9 b).2.1 := by decide +kernel
theorem tyJ9_ok : ∀ k, k < 0 → parseFieldDescriptor (TJ9 k).2.2.1 = some (tyJ9 k) := by decide +kernel
def RJ0 : String := "java/lang/String"
def TJ0 : u_T := fun k => match k with
  | _ => ("", "", "", false)
def tyJ0 : Nat → FieldType := fun k => match k with
  | _ => .int
abbrev wsJ00 : List Cond := u_ws RJ0 TJ0 0
theorem nmJ0 : ∀ a, a < 0 → ∀ b, b < 0 → a ≠ b → (TJ0 a).2.1 ≠ (TJ0 b).2.1 := by decide +kernel
theorem tyJ0_ok : ∀ k, k < 0 → parseFieldDescriptor (TJ0 k).2.2.1 = some (tyJ0 k) := by decide +kernel
def RJ1 : String := "java/lang/StringLatin1"
def TJ1 : u_T := fun k => match k with
  | _ => ("", "", "", false)
def tyJ1 : Nat → FieldType := fun k => match k with
  | _ => .int
abbrev wsJ10 : List Cond := u_ws RJ1 TJ1 0
theorem nmJ1 : ∀ a, a < 0 → ∀ b, b < 0 → a ≠ b → (TJ1 a).2.1 ≠ (TJ1 b).2.1 := by decide +kernel
theorem tyJ1_ok : ∀ k, k < 0 → parseFieldDescriptor (TJ1 k).2.2.1 = some (tyJ1 k) := by decide +kernel
def RJ2 : String := "java/lang/StringUTF16"
def TJ2 : u_T := fun k => match k with
  | _ => ("", "", "", false)
def tyJ2 : Nat → FieldType := fun k => match k with
  | _ => .int
abbrev wsJ20 : List Cond := u_ws RJ2 TJ2 0
theorem nmJ2 : ∀ a, a < 0 → ∀ b, b < 0 → a ≠ b → (TJ2 a).2.1 ≠ (TJ2 b).2.1 := by decide +kernel
theorem tyJ2_ok : ∀ k, k < 0 → parseFieldDescriptor (TJ2 k).2.2.1 = some (tyJ2 k) := by decide +kernel
def RJ7 : String := "java/util/Arrays"
def TJ7 : u_T := fun k => match k with
  | _ => ("", "", "", false)
def tyJ7 : Nat → FieldType := fun k => match k with
  | _ => .int
abbrev wsJ70 : List Cond := u_ws RJ7 TJ7 0
theorem nmJ7 : ∀ a, a < 0 → ∀ b, b < 0 → a ≠ b → (TJ7 a).2.1 ≠ (TJ7 b).2.1 := by decide +kernel
theorem tyJ7_ok : ∀ k, k < 0 → parseFieldDescriptor (TJ7 k).2.2.1 = some (tyJ7 k) := by decide +kernel
abbrev cJ7_fill_53178 : ByteArray := prog_24_method_103_code
def yJ7_fill_53178 : MethodName := ⟨RJ7, "fill", "([II)V"⟩
def RJ3 : String := "jdk/internal/util/Preconditions"
def TJ3 : u_T := fun k => match k with
  | _ => ("", "", "", false)
def tyJ3 : Nat → FieldType := fun k => match k with
  | _ => .int
abbrev wsJ30 : List Cond := u_ws RJ3 TJ3 0
theorem nmJ3 : ∀ a, a < 0 → ∀ b, b < 0 → a ≠ b → (TJ3 a).2.1 ≠ (TJ3 b).2.1 := by decide +kernel
theorem tyJ3_ok : ∀ k, k < 0 → parseFieldDescriptor (TJ3 k).2.2.1 = some (tyJ3 k) := by decide +kernel
def RL : String := "SchemaReaderLaw"
abbrev cL_law : ByteArray := code
def yL_law : MethodName := ⟨RL, "law", "([I)Z"⟩
def wsX2_init : List Cond := .code yX2_init cX2_init 1 none :: ([.methodLink RX2 3 objectInit, .instanceMethod objectInit, .code objectInit ⟨#[0xb1]⟩ 1 none, .arrayClass .int, .fieldLink RX2 11 "SchemaReader$Keys" "heads" "[I", .fieldLink RX2 15 "SchemaReader$Keys" "places" "[I", .fieldLink RX2 18 "SchemaReader$Keys" "owners" "[I", .fieldLink RX2 21 "SchemaReader$Keys" "nexts" "[I", .fieldLink RX2 24 "SchemaReader$Keys" "count" "I"] ++ wsX20)
def wsJ7_fill_53178 : List Cond := .code yJ7_fill_53178 cJ7_fill_53178 4 none :: ([])
def wsX2_clear : List Cond := .code yX2_clear cX2_clear 1 none :: ([.fieldLink RX2 11 "SchemaReader$Keys" "heads" "[I", .fieldLink RX2 24 "SchemaReader$Keys" "count" "I", .methodLink RX2 28 yJ7_fill_53178, .static yJ7_fill_53178, .initialized RJ7, .code yJ7_fill_53178 cJ7_fill_53178 4 none] ++ wsX20)
def wsX4_init : List Cond := .code yX4_init cX4_init 3 none :: ([.methodLink RX4 3 objectInit, .instanceMethod objectInit, .code objectInit ⟨#[0xb1]⟩ 1 none, .arrayClass .int, .fieldLink RX4 11 "SchemaReader$Looker" "dueSlots" "[I", .fieldLink RX4 17 "SchemaReader$Looker" "dueValues" "[I", .fieldLink RX4 20 "SchemaReader$Looker" "dueCount" "I", .fieldLink RX4 24 "SchemaReader$Looker" "fault" "I", .fieldLink RX4 27 "SchemaReader$Looker" "faultPlace" "I", .fieldLink RX4 30 "SchemaReader$Looker" "text" "LSchemaReader$Text;", .fieldLink RX4 34 "SchemaReader$Looker" "schema" "LSchemaReader$Schema;"] ++ wsX40)
def wsX6_clear : List Cond := .code yX6_clear cX6_clear 1 none :: ([.fieldLink RX6 44 "SchemaReader$Schema" "letterCount" "I", .fieldLink RX6 48 "SchemaReader$Schema" "slotCount" "I"] ++ wsX60)
def wsX7_byteAt : List Cond := .code yX7_byteAt cX7_byteAt 2 (some .int) :: ([.fieldLink RX7 35 "SchemaReader$Text" "length" "I", .fieldLink RX7 9 "SchemaReader$Text" "tape" "[B"] ++ wsX70)
def wsX7_isBlank : List Cond := .code yX7_isBlank cX7_isBlank 1 (some .boolean) :: ([])
def wsX7_behindBlanks : List Cond := .code yX7_behindBlanks cX7_behindBlanks 3 (some .int) :: ([.fieldLink RX7 35 "SchemaReader$Text" "length" "I", .methodLink RX7 42 yX7_byteAt, .instanceMethod yX7_byteAt, .selects RX7 yX7_byteAt yX7_byteAt, .initialized RX7, .code yX7_byteAt cX7_byteAt 2 (some .int), .fieldLink RX7 9 "SchemaReader$Text" "tape" "[B", .methodLink RX7 97 yX7_isBlank, .static yX7_isBlank, .code yX7_isBlank cX7_isBlank 1 (some .boolean)] ++ wsX70)
def wsX7_refuse : List Cond := .code yX7_refuse cX7_refuse 2 (some .int) :: ([.fieldLink RX7 39 "SchemaReader$Text" "wrongPlace" "I"] ++ wsX70)
def wsX7_isObject : List Cond := .code yX7_isObject cX7_isObject 2 (some .boolean) :: ([.methodLink RX7 42 yX7_byteAt, .instanceMethod yX7_byteAt, .selects RX7 yX7_byteAt yX7_byteAt, .initialized RX7, .code yX7_byteAt cX7_byteAt 2 (some .int), .fieldLink RX7 35 "SchemaReader$Text" "length" "I", .fieldLink RX7 9 "SchemaReader$Text" "tape" "[B"] ++ wsX70)
def wsX7_readGroup_r1 : List Cond := [Cond.fieldLink RX7 25 "SchemaReader$Text" "amount" "[I", Cond.fieldLink RX7 18 "SchemaReader$Text" "inner" "[I", Cond.fieldLink RX7 35 "SchemaReader$Text" "length" "I", Cond.methodLink RX7 94 yX7_refuse, Cond.instanceMethod yX7_refuse, Cond.selects RX7 yX7_refuse yX7_refuse, Cond.initialized RX7, Cond.code yX7_refuse cX7_refuse 2 (some .int), Cond.fieldLink RX7 39 "SchemaReader$Text" "wrongPlace" "I", Cond.methodLink RX7 122 yX7_isObject, Cond.instanceMethod yX7_isObject, Cond.selects RX7 yX7_isObject yX7_isObject, Cond.code yX7_isObject cX7_isObject 2 (some .boolean), Cond.methodLink RX7 42 yX7_byteAt, Cond.instanceMethod yX7_byteAt, Cond.selects RX7 yX7_byteAt yX7_byteAt, Cond.code yX7_byteAt cX7_byteAt 2 (some .int), Cond.fieldLink RX7 9 "SchemaReader$Text" "tape" "[B", Cond.methodLink RX7 87 yX7_behindBlanks, Cond.instanceMethod yX7_behindBlanks, Cond.selects RX7 yX7_behindBlanks yX7_behindBlanks, Cond.code yX7_behindBlanks cX7_behindBlanks 3 (some .int), Cond.methodLink RX7 97 yX7_isBlank, Cond.static yX7_isBlank]
def wsX7_readGroup_r2 : List Cond := [Cond.code yX7_isBlank cX7_isBlank 1 (some .boolean), Cond.methodLink RX7 90 yX7_readValue, Cond.instanceMethod yX7_readValue, Cond.selects RX7 yX7_readValue yX7_readValue, Cond.code yX7_readValue cX7_readValue 3 (some .int), Cond.methodLink RX7 100 yX7_readGroup, Cond.instanceMethod yX7_readGroup, Cond.selects RX7 yX7_readGroup yX7_readGroup]
def wsX7_readGroup : List Cond := .code yX7_readGroup cX7_readGroup 10 (some .int) :: ((wsX7_readGroup_r1 ++ wsX7_readGroup_r2) ++ wsX70)
def wsX7_readValue_r1 : List Cond := [Cond.methodLink RX7 42 yX7_byteAt, Cond.instanceMethod yX7_byteAt, Cond.selects RX7 yX7_byteAt yX7_byteAt, Cond.initialized RX7, Cond.code yX7_byteAt cX7_byteAt 2 (some .int), Cond.fieldLink RX7 35 "SchemaReader$Text" "length" "I", Cond.fieldLink RX7 9 "SchemaReader$Text" "tape" "[B", Cond.methodLink RX7 100 yX7_readGroup, Cond.instanceMethod yX7_readGroup, Cond.selects RX7 yX7_readGroup yX7_readGroup, Cond.methodLink RX7 94 yX7_refuse, Cond.instanceMethod yX7_refuse, Cond.selects RX7 yX7_refuse yX7_refuse, Cond.code yX7_refuse cX7_refuse 2 (some .int), Cond.fieldLink RX7 39 "SchemaReader$Text" "wrongPlace" "I", Cond.code yX7_readGroup cX7_readGroup 10 (some .int), Cond.fieldLink RX7 25 "SchemaReader$Text" "amount" "[I", Cond.fieldLink RX7 18 "SchemaReader$Text" "inner" "[I", Cond.methodLink RX7 122 yX7_isObject, Cond.instanceMethod yX7_isObject, Cond.selects RX7 yX7_isObject yX7_isObject, Cond.code yX7_isObject cX7_isObject 2 (some .boolean), Cond.methodLink RX7 87 yX7_behindBlanks, Cond.instanceMethod yX7_behindBlanks]
def wsX7_readValue_r2 : List Cond := [Cond.selects RX7 yX7_behindBlanks yX7_behindBlanks, Cond.code yX7_behindBlanks cX7_behindBlanks 3 (some .int), Cond.methodLink RX7 97 yX7_isBlank, Cond.static yX7_isBlank, Cond.code yX7_isBlank cX7_isBlank 1 (some .boolean), Cond.methodLink RX7 90 yX7_readValue, Cond.instanceMethod yX7_readValue, Cond.selects RX7 yX7_readValue yX7_readValue]
def wsX7_readValue : List Cond := .code yX7_readValue cX7_readValue 3 (some .int) :: ((wsX7_readValue_r1 ++ wsX7_readValue_r2) ++ wsX70)
def wsX7_read_r1 : List Cond := [Cond.fieldLink RX7 31 "SchemaReader$Text" "keys" "LSchemaReader$Keys;", Cond.fieldLink RX7 39 "SchemaReader$Text" "wrongPlace" "I", Cond.fieldLink RX7 35 "SchemaReader$Text" "length" "I", Cond.methodLink RX7 84 yX2_clear, Cond.instanceMethod yX2_clear, Cond.selects RX2 yX2_clear yX2_clear, Cond.initialized RX2, Cond.code yX2_clear cX2_clear 1 none, Cond.fieldLink RX2 11 "SchemaReader$Keys" "heads" "[I", Cond.fieldLink RX2 24 "SchemaReader$Keys" "count" "I", Cond.methodLink RX2 28 yJ7_fill_53178, Cond.static yJ7_fill_53178, Cond.initialized RJ7, Cond.code yJ7_fill_53178 cJ7_fill_53178 4 none, Cond.methodLink RX7 87 yX7_behindBlanks, Cond.instanceMethod yX7_behindBlanks, Cond.selects RX7 yX7_behindBlanks yX7_behindBlanks, Cond.initialized RX7, Cond.code yX7_behindBlanks cX7_behindBlanks 3 (some .int), Cond.methodLink RX7 42 yX7_byteAt, Cond.instanceMethod yX7_byteAt, Cond.selects RX7 yX7_byteAt yX7_byteAt, Cond.code yX7_byteAt cX7_byteAt 2 (some .int), Cond.fieldLink RX7 9 "SchemaReader$Text" "tape" "[B"]
def wsX7_read_r2 : List Cond := [Cond.methodLink RX7 97 yX7_isBlank, Cond.static yX7_isBlank, Cond.code yX7_isBlank cX7_isBlank 1 (some .boolean), Cond.methodLink RX7 90 yX7_readValue, Cond.instanceMethod yX7_readValue, Cond.selects RX7 yX7_readValue yX7_readValue, Cond.code yX7_readValue cX7_readValue 3 (some .int), Cond.methodLink RX7 100 yX7_readGroup, Cond.instanceMethod yX7_readGroup, Cond.selects RX7 yX7_readGroup yX7_readGroup, Cond.methodLink RX7 94 yX7_refuse, Cond.instanceMethod yX7_refuse, Cond.selects RX7 yX7_refuse yX7_refuse, Cond.code yX7_refuse cX7_refuse 2 (some .int), Cond.code yX7_readGroup cX7_readGroup 10 (some .int), Cond.fieldLink RX7 25 "SchemaReader$Text" "amount" "[I", Cond.fieldLink RX7 18 "SchemaReader$Text" "inner" "[I", Cond.methodLink RX7 122 yX7_isObject, Cond.instanceMethod yX7_isObject, Cond.selects RX7 yX7_isObject yX7_isObject, Cond.code yX7_isObject cX7_isObject 2 (some .boolean)]
def wsX7_read : List Cond := .code yX7_read cX7_read 3 (some .int) :: ((wsX7_read_r1 ++ wsX7_read_r2) ++ wsX70 ++ wsX20)
def wsX4_read_r1 : List Cond := [Cond.fieldLink RX4 34 "SchemaReader$Looker" "schema" "LSchemaReader$Schema;", Cond.fieldLink RX4 30 "SchemaReader$Looker" "text" "LSchemaReader$Text;", Cond.fieldLink RX4 24 "SchemaReader$Looker" "fault" "I", Cond.methodLink RX4 38 yX6_clear, Cond.instanceMethod yX6_clear, Cond.selects RX6 yX6_clear yX6_clear, Cond.initialized RX6, Cond.code yX6_clear cX6_clear 1 none, Cond.fieldLink RX6 44 "SchemaReader$Schema" "letterCount" "I", Cond.fieldLink RX6 48 "SchemaReader$Schema" "slotCount" "I", Cond.methodLink RX4 41 yX7_read, Cond.instanceMethod yX7_read, Cond.selects RX7 yX7_read yX7_read, Cond.initialized RX7, Cond.code yX7_read cX7_read 3 (some .int), Cond.fieldLink RX7 31 "SchemaReader$Text" "keys" "LSchemaReader$Keys;", Cond.fieldLink RX7 39 "SchemaReader$Text" "wrongPlace" "I", Cond.fieldLink RX7 35 "SchemaReader$Text" "length" "I", Cond.methodLink RX7 84 yX2_clear, Cond.instanceMethod yX2_clear, Cond.selects RX2 yX2_clear yX2_clear, Cond.initialized RX2, Cond.code yX2_clear cX2_clear 1 none, Cond.fieldLink RX2 11 "SchemaReader$Keys" "heads" "[I"]
def wsX4_read_r2 : List Cond := [Cond.fieldLink RX2 24 "SchemaReader$Keys" "count" "I", Cond.methodLink RX2 28 yJ7_fill_53178, Cond.static yJ7_fill_53178, Cond.initialized RJ7, Cond.code yJ7_fill_53178 cJ7_fill_53178 4 none, Cond.methodLink RX7 87 yX7_behindBlanks, Cond.instanceMethod yX7_behindBlanks, Cond.selects RX7 yX7_behindBlanks yX7_behindBlanks, Cond.code yX7_behindBlanks cX7_behindBlanks 3 (some .int), Cond.methodLink RX7 42 yX7_byteAt, Cond.instanceMethod yX7_byteAt, Cond.selects RX7 yX7_byteAt yX7_byteAt, Cond.code yX7_byteAt cX7_byteAt 2 (some .int), Cond.fieldLink RX7 9 "SchemaReader$Text" "tape" "[B", Cond.methodLink RX7 97 yX7_isBlank, Cond.static yX7_isBlank, Cond.code yX7_isBlank cX7_isBlank 1 (some .boolean), Cond.methodLink RX7 90 yX7_readValue, Cond.instanceMethod yX7_readValue, Cond.selects RX7 yX7_readValue yX7_readValue, Cond.code yX7_readValue cX7_readValue 3 (some .int), Cond.methodLink RX7 100 yX7_readGroup, Cond.instanceMethod yX7_readGroup, Cond.selects RX7 yX7_readGroup yX7_readGroup]
def wsX4_read_r3 : List Cond := [Cond.methodLink RX7 94 yX7_refuse, Cond.instanceMethod yX7_refuse, Cond.selects RX7 yX7_refuse yX7_refuse, Cond.code yX7_refuse cX7_refuse 2 (some .int), Cond.code yX7_readGroup cX7_readGroup 10 (some .int), Cond.fieldLink RX7 25 "SchemaReader$Text" "amount" "[I", Cond.fieldLink RX7 18 "SchemaReader$Text" "inner" "[I", Cond.methodLink RX7 122 yX7_isObject, Cond.instanceMethod yX7_isObject, Cond.selects RX7 yX7_isObject yX7_isObject, Cond.code yX7_isObject cX7_isObject 2 (some .boolean)]
def wsX4_read : List Cond := .code yX4_read cX4_read 2 (some .int) :: ((wsX4_read_r1 ++ (wsX4_read_r2 ++ wsX4_read_r3)) ++ wsX40 ++ wsX60 ++ wsX70 ++ wsX20)
def wsX6_init : List Cond := .code yX6_init cX6_init 1 none :: ([.methodLink RX6 3 objectInit, .instanceMethod objectInit, .code objectInit ⟨#[0xb1]⟩ 1 none, .arrayClass .byte, .fieldLink RX6 9 "SchemaReader$Schema" "plain" "[B", .arrayClass .int, .fieldLink RX6 15 "SchemaReader$Schema" "kinds" "[I", .fieldLink RX6 19 "SchemaReader$Schema" "meant" "[I", .fieldLink RX6 22 "SchemaReader$Schema" "firsts" "[I", .fieldLink RX6 25 "SchemaReader$Schema" "nexts" "[I", .fieldLink RX6 28 "SchemaReader$Schema" "names" "[I", .fieldLink RX6 31 "SchemaReader$Schema" "fieldNames" "[I", .fieldLink RX6 34 "SchemaReader$Schema" "amounts" "[I", .arrayClass .boolean, .fieldLink RX6 37 "SchemaReader$Schema" "fieldDefaults" "[Z", .fieldLink RX6 41 "SchemaReader$Schema" "enumDefaults" "[Z", .fieldLink RX6 44 "SchemaReader$Schema" "letterCount" "I", .fieldLink RX6 48 "SchemaReader$Schema" "slotCount" "I"] ++ wsX60)
def wsX7_init : List Cond := .code yX7_init cX7_init 1 none :: ([.methodLink RX7 3 objectInit, .instanceMethod objectInit, .code objectInit ⟨#[0xb1]⟩ 1 none, .arrayClass .byte, .fieldLink RX7 9 "SchemaReader$Text" "tape" "[B", .fieldLink RX7 15 "SchemaReader$Text" "said" "[B", .arrayClass .int, .fieldLink RX7 18 "SchemaReader$Text" "inner" "[I", .fieldLink RX7 22 "SchemaReader$Text" "next" "[I", .fieldLink RX7 25 "SchemaReader$Text" "amount" "[I", .classLink RX7 28 RX2, .instantiable RX2 5, .initialized RX2, .fieldLink RX7 31 "SchemaReader$Text" "keys" "LSchemaReader$Keys;", .fieldLink RX7 35 "SchemaReader$Text" "length" "I", .fieldLink RX7 39 "SchemaReader$Text" "wrongPlace" "I", .instanceMethod yX2_init, .code yX2_init cX2_init 1 none, .methodLink RX2 3 objectInit, .fieldLink RX2 11 "SchemaReader$Keys" "heads" "[I", .fieldLink RX2 15 "SchemaReader$Keys" "places" "[I", .fieldLink RX2 18 "SchemaReader$Keys" "owners" "[I", .fieldLink RX2 21 "SchemaReader$Keys" "nexts" "[I", .fieldLink RX2 24 "SchemaReader$Keys" "count" "I"] ++ wsX70 ++ wsX20)
def wsX8_printStep : List Cond := .code yX8_printStep cX8_printStep 5 (some .long) :: ([.constantLong RX8 91 (-4513414715797952619)])
def wsX8_init_r1 : List Cond := [Cond.methodLink RX8 1 objectInit, Cond.instanceMethod objectInit, Cond.code objectInit ⟨#[0xb1]⟩ 1 none, Cond.classLink RX8 7 RX7, Cond.instantiable RX7 8, Cond.initialized RX7, Cond.fieldLink RX8 10 "SchemaReader" "text" "LSchemaReader$Text;", Cond.classLink RX8 16 RX6, Cond.fieldLink RX8 18 "SchemaReader" "kept" "[LSchemaReader$Schema;", Cond.arrayClass .long, Cond.fieldLink RX8 22 "SchemaReader" "printSteps" "[J", Cond.instantiable RX6 12, Cond.initialized RX6, Cond.fieldLink RX8 31 "SchemaReader" "latest" "LSchemaReader$Schema;", Cond.fieldLink RX8 35 "SchemaReader" "hasLatest" "Z", Cond.fieldLink RX8 39 "SchemaReader" "faultPlace" "I", Cond.fieldLink RX8 43 "SchemaReader" "keptCount" "I", Cond.instanceMethod yX7_init, Cond.code yX7_init cX7_init 1 none, Cond.methodLink RX7 3 objectInit, Cond.arrayClass .byte, Cond.fieldLink RX7 9 "SchemaReader$Text" "tape" "[B", Cond.fieldLink RX7 15 "SchemaReader$Text" "said" "[B", Cond.arrayClass .int]
def wsX8_init_r2 : List Cond := [Cond.fieldLink RX7 18 "SchemaReader$Text" "inner" "[I", Cond.fieldLink RX7 22 "SchemaReader$Text" "next" "[I", Cond.fieldLink RX7 25 "SchemaReader$Text" "amount" "[I", Cond.classLink RX7 28 RX2, Cond.instantiable RX2 5, Cond.initialized RX2, Cond.fieldLink RX7 31 "SchemaReader$Text" "keys" "LSchemaReader$Keys;", Cond.fieldLink RX7 35 "SchemaReader$Text" "length" "I", Cond.fieldLink RX7 39 "SchemaReader$Text" "wrongPlace" "I", Cond.instanceMethod yX2_init, Cond.code yX2_init cX2_init 1 none, Cond.methodLink RX2 3 objectInit, Cond.fieldLink RX2 11 "SchemaReader$Keys" "heads" "[I", Cond.fieldLink RX2 15 "SchemaReader$Keys" "places" "[I", Cond.fieldLink RX2 18 "SchemaReader$Keys" "owners" "[I", Cond.fieldLink RX2 21 "SchemaReader$Keys" "nexts" "[I", Cond.fieldLink RX2 24 "SchemaReader$Keys" "count" "I", Cond.methodLink RX8 26 yX8_printStep, Cond.static yX8_printStep, Cond.initialized RX8, Cond.code yX8_printStep cX8_printStep 5 (some .long), Cond.constantLong RX8 91 (-4513414715797952619), Cond.instanceMethod yX6_init, Cond.code yX6_init cX6_init 1 none]
def wsX8_init_r3 : List Cond := [Cond.methodLink RX6 3 objectInit, Cond.fieldLink RX6 9 "SchemaReader$Schema" "plain" "[B", Cond.fieldLink RX6 15 "SchemaReader$Schema" "kinds" "[I", Cond.fieldLink RX6 19 "SchemaReader$Schema" "meant" "[I", Cond.fieldLink RX6 22 "SchemaReader$Schema" "firsts" "[I", Cond.fieldLink RX6 25 "SchemaReader$Schema" "nexts" "[I", Cond.fieldLink RX6 28 "SchemaReader$Schema" "names" "[I", Cond.fieldLink RX6 31 "SchemaReader$Schema" "fieldNames" "[I", Cond.fieldLink RX6 34 "SchemaReader$Schema" "amounts" "[I", Cond.arrayClass .boolean, Cond.fieldLink RX6 37 "SchemaReader$Schema" "fieldDefaults" "[Z", Cond.fieldLink RX6 41 "SchemaReader$Schema" "enumDefaults" "[Z", Cond.fieldLink RX6 44 "SchemaReader$Schema" "letterCount" "I", Cond.fieldLink RX6 48 "SchemaReader$Schema" "slotCount" "I"]
def wsX8_init : List Cond := .code yX8_init cX8_init 2 none :: ((wsX8_init_r1 ++ (wsX8_init_r2 ++ wsX8_init_r3)) ++ wsX70 ++ wsX80 ++ wsX60 ++ wsX20)
def wsX8_schema_r1 : List Cond := [Cond.classLink RX8 69 RX4, Cond.instantiable RX4 7, Cond.initialized RX4, Cond.fieldLink RX8 10 "SchemaReader" "text" "LSchemaReader$Text;", Cond.fieldLink RX8 31 "SchemaReader" "latest" "LSchemaReader$Schema;", Cond.fieldLink RX8 35 "SchemaReader" "hasLatest" "Z", Cond.fieldLink RX8 39 "SchemaReader" "faultPlace" "I", Cond.methodLink RX8 71 yX4_init, Cond.instanceMethod yX4_init, Cond.code yX4_init cX4_init 3 none, Cond.methodLink RX4 3 objectInit, Cond.instanceMethod objectInit, Cond.code objectInit ⟨#[0xb1]⟩ 1 none, Cond.arrayClass .int, Cond.fieldLink RX4 11 "SchemaReader$Looker" "dueSlots" "[I", Cond.fieldLink RX4 17 "SchemaReader$Looker" "dueValues" "[I", Cond.fieldLink RX4 20 "SchemaReader$Looker" "dueCount" "I", Cond.fieldLink RX4 24 "SchemaReader$Looker" "fault" "I", Cond.fieldLink RX4 27 "SchemaReader$Looker" "faultPlace" "I", Cond.fieldLink RX4 30 "SchemaReader$Looker" "text" "LSchemaReader$Text;", Cond.fieldLink RX4 34 "SchemaReader$Looker" "schema" "LSchemaReader$Schema;", Cond.methodLink RX8 74 yX4_read, Cond.instanceMethod yX4_read, Cond.selects RX4 yX4_read yX4_read]
def wsX8_schema_r2 : List Cond := [Cond.code yX4_read cX4_read 2 (some .int), Cond.methodLink RX4 38 yX6_clear, Cond.instanceMethod yX6_clear, Cond.selects RX6 yX6_clear yX6_clear, Cond.initialized RX6, Cond.code yX6_clear cX6_clear 1 none, Cond.fieldLink RX6 44 "SchemaReader$Schema" "letterCount" "I", Cond.fieldLink RX6 48 "SchemaReader$Schema" "slotCount" "I", Cond.methodLink RX4 41 yX7_read, Cond.instanceMethod yX7_read, Cond.selects RX7 yX7_read yX7_read, Cond.initialized RX7, Cond.code yX7_read cX7_read 3 (some .int), Cond.fieldLink RX7 31 "SchemaReader$Text" "keys" "LSchemaReader$Keys;", Cond.fieldLink RX7 39 "SchemaReader$Text" "wrongPlace" "I", Cond.fieldLink RX7 35 "SchemaReader$Text" "length" "I", Cond.methodLink RX7 84 yX2_clear, Cond.instanceMethod yX2_clear, Cond.selects RX2 yX2_clear yX2_clear, Cond.initialized RX2, Cond.code yX2_clear cX2_clear 1 none, Cond.fieldLink RX2 11 "SchemaReader$Keys" "heads" "[I", Cond.fieldLink RX2 24 "SchemaReader$Keys" "count" "I", Cond.methodLink RX2 28 yJ7_fill_53178]
def wsX8_schema_r3 : List Cond := [Cond.static yJ7_fill_53178, Cond.initialized RJ7, Cond.code yJ7_fill_53178 cJ7_fill_53178 4 none, Cond.methodLink RX7 87 yX7_behindBlanks, Cond.instanceMethod yX7_behindBlanks, Cond.selects RX7 yX7_behindBlanks yX7_behindBlanks, Cond.code yX7_behindBlanks cX7_behindBlanks 3 (some .int), Cond.methodLink RX7 42 yX7_byteAt, Cond.instanceMethod yX7_byteAt, Cond.selects RX7 yX7_byteAt yX7_byteAt, Cond.code yX7_byteAt cX7_byteAt 2 (some .int), Cond.fieldLink RX7 9 "SchemaReader$Text" "tape" "[B", Cond.methodLink RX7 97 yX7_isBlank, Cond.static yX7_isBlank, Cond.code yX7_isBlank cX7_isBlank 1 (some .boolean), Cond.methodLink RX7 90 yX7_readValue, Cond.instanceMethod yX7_readValue, Cond.selects RX7 yX7_readValue yX7_readValue, Cond.code yX7_readValue cX7_readValue 3 (some .int), Cond.methodLink RX7 100 yX7_readGroup, Cond.instanceMethod yX7_readGroup, Cond.selects RX7 yX7_readGroup yX7_readGroup, Cond.methodLink RX7 94 yX7_refuse, Cond.instanceMethod yX7_refuse]
def wsX8_schema_r4 : List Cond := [Cond.selects RX7 yX7_refuse yX7_refuse, Cond.code yX7_refuse cX7_refuse 2 (some .int), Cond.code yX7_readGroup cX7_readGroup 10 (some .int), Cond.fieldLink RX7 25 "SchemaReader$Text" "amount" "[I", Cond.fieldLink RX7 18 "SchemaReader$Text" "inner" "[I", Cond.methodLink RX7 122 yX7_isObject, Cond.instanceMethod yX7_isObject, Cond.selects RX7 yX7_isObject yX7_isObject, Cond.code yX7_isObject cX7_isObject 2 (some .boolean)]
def wsX8_schema : List Cond := .code yX8_schema cX8_schema 3 (some .int) :: ((wsX8_schema_r1 ++ (wsX8_schema_r2 ++ (wsX8_schema_r3 ++ wsX8_schema_r4))) ++ wsX40 ++ wsX80 ++ wsX60 ++ wsX70 ++ wsX20)
def wsL_law_r1 : List Cond := [Cond.classLink RL 8 RX8, Cond.instantiable RX8 7, Cond.initialized RX8, Cond.arrayClass .long, Cond.methodLink RL 37 yX8_init, Cond.instanceMethod yX8_init, Cond.code yX8_init cX8_init 2 none, Cond.methodLink RX8 1 objectInit, Cond.instanceMethod objectInit, Cond.code objectInit ⟨#[0xb1]⟩ 1 none, Cond.classLink RX8 7 RX7, Cond.instantiable RX7 8, Cond.initialized RX7, Cond.fieldLink RX8 10 "SchemaReader" "text" "LSchemaReader$Text;", Cond.classLink RX8 16 RX6, Cond.fieldLink RX8 18 "SchemaReader" "kept" "[LSchemaReader$Schema;", Cond.fieldLink RX8 22 "SchemaReader" "printSteps" "[J", Cond.instantiable RX6 12, Cond.initialized RX6, Cond.fieldLink RX8 31 "SchemaReader" "latest" "LSchemaReader$Schema;", Cond.fieldLink RX8 35 "SchemaReader" "hasLatest" "Z", Cond.fieldLink RX8 39 "SchemaReader" "faultPlace" "I", Cond.fieldLink RX8 43 "SchemaReader" "keptCount" "I", Cond.instanceMethod yX7_init]
def wsL_law_r2 : List Cond := [Cond.code yX7_init cX7_init 1 none, Cond.methodLink RX7 3 objectInit, Cond.arrayClass .byte, Cond.fieldLink RX7 9 "SchemaReader$Text" "tape" "[B", Cond.fieldLink RX7 15 "SchemaReader$Text" "said" "[B", Cond.arrayClass .int, Cond.fieldLink RX7 18 "SchemaReader$Text" "inner" "[I", Cond.fieldLink RX7 22 "SchemaReader$Text" "next" "[I", Cond.fieldLink RX7 25 "SchemaReader$Text" "amount" "[I", Cond.classLink RX7 28 RX2, Cond.instantiable RX2 5, Cond.initialized RX2, Cond.fieldLink RX7 31 "SchemaReader$Text" "keys" "LSchemaReader$Keys;", Cond.fieldLink RX7 35 "SchemaReader$Text" "length" "I", Cond.fieldLink RX7 39 "SchemaReader$Text" "wrongPlace" "I", Cond.instanceMethod yX2_init, Cond.code yX2_init cX2_init 1 none, Cond.methodLink RX2 3 objectInit, Cond.fieldLink RX2 11 "SchemaReader$Keys" "heads" "[I", Cond.fieldLink RX2 15 "SchemaReader$Keys" "places" "[I", Cond.fieldLink RX2 18 "SchemaReader$Keys" "owners" "[I", Cond.fieldLink RX2 21 "SchemaReader$Keys" "nexts" "[I", Cond.fieldLink RX2 24 "SchemaReader$Keys" "count" "I", Cond.methodLink RX8 26 yX8_printStep]
def wsL_law_r3 : List Cond := [Cond.static yX8_printStep, Cond.code yX8_printStep cX8_printStep 5 (some .long), Cond.constantLong RX8 91 (-4513414715797952619), Cond.instanceMethod yX6_init, Cond.code yX6_init cX6_init 1 none, Cond.methodLink RX6 3 objectInit, Cond.fieldLink RX6 9 "SchemaReader$Schema" "plain" "[B", Cond.fieldLink RX6 15 "SchemaReader$Schema" "kinds" "[I", Cond.fieldLink RX6 19 "SchemaReader$Schema" "meant" "[I", Cond.fieldLink RX6 22 "SchemaReader$Schema" "firsts" "[I", Cond.fieldLink RX6 25 "SchemaReader$Schema" "nexts" "[I", Cond.fieldLink RX6 28 "SchemaReader$Schema" "names" "[I", Cond.fieldLink RX6 31 "SchemaReader$Schema" "fieldNames" "[I", Cond.fieldLink RX6 34 "SchemaReader$Schema" "amounts" "[I", Cond.arrayClass .boolean, Cond.fieldLink RX6 37 "SchemaReader$Schema" "fieldDefaults" "[Z", Cond.fieldLink RX6 41 "SchemaReader$Schema" "enumDefaults" "[Z", Cond.fieldLink RX6 44 "SchemaReader$Schema" "letterCount" "I", Cond.fieldLink RX6 48 "SchemaReader$Schema" "slotCount" "I", Cond.methodLink RL 55 yX8_schema, Cond.instanceMethod yX8_schema, Cond.selects RX8 yX8_schema yX8_schema, Cond.code yX8_schema cX8_schema 3 (some .int), Cond.classLink RX8 69 RX4]
def wsL_law_r4 : List Cond := [Cond.instantiable RX4 7, Cond.initialized RX4, Cond.methodLink RX8 71 yX4_init, Cond.instanceMethod yX4_init, Cond.code yX4_init cX4_init 3 none, Cond.methodLink RX4 3 objectInit, Cond.fieldLink RX4 11 "SchemaReader$Looker" "dueSlots" "[I", Cond.fieldLink RX4 17 "SchemaReader$Looker" "dueValues" "[I", Cond.fieldLink RX4 20 "SchemaReader$Looker" "dueCount" "I", Cond.fieldLink RX4 24 "SchemaReader$Looker" "fault" "I", Cond.fieldLink RX4 27 "SchemaReader$Looker" "faultPlace" "I", Cond.fieldLink RX4 30 "SchemaReader$Looker" "text" "LSchemaReader$Text;", Cond.fieldLink RX4 34 "SchemaReader$Looker" "schema" "LSchemaReader$Schema;", Cond.methodLink RX8 74 yX4_read, Cond.instanceMethod yX4_read, Cond.selects RX4 yX4_read yX4_read, Cond.code yX4_read cX4_read 2 (some .int), Cond.methodLink RX4 38 yX6_clear, Cond.instanceMethod yX6_clear, Cond.selects RX6 yX6_clear yX6_clear, Cond.code yX6_clear cX6_clear 1 none, Cond.methodLink RX4 41 yX7_read, Cond.instanceMethod yX7_read, Cond.selects RX7 yX7_read yX7_read]
def wsL_law_r5 : List Cond := [Cond.code yX7_read cX7_read 3 (some .int), Cond.methodLink RX7 84 yX2_clear, Cond.instanceMethod yX2_clear, Cond.selects RX2 yX2_clear yX2_clear, Cond.code yX2_clear cX2_clear 1 none, Cond.methodLink RX2 28 yJ7_fill_53178, Cond.static yJ7_fill_53178, Cond.initialized RJ7, Cond.code yJ7_fill_53178 cJ7_fill_53178 4 none, Cond.methodLink RX7 87 yX7_behindBlanks, Cond.instanceMethod yX7_behindBlanks, Cond.selects RX7 yX7_behindBlanks yX7_behindBlanks, Cond.code yX7_behindBlanks cX7_behindBlanks 3 (some .int), Cond.methodLink RX7 42 yX7_byteAt, Cond.instanceMethod yX7_byteAt, Cond.selects RX7 yX7_byteAt yX7_byteAt, Cond.code yX7_byteAt cX7_byteAt 2 (some .int), Cond.methodLink RX7 97 yX7_isBlank, Cond.static yX7_isBlank, Cond.code yX7_isBlank cX7_isBlank 1 (some .boolean), Cond.methodLink RX7 90 yX7_readValue, Cond.instanceMethod yX7_readValue, Cond.selects RX7 yX7_readValue yX7_readValue, Cond.code yX7_readValue cX7_readValue 3 (some .int)]
def wsL_law_r6 : List Cond := [Cond.methodLink RX7 100 yX7_readGroup, Cond.instanceMethod yX7_readGroup, Cond.selects RX7 yX7_readGroup yX7_readGroup, Cond.methodLink RX7 94 yX7_refuse, Cond.instanceMethod yX7_refuse, Cond.selects RX7 yX7_refuse yX7_refuse, Cond.code yX7_refuse cX7_refuse 2 (some .int), Cond.code yX7_readGroup cX7_readGroup 10 (some .int), Cond.methodLink RX7 122 yX7_isObject, Cond.instanceMethod yX7_isObject, Cond.selects RX7 yX7_isObject yX7_isObject, Cond.code yX7_isObject cX7_isObject 2 (some .boolean)]
def wsL_law : List Cond := (wsL_law_r1 ++ (wsL_law_r2 ++ (wsL_law_r3 ++ (wsL_law_r4 ++ (wsL_law_r5 ++ wsL_law_r6))))) ++ wsX80 ++ wsX70 ++ wsX60 ++ wsX20 ++ wsX40 ++ ([] : List Cond)
set_option maxRecDepth 20000 in
theorem inX0 : ∀ w ∈ wsX00, w ∈ lw_tbl := by decide +kernel
theorem inX1 : ∀ w ∈ wsX10, w ∈ lw_tbl := by decide +kernel
theorem inlX2 : ∀ w ∈ wsX20, w ∈ wsL_law := fun _ h => List.mem_append_left _ (List.mem_append_left _ (List.mem_append_right _ h))
theorem inX3 : ∀ w ∈ wsX30, w ∈ lw_tbl := by decide +kernel
theorem inlX4 : ∀ w ∈ wsX40, w ∈ wsL_law := fun _ h => List.mem_append_left _ (List.mem_append_right _ h)
theorem inX5 : ∀ w ∈ wsX50, w ∈ lw_tbl := by decide +kernel
theorem inlX6 : ∀ w ∈ wsX60, w ∈ wsL_law := fun _ h => List.mem_append_left _ (List.mem_append_left _ (List.mem_append_left _ (List.mem_append_right _ h)))
theorem inlX7 : ∀ w ∈ wsX70, w ∈ wsL_law := fun _ h => List.mem_append_left _ (List.mem_append_left _ (List.mem_append_left _ (List.mem_append_left _ (List.mem_append_right _ h))))
theorem inlX8 : ∀ w ∈ wsX80, w ∈ wsL_law := fun _ h => List.mem_append_left _ (List.mem_append_left _ (List.mem_append_left _ (List.mem_append_left _ (List.mem_append_left _ (List.mem_append_right _ h)))))
theorem inX9 : ∀ w ∈ wsX90, w ∈ lw_tbl := by decide +kernel
theorem inX10 : ∀ w ∈ wsX100, w ∈ lw_tbl := by decide +kernel
theorem inJ11 : ∀ w ∈ wsJ110, w ∈ lw_tbl := by decide +kernel
theorem inJ9 : ∀ w ∈ wsJ90, w ∈ lw_tbl := by decide +kernel
theorem inJ0 : ∀ w ∈ wsJ00, w ∈ lw_tbl := by decide +kernel
theorem inJ1 : ∀ w ∈ wsJ10, w ∈ lw_tbl := by decide +kernel
theorem inJ2 : ∀ w ∈ wsJ20, w ∈ lw_tbl := by decide +kernel
theorem inJ7 : ∀ w ∈ wsJ70, w ∈ lw_tbl := by decide +kernel
theorem inJ3 : ∀ w ∈ wsJ30, w ∈ lw_tbl := by decide +kernel
theorem dX2_init_0 : decode cX2_init 0 = .ok (.aload_n 0, 1) := by decide +kernel
theorem dX2_init_1 : decode cX2_init 1 = .ok (.invokespecial 3, 3) := by decide +kernel
theorem dX2_init_4 : decode cX2_init 4 = .ok (.aload_n 0, 1) := by decide +kernel
theorem dX2_init_5 : decode cX2_init 5 = .ok (.sipush 256, 3) := by decide +kernel
theorem dX2_init_8 : decode cX2_init 8 = .ok (.newarray .int, 2) := by decide +kernel
theorem dX2_init_10 : decode cX2_init 10 = .ok (.putfield 11, 3) := by decide +kernel
theorem dX2_init_13 : decode cX2_init 13 = .ok (.aload_n 0, 1) := by decide +kernel
theorem dX2_init_14 : decode cX2_init 14 = .ok (.sipush 1024, 3) := by decide +kernel
theorem dX2_init_17 : decode cX2_init 17 = .ok (.newarray .int, 2) := by decide +kernel
theorem dX2_init_19 : decode cX2_init 19 = .ok (.putfield 15, 3) := by decide +kernel
theorem dX2_init_22 : decode cX2_init 22 = .ok (.aload_n 0, 1) := by decide +kernel
theorem dX2_init_23 : decode cX2_init 23 = .ok (.sipush 1024, 3) := by decide +kernel
theorem dX2_init_26 : decode cX2_init 26 = .ok (.newarray .int, 2) := by decide +kernel
theorem dX2_init_28 : decode cX2_init 28 = .ok (.putfield 18, 3) := by decide +kernel
theorem dX2_init_31 : decode cX2_init 31 = .ok (.aload_n 0, 1) := by decide +kernel
theorem dX2_init_32 : decode cX2_init 32 = .ok (.sipush 1024, 3) := by decide +kernel
theorem dX2_init_35 : decode cX2_init 35 = .ok (.newarray .int, 2) := by decide +kernel
theorem dX2_init_37 : decode cX2_init 37 = .ok (.putfield 21, 3) := by decide +kernel
theorem dX2_init_40 : decode cX2_init 40 = .ok (.aload_n 0, 1) := by decide +kernel
theorem dX2_init_41 : decode cX2_init 41 = .ok (.iconst 0, 1) := by decide +kernel
theorem dX2_init_42 : decode cX2_init 42 = .ok (.putfield 24, 3) := by decide +kernel
theorem dX2_init_45 : decode cX2_init 45 = .ok (.return_, 1) := by decide +kernel
set_option maxRecDepth 20000 in
theorem ggX2_clear_J7_fill_53178 : GoodIn wsX2_clear wsJ7_fill_53178 := goodIn_r _ [6] (by decide +kernel) (by decide +kernel)
set_option maxRecDepth 20000 in
theorem gX2_clear_J7_fill_53178 : GoodIn wsX2_clear (va_wsS RX2 28 yJ7_fill_53178 wsJ7_fill_53178) := goodIn_app (goodIn_of _ (by decide +kernel)) ggX2_clear_J7_fill_53178
theorem dX2_clear_0 : decode cX2_clear 0 = .ok (.aload_n 0, 1) := by decide +kernel
theorem dX2_clear_1 : decode cX2_clear 1 = .ok (.getfield 11, 3) := by decide +kernel
theorem dX2_clear_4 : decode cX2_clear 4 = .ok (.iconst (-1), 1) := by decide +kernel
theorem dX2_clear_5 : decode cX2_clear 5 = .ok (.invokestatic 28, 3) := by decide +kernel
theorem dX2_clear_8 : decode cX2_clear 8 = .ok (.aload_n 0, 1) := by decide +kernel
theorem dX2_clear_9 : decode cX2_clear 9 = .ok (.iconst 0, 1) := by decide +kernel
theorem dX2_clear_10 : decode cX2_clear 10 = .ok (.putfield 24, 3) := by decide +kernel
theorem dX2_clear_13 : decode cX2_clear 13 = .ok (.return_, 1) := by decide +kernel
theorem dX4_init_0 : decode cX4_init 0 = .ok (.aload_n 0, 1) := by decide +kernel
theorem dX4_init_1 : decode cX4_init 1 = .ok (.invokespecial 3, 3) := by decide +kernel
theorem dX4_init_4 : decode cX4_init 4 = .ok (.aload_n 0, 1) := by decide +kernel
theorem dX4_init_5 : decode cX4_init 5 = .ok (.sipush 128, 3) := by decide +kernel
theorem dX4_init_8 : decode cX4_init 8 = .ok (.newarray .int, 2) := by decide +kernel
theorem dX4_init_10 : decode cX4_init 10 = .ok (.putfield 11, 3) := by decide +kernel
theorem dX4_init_13 : decode cX4_init 13 = .ok (.aload_n 0, 1) := by decide +kernel
theorem dX4_init_14 : decode cX4_init 14 = .ok (.sipush 128, 3) := by decide +kernel
theorem dX4_init_17 : decode cX4_init 17 = .ok (.newarray .int, 2) := by decide +kernel
theorem dX4_init_19 : decode cX4_init 19 = .ok (.putfield 17, 3) := by decide +kernel
theorem dX4_init_22 : decode cX4_init 22 = .ok (.aload_n 0, 1) := by decide +kernel
theorem dX4_init_23 : decode cX4_init 23 = .ok (.iconst 0, 1) := by decide +kernel
theorem dX4_init_24 : decode cX4_init 24 = .ok (.putfield 20, 3) := by decide +kernel
theorem dX4_init_27 : decode cX4_init 27 = .ok (.aload_n 0, 1) := by decide +kernel
theorem dX4_init_28 : decode cX4_init 28 = .ok (.iconst 0, 1) := by decide +kernel
theorem dX4_init_29 : decode cX4_init 29 = .ok (.putfield 24, 3) := by decide +kernel
theorem dX4_init_32 : decode cX4_init 32 = .ok (.aload_n 0, 1) := by decide +kernel
theorem dX4_init_33 : decode cX4_init 33 = .ok (.iconst (-1), 1) := by decide +kernel
theorem dX4_init_34 : decode cX4_init 34 = .ok (.putfield 27, 3) := by decide +kernel
theorem dX4_init_37 : decode cX4_init 37 = .ok (.aload_n 0, 1) := by decide +kernel
theorem dX4_init_38 : decode cX4_init 38 = .ok (.aload_n 1, 1) := by decide +kernel
theorem dX4_init_39 : decode cX4_init 39 = .ok (.putfield 30, 3) := by decide +kernel
theorem dX4_init_42 : decode cX4_init 42 = .ok (.aload_n 0, 1) := by decide +kernel
theorem dX4_init_43 : decode cX4_init 43 = .ok (.aload_n 2, 1) := by decide +kernel
theorem dX4_init_44 : decode cX4_init 44 = .ok (.putfield 34, 3) := by decide +kernel
theorem dX4_init_47 : decode cX4_init 47 = .ok (.return_, 1) := by decide +kernel
set_option maxRecDepth 20000 in
theorem ggX4_read_X6_clear : GoodIn wsX4_read wsX6_clear := goodIn_r _ [8, 9, 10, 67, 68, 69, 70, 71, 72, 73, 74, 75, 76, 77, 78] (by decide +kernel) (by decide +kernel)
set_option maxRecDepth 20000 in
theorem gX4_read_X6_clear : GoodIn wsX4_read (wsV RX4 38 RX6 yX6_clear wsX6_clear) := goodIn_app (goodIn_of _ (by decide +kernel)) ggX4_read_X6_clear
set_option maxRecDepth 20000 in
theorem ggX4_read_X7_read : GoodIn wsX4_read wsX7_read := goodIn_r _ [15, 16, 17, 18, 19, 20, 21, 22, 23, 24, 25, 26, 27, 28, 29, 30, 31, 32, 14, 33, 34, 35, 36, 37, 38, 39, 40, 41, 42, 43, 44, 45, 46, 47, 48, 49, 50, 51, 52, 53, 54, 55, 56, 57, 58, 59, 79, 80, 81, 82, 83, 84, 85, 86, 87, 88, 89, 90, 91] (by decide +kernel) (by decide +kernel)
set_option maxRecDepth 20000 in
theorem gX4_read_X7_read : GoodIn wsX4_read (wsV RX4 41 RX7 yX7_read wsX7_read) := goodIn_app (goodIn_of _ (by decide +kernel)) ggX4_read_X7_read
theorem dX4_read_0 : decode cX4_read 0 = .ok (.aload_n 0, 1) := by decide +kernel
theorem dX4_read_1 : decode cX4_read 1 = .ok (.getfield 34, 3) := by decide +kernel
theorem dX4_read_4 : decode cX4_read 4 = .ok (.invokevirtual 38, 3) := by decide +kernel
theorem dX4_read_7 : decode cX4_read 7 = .ok (.aload_n 0, 1) := by decide +kernel
theorem dX4_read_8 : decode cX4_read 8 = .ok (.getfield 30, 3) := by decide +kernel
theorem dX4_read_11 : decode cX4_read 11 = .ok (.invokevirtual 41, 3) := by decide +kernel
theorem dX4_read_14 : decode cX4_read 14 = .ok (.istore_n 1, 1) := by decide +kernel
theorem dX4_read_15 : decode cX4_read 15 = .ok (.iload_n 1, 1) := by decide +kernel
theorem dX4_read_16 : decode cX4_read 16 = .ok (.iconst (-1), 1) := by decide +kernel
theorem dX4_read_17 : decode cX4_read 17 = .ok (.if_icmp .ne 19, 3) := by decide +kernel
theorem dX4_read_20 : decode cX4_read 20 = .ok (.aload_n 0, 1) := by decide +kernel
theorem dX4_read_21 : decode cX4_read 21 = .ok (.iconst 1, 1) := by decide +kernel
theorem dX4_read_22 : decode cX4_read 22 = .ok (.aload_n 0, 1) := by decide +kernel
theorem dX4_read_23 : decode cX4_read 23 = .ok (.getfield 30, 3) := by decide +kernel
theorem dX4_read_26 : decode cX4_read 26 = .ok (.invokevirtual 49, 3) := by decide +kernel
theorem dX4_read_29 : decode cX4_read 29 = .ok (.invokevirtual 52, 3) := by decide +kernel
theorem dX4_read_32 : decode cX4_read 32 = .ok (.pop, 1) := by decide +kernel
theorem dX4_read_33 : decode cX4_read 33 = .ok (.goto 18, 3) := by decide +kernel
theorem dX4_read_36 : decode cX4_read 36 = .ok (.aload_n 0, 1) := by decide +kernel
theorem dX4_read_37 : decode cX4_read 37 = .ok (.iload_n 1, 1) := by decide +kernel
theorem dX4_read_38 : decode cX4_read 38 = .ok (.iconst 0, 1) := by decide +kernel
theorem dX4_read_39 : decode cX4_read 39 = .ok (.iconst 0, 1) := by decide +kernel
theorem dX4_read_40 : decode cX4_read 40 = .ok (.invokevirtual 56, 3) := by decide +kernel
theorem dX4_read_43 : decode cX4_read 43 = .ok (.iconst (-1), 1) := by decide +kernel
theorem dX4_read_44 : decode cX4_read 44 = .ok (.if_icmp .eq 7, 3) := by decide +kernel
theorem dX4_read_47 : decode cX4_read 47 = .ok (.aload_n 0, 1) := by decide +kernel
theorem dX4_read_48 : decode cX4_read 48 = .ok (.invokevirtual 60, 3) := by decide +kernel
theorem dX4_read_51 : decode cX4_read 51 = .ok (.aload_n 0, 1) := by decide +kernel
theorem dX4_read_52 : decode cX4_read 52 = .ok (.getfield 24, 3) := by decide +kernel
theorem dX4_read_55 : decode cX4_read 55 = .ok (.ireturn, 1) := by decide +kernel
theorem dX6_init_0 : decode cX6_init 0 = .ok (.aload_n 0, 1) := by decide +kernel
theorem dX6_init_1 : decode cX6_init 1 = .ok (.invokespecial 3, 3) := by decide +kernel
theorem dX6_init_4 : decode cX6_init 4 = .ok (.aload_n 0, 1) := by decide +kernel
theorem dX6_init_5 : decode cX6_init 5 = .ok (.sipush 4096, 3) := by decide +kernel
theorem dX6_init_8 : decode cX6_init 8 = .ok (.newarray .byte, 2) := by decide +kernel
theorem dX6_init_10 : decode cX6_init 10 = .ok (.putfield 9, 3) := by decide +kernel
theorem dX6_init_13 : decode cX6_init 13 = .ok (.aload_n 0, 1) := by decide +kernel
theorem dX6_init_14 : decode cX6_init 14 = .ok (.sipush 128, 3) := by decide +kernel
theorem dX6_init_17 : decode cX6_init 17 = .ok (.newarray .int, 2) := by decide +kernel
theorem dX6_init_19 : decode cX6_init 19 = .ok (.putfield 15, 3) := by decide +kernel
theorem dX6_init_22 : decode cX6_init 22 = .ok (.aload_n 0, 1) := by decide +kernel
theorem dX6_init_23 : decode cX6_init 23 = .ok (.sipush 128, 3) := by decide +kernel
theorem dX6_init_26 : decode cX6_init 26 = .ok (.newarray .int, 2) := by decide +kernel
theorem dX6_init_28 : decode cX6_init 28 = .ok (.putfield 19, 3) := by decide +kernel
theorem dX6_init_31 : decode cX6_init 31 = .ok (.aload_n 0, 1) := by decide +kernel
theorem dX6_init_32 : decode cX6_init 32 = .ok (.sipush 128, 3) := by decide +kernel
theorem dX6_init_35 : decode cX6_init 35 = .ok (.newarray .int, 2) := by decide +kernel
theorem dX6_init_37 : decode cX6_init 37 = .ok (.putfield 22, 3) := by decide +kernel
theorem dX6_init_40 : decode cX6_init 40 = .ok (.aload_n 0, 1) := by decide +kernel
theorem dX6_init_41 : decode cX6_init 41 = .ok (.sipush 128, 3) := by decide +kernel
theorem dX6_init_44 : decode cX6_init 44 = .ok (.newarray .int, 2) := by decide +kernel
theorem dX6_init_46 : decode cX6_init 46 = .ok (.putfield 25, 3) := by decide +kernel
theorem dX6_init_49 : decode cX6_init 49 = .ok (.aload_n 0, 1) := by decide +kernel
theorem dX6_init_50 : decode cX6_init 50 = .ok (.sipush 128, 3) := by decide +kernel
theorem dX6_init_53 : decode cX6_init 53 = .ok (.newarray .int, 2) := by decide +kernel
theorem dX6_init_55 : decode cX6_init 55 = .ok (.putfield 28, 3) := by decide +kernel
theorem dX6_init_58 : decode cX6_init 58 = .ok (.aload_n 0, 1) := by decide +kernel
theorem dX6_init_59 : decode cX6_init 59 = .ok (.sipush 128, 3) := by decide +kernel
theorem dX6_init_62 : decode cX6_init 62 = .ok (.newarray .int, 2) := by decide +kernel
theorem dX6_init_64 : decode cX6_init 64 = .ok (.putfield 31, 3) := by decide +kernel
theorem dX6_init_67 : decode cX6_init 67 = .ok (.aload_n 0, 1) := by decide +kernel
theorem dX6_init_68 : decode cX6_init 68 = .ok (.sipush 128, 3) := by decide +kernel
theorem dX6_init_71 : decode cX6_init 71 = .ok (.newarray .int, 2) := by decide +kernel
theorem dX6_init_73 : decode cX6_init 73 = .ok (.putfield 34, 3) := by decide +kernel
theorem dX6_init_76 : decode cX6_init 76 = .ok (.aload_n 0, 1) := by decide +kernel
theorem dX6_init_77 : decode cX6_init 77 = .ok (.sipush 128, 3) := by decide +kernel
theorem dX6_init_80 : decode cX6_init 80 = .ok (.newarray .boolean, 2) := by decide +kernel
theorem dX6_init_82 : decode cX6_init 82 = .ok (.putfield 37, 3) := by decide +kernel
theorem dX6_init_85 : decode cX6_init 85 = .ok (.aload_n 0, 1) := by decide +kernel
theorem dX6_init_86 : decode cX6_init 86 = .ok (.sipush 128, 3) := by decide +kernel
theorem dX6_init_89 : decode cX6_init 89 = .ok (.newarray .boolean, 2) := by decide +kernel
theorem dX6_init_91 : decode cX6_init 91 = .ok (.putfield 41, 3) := by decide +kernel
theorem dX6_init_94 : decode cX6_init 94 = .ok (.aload_n 0, 1) := by decide +kernel
theorem dX6_init_95 : decode cX6_init 95 = .ok (.iconst 0, 1) := by decide +kernel
theorem dX6_init_96 : decode cX6_init 96 = .ok (.putfield 44, 3) := by decide +kernel
theorem dX6_init_99 : decode cX6_init 99 = .ok (.aload_n 0, 1) := by decide +kernel
theorem dX6_init_100 : decode cX6_init 100 = .ok (.iconst 0, 1) := by decide +kernel
theorem dX6_init_101 : decode cX6_init 101 = .ok (.putfield 48, 3) := by decide +kernel
theorem dX6_init_104 : decode cX6_init 104 = .ok (.return_, 1) := by decide +kernel
theorem dX6_clear_0 : decode cX6_clear 0 = .ok (.aload_n 0, 1) := by decide +kernel
theorem dX6_clear_1 : decode cX6_clear 1 = .ok (.iconst 0, 1) := by decide +kernel
theorem dX6_clear_2 : decode cX6_clear 2 = .ok (.putfield 44, 3) := by decide +kernel
theorem dX6_clear_5 : decode cX6_clear 5 = .ok (.aload_n 0, 1) := by decide +kernel
theorem dX6_clear_6 : decode cX6_clear 6 = .ok (.iconst 0, 1) := by decide +kernel
theorem dX6_clear_7 : decode cX6_clear 7 = .ok (.putfield 48, 3) := by decide +kernel
theorem dX6_clear_10 : decode cX6_clear 10 = .ok (.return_, 1) := by decide +kernel
set_option maxRecDepth 20000 in
theorem ggX7_init_X2_init : GoodIn wsX7_init wsX2_init := goodIn_r _ [18, 19, 2, 3, 7, 20, 21, 22, 23, 24, 33, 34, 35, 36, 37] (by decide +kernel) (by decide +kernel)
set_option maxRecDepth 20000 in
theorem gX7_init_X2_init_n30 : GoodIn wsX7_init (wsX2_init) := ggX7_init_X2_init
theorem dX7_init_0 : decode cX7_init 0 = .ok (.aload_n 0, 1) := by decide +kernel
theorem dX7_init_1 : decode cX7_init 1 = .ok (.invokespecial 3, 3) := by decide +kernel
theorem dX7_init_4 : decode cX7_init 4 = .ok (.aload_n 0, 1) := by decide +kernel
theorem dX7_init_5 : decode cX7_init 5 = .ok (.sipush 4096, 3) := by decide +kernel
theorem dX7_init_8 : decode cX7_init 8 = .ok (.newarray .byte, 2) := by decide +kernel
theorem dX7_init_10 : decode cX7_init 10 = .ok (.putfield 9, 3) := by decide +kernel
theorem dX7_init_13 : decode cX7_init 13 = .ok (.aload_n 0, 1) := by decide +kernel
theorem dX7_init_14 : decode cX7_init 14 = .ok (.sipush 4096, 3) := by decide +kernel
theorem dX7_init_17 : decode cX7_init 17 = .ok (.newarray .byte, 2) := by decide +kernel
theorem dX7_init_19 : decode cX7_init 19 = .ok (.putfield 15, 3) := by decide +kernel
theorem dX7_init_22 : decode cX7_init 22 = .ok (.aload_n 0, 1) := by decide +kernel
theorem dX7_init_23 : decode cX7_init 23 = .ok (.sipush 4096, 3) := by decide +kernel
theorem dX7_init_26 : decode cX7_init 26 = .ok (.newarray .int, 2) := by decide +kernel
theorem dX7_init_28 : decode cX7_init 28 = .ok (.putfield 18, 3) := by decide +kernel
theorem dX7_init_31 : decode cX7_init 31 = .ok (.aload_n 0, 1) := by decide +kernel
theorem dX7_init_32 : decode cX7_init 32 = .ok (.sipush 4096, 3) := by decide +kernel
theorem dX7_init_35 : decode cX7_init 35 = .ok (.newarray .int, 2) := by decide +kernel
theorem dX7_init_37 : decode cX7_init 37 = .ok (.putfield 22, 3) := by decide +kernel
theorem dX7_init_40 : decode cX7_init 40 = .ok (.aload_n 0, 1) := by decide +kernel
theorem dX7_init_41 : decode cX7_init 41 = .ok (.sipush 4096, 3) := by decide +kernel
theorem dX7_init_44 : decode cX7_init 44 = .ok (.newarray .int, 2) := by decide +kernel
theorem dX7_init_46 : decode cX7_init 46 = .ok (.putfield 25, 3) := by decide +kernel
theorem dX7_init_49 : decode cX7_init 49 = .ok (.aload_n 0, 1) := by decide +kernel
theorem dX7_init_50 : decode cX7_init 50 = .ok (.new 28, 3) := by decide +kernel
theorem dX7_init_53 : decode cX7_init 53 = .ok (.dup, 1) := by decide +kernel
theorem dX7_init_54 : decode cX7_init 54 = .ok (.invokespecial 30, 3) := by decide +kernel
theorem dX7_init_57 : decode cX7_init 57 = .ok (.putfield 31, 3) := by decide +kernel
theorem dX7_init_60 : decode cX7_init 60 = .ok (.aload_n 0, 1) := by decide +kernel
theorem dX7_init_61 : decode cX7_init 61 = .ok (.iconst 0, 1) := by decide +kernel
theorem dX7_init_62 : decode cX7_init 62 = .ok (.putfield 35, 3) := by decide +kernel
theorem dX7_init_65 : decode cX7_init 65 = .ok (.aload_n 0, 1) := by decide +kernel
theorem dX7_init_66 : decode cX7_init 66 = .ok (.iconst (-1), 1) := by decide +kernel
theorem dX7_init_67 : decode cX7_init 67 = .ok (.putfield 39, 3) := by decide +kernel
theorem dX7_init_70 : decode cX7_init 70 = .ok (.return_, 1) := by decide +kernel
theorem dX7_byteAt_0 : decode cX7_byteAt 0 = .ok (.iload_n 1, 1) := by decide +kernel
theorem dX7_byteAt_1 : decode cX7_byteAt 1 = .ok (.ifCond .lt 24, 3) := by decide +kernel
theorem dX7_byteAt_4 : decode cX7_byteAt 4 = .ok (.iload_n 1, 1) := by decide +kernel
theorem dX7_byteAt_5 : decode cX7_byteAt 5 = .ok (.aload_n 0, 1) := by decide +kernel
theorem dX7_byteAt_6 : decode cX7_byteAt 6 = .ok (.getfield 35, 3) := by decide +kernel
theorem dX7_byteAt_9 : decode cX7_byteAt 9 = .ok (.if_icmp .ge 16, 3) := by decide +kernel
theorem dX7_byteAt_12 : decode cX7_byteAt 12 = .ok (.aload_n 0, 1) := by decide +kernel
theorem dX7_byteAt_13 : decode cX7_byteAt 13 = .ok (.getfield 9, 3) := by decide +kernel
theorem dX7_byteAt_16 : decode cX7_byteAt 16 = .ok (.iload_n 1, 1) := by decide +kernel
theorem dX7_byteAt_17 : decode cX7_byteAt 17 = .ok (.baload, 1) := by decide +kernel
theorem dX7_byteAt_18 : decode cX7_byteAt 18 = .ok (.sipush 255, 3) := by decide +kernel
theorem dX7_byteAt_21 : decode cX7_byteAt 21 = .ok (.iand, 1) := by decide +kernel
theorem dX7_byteAt_22 : decode cX7_byteAt 22 = .ok (.goto 4, 3) := by decide +kernel
theorem dX7_byteAt_25 : decode cX7_byteAt 25 = .ok (.iconst (-1), 1) := by decide +kernel
theorem dX7_byteAt_26 : decode cX7_byteAt 26 = .ok (.ireturn, 1) := by decide +kernel
set_option maxRecDepth 20000 in
theorem ggX7_isObject_X7_byteAt : GoodIn wsX7_isObject wsX7_byteAt := goodIn_r _ [5, 6, 7, 8, 9, 10, 11, 12, 13, 14, 15] (by decide +kernel) (by decide +kernel)
set_option maxRecDepth 20000 in
theorem gX7_isObject_X7_byteAt : GoodIn wsX7_isObject (wsV RX7 42 RX7 yX7_byteAt wsX7_byteAt) := goodIn_app (goodIn_of _ (by decide +kernel)) ggX7_isObject_X7_byteAt
theorem dX7_isObject_0 : decode cX7_isObject 0 = .ok (.aload_n 0, 1) := by decide +kernel
theorem dX7_isObject_1 : decode cX7_isObject 1 = .ok (.iload_n 1, 1) := by decide +kernel
theorem dX7_isObject_2 : decode cX7_isObject 2 = .ok (.invokevirtual 42, 3) := by decide +kernel
theorem dX7_isObject_5 : decode cX7_isObject 5 = .ok (.bipush 123, 2) := by decide +kernel
theorem dX7_isObject_7 : decode cX7_isObject 7 = .ok (.if_icmp .ne 7, 3) := by decide +kernel
theorem dX7_isObject_10 : decode cX7_isObject 10 = .ok (.iconst 1, 1) := by decide +kernel
theorem dX7_isObject_11 : decode cX7_isObject 11 = .ok (.goto 4, 3) := by decide +kernel
theorem dX7_isObject_14 : decode cX7_isObject 14 = .ok (.iconst 0, 1) := by decide +kernel
theorem dX7_isObject_15 : decode cX7_isObject 15 = .ok (.ireturn, 1) := by decide +kernel
set_option maxRecDepth 20000 in
theorem ggX7_read_X2_clear : GoodIn wsX7_read wsX2_clear := goodIn_r _ [8, 9, 10, 11, 12, 13, 14, 54, 55, 56, 57, 58] (by decide +kernel) (by decide +kernel)
set_option maxRecDepth 20000 in
theorem gX7_read_X2_clear : GoodIn wsX7_read (wsV RX7 84 RX2 yX2_clear wsX2_clear) := goodIn_app (goodIn_of _ (by decide +kernel)) ggX7_read_X2_clear
set_option maxRecDepth 20000 in
theorem ggX7_read_X7_behindBlanks : GoodIn wsX7_read wsX7_behindBlanks := goodIn_r _ [19, 3, 20, 21, 22, 18, 23, 24, 25, 26, 27, 46, 47, 48, 49, 50, 51, 52, 53] (by decide +kernel) (by decide +kernel)
set_option maxRecDepth 20000 in
theorem gX7_read_X7_behindBlanks : GoodIn wsX7_read (wsV RX7 87 RX7 yX7_behindBlanks wsX7_behindBlanks) := goodIn_app (goodIn_of _ (by decide +kernel)) ggX7_read_X7_behindBlanks
set_option maxRecDepth 20000 in
theorem ggX7_read_X7_readValue : GoodIn wsX7_read wsX7_readValue := goodIn_r _ [31, 20, 21, 22, 18, 23, 3, 24, 32, 33, 34, 35, 36, 37, 38, 2, 39, 40, 41, 42, 43, 44, 45, 15, 16, 17, 19, 25, 26, 27, 28, 29, 30, 46, 47, 48, 49, 50, 51, 52, 53] (by decide +kernel) (by decide +kernel)
set_option maxRecDepth 20000 in
theorem gX7_read_X7_readValue : GoodIn wsX7_read (wsV RX7 90 RX7 yX7_readValue wsX7_readValue) := goodIn_app (goodIn_of _ (by decide +kernel)) ggX7_read_X7_readValue
set_option maxRecDepth 20000 in
theorem ggX7_read_X7_refuse : GoodIn wsX7_read wsX7_refuse := goodIn_r _ [38, 2, 46, 47, 48, 49, 50, 51, 52, 53] (by decide +kernel) (by decide +kernel)
set_option maxRecDepth 20000 in
theorem gX7_read_X7_refuse : GoodIn wsX7_read (wsV RX7 94 RX7 yX7_refuse wsX7_refuse) := goodIn_app (goodIn_of _ (by decide +kernel)) ggX7_read_X7_refuse
theorem dX7_read_0 : decode cX7_read 0 = .ok (.aload_n 0, 1) := by decide +kernel
theorem dX7_read_1 : decode cX7_read 1 = .ok (.getfield 31, 3) := by decide +kernel
theorem dX7_read_4 : decode cX7_read 4 = .ok (.invokevirtual 84, 3) := by decide +kernel
theorem dX7_read_7 : decode cX7_read 7 = .ok (.aload_n 0, 1) := by decide +kernel
theorem dX7_read_8 : decode cX7_read 8 = .ok (.iconst (-1), 1) := by decide +kernel
theorem dX7_read_9 : decode cX7_read 9 = .ok (.putfield 39, 3) := by decide +kernel
theorem dX7_read_12 : decode cX7_read 12 = .ok (.aload_n 0, 1) := by decide +kernel
theorem dX7_read_13 : decode cX7_read 13 = .ok (.iconst 0, 1) := by decide +kernel
theorem dX7_read_14 : decode cX7_read 14 = .ok (.invokevirtual 87, 3) := by decide +kernel
theorem dX7_read_17 : decode cX7_read 17 = .ok (.istore_n 1, 1) := by decide +kernel
theorem dX7_read_18 : decode cX7_read 18 = .ok (.aload_n 0, 1) := by decide +kernel
theorem dX7_read_19 : decode cX7_read 19 = .ok (.iload_n 1, 1) := by decide +kernel
theorem dX7_read_20 : decode cX7_read 20 = .ok (.iconst 0, 1) := by decide +kernel
theorem dX7_read_21 : decode cX7_read 21 = .ok (.invokevirtual 90, 3) := by decide +kernel
theorem dX7_read_24 : decode cX7_read 24 = .ok (.istore_n 2, 1) := by decide +kernel
theorem dX7_read_25 : decode cX7_read 25 = .ok (.iload_n 2, 1) := by decide +kernel
theorem dX7_read_26 : decode cX7_read 26 = .ok (.iconst (-1), 1) := by decide +kernel
theorem dX7_read_27 : decode cX7_read 27 = .ok (.if_icmp .ne 5, 3) := by decide +kernel
theorem dX7_read_30 : decode cX7_read 30 = .ok (.iconst (-1), 1) := by decide +kernel
theorem dX7_read_31 : decode cX7_read 31 = .ok (.ireturn, 1) := by decide +kernel
theorem dX7_read_32 : decode cX7_read 32 = .ok (.aload_n 0, 1) := by decide +kernel
theorem dX7_read_33 : decode cX7_read 33 = .ok (.iload_n 2, 1) := by decide +kernel
theorem dX7_read_34 : decode cX7_read 34 = .ok (.invokevirtual 87, 3) := by decide +kernel
theorem dX7_read_37 : decode cX7_read 37 = .ok (.istore_n 2, 1) := by decide +kernel
theorem dX7_read_38 : decode cX7_read 38 = .ok (.iload_n 2, 1) := by decide +kernel
theorem dX7_read_39 : decode cX7_read 39 = .ok (.aload_n 0, 1) := by decide +kernel
theorem dX7_read_40 : decode cX7_read 40 = .ok (.getfield 35, 3) := by decide +kernel
theorem dX7_read_43 : decode cX7_read 43 = .ok (.if_icmp .ge 11, 3) := by decide +kernel
theorem dX7_read_46 : decode cX7_read 46 = .ok (.aload_n 0, 1) := by decide +kernel
theorem dX7_read_47 : decode cX7_read 47 = .ok (.iload_n 2, 1) := by decide +kernel
theorem dX7_read_48 : decode cX7_read 48 = .ok (.invokevirtual 94, 3) := by decide +kernel
theorem dX7_read_51 : decode cX7_read 51 = .ok (.goto 4, 3) := by decide +kernel
theorem dX7_read_54 : decode cX7_read 54 = .ok (.iload_n 1, 1) := by decide +kernel
theorem dX7_read_55 : decode cX7_read 55 = .ok (.ireturn, 1) := by decide +kernel
theorem dX7_refuse_0 : decode cX7_refuse 0 = .ok (.aload_n 0, 1) := by decide +kernel
theorem dX7_refuse_1 : decode cX7_refuse 1 = .ok (.iload_n 1, 1) := by decide +kernel
theorem dX7_refuse_2 : decode cX7_refuse 2 = .ok (.putfield 39, 3) := by decide +kernel
theorem dX7_refuse_5 : decode cX7_refuse 5 = .ok (.iconst (-1), 1) := by decide +kernel
theorem dX7_refuse_6 : decode cX7_refuse 6 = .ok (.ireturn, 1) := by decide +kernel
set_option maxRecDepth 20000 in
theorem ggX7_behindBlanks_X7_byteAt : GoodIn wsX7_behindBlanks wsX7_byteAt := goodIn_r _ [6, 1, 7, 11, 12, 13, 14, 15, 16, 17, 18] (by decide +kernel) (by decide +kernel)
set_option maxRecDepth 20000 in
theorem gX7_behindBlanks_X7_byteAt : GoodIn wsX7_behindBlanks (wsV RX7 42 RX7 yX7_byteAt wsX7_byteAt) := goodIn_app (goodIn_of _ (by decide +kernel)) ggX7_behindBlanks_X7_byteAt
set_option maxRecDepth 20000 in
theorem ggX7_behindBlanks_X7_isBlank : GoodIn wsX7_behindBlanks wsX7_isBlank := goodIn_r _ [10] (by decide +kernel) (by decide +kernel)
set_option maxRecDepth 20000 in
theorem gX7_behindBlanks_X7_isBlank : GoodIn wsX7_behindBlanks (va_wsS RX7 97 yX7_isBlank wsX7_isBlank) := goodIn_app (goodIn_of _ (by decide +kernel)) ggX7_behindBlanks_X7_isBlank
theorem dX7_behindBlanks_0 : decode cX7_behindBlanks 0 = .ok (.iload_n 1, 1) := by decide +kernel
theorem dX7_behindBlanks_1 : decode cX7_behindBlanks 1 = .ok (.istore_n 2, 1) := by decide +kernel
theorem dX7_behindBlanks_2 : decode cX7_behindBlanks 2 = .ok (.iload_n 2, 1) := by decide +kernel
theorem dX7_behindBlanks_3 : decode cX7_behindBlanks 3 = .ok (.aload_n 0, 1) := by decide +kernel
theorem dX7_behindBlanks_4 : decode cX7_behindBlanks 4 = .ok (.getfield 35, 3) := by decide +kernel
theorem dX7_behindBlanks_7 : decode cX7_behindBlanks 7 = .ok (.if_icmp .ge 20, 3) := by decide +kernel
theorem dX7_behindBlanks_10 : decode cX7_behindBlanks 10 = .ok (.aload_n 0, 1) := by decide +kernel
theorem dX7_behindBlanks_11 : decode cX7_behindBlanks 11 = .ok (.iload_n 2, 1) := by decide +kernel
theorem dX7_behindBlanks_12 : decode cX7_behindBlanks 12 = .ok (.invokevirtual 42, 3) := by decide +kernel
theorem dX7_behindBlanks_15 : decode cX7_behindBlanks 15 = .ok (.invokestatic 97, 3) := by decide +kernel
theorem dX7_behindBlanks_18 : decode cX7_behindBlanks 18 = .ok (.ifCond .eq 9, 3) := by decide +kernel
theorem dX7_behindBlanks_21 : decode cX7_behindBlanks 21 = .ok (.iinc 2 1, 3) := by decide +kernel
theorem dX7_behindBlanks_24 : decode cX7_behindBlanks 24 = .ok (.goto (-22), 3) := by decide +kernel
theorem dX7_behindBlanks_27 : decode cX7_behindBlanks 27 = .ok (.iload_n 2, 1) := by decide +kernel
theorem dX7_behindBlanks_28 : decode cX7_behindBlanks 28 = .ok (.ireturn, 1) := by decide +kernel
theorem dX7_isBlank_0 : decode cX7_isBlank 0 = .ok (.iload_n 0, 1) := by decide +kernel
theorem dX7_isBlank_1 : decode cX7_isBlank 1 = .ok (.bipush 32, 2) := by decide +kernel
theorem dX7_isBlank_3 : decode cX7_isBlank 3 = .ok (.if_icmp .eq 21, 3) := by decide +kernel
theorem dX7_isBlank_6 : decode cX7_isBlank 6 = .ok (.iload_n 0, 1) := by decide +kernel
theorem dX7_isBlank_7 : decode cX7_isBlank 7 = .ok (.bipush 10, 2) := by decide +kernel
theorem dX7_isBlank_9 : decode cX7_isBlank 9 = .ok (.if_icmp .eq 15, 3) := by decide +kernel
theorem dX7_isBlank_12 : decode cX7_isBlank 12 = .ok (.iload_n 0, 1) := by decide +kernel
theorem dX7_isBlank_13 : decode cX7_isBlank 13 = .ok (.bipush 13, 2) := by decide +kernel
theorem dX7_isBlank_15 : decode cX7_isBlank 15 = .ok (.if_icmp .eq 9, 3) := by decide +kernel
theorem dX7_isBlank_18 : decode cX7_isBlank 18 = .ok (.iload_n 0, 1) := by decide +kernel
theorem dX7_isBlank_19 : decode cX7_isBlank 19 = .ok (.bipush 9, 2) := by decide +kernel
theorem dX7_isBlank_21 : decode cX7_isBlank 21 = .ok (.if_icmp .ne 7, 3) := by decide +kernel
theorem dX7_isBlank_24 : decode cX7_isBlank 24 = .ok (.iconst 1, 1) := by decide +kernel
theorem dX7_isBlank_25 : decode cX7_isBlank 25 = .ok (.goto 4, 3) := by decide +kernel
theorem dX7_isBlank_28 : decode cX7_isBlank 28 = .ok (.iconst 0, 1) := by decide +kernel
theorem dX7_isBlank_29 : decode cX7_isBlank 29 = .ok (.ireturn, 1) := by decide +kernel
set_option maxRecDepth 20000 in
theorem ggX7_readValue_X7_byteAt : GoodIn wsX7_readValue wsX7_byteAt := goodIn_r _ [5, 6, 7, 33, 34, 35, 36, 37, 38, 39, 40] (by decide +kernel) (by decide +kernel)
set_option maxRecDepth 20000 in
theorem gX7_readValue_X7_byteAt : GoodIn wsX7_readValue (wsV RX7 42 RX7 yX7_byteAt wsX7_byteAt) := goodIn_app (goodIn_of _ (by decide +kernel)) ggX7_readValue_X7_byteAt
set_option maxRecDepth 20000 in
theorem ggX7_readValue_X7_readGroup : GoodIn wsX7_readValue wsX7_readGroup := goodIn_r _ [16, 17, 18, 6, 11, 12, 13, 4, 14, 15, 19, 20, 21, 22, 1, 2, 3, 5, 7, 23, 24, 25, 26, 27, 28, 29, 30, 31, 32, 0, 8, 9, 10, 33, 34, 35, 36, 37, 38, 39, 40] (by decide +kernel) (by decide +kernel)
set_option maxRecDepth 20000 in
theorem gX7_readValue_X7_readGroup : GoodIn wsX7_readValue (wsV RX7 100 RX7 yX7_readGroup wsX7_readGroup) := goodIn_app (goodIn_of _ (by decide +kernel)) ggX7_readValue_X7_readGroup
set_option maxRecDepth 20000 in
theorem ggX7_readValue_X7_refuse : GoodIn wsX7_readValue wsX7_refuse := goodIn_r _ [14, 15, 33, 34, 35, 36, 37, 38, 39, 40] (by decide +kernel) (by decide +kernel)
set_option maxRecDepth 20000 in
theorem gX7_readValue_X7_refuse : GoodIn wsX7_readValue (wsV RX7 94 RX7 yX7_refuse wsX7_refuse) := goodIn_app (goodIn_of _ (by decide +kernel)) ggX7_readValue_X7_refuse
theorem dX7_readValue_0 : decode cX7_readValue 0 = .ok (.aload_n 0, 1) := by decide +kernel
theorem dX7_readValue_1 : decode cX7_readValue 1 = .ok (.iload_n 1, 1) := by decide +kernel
theorem dX7_readValue_2 : decode cX7_readValue 2 = .ok (.invokevirtual 42, 3) := by decide +kernel
theorem dX7_readValue_5 : decode cX7_readValue 5 = .ok (.lookupswitch 96 #[(34, 66), (91, 59), (102, 80), (110, 88), (116, 72), (123, 59)], 59) := by decide +kernel
theorem dX7_readValue_64 : decode cX7_readValue 64 = .ok (.aload_n 0, 1) := by decide +kernel
theorem dX7_readValue_65 : decode cX7_readValue 65 = .ok (.iload_n 1, 1) := by decide +kernel
theorem dX7_readValue_66 : decode cX7_readValue 66 = .ok (.iload_n 2, 1) := by decide +kernel
theorem dX7_readValue_67 : decode cX7_readValue 67 = .ok (.invokevirtual 100, 3) := by decide +kernel
theorem dX7_readValue_70 : decode cX7_readValue 70 = .ok (.ireturn, 1) := by decide +kernel
theorem dX7_readValue_71 : decode cX7_readValue 71 = .ok (.aload_n 0, 1) := by decide +kernel
theorem dX7_readValue_72 : decode cX7_readValue 72 = .ok (.iload_n 1, 1) := by decide +kernel
theorem dX7_readValue_73 : decode cX7_readValue 73 = .ok (.invokevirtual 103, 3) := by decide +kernel
theorem dX7_readValue_76 : decode cX7_readValue 76 = .ok (.ireturn, 1) := by decide +kernel
theorem dX7_readValue_77 : decode cX7_readValue 77 = .ok (.aload_n 0, 1) := by decide +kernel
theorem dX7_readValue_78 : decode cX7_readValue 78 = .ok (.iload_n 1, 1) := by decide +kernel
theorem dX7_readValue_79 : decode cX7_readValue 79 = .ok (.ldc 106, 2) := by decide +kernel
theorem dX7_readValue_81 : decode cX7_readValue 81 = .ok (.invokevirtual 108, 3) := by decide +kernel
theorem dX7_readValue_84 : decode cX7_readValue 84 = .ok (.ireturn, 1) := by decide +kernel
theorem dX7_readValue_85 : decode cX7_readValue 85 = .ok (.aload_n 0, 1) := by decide +kernel
theorem dX7_readValue_86 : decode cX7_readValue 86 = .ok (.iload_n 1, 1) := by decide +kernel
theorem dX7_readValue_87 : decode cX7_readValue 87 = .ok (.ldc 112, 2) := by decide +kernel
theorem dX7_readValue_89 : decode cX7_readValue 89 = .ok (.invokevirtual 108, 3) := by decide +kernel
theorem dX7_readValue_92 : decode cX7_readValue 92 = .ok (.ireturn, 1) := by decide +kernel
theorem dX7_readValue_93 : decode cX7_readValue 93 = .ok (.aload_n 0, 1) := by decide +kernel
theorem dX7_readValue_94 : decode cX7_readValue 94 = .ok (.iload_n 1, 1) := by decide +kernel
theorem dX7_readValue_95 : decode cX7_readValue 95 = .ok (.ldc 114, 2) := by decide +kernel
theorem dX7_readValue_97 : decode cX7_readValue 97 = .ok (.invokevirtual 108, 3) := by decide +kernel
theorem dX7_readValue_100 : decode cX7_readValue 100 = .ok (.ireturn, 1) := by decide +kernel
theorem dX7_readValue_101 : decode cX7_readValue 101 = .ok (.aload_n 0, 1) := by decide +kernel
theorem dX7_readValue_102 : decode cX7_readValue 102 = .ok (.iload_n 1, 1) := by decide +kernel
theorem dX7_readValue_103 : decode cX7_readValue 103 = .ok (.invokevirtual 116, 3) := by decide +kernel
theorem dX7_readValue_106 : decode cX7_readValue 106 = .ok (.ifCond .eq 11, 3) := by decide +kernel
theorem dX7_readValue_109 : decode cX7_readValue 109 = .ok (.aload_n 0, 1) := by decide +kernel
theorem dX7_readValue_110 : decode cX7_readValue 110 = .ok (.iload_n 1, 1) := by decide +kernel
theorem dX7_readValue_111 : decode cX7_readValue 111 = .ok (.invokevirtual 119, 3) := by decide +kernel
theorem dX7_readValue_114 : decode cX7_readValue 114 = .ok (.goto 8, 3) := by decide +kernel
theorem dX7_readValue_117 : decode cX7_readValue 117 = .ok (.aload_n 0, 1) := by decide +kernel
theorem dX7_readValue_118 : decode cX7_readValue 118 = .ok (.iload_n 1, 1) := by decide +kernel
theorem dX7_readValue_119 : decode cX7_readValue 119 = .ok (.invokevirtual 94, 3) := by decide +kernel
theorem dX7_readValue_122 : decode cX7_readValue 122 = .ok (.ireturn, 1) := by decide +kernel
set_option maxRecDepth 20000 in
theorem ggX7_readGroup_X7_refuse : GoodIn wsX7_readGroup wsX7_refuse := goodIn_r _ [8, 9, 33, 34, 35, 36, 37, 38, 39, 40] (by decide +kernel) (by decide +kernel)
set_option maxRecDepth 20000 in
theorem gX7_readGroup_X7_refuse : GoodIn wsX7_readGroup (wsV RX7 94 RX7 yX7_refuse wsX7_refuse) := goodIn_app (goodIn_of _ (by decide +kernel)) ggX7_readGroup_X7_refuse
set_option maxRecDepth 20000 in
theorem ggX7_readGroup_X7_isObject : GoodIn wsX7_readGroup wsX7_isObject := goodIn_r _ [13, 14, 15, 16, 7, 17, 3, 18, 33, 34, 35, 36, 37, 38, 39, 40] (by decide +kernel) (by decide +kernel)
set_option maxRecDepth 20000 in
theorem gX7_readGroup_X7_isObject : GoodIn wsX7_readGroup (wsV RX7 122 RX7 yX7_isObject wsX7_isObject) := goodIn_app (goodIn_of _ (by decide +kernel)) ggX7_readGroup_X7_isObject
set_option maxRecDepth 20000 in
theorem ggX7_readGroup_X7_behindBlanks : GoodIn wsX7_readGroup wsX7_behindBlanks := goodIn_r _ [22, 3, 14, 15, 16, 7, 17, 18, 23, 24, 25, 33, 34, 35, 36, 37, 38, 39, 40] (by decide +kernel) (by decide +kernel)
set_option maxRecDepth 20000 in
theorem gX7_readGroup_X7_behindBlanks : GoodIn wsX7_readGroup (wsV RX7 87 RX7 yX7_behindBlanks wsX7_behindBlanks) := goodIn_app (goodIn_of _ (by decide +kernel)) ggX7_readGroup_X7_behindBlanks
set_option maxRecDepth 20000 in
theorem ggX7_readGroup_X7_byteAt : GoodIn wsX7_readGroup wsX7_byteAt := goodIn_r _ [17, 3, 18, 33, 34, 35, 36, 37, 38, 39, 40] (by decide +kernel) (by decide +kernel)
set_option maxRecDepth 20000 in
theorem gX7_readGroup_X7_byteAt : GoodIn wsX7_readGroup (wsV RX7 42 RX7 yX7_byteAt wsX7_byteAt) := goodIn_app (goodIn_of _ (by decide +kernel)) ggX7_readGroup_X7_byteAt
set_option maxRecDepth 20000 in
theorem ggX7_readGroup_X7_readValue : GoodIn wsX7_readGroup wsX7_readValue := goodIn_r _ [29, 14, 15, 16, 7, 17, 3, 18, 30, 31, 32, 4, 5, 6, 8, 9, 0, 1, 2, 10, 11, 12, 13, 19, 20, 21, 22, 23, 24, 25, 26, 27, 28, 33, 34, 35, 36, 37, 38, 39, 40] (by decide +kernel) (by decide +kernel)
set_option maxRecDepth 20000 in
theorem gX7_readGroup_X7_readValue : GoodIn wsX7_readGroup (wsV RX7 90 RX7 yX7_readValue wsX7_readValue) := goodIn_app (goodIn_of _ (by decide +kernel)) ggX7_readGroup_X7_readValue
theorem dX7_readGroup_0 : decode cX7_readGroup 0 = .ok (.iload_n 2, 1) := by decide +kernel
theorem dX7_readGroup_1 : decode cX7_readGroup 1 = .ok (.bipush 24, 2) := by decide +kernel
theorem dX7_readGroup_3 : decode cX7_readGroup 3 = .ok (.if_icmp .lt 9, 3) := by decide +kernel
theorem dX7_readGroup_6 : decode cX7_readGroup 6 = .ok (.aload_n 0, 1) := by decide +kernel
theorem dX7_readGroup_7 : decode cX7_readGroup 7 = .ok (.iload_n 1, 1) := by decide +kernel
theorem dX7_readGroup_8 : decode cX7_readGroup 8 = .ok (.invokevirtual 94, 3) := by decide +kernel
theorem dX7_readGroup_11 : decode cX7_readGroup 11 = .ok (.ireturn, 1) := by decide +kernel
theorem dX7_readGroup_12 : decode cX7_readGroup 12 = .ok (.aload_n 0, 1) := by decide +kernel
theorem dX7_readGroup_13 : decode cX7_readGroup 13 = .ok (.iload_n 1, 1) := by decide +kernel
theorem dX7_readGroup_14 : decode cX7_readGroup 14 = .ok (.invokevirtual 122, 3) := by decide +kernel
theorem dX7_readGroup_17 : decode cX7_readGroup 17 = .ok (.ifCond .eq 8, 3) := by decide +kernel
theorem dX7_readGroup_20 : decode cX7_readGroup 20 = .ok (.bipush 125, 2) := by decide +kernel
theorem dX7_readGroup_22 : decode cX7_readGroup 22 = .ok (.goto 5, 3) := by decide +kernel
theorem dX7_readGroup_25 : decode cX7_readGroup 25 = .ok (.bipush 93, 2) := by decide +kernel
theorem dX7_readGroup_27 : decode cX7_readGroup 27 = .ok (.istore_n 3, 1) := by decide +kernel
theorem dX7_readGroup_28 : decode cX7_readGroup 28 = .ok (.aload_n 0, 1) := by decide +kernel
theorem dX7_readGroup_29 : decode cX7_readGroup 29 = .ok (.getfield 25, 3) := by decide +kernel
theorem dX7_readGroup_32 : decode cX7_readGroup 32 = .ok (.iload_n 1, 1) := by decide +kernel
theorem dX7_readGroup_33 : decode cX7_readGroup 33 = .ok (.iconst 0, 1) := by decide +kernel
theorem dX7_readGroup_34 : decode cX7_readGroup 34 = .ok (.iastore, 1) := by decide +kernel
theorem dX7_readGroup_35 : decode cX7_readGroup 35 = .ok (.aload_n 0, 1) := by decide +kernel
theorem dX7_readGroup_36 : decode cX7_readGroup 36 = .ok (.getfield 18, 3) := by decide +kernel
theorem dX7_readGroup_39 : decode cX7_readGroup 39 = .ok (.iload_n 1, 1) := by decide +kernel
theorem dX7_readGroup_40 : decode cX7_readGroup 40 = .ok (.iconst (-1), 1) := by decide +kernel
theorem dX7_readGroup_41 : decode cX7_readGroup 41 = .ok (.iastore, 1) := by decide +kernel
theorem dX7_readGroup_42 : decode cX7_readGroup 42 = .ok (.aload_n 0, 1) := by decide +kernel
theorem dX7_readGroup_43 : decode cX7_readGroup 43 = .ok (.iload_n 1, 1) := by decide +kernel
theorem dX7_readGroup_44 : decode cX7_readGroup 44 = .ok (.iconst 1, 1) := by decide +kernel
theorem dX7_readGroup_45 : decode cX7_readGroup 45 = .ok (.iadd, 1) := by decide +kernel
theorem dX7_readGroup_46 : decode cX7_readGroup 46 = .ok (.invokevirtual 87, 3) := by decide +kernel
theorem dX7_readGroup_49 : decode cX7_readGroup 49 = .ok (.istore 4, 2) := by decide +kernel
theorem dX7_readGroup_51 : decode cX7_readGroup 51 = .ok (.aload_n 0, 1) := by decide +kernel
theorem dX7_readGroup_52 : decode cX7_readGroup 52 = .ok (.iload 4, 2) := by decide +kernel
theorem dX7_readGroup_54 : decode cX7_readGroup 54 = .ok (.invokevirtual 42, 3) := by decide +kernel
theorem dX7_readGroup_57 : decode cX7_readGroup 57 = .ok (.iload_n 3, 1) := by decide +kernel
theorem dX7_readGroup_58 : decode cX7_readGroup 58 = .ok (.if_icmp .ne 8, 3) := by decide +kernel
theorem dX7_readGroup_61 : decode cX7_readGroup 61 = .ok (.iload 4, 2) := by decide +kernel
theorem dX7_readGroup_63 : decode cX7_readGroup 63 = .ok (.iconst 1, 1) := by decide +kernel
theorem dX7_readGroup_64 : decode cX7_readGroup 64 = .ok (.iadd, 1) := by decide +kernel
theorem dX7_readGroup_65 : decode cX7_readGroup 65 = .ok (.ireturn, 1) := by decide +kernel
theorem dX7_readGroup_66 : decode cX7_readGroup 66 = .ok (.iconst (-1), 1) := by decide +kernel
theorem dX7_readGroup_67 : decode cX7_readGroup 67 = .ok (.istore 5, 2) := by decide +kernel
theorem dX7_readGroup_69 : decode cX7_readGroup 69 = .ok (.iconst 1, 1) := by decide +kernel
theorem dX7_readGroup_70 : decode cX7_readGroup 70 = .ok (.istore 6, 2) := by decide +kernel
theorem dX7_readGroup_72 : decode cX7_readGroup 72 = .ok (.iload 6, 2) := by decide +kernel
theorem dX7_readGroup_74 : decode cX7_readGroup 74 = .ok (.aload_n 0, 1) := by decide +kernel
theorem dX7_readGroup_75 : decode cX7_readGroup 75 = .ok (.getfield 35, 3) := by decide +kernel
theorem dX7_readGroup_78 : decode cX7_readGroup 78 = .ok (.if_icmp .gt 132, 3) := by decide +kernel
theorem dX7_readGroup_81 : decode cX7_readGroup 81 = .ok (.aload_n 0, 1) := by decide +kernel
theorem dX7_readGroup_82 : decode cX7_readGroup 82 = .ok (.iload_n 1, 1) := by decide +kernel
theorem dX7_readGroup_83 : decode cX7_readGroup 83 = .ok (.invokevirtual 122, 3) := by decide +kernel
theorem dX7_readGroup_86 : decode cX7_readGroup 86 = .ok (.ifCond .eq 13, 3) := by decide +kernel
theorem dX7_readGroup_89 : decode cX7_readGroup 89 = .ok (.aload_n 0, 1) := by decide +kernel
theorem dX7_readGroup_90 : decode cX7_readGroup 90 = .ok (.iload_n 1, 1) := by decide +kernel
theorem dX7_readGroup_91 : decode cX7_readGroup 91 = .ok (.iload 4, 2) := by decide +kernel
theorem dX7_readGroup_93 : decode cX7_readGroup 93 = .ok (.invokevirtual 125, 3) := by decide +kernel
theorem dX7_readGroup_96 : decode cX7_readGroup 96 = .ok (.goto 5, 3) := by decide +kernel
theorem dX7_readGroup_99 : decode cX7_readGroup 99 = .ok (.iload 4, 2) := by decide +kernel
theorem dX7_readGroup_101 : decode cX7_readGroup 101 = .ok (.istore 7, 2) := by decide +kernel
theorem dX7_readGroup_103 : decode cX7_readGroup 103 = .ok (.iload 7, 2) := by decide +kernel
theorem dX7_readGroup_105 : decode cX7_readGroup 105 = .ok (.iconst (-1), 1) := by decide +kernel
theorem dX7_readGroup_106 : decode cX7_readGroup 106 = .ok (.if_icmp .ne 7, 3) := by decide +kernel
theorem dX7_readGroup_109 : decode cX7_readGroup 109 = .ok (.iconst (-1), 1) := by decide +kernel
theorem dX7_readGroup_110 : decode cX7_readGroup 110 = .ok (.goto 12, 3) := by decide +kernel
theorem dX7_readGroup_113 : decode cX7_readGroup 113 = .ok (.aload_n 0, 1) := by decide +kernel
theorem dX7_readGroup_114 : decode cX7_readGroup 114 = .ok (.iload 7, 2) := by decide +kernel
theorem dX7_readGroup_116 : decode cX7_readGroup 116 = .ok (.iload_n 2, 1) := by decide +kernel
theorem dX7_readGroup_117 : decode cX7_readGroup 117 = .ok (.iconst 1, 1) := by decide +kernel
theorem dX7_readGroup_118 : decode cX7_readGroup 118 = .ok (.iadd, 1) := by decide +kernel
theorem dX7_readGroup_119 : decode cX7_readGroup 119 = .ok (.invokevirtual 90, 3) := by decide +kernel
theorem dX7_readGroup_122 : decode cX7_readGroup 122 = .ok (.istore 8, 2) := by decide +kernel
theorem dX7_readGroup_124 : decode cX7_readGroup 124 = .ok (.iload 8, 2) := by decide +kernel
theorem dX7_readGroup_126 : decode cX7_readGroup 126 = .ok (.iconst (-1), 1) := by decide +kernel
theorem dX7_readGroup_127 : decode cX7_readGroup 127 = .ok (.if_icmp .ne 5, 3) := by decide +kernel
theorem dX7_readGroup_130 : decode cX7_readGroup 130 = .ok (.iconst (-1), 1) := by decide +kernel
theorem dX7_readGroup_131 : decode cX7_readGroup 131 = .ok (.ireturn, 1) := by decide +kernel
theorem dX7_readGroup_132 : decode cX7_readGroup 132 = .ok (.aload_n 0, 1) := by decide +kernel
theorem dX7_readGroup_133 : decode cX7_readGroup 133 = .ok (.iload_n 1, 1) := by decide +kernel
theorem dX7_readGroup_134 : decode cX7_readGroup 134 = .ok (.iload 5, 2) := by decide +kernel
theorem dX7_readGroup_136 : decode cX7_readGroup 136 = .ok (.iload 4, 2) := by decide +kernel
theorem dX7_readGroup_138 : decode cX7_readGroup 138 = .ok (.invokevirtual 128, 3) := by decide +kernel
theorem dX7_readGroup_141 : decode cX7_readGroup 141 = .ok (.aload_n 0, 1) := by decide +kernel
theorem dX7_readGroup_142 : decode cX7_readGroup 142 = .ok (.getfield 25, 3) := by decide +kernel
theorem dX7_readGroup_145 : decode cX7_readGroup 145 = .ok (.iload_n 1, 1) := by decide +kernel
theorem dX7_readGroup_146 : decode cX7_readGroup 146 = .ok (.iload 6, 2) := by decide +kernel
theorem dX7_readGroup_148 : decode cX7_readGroup 148 = .ok (.iastore, 1) := by decide +kernel
theorem dX7_readGroup_149 : decode cX7_readGroup 149 = .ok (.aload_n 0, 1) := by decide +kernel
theorem dX7_readGroup_150 : decode cX7_readGroup 150 = .ok (.iload 8, 2) := by decide +kernel
theorem dX7_readGroup_152 : decode cX7_readGroup 152 = .ok (.invokevirtual 87, 3) := by decide +kernel
theorem dX7_readGroup_155 : decode cX7_readGroup 155 = .ok (.istore 9, 2) := by decide +kernel
theorem dX7_readGroup_157 : decode cX7_readGroup 157 = .ok (.aload_n 0, 1) := by decide +kernel
theorem dX7_readGroup_158 : decode cX7_readGroup 158 = .ok (.iload 9, 2) := by decide +kernel
theorem dX7_readGroup_160 : decode cX7_readGroup 160 = .ok (.invokevirtual 42, 3) := by decide +kernel
theorem dX7_readGroup_163 : decode cX7_readGroup 163 = .ok (.iload_n 3, 1) := by decide +kernel
theorem dX7_readGroup_164 : decode cX7_readGroup 164 = .ok (.if_icmp .ne 8, 3) := by decide +kernel
theorem dX7_readGroup_167 : decode cX7_readGroup 167 = .ok (.iload 9, 2) := by decide +kernel
theorem dX7_readGroup_169 : decode cX7_readGroup 169 = .ok (.iconst 1, 1) := by decide +kernel
theorem dX7_readGroup_170 : decode cX7_readGroup 170 = .ok (.iadd, 1) := by decide +kernel
theorem dX7_readGroup_171 : decode cX7_readGroup 171 = .ok (.ireturn, 1) := by decide +kernel
theorem dX7_readGroup_172 : decode cX7_readGroup 172 = .ok (.aload_n 0, 1) := by decide +kernel
theorem dX7_readGroup_173 : decode cX7_readGroup 173 = .ok (.iload 9, 2) := by decide +kernel
theorem dX7_readGroup_175 : decode cX7_readGroup 175 = .ok (.invokevirtual 42, 3) := by decide +kernel
theorem dX7_readGroup_178 : decode cX7_readGroup 178 = .ok (.bipush 44, 2) := by decide +kernel
theorem dX7_readGroup_180 : decode cX7_readGroup 180 = .ok (.if_icmp .eq 10, 3) := by decide +kernel
theorem dX7_readGroup_183 : decode cX7_readGroup 183 = .ok (.aload_n 0, 1) := by decide +kernel
theorem dX7_readGroup_184 : decode cX7_readGroup 184 = .ok (.iload 9, 2) := by decide +kernel
theorem dX7_readGroup_186 : decode cX7_readGroup 186 = .ok (.invokevirtual 94, 3) := by decide +kernel
theorem dX7_readGroup_189 : decode cX7_readGroup 189 = .ok (.ireturn, 1) := by decide +kernel
theorem dX7_readGroup_190 : decode cX7_readGroup 190 = .ok (.iload 4, 2) := by decide +kernel
theorem dX7_readGroup_192 : decode cX7_readGroup 192 = .ok (.istore 5, 2) := by decide +kernel
theorem dX7_readGroup_194 : decode cX7_readGroup 194 = .ok (.aload_n 0, 1) := by decide +kernel
theorem dX7_readGroup_195 : decode cX7_readGroup 195 = .ok (.iload 9, 2) := by decide +kernel
theorem dX7_readGroup_197 : decode cX7_readGroup 197 = .ok (.iconst 1, 1) := by decide +kernel
theorem dX7_readGroup_198 : decode cX7_readGroup 198 = .ok (.iadd, 1) := by decide +kernel
theorem dX7_readGroup_199 : decode cX7_readGroup 199 = .ok (.invokevirtual 87, 3) := by decide +kernel
theorem dX7_readGroup_202 : decode cX7_readGroup 202 = .ok (.istore 4, 2) := by decide +kernel
theorem dX7_readGroup_204 : decode cX7_readGroup 204 = .ok (.iinc 6 1, 3) := by decide +kernel
theorem dX7_readGroup_207 : decode cX7_readGroup 207 = .ok (.goto (-135), 3) := by decide +kernel
theorem dX7_readGroup_210 : decode cX7_readGroup 210 = .ok (.aload_n 0, 1) := by decide +kernel
theorem dX7_readGroup_211 : decode cX7_readGroup 211 = .ok (.aload_n 0, 1) := by decide +kernel
theorem dX7_readGroup_212 : decode cX7_readGroup 212 = .ok (.getfield 35, 3) := by decide +kernel
theorem dX7_readGroup_215 : decode cX7_readGroup 215 = .ok (.invokevirtual 94, 3) := by decide +kernel
theorem dX7_readGroup_218 : decode cX7_readGroup 218 = .ok (.ireturn, 1) := by decide +kernel
set_option maxRecDepth 20000 in
theorem ggX8_init_X7_init : GoodIn wsX8_init wsX7_init := goodIn_r _ [19, 20, 2, 3, 21, 22, 23, 24, 25, 26, 27, 28, 29, 30, 31, 32, 33, 34, 35, 36, 37, 38, 39, 40, 41, 63, 64, 65, 66, 67, 68, 69, 70, 90, 91, 92, 93, 94] (by decide +kernel) (by decide +kernel)
set_option maxRecDepth 20000 in
theorem gX8_init_X7_init_n9 : GoodIn wsX8_init (wsX7_init) := ggX8_init_X7_init
set_option maxRecDepth 20000 in
theorem ggX8_init_X8_printStep : GoodIn wsX8_init wsX8_printStep := goodIn_r _ [45, 46] (by decide +kernel) (by decide +kernel)
set_option maxRecDepth 20000 in
theorem gX8_init_X8_printStep : GoodIn wsX8_init (va_wsS RX8 26 yX8_printStep wsX8_printStep) := goodIn_app (goodIn_of _ (by decide +kernel)) ggX8_init_X8_printStep
set_option maxRecDepth 20000 in
theorem ggX8_init_X6_init : GoodIn wsX8_init wsX6_init := goodIn_r _ [48, 49, 2, 3, 21, 50, 24, 51, 52, 53, 54, 55, 56, 57, 58, 59, 60, 61, 62, 78, 79, 80, 81, 82, 83, 84, 85, 86, 87, 88, 89] (by decide +kernel) (by decide +kernel)
set_option maxRecDepth 20000 in
theorem gX8_init_X6_init_n30 : GoodIn wsX8_init (wsX6_init) := ggX8_init_X6_init
theorem dX8_init_0 : decode cX8_init 0 = .ok (.aload_n 0, 1) := by decide +kernel
theorem dX8_init_1 : decode cX8_init 1 = .ok (.invokespecial 1, 3) := by decide +kernel
theorem dX8_init_4 : decode cX8_init 4 = .ok (.aload_n 0, 1) := by decide +kernel
theorem dX8_init_5 : decode cX8_init 5 = .ok (.new 7, 3) := by decide +kernel
theorem dX8_init_8 : decode cX8_init 8 = .ok (.dup, 1) := by decide +kernel
theorem dX8_init_9 : decode cX8_init 9 = .ok (.invokespecial 9, 3) := by decide +kernel
theorem dX8_init_12 : decode cX8_init 12 = .ok (.putfield 10, 3) := by decide +kernel
theorem dX8_init_15 : decode cX8_init 15 = .ok (.aload_n 0, 1) := by decide +kernel
theorem dX8_init_16 : decode cX8_init 16 = .ok (.bipush 8, 2) := by decide +kernel
theorem dX8_init_18 : decode cX8_init 18 = .ok (.anewarray 16, 3) := by decide +kernel
theorem dX8_init_21 : decode cX8_init 21 = .ok (.putfield 18, 3) := by decide +kernel
theorem dX8_init_24 : decode cX8_init 24 = .ok (.aload_n 0, 1) := by decide +kernel
theorem dX8_init_25 : decode cX8_init 25 = .ok (.sipush 256, 3) := by decide +kernel
theorem dX8_init_28 : decode cX8_init 28 = .ok (.newarray .long, 2) := by decide +kernel
theorem dX8_init_30 : decode cX8_init 30 = .ok (.putfield 22, 3) := by decide +kernel
theorem dX8_init_33 : decode cX8_init 33 = .ok (.iconst 0, 1) := by decide +kernel
theorem dX8_init_34 : decode cX8_init 34 = .ok (.istore_n 1, 1) := by decide +kernel
theorem dX8_init_35 : decode cX8_init 35 = .ok (.iload_n 1, 1) := by decide +kernel
theorem dX8_init_36 : decode cX8_init 36 = .ok (.aload_n 0, 1) := by decide +kernel
theorem dX8_init_37 : decode cX8_init 37 = .ok (.getfield 22, 3) := by decide +kernel
theorem dX8_init_40 : decode cX8_init 40 = .ok (.arraylength, 1) := by decide +kernel
theorem dX8_init_41 : decode cX8_init 41 = .ok (.if_icmp .ge 19, 3) := by decide +kernel
theorem dX8_init_44 : decode cX8_init 44 = .ok (.aload_n 0, 1) := by decide +kernel
theorem dX8_init_45 : decode cX8_init 45 = .ok (.getfield 22, 3) := by decide +kernel
theorem dX8_init_48 : decode cX8_init 48 = .ok (.iload_n 1, 1) := by decide +kernel
theorem dX8_init_49 : decode cX8_init 49 = .ok (.iload_n 1, 1) := by decide +kernel
theorem dX8_init_50 : decode cX8_init 50 = .ok (.invokestatic 26, 3) := by decide +kernel
theorem dX8_init_53 : decode cX8_init 53 = .ok (.lastore, 1) := by decide +kernel
theorem dX8_init_54 : decode cX8_init 54 = .ok (.iinc 1 1, 3) := by decide +kernel
theorem dX8_init_57 : decode cX8_init 57 = .ok (.goto (-22), 3) := by decide +kernel
theorem dX8_init_60 : decode cX8_init 60 = .ok (.aload_n 0, 1) := by decide +kernel
theorem dX8_init_61 : decode cX8_init 61 = .ok (.new 16, 3) := by decide +kernel
theorem dX8_init_64 : decode cX8_init 64 = .ok (.dup, 1) := by decide +kernel
theorem dX8_init_65 : decode cX8_init 65 = .ok (.invokespecial 30, 3) := by decide +kernel
theorem dX8_init_68 : decode cX8_init 68 = .ok (.putfield 31, 3) := by decide +kernel
theorem dX8_init_71 : decode cX8_init 71 = .ok (.aload_n 0, 1) := by decide +kernel
theorem dX8_init_72 : decode cX8_init 72 = .ok (.iconst 0, 1) := by decide +kernel
theorem dX8_init_73 : decode cX8_init 73 = .ok (.putfield 35, 3) := by decide +kernel
theorem dX8_init_76 : decode cX8_init 76 = .ok (.aload_n 0, 1) := by decide +kernel
theorem dX8_init_77 : decode cX8_init 77 = .ok (.iconst (-1), 1) := by decide +kernel
theorem dX8_init_78 : decode cX8_init 78 = .ok (.putfield 39, 3) := by decide +kernel
theorem dX8_init_81 : decode cX8_init 81 = .ok (.aload_n 0, 1) := by decide +kernel
theorem dX8_init_82 : decode cX8_init 82 = .ok (.iconst 0, 1) := by decide +kernel
theorem dX8_init_83 : decode cX8_init 83 = .ok (.putfield 43, 3) := by decide +kernel
theorem dX8_init_86 : decode cX8_init 86 = .ok (.return_, 1) := by decide +kernel
set_option maxRecDepth 20000 in
theorem ggX8_schema_X4_init : GoodIn wsX8_schema wsX4_init := goodIn_r _ [10, 11, 12, 13, 14, 15, 16, 17, 18, 19, 20, 21, 82, 83, 84, 85, 86, 87, 88] (by decide +kernel) (by decide +kernel)
set_option maxRecDepth 20000 in
theorem gX8_schema_X4_init : GoodIn wsX8_schema (wsX4_init) := ggX8_schema_X4_init
set_option maxRecDepth 20000 in
theorem ggX8_schema_X4_read : GoodIn wsX8_schema wsX4_read := goodIn_r _ [25, 21, 20, 18, 26, 27, 28, 29, 30, 31, 32, 33, 34, 35, 36, 37, 38, 39, 40, 41, 42, 43, 44, 45, 46, 47, 48, 49, 50, 51, 52, 53, 54, 55, 56, 57, 58, 59, 60, 61, 62, 63, 64, 65, 66, 67, 68, 69, 70, 71, 72, 73, 74, 75, 76, 77, 78, 79, 80, 81, 82, 83, 84, 85, 86, 87, 88, 96, 97, 98, 99, 100, 101, 102, 103, 104, 105, 106, 107, 108, 109, 110, 111, 112, 113, 114, 115, 116, 117, 118, 119, 120] (by decide +kernel) (by decide +kernel)
set_option maxRecDepth 20000 in
theorem gX8_schema_X4_read : GoodIn wsX8_schema (wsV RX8 74 RX4 yX4_read wsX4_read) := goodIn_app (goodIn_of _ (by decide +kernel)) ggX8_schema_X4_read
theorem dX8_schema_0 : decode cX8_schema 0 = .ok (.new 69, 3) := by decide +kernel
theorem dX8_schema_3 : decode cX8_schema 3 = .ok (.dup, 1) := by decide +kernel
theorem dX8_schema_4 : decode cX8_schema 4 = .ok (.aload_n 0, 1) := by decide +kernel
theorem dX8_schema_5 : decode cX8_schema 5 = .ok (.getfield 10, 3) := by decide +kernel
theorem dX8_schema_8 : decode cX8_schema 8 = .ok (.aload_n 0, 1) := by decide +kernel
theorem dX8_schema_9 : decode cX8_schema 9 = .ok (.getfield 31, 3) := by decide +kernel
theorem dX8_schema_12 : decode cX8_schema 12 = .ok (.invokespecial 71, 3) := by decide +kernel
theorem dX8_schema_15 : decode cX8_schema 15 = .ok (.astore_n 1, 1) := by decide +kernel
theorem dX8_schema_16 : decode cX8_schema 16 = .ok (.aload_n 1, 1) := by decide +kernel
theorem dX8_schema_17 : decode cX8_schema 17 = .ok (.invokevirtual 74, 3) := by decide +kernel
theorem dX8_schema_20 : decode cX8_schema 20 = .ok (.istore_n 2, 1) := by decide +kernel
theorem dX8_schema_21 : decode cX8_schema 21 = .ok (.aload_n 0, 1) := by decide +kernel
theorem dX8_schema_22 : decode cX8_schema 22 = .ok (.iload_n 2, 1) := by decide +kernel
theorem dX8_schema_23 : decode cX8_schema 23 = .ok (.ifCond .ne 7, 3) := by decide +kernel
theorem dX8_schema_26 : decode cX8_schema 26 = .ok (.iconst 1, 1) := by decide +kernel
theorem dX8_schema_27 : decode cX8_schema 27 = .ok (.goto 4, 3) := by decide +kernel
theorem dX8_schema_30 : decode cX8_schema 30 = .ok (.iconst 0, 1) := by decide +kernel
theorem dX8_schema_31 : decode cX8_schema 31 = .ok (.putfield 35, 3) := by decide +kernel
theorem dX8_schema_34 : decode cX8_schema 34 = .ok (.aload_n 0, 1) := by decide +kernel
theorem dX8_schema_35 : decode cX8_schema 35 = .ok (.aload_n 1, 1) := by decide +kernel
theorem dX8_schema_36 : decode cX8_schema 36 = .ok (.invokevirtual 77, 3) := by decide +kernel
theorem dX8_schema_39 : decode cX8_schema 39 = .ok (.putfield 39, 3) := by decide +kernel
theorem dX8_schema_42 : decode cX8_schema 42 = .ok (.iload_n 2, 1) := by decide +kernel
theorem dX8_schema_43 : decode cX8_schema 43 = .ok (.ireturn, 1) := by decide +kernel
theorem dX8_printStep_0 : decode cX8_printStep 0 = .ok (.iload_n 0, 1) := by decide +kernel
theorem dX8_printStep_1 : decode cX8_printStep 1 = .ok (.i2l, 1) := by decide +kernel
theorem dX8_printStep_2 : decode cX8_printStep 2 = .ok (.lstore_n 1, 1) := by decide +kernel
theorem dX8_printStep_3 : decode cX8_printStep 3 = .ok (.iconst 0, 1) := by decide +kernel
theorem dX8_printStep_4 : decode cX8_printStep 4 = .ok (.istore_n 3, 1) := by decide +kernel
theorem dX8_printStep_5 : decode cX8_printStep 5 = .ok (.iload_n 3, 1) := by decide +kernel
theorem dX8_printStep_6 : decode cX8_printStep 6 = .ok (.bipush 8, 2) := by decide +kernel
theorem dX8_printStep_8 : decode cX8_printStep 8 = .ok (.if_icmp .ge 39, 3) := by decide +kernel
theorem dX8_printStep_11 : decode cX8_printStep 11 = .ok (.lload_n 1, 1) := by decide +kernel
theorem dX8_printStep_12 : decode cX8_printStep 12 = .ok (.lconst 1, 1) := by decide +kernel
theorem dX8_printStep_13 : decode cX8_printStep 13 = .ok (.land, 1) := by decide +kernel
theorem dX8_printStep_14 : decode cX8_printStep 14 = .ok (.lconst 1, 1) := by decide +kernel
theorem dX8_printStep_15 : decode cX8_printStep 15 = .ok (.lcmp, 1) := by decide +kernel
theorem dX8_printStep_16 : decode cX8_printStep 16 = .ok (.ifCond .ne 7, 3) := by decide +kernel
theorem dX8_printStep_19 : decode cX8_printStep 19 = .ok (.iconst 1, 1) := by decide +kernel
theorem dX8_printStep_20 : decode cX8_printStep 20 = .ok (.goto 4, 3) := by decide +kernel
theorem dX8_printStep_23 : decode cX8_printStep 23 = .ok (.iconst 0, 1) := by decide +kernel
theorem dX8_printStep_24 : decode cX8_printStep 24 = .ok (.istore 4, 2) := by decide +kernel
theorem dX8_printStep_26 : decode cX8_printStep 26 = .ok (.lload_n 1, 1) := by decide +kernel
theorem dX8_printStep_27 : decode cX8_printStep 27 = .ok (.iconst 1, 1) := by decide +kernel
theorem dX8_printStep_28 : decode cX8_printStep 28 = .ok (.lushr, 1) := by decide +kernel
theorem dX8_printStep_29 : decode cX8_printStep 29 = .ok (.lstore_n 1, 1) := by decide +kernel
theorem dX8_printStep_30 : decode cX8_printStep 30 = .ok (.iload 4, 2) := by decide +kernel
theorem dX8_printStep_32 : decode cX8_printStep 32 = .ok (.ifCond .eq 9, 3) := by decide +kernel
theorem dX8_printStep_35 : decode cX8_printStep 35 = .ok (.lload_n 1, 1) := by decide +kernel
theorem dX8_printStep_36 : decode cX8_printStep 36 = .ok (.ldc2_w 91, 3) := by decide +kernel
theorem dX8_printStep_39 : decode cX8_printStep 39 = .ok (.lxor, 1) := by decide +kernel
theorem dX8_printStep_40 : decode cX8_printStep 40 = .ok (.lstore_n 1, 1) := by decide +kernel
theorem dX8_printStep_41 : decode cX8_printStep 41 = .ok (.iinc 3 1, 3) := by decide +kernel
theorem dX8_printStep_44 : decode cX8_printStep 44 = .ok (.goto (-39), 3) := by decide +kernel
theorem dX8_printStep_47 : decode cX8_printStep 47 = .ok (.lload_n 1, 1) := by decide +kernel
theorem dX8_printStep_48 : decode cX8_printStep 48 = .ok (.lreturn, 1) := by decide +kernel
theorem dJ7_fill_53178_0 : decode cJ7_fill_53178 0 = .ok (.iconst 0, 1) := by decide +kernel
theorem dJ7_fill_53178_1 : decode cJ7_fill_53178 1 = .ok (.istore_n 2, 1) := by decide +kernel
theorem dJ7_fill_53178_2 : decode cJ7_fill_53178 2 = .ok (.aload_n 0, 1) := by decide +kernel
theorem dJ7_fill_53178_3 : decode cJ7_fill_53178 3 = .ok (.arraylength, 1) := by decide +kernel
theorem dJ7_fill_53178_4 : decode cJ7_fill_53178 4 = .ok (.istore_n 3, 1) := by decide +kernel
theorem dJ7_fill_53178_5 : decode cJ7_fill_53178 5 = .ok (.iload_n 2, 1) := by decide +kernel
theorem dJ7_fill_53178_6 : decode cJ7_fill_53178 6 = .ok (.iload_n 3, 1) := by decide +kernel
theorem dJ7_fill_53178_7 : decode cJ7_fill_53178 7 = .ok (.if_icmp .ge 13, 3) := by decide +kernel
theorem dJ7_fill_53178_10 : decode cJ7_fill_53178 10 = .ok (.aload_n 0, 1) := by decide +kernel
theorem dJ7_fill_53178_11 : decode cJ7_fill_53178 11 = .ok (.iload_n 2, 1) := by decide +kernel
theorem dJ7_fill_53178_12 : decode cJ7_fill_53178 12 = .ok (.iload_n 1, 1) := by decide +kernel
theorem dJ7_fill_53178_13 : decode cJ7_fill_53178 13 = .ok (.iastore, 1) := by decide +kernel
theorem dJ7_fill_53178_14 : decode cJ7_fill_53178 14 = .ok (.iinc 2 1, 3) := by decide +kernel
theorem dJ7_fill_53178_17 : decode cJ7_fill_53178 17 = .ok (.goto (-12), 3) := by decide +kernel
theorem dJ7_fill_53178_20 : decode cJ7_fill_53178 20 = .ok (.return_, 1) := by decide +kernel
set_option maxRecDepth 20000 in
theorem ggL_law_X8_init : GoodIn wsL_law wsX8_init := goodIn_r _ [6, 7, 8, 9, 10, 11, 12, 13, 14, 15, 3, 16, 17, 18, 19, 20, 21, 22, 23, 24, 25, 26, 27, 28, 29, 30, 31, 32, 33, 34, 35, 36, 37, 38, 39, 40, 41, 42, 43, 44, 45, 46, 47, 48, 2, 49, 50, 51, 52, 53, 54, 55, 56, 57, 58, 59, 60, 61, 62, 63, 64, 65, 66, 139, 140, 141, 142, 143, 144, 145, 146, 132, 133, 134, 135, 136, 137, 138, 147, 148, 149, 150, 151, 152, 153, 154, 155, 156, 157, 158, 159, 160, 161, 162, 163] (by decide +kernel) (by decide +kernel)
set_option maxRecDepth 20000 in
theorem gL_law_X8_init : GoodIn wsL_law (wsX8_init) := ggL_law_X8_init
set_option maxRecDepth 20000 in
theorem ggL_law_X8_schema : GoodIn wsL_law wsX8_schema := goodIn_r _ [70, 71, 72, 73, 13, 19, 20, 21, 74, 75, 76, 77, 8, 9, 29, 78, 79, 80, 81, 82, 83, 84, 85, 86, 87, 88, 89, 90, 91, 18, 92, 65, 66, 93, 94, 95, 12, 96, 36, 38, 37, 97, 98, 99, 35, 100, 42, 46, 101, 102, 103, 104, 105, 106, 107, 108, 109, 110, 111, 112, 27, 113, 114, 115, 116, 117, 118, 119, 120, 121, 122, 123, 124, 125, 126, 127, 32, 30, 128, 129, 130, 131, 164, 165, 166, 167, 168, 169, 170, 132, 133, 134, 135, 136, 137, 138, 147, 148, 149, 150, 151, 152, 153, 154, 155, 156, 157, 158, 139, 140, 141, 142, 143, 144, 145, 146, 159, 160, 161, 162, 163] (by decide +kernel) (by decide +kernel)
set_option maxRecDepth 20000 in
theorem gL_law_X8_schema : GoodIn wsL_law (wsV RL 55 RX8 yX8_schema wsX8_schema) := goodIn_app (goodIn_of _ (by decide +kernel)) ggL_law_X8_schema
theorem dL_law_0 : decode cL_law 0 = .ok (.new 8, 3) := by decide +kernel
theorem dL_law_3 : decode cL_law 3 = .ok (.dup, 1) := by decide +kernel
theorem dL_law_4 : decode cL_law 4 = .ok (.invokespecial 37, 3) := by decide +kernel
theorem dL_law_7 : decode cL_law 7 = .ok (.astore_n 1, 1) := by decide +kernel
theorem dL_law_8 : decode cL_law 8 = .ok (.new 38, 3) := by decide +kernel
theorem dL_law_11 : decode cL_law 11 = .ok (.dup, 1) := by decide +kernel
theorem dL_law_12 : decode cL_law 12 = .ok (.invokespecial 40, 3) := by decide +kernel
theorem dL_law_15 : decode cL_law 15 = .ok (.astore_n 2, 1) := by decide +kernel
theorem dL_law_16 : decode cL_law 16 = .ok (.iconst 1, 1) := by decide +kernel
theorem dL_law_17 : decode cL_law 17 = .ok (.newarray .long, 2) := by decide +kernel
theorem dL_law_19 : decode cL_law 19 = .ok (.astore_n 3, 1) := by decide +kernel
theorem dL_law_20 : decode cL_law 20 = .ok (.iconst 0, 1) := by decide +kernel
theorem dL_law_21 : decode cL_law 21 = .ok (.istore 4, 2) := by decide +kernel
theorem dL_law_23 : decode cL_law 23 = .ok (.iload 4, 2) := by decide +kernel
theorem dL_law_25 : decode cL_law 25 = .ok (.aload_n 0, 1) := by decide +kernel
theorem dL_law_26 : decode cL_law 26 = .ok (.arraylength, 1) := by decide +kernel
theorem dL_law_27 : decode cL_law 27 = .ok (.bipush 6, 2) := by decide +kernel
theorem dL_law_29 : decode cL_law 29 = .ok (.isub, 1) := by decide +kernel
theorem dL_law_30 : decode cL_law 30 = .ok (.if_icmp .gt 389, 3) := by decide +kernel
theorem dL_law_33 : decode cL_law 33 = .ok (.aload_n 0, 1) := by decide +kernel
theorem dL_law_34 : decode cL_law 34 = .ok (.iload 4, 2) := by decide +kernel
theorem dL_law_36 : decode cL_law 36 = .ok (.iaload, 1) := by decide +kernel
theorem dL_law_37 : decode cL_law 37 = .ok (.bipush 15, 2) := by decide +kernel
theorem dL_law_39 : decode cL_law 39 = .ok (.iand, 1) := by decide +kernel
theorem dL_law_40 : decode cL_law 40 = .ok (.tableswitch 373 0 9 #[56, 160, 185, 198, 211, 224, 252, 265, 293, 333], 56) := by decide +kernel
theorem dL_law_96 : decode cL_law 96 = .ok (.aload_n 1, 1) := by decide +kernel
theorem dL_law_97 : decode cL_law 97 = .ok (.aload_n 0, 1) := by decide +kernel
theorem dL_law_98 : decode cL_law 98 = .ok (.iload 4, 2) := by decide +kernel
theorem dL_law_100 : decode cL_law 100 = .ok (.iconst 1, 1) := by decide +kernel
theorem dL_law_101 : decode cL_law 101 = .ok (.iadd, 1) := by decide +kernel
theorem dL_law_102 : decode cL_law 102 = .ok (.iaload, 1) := by decide +kernel
theorem dL_law_103 : decode cL_law 103 = .ok (.aload_n 0, 1) := by decide +kernel
theorem dL_law_104 : decode cL_law 104 = .ok (.iload 4, 2) := by decide +kernel
theorem dL_law_106 : decode cL_law 106 = .ok (.iconst 2, 1) := by decide +kernel
theorem dL_law_107 : decode cL_law 107 = .ok (.iadd, 1) := by decide +kernel
theorem dL_law_108 : decode cL_law 108 = .ok (.iaload, 1) := by decide +kernel
theorem dL_law_109 : decode cL_law 109 = .ok (.aload_n 0, 1) := by decide +kernel
theorem dL_law_110 : decode cL_law 110 = .ok (.iload 4, 2) := by decide +kernel
theorem dL_law_112 : decode cL_law 112 = .ok (.iconst 3, 1) := by decide +kernel
theorem dL_law_113 : decode cL_law 113 = .ok (.iadd, 1) := by decide +kernel
theorem dL_law_114 : decode cL_law 114 = .ok (.iaload, 1) := by decide +kernel
theorem dL_law_115 : decode cL_law 115 = .ok (.aload_n 0, 1) := by decide +kernel
theorem dL_law_116 : decode cL_law 116 = .ok (.iload 4, 2) := by decide +kernel
theorem dL_law_118 : decode cL_law 118 = .ok (.iconst 4, 1) := by decide +kernel
theorem dL_law_119 : decode cL_law 119 = .ok (.iadd, 1) := by decide +kernel
theorem dL_law_120 : decode cL_law 120 = .ok (.iaload, 1) := by decide +kernel
theorem dL_law_121 : decode cL_law 121 = .ok (.aload_n 0, 1) := by decide +kernel
theorem dL_law_122 : decode cL_law 122 = .ok (.iload 4, 2) := by decide +kernel
theorem dL_law_124 : decode cL_law 124 = .ok (.iconst 5, 1) := by decide +kernel
theorem dL_law_125 : decode cL_law 125 = .ok (.iadd, 1) := by decide +kernel
theorem dL_law_126 : decode cL_law 126 = .ok (.iaload, 1) := by decide +kernel
theorem dL_law_127 : decode cL_law 127 = .ok (.aload_n 3, 1) := by decide +kernel
theorem dL_law_128 : decode cL_law 128 = .ok (.invokestatic 41, 3) := by decide +kernel
theorem dL_law_131 : decode cL_law 131 = .ok (.istore 5, 2) := by decide +kernel
theorem dL_law_133 : decode cL_law 133 = .ok (.aload_n 2, 1) := by decide +kernel
theorem dL_law_134 : decode cL_law 134 = .ok (.aload_n 0, 1) := by decide +kernel
theorem dL_law_135 : decode cL_law 135 = .ok (.iload 4, 2) := by decide +kernel
theorem dL_law_137 : decode cL_law 137 = .ok (.iconst 1, 1) := by decide +kernel
theorem dL_law_138 : decode cL_law 138 = .ok (.iadd, 1) := by decide +kernel
theorem dL_law_139 : decode cL_law 139 = .ok (.iaload, 1) := by decide +kernel
theorem dL_law_140 : decode cL_law 140 = .ok (.aload_n 0, 1) := by decide +kernel
theorem dL_law_141 : decode cL_law 141 = .ok (.iload 4, 2) := by decide +kernel
theorem dL_law_143 : decode cL_law 143 = .ok (.iconst 2, 1) := by decide +kernel
theorem dL_law_144 : decode cL_law 144 = .ok (.iadd, 1) := by decide +kernel
theorem dL_law_145 : decode cL_law 145 = .ok (.iaload, 1) := by decide +kernel
theorem dL_law_146 : decode cL_law 146 = .ok (.aload_n 0, 1) := by decide +kernel
theorem dL_law_147 : decode cL_law 147 = .ok (.iload 4, 2) := by decide +kernel
theorem dL_law_149 : decode cL_law 149 = .ok (.iconst 3, 1) := by decide +kernel
theorem dL_law_150 : decode cL_law 150 = .ok (.iadd, 1) := by decide +kernel
theorem dL_law_151 : decode cL_law 151 = .ok (.iaload, 1) := by decide +kernel
theorem dL_law_152 : decode cL_law 152 = .ok (.aload_n 0, 1) := by decide +kernel
theorem dL_law_153 : decode cL_law 153 = .ok (.iload 4, 2) := by decide +kernel
theorem dL_law_155 : decode cL_law 155 = .ok (.iconst 4, 1) := by decide +kernel
theorem dL_law_156 : decode cL_law 156 = .ok (.iadd, 1) := by decide +kernel
theorem dL_law_157 : decode cL_law 157 = .ok (.iaload, 1) := by decide +kernel
theorem dL_law_158 : decode cL_law 158 = .ok (.aload_n 0, 1) := by decide +kernel
theorem dL_law_159 : decode cL_law 159 = .ok (.iload 4, 2) := by decide +kernel
theorem dL_law_161 : decode cL_law 161 = .ok (.iconst 5, 1) := by decide +kernel
theorem dL_law_162 : decode cL_law 162 = .ok (.iadd, 1) := by decide +kernel
theorem dL_law_163 : decode cL_law 163 = .ok (.iaload, 1) := by decide +kernel
theorem dL_law_164 : decode cL_law 164 = .ok (.invokevirtual 46, 3) := by decide +kernel
theorem dL_law_167 : decode cL_law 167 = .ok (.istore 6, 2) := by decide +kernel
theorem dL_law_169 : decode cL_law 169 = .ok (.aload_n 2, 1) := by decide +kernel
theorem dL_law_170 : decode cL_law 170 = .ok (.invokevirtual 47, 3) := by decide +kernel
theorem dL_law_173 : decode cL_law 173 = .ok (.iload 5, 2) := by decide +kernel
theorem dL_law_175 : decode cL_law 175 = .ok (.if_icmp .eq 5, 3) := by decide +kernel
theorem dL_law_178 : decode cL_law 178 = .ok (.iconst 0, 1) := by decide +kernel
theorem dL_law_179 : decode cL_law 179 = .ok (.ireturn, 1) := by decide +kernel
theorem dL_law_180 : decode cL_law 180 = .ok (.iload 5, 2) := by decide +kernel
theorem dL_law_182 : decode cL_law 182 = .ok (.ifCond .ne 15, 3) := by decide +kernel
theorem dL_law_185 : decode cL_law 185 = .ok (.aload_n 3, 1) := by decide +kernel
theorem dL_law_186 : decode cL_law 186 = .ok (.iconst 0, 1) := by decide +kernel
theorem dL_law_187 : decode cL_law 187 = .ok (.laload, 1) := by decide +kernel
theorem dL_law_188 : decode cL_law 188 = .ok (.iload 6, 2) := by decide +kernel
theorem dL_law_190 : decode cL_law 190 = .ok (.i2l, 1) := by decide +kernel
theorem dL_law_191 : decode cL_law 191 = .ok (.lcmp, 1) := by decide +kernel
theorem dL_law_192 : decode cL_law 192 = .ok (.ifCond .eq 5, 3) := by decide +kernel
theorem dL_law_195 : decode cL_law 195 = .ok (.iconst 0, 1) := by decide +kernel
theorem dL_law_196 : decode cL_law 196 = .ok (.ireturn, 1) := by decide +kernel
theorem dL_law_197 : decode cL_law 197 = .ok (.goto 216, 3) := by decide +kernel
theorem dL_law_200 : decode cL_law 200 = .ok (.aload_n 1, 1) := by decide +kernel
theorem dL_law_201 : decode cL_law 201 = .ok (.aload_n 0, 1) := by decide +kernel
theorem dL_law_202 : decode cL_law 202 = .ok (.iload 4, 2) := by decide +kernel
theorem dL_law_204 : decode cL_law 204 = .ok (.iconst 1, 1) := by decide +kernel
theorem dL_law_205 : decode cL_law 205 = .ok (.iadd, 1) := by decide +kernel
theorem dL_law_206 : decode cL_law 206 = .ok (.iaload, 1) := by decide +kernel
theorem dL_law_207 : decode cL_law 207 = .ok (.invokestatic 51, 3) := by decide +kernel
theorem dL_law_210 : decode cL_law 210 = .ok (.istore 5, 2) := by decide +kernel
theorem dL_law_212 : decode cL_law 212 = .ok (.aload_n 2, 1) := by decide +kernel
theorem dL_law_213 : decode cL_law 213 = .ok (.aload_n 0, 1) := by decide +kernel
theorem dL_law_214 : decode cL_law 214 = .ok (.iload 4, 2) := by decide +kernel
theorem dL_law_216 : decode cL_law 216 = .ok (.iconst 1, 1) := by decide +kernel
theorem dL_law_217 : decode cL_law 217 = .ok (.iadd, 1) := by decide +kernel
theorem dL_law_218 : decode cL_law 218 = .ok (.iaload, 1) := by decide +kernel
theorem dL_law_219 : decode cL_law 219 = .ok (.invokevirtual 54, 3) := by decide +kernel
theorem dL_law_222 : decode cL_law 222 = .ok (.goto 191, 3) := by decide +kernel
theorem dL_law_225 : decode cL_law 225 = .ok (.aload_n 1, 1) := by decide +kernel
theorem dL_law_226 : decode cL_law 226 = .ok (.invokevirtual 55, 3) := by decide +kernel
theorem dL_law_229 : decode cL_law 229 = .ok (.pop, 1) := by decide +kernel
theorem dL_law_230 : decode cL_law 230 = .ok (.aload_n 2, 1) := by decide +kernel
theorem dL_law_231 : decode cL_law 231 = .ok (.invokevirtual 58, 3) := by decide +kernel
theorem dL_law_234 : decode cL_law 234 = .ok (.pop, 1) := by decide +kernel
theorem dL_law_235 : decode cL_law 235 = .ok (.goto 178, 3) := by decide +kernel
theorem dL_law_238 : decode cL_law 238 = .ok (.aload_n 1, 1) := by decide +kernel
theorem dL_law_239 : decode cL_law 239 = .ok (.invokevirtual 59, 3) := by decide +kernel
theorem dL_law_242 : decode cL_law 242 = .ok (.pop, 1) := by decide +kernel
theorem dL_law_243 : decode cL_law 243 = .ok (.aload_n 2, 1) := by decide +kernel
theorem dL_law_244 : decode cL_law 244 = .ok (.invokevirtual 62, 3) := by decide +kernel
theorem dL_law_247 : decode cL_law 247 = .ok (.pop, 1) := by decide +kernel
theorem dL_law_248 : decode cL_law 248 = .ok (.goto 165, 3) := by decide +kernel
theorem dL_law_251 : decode cL_law 251 = .ok (.aload_n 1, 1) := by decide +kernel
theorem dL_law_252 : decode cL_law 252 = .ok (.invokevirtual 63, 3) := by decide +kernel
theorem dL_law_255 : decode cL_law 255 = .ok (.pop, 1) := by decide +kernel
theorem dL_law_256 : decode cL_law 256 = .ok (.aload_n 2, 1) := by decide +kernel
theorem dL_law_257 : decode cL_law 257 = .ok (.invokevirtual 66, 3) := by decide +kernel
theorem dL_law_260 : decode cL_law 260 = .ok (.pop, 1) := by decide +kernel
theorem dL_law_261 : decode cL_law 261 = .ok (.goto 152, 3) := by decide +kernel
theorem dL_law_264 : decode cL_law 264 = .ok (.aload_n 1, 1) := by decide +kernel
theorem dL_law_265 : decode cL_law 265 = .ok (.aload_n 0, 1) := by decide +kernel
theorem dL_law_266 : decode cL_law 266 = .ok (.iload 4, 2) := by decide +kernel
theorem dL_law_268 : decode cL_law 268 = .ok (.iconst 1, 1) := by decide +kernel
theorem dL_law_269 : decode cL_law 269 = .ok (.iadd, 1) := by decide +kernel
theorem dL_law_270 : decode cL_law 270 = .ok (.iaload, 1) := by decide +kernel
theorem dL_law_271 : decode cL_law 271 = .ok (.aload_n 3, 1) := by decide +kernel
theorem dL_law_272 : decode cL_law 272 = .ok (.invokestatic 67, 3) := by decide +kernel
theorem dL_law_275 : decode cL_law 275 = .ok (.istore 5, 2) := by decide +kernel
theorem dL_law_277 : decode cL_law 277 = .ok (.aload_n 2, 1) := by decide +kernel
theorem dL_law_278 : decode cL_law 278 = .ok (.aload_n 0, 1) := by decide +kernel
theorem dL_law_279 : decode cL_law 279 = .ok (.iload 4, 2) := by decide +kernel
theorem dL_law_281 : decode cL_law 281 = .ok (.iconst 1, 1) := by decide +kernel
theorem dL_law_282 : decode cL_law 282 = .ok (.iadd, 1) := by decide +kernel
theorem dL_law_283 : decode cL_law 283 = .ok (.iaload, 1) := by decide +kernel
theorem dL_law_284 : decode cL_law 284 = .ok (.invokevirtual 70, 3) := by decide +kernel
theorem dL_law_287 : decode cL_law 287 = .ok (.istore 6, 2) := by decide +kernel
theorem dL_law_289 : decode cL_law 289 = .ok (.goto 124, 3) := by decide +kernel
theorem dL_law_292 : decode cL_law 292 = .ok (.aload_n 1, 1) := by decide +kernel
theorem dL_law_293 : decode cL_law 293 = .ok (.invokevirtual 71, 3) := by decide +kernel
theorem dL_law_296 : decode cL_law 296 = .ok (.pop2, 1) := by decide +kernel
theorem dL_law_297 : decode cL_law 297 = .ok (.aload_n 2, 1) := by decide +kernel
theorem dL_law_298 : decode cL_law 298 = .ok (.invokevirtual 75, 3) := by decide +kernel
theorem dL_law_301 : decode cL_law 301 = .ok (.pop2, 1) := by decide +kernel
theorem dL_law_302 : decode cL_law 302 = .ok (.goto 111, 3) := by decide +kernel
theorem dL_law_305 : decode cL_law 305 = .ok (.aload_n 1, 1) := by decide +kernel
theorem dL_law_306 : decode cL_law 306 = .ok (.aload_n 0, 1) := by decide +kernel
theorem dL_law_307 : decode cL_law 307 = .ok (.iload 4, 2) := by decide +kernel
theorem dL_law_309 : decode cL_law 309 = .ok (.iconst 1, 1) := by decide +kernel
theorem dL_law_310 : decode cL_law 310 = .ok (.iadd, 1) := by decide +kernel
theorem dL_law_311 : decode cL_law 311 = .ok (.iaload, 1) := by decide +kernel
theorem dL_law_312 : decode cL_law 312 = .ok (.aload_n 3, 1) := by decide +kernel
theorem dL_law_313 : decode cL_law 313 = .ok (.invokestatic 76, 3) := by decide +kernel
theorem dL_law_316 : decode cL_law 316 = .ok (.istore 5, 2) := by decide +kernel
theorem dL_law_318 : decode cL_law 318 = .ok (.aload_n 2, 1) := by decide +kernel
theorem dL_law_319 : decode cL_law 319 = .ok (.aload_n 0, 1) := by decide +kernel
theorem dL_law_320 : decode cL_law 320 = .ok (.iload 4, 2) := by decide +kernel
theorem dL_law_322 : decode cL_law 322 = .ok (.iconst 1, 1) := by decide +kernel
theorem dL_law_323 : decode cL_law 323 = .ok (.iadd, 1) := by decide +kernel
theorem dL_law_324 : decode cL_law 324 = .ok (.iaload, 1) := by decide +kernel
theorem dL_law_325 : decode cL_law 325 = .ok (.invokevirtual 78, 3) := by decide +kernel
theorem dL_law_328 : decode cL_law 328 = .ok (.istore 6, 2) := by decide +kernel
theorem dL_law_330 : decode cL_law 330 = .ok (.goto 83, 3) := by decide +kernel
theorem dL_law_333 : decode cL_law 333 = .ok (.aload_n 1, 1) := by decide +kernel
theorem dL_law_334 : decode cL_law 334 = .ok (.aload_n 0, 1) := by decide +kernel
theorem dL_law_335 : decode cL_law 335 = .ok (.iload 4, 2) := by decide +kernel
theorem dL_law_337 : decode cL_law 337 = .ok (.iconst 1, 1) := by decide +kernel
theorem dL_law_338 : decode cL_law 338 = .ok (.iadd, 1) := by decide +kernel
theorem dL_law_339 : decode cL_law 339 = .ok (.iaload, 1) := by decide +kernel
theorem dL_law_340 : decode cL_law 340 = .ok (.aload_n 0, 1) := by decide +kernel
theorem dL_law_341 : decode cL_law 341 = .ok (.iload 4, 2) := by decide +kernel
theorem dL_law_343 : decode cL_law 343 = .ok (.iconst 2, 1) := by decide +kernel
theorem dL_law_344 : decode cL_law 344 = .ok (.iadd, 1) := by decide +kernel
theorem dL_law_345 : decode cL_law 345 = .ok (.iaload, 1) := by decide +kernel
theorem dL_law_346 : decode cL_law 346 = .ok (.aload_n 3, 1) := by decide +kernel
theorem dL_law_347 : decode cL_law 347 = .ok (.invokestatic 79, 3) := by decide +kernel
theorem dL_law_350 : decode cL_law 350 = .ok (.istore 5, 2) := by decide +kernel
theorem dL_law_352 : decode cL_law 352 = .ok (.aload_n 2, 1) := by decide +kernel
theorem dL_law_353 : decode cL_law 353 = .ok (.aload_n 0, 1) := by decide +kernel
theorem dL_law_354 : decode cL_law 354 = .ok (.iload 4, 2) := by decide +kernel
theorem dL_law_356 : decode cL_law 356 = .ok (.iconst 1, 1) := by decide +kernel
theorem dL_law_357 : decode cL_law 357 = .ok (.iadd, 1) := by decide +kernel
theorem dL_law_358 : decode cL_law 358 = .ok (.iaload, 1) := by decide +kernel
theorem dL_law_359 : decode cL_law 359 = .ok (.aload_n 0, 1) := by decide +kernel
theorem dL_law_360 : decode cL_law 360 = .ok (.iload 4, 2) := by decide +kernel
theorem dL_law_362 : decode cL_law 362 = .ok (.iconst 2, 1) := by decide +kernel
theorem dL_law_363 : decode cL_law 363 = .ok (.iadd, 1) := by decide +kernel
theorem dL_law_364 : decode cL_law 364 = .ok (.iaload, 1) := by decide +kernel
theorem dL_law_365 : decode cL_law 365 = .ok (.invokevirtual 82, 3) := by decide +kernel
theorem dL_law_368 : decode cL_law 368 = .ok (.istore 6, 2) := by decide +kernel
theorem dL_law_370 : decode cL_law 370 = .ok (.goto 43, 3) := by decide +kernel
theorem dL_law_373 : decode cL_law 373 = .ok (.aload_n 1, 1) := by decide +kernel
theorem dL_law_374 : decode cL_law 374 = .ok (.aload_n 0, 1) := by decide +kernel
theorem dL_law_375 : decode cL_law 375 = .ok (.iload 4, 2) := by decide +kernel
theorem dL_law_377 : decode cL_law 377 = .ok (.iconst 1, 1) := by decide +kernel
theorem dL_law_378 : decode cL_law 378 = .ok (.iadd, 1) := by decide +kernel
theorem dL_law_379 : decode cL_law 379 = .ok (.iaload, 1) := by decide +kernel
theorem dL_law_380 : decode cL_law 380 = .ok (.aload_n 0, 1) := by decide +kernel
theorem dL_law_381 : decode cL_law 381 = .ok (.iload 4, 2) := by decide +kernel
theorem dL_law_383 : decode cL_law 383 = .ok (.iconst 2, 1) := by decide +kernel
theorem dL_law_384 : decode cL_law 384 = .ok (.iadd, 1) := by decide +kernel
theorem dL_law_385 : decode cL_law 385 = .ok (.iaload, 1) := by decide +kernel
theorem dL_law_386 : decode cL_law 386 = .ok (.aload_n 3, 1) := by decide +kernel
theorem dL_law_387 : decode cL_law 387 = .ok (.invokestatic 83, 3) := by decide +kernel
theorem dL_law_390 : decode cL_law 390 = .ok (.istore 5, 2) := by decide +kernel
theorem dL_law_392 : decode cL_law 392 = .ok (.aload_n 2, 1) := by decide +kernel
theorem dL_law_393 : decode cL_law 393 = .ok (.aload_n 0, 1) := by decide +kernel
theorem dL_law_394 : decode cL_law 394 = .ok (.iload 4, 2) := by decide +kernel
theorem dL_law_396 : decode cL_law 396 = .ok (.iconst 1, 1) := by decide +kernel
theorem dL_law_397 : decode cL_law 397 = .ok (.iadd, 1) := by decide +kernel
theorem dL_law_398 : decode cL_law 398 = .ok (.iaload, 1) := by decide +kernel
theorem dL_law_399 : decode cL_law 399 = .ok (.aload_n 0, 1) := by decide +kernel
theorem dL_law_400 : decode cL_law 400 = .ok (.iload 4, 2) := by decide +kernel
theorem dL_law_402 : decode cL_law 402 = .ok (.iconst 2, 1) := by decide +kernel
theorem dL_law_403 : decode cL_law 403 = .ok (.iadd, 1) := by decide +kernel
theorem dL_law_404 : decode cL_law 404 = .ok (.iaload, 1) := by decide +kernel
theorem dL_law_405 : decode cL_law 405 = .ok (.invokevirtual 85, 3) := by decide +kernel
theorem dL_law_408 : decode cL_law 408 = .ok (.istore 6, 2) := by decide +kernel
theorem dL_law_410 : decode cL_law 410 = .ok (.goto 3, 3) := by decide +kernel
theorem dL_law_413 : decode cL_law 413 = .ok (.iinc 4 6, 3) := by decide +kernel
theorem dL_law_416 : decode cL_law 416 = .ok (.goto (-393), 3) := by decide +kernel
theorem dL_law_419 : decode cL_law 419 = .ok (.iconst 1, 1) := by decide +kernel
theorem dL_law_420 : decode cL_law 420 = .ok (.ireturn, 1) := by decide +kernel
abbrev vwCl : List vw_C := [(RX2, TX2, 5), (RX4, TX4, 7), (RX6, TX6, 12), (RX7, TX7, 8), (RX8, TX8, 7)]
