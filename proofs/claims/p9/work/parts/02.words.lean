/-- the words that hold whatever the machine has linked since: one list for all methods -/
def sr_G : List Cond := lw_tbl.filter goodWord
theorem sr_in {w : Cond} (h : w ∈ lw_tbl) (hg : goodWord w = true) : w ∈ sr_G := List.mem_filter.mpr ⟨h, hg⟩
theorem sr_ins {ws : List Cond} (h : ws.all (fun w => decide (w ∈ lw_tbl) && goodWord w) = true) : ∀ w ∈ ws, w ∈ sr_G := fun w hw => by
  have h1 := List.all_eq_true.mp h w hw
  simp only [Bool.and_eq_true, decide_eq_true_eq] at h1
  exact sr_in h1.1 h1.2
/-- links to private members of nest mates: they hold whatever is linked, but are none of goodWord -/
def sr_nest : Cond → Bool
  | .fieldLinkNest _ _ _ _ _ _ => true
  | .methodLinkNest _ _ _ _ => true
  | _ => false
def sr_N : List Cond := lw_tbl.filter sr_nest
theorem sr_Nwarm {w : Cond} (h : w ∈ sr_N) {s U : State} (hW : s.WarmedH U.vm) (hZ : va_Nw w s) : va_Nw w U := by
  have h1 := (List.mem_filter.mp h).2
  cases w <;> first | exact va_Nw.warmF hW hZ | exact va_Nw.warmM hW hZ | exact absurd h1 Bool.false_ne_true
theorem sr_good (c0 : Cond) : GoodIn (c0 :: sr_G) sr_G := fun w h => ⟨List.mem_cons_of_mem _ h, good_of_word (List.mem_filter.mp h).2⟩
theorem sr_V {own C : String} {ix : Nat} {y : MethodName} {k : Cond} (c0 : Cond) (h : ∀ w ∈ ([.methodLink own ix y, .instanceMethod y, .selects C y y, .initialized C, k] : List Cond), w ∈ sr_G) : GoodIn (c0 :: sr_G) (wsV own ix C y (k :: sr_G)) := by
  intro w hw
  have hm : w ∈ sr_G := by
    rcases List.mem_append.mp hw with h1 | h1
    · exact h w (by simp only [List.mem_cons, List.not_mem_nil, or_false] at h1 ⊢; rcases h1 with h1 | h1 | h1 | h1 <;> simp [h1])
    · rcases List.mem_cons.mp h1 with h1 | h1
      · exact h w (by simp [h1])
      · exact h1
  exact ⟨List.mem_cons_of_mem _ hm, good_of_word (List.mem_filter.mp hm).2⟩
theorem sr_S {own : String} {ix : Nat} {y : MethodName} {k : Cond} (c0 : Cond) (h : ∀ w ∈ ([.methodLink own ix y, .static y, .initialized y.cls, k] : List Cond), w ∈ sr_G) : GoodIn (c0 :: sr_G) (va_wsS own ix y (k :: sr_G)) := by
  intro w hw
  have hm : w ∈ sr_G := by
    rcases List.mem_append.mp hw with h1 | h1
    · exact h w (by simp only [List.mem_cons, List.not_mem_nil, or_false] at h1 ⊢; rcases h1 with h1 | h1 | h1 <;> simp [h1])
    · rcases List.mem_cons.mp h1 with h1 | h1
      · exact h w (by simp [h1])
      · exact h1
  exact ⟨List.mem_cons_of_mem _ hm, good_of_word (List.mem_filter.mp hm).2⟩
theorem in_tables_1_1 : ∀ w ∈ tables_1_1, w ∈ lw_tbl := fun w h => List.mem_append_right _ (show w ∈ tables_1 from (List.mem_append_left _ h))
theorem in_tables_1_2 : ∀ w ∈ tables_1_2, w ∈ lw_tbl := fun w h => List.mem_append_right _ (show w ∈ tables_1 from (List.mem_append_right _ (List.mem_append_left _ h)))
theorem in_tables_1_3 : ∀ w ∈ tables_1_3, w ∈ lw_tbl := fun w h => List.mem_append_right _ (show w ∈ tables_1 from (List.mem_append_right _ (List.mem_append_right _ (List.mem_append_left _ h))))
theorem in_tables_1_4 : ∀ w ∈ tables_1_4, w ∈ lw_tbl := fun w h => List.mem_append_right _ (show w ∈ tables_1 from (List.mem_append_right _ (List.mem_append_right _ (List.mem_append_right _ (List.mem_append_left _ h)))))
theorem in_tables_1_5 : ∀ w ∈ tables_1_5, w ∈ lw_tbl := fun w h => List.mem_append_right _ (show w ∈ tables_1 from (List.mem_append_right _ (List.mem_append_right _ (List.mem_append_right _ (List.mem_append_right _ (List.mem_append_left _ h))))))
theorem in_tables_1_6 : ∀ w ∈ tables_1_6, w ∈ lw_tbl := fun w h => List.mem_append_right _ (show w ∈ tables_1 from (List.mem_append_right _ (List.mem_append_right _ (List.mem_append_right _ (List.mem_append_right _ (List.mem_append_right _ (List.mem_append_left _ h)))))))
theorem in_tables_1_7 : ∀ w ∈ tables_1_7, w ∈ lw_tbl := fun w h => List.mem_append_right _ (show w ∈ tables_1 from (List.mem_append_right _ (List.mem_append_right _ (List.mem_append_right _ (List.mem_append_right _ (List.mem_append_right _ (List.mem_append_right _ h)))))))
def RX9 : String := "SchemaReaderModel$Text"
def TX9 : u_T := fun k => match k with
  | 0 => ("SchemaReaderModel$Text", "bytes", "[B", true)
  | 1 => ("SchemaReaderModel$Text", "length", "I", false)
  | 2 => ("SchemaReaderModel$Text", "at", "I", false)
  | 3 => ("SchemaReaderModel$Text", "deep", "I", false)
  | 4 => ("SchemaReaderModel$Text", "fault", "I", false)
  | 5 => ("SchemaReaderModel$Text", "place", "I", false)
  | 6 => ("SchemaReaderModel$Text", "end", "I", false)
  | 7 => ("SchemaReaderModel$Text", "nodes", "I", false)
  | 8 => ("SchemaReaderModel$Text", "kinds", "[I", true)
  | 9 => ("SchemaReaderModel$Text", "firsts", "[I", true)
  | 10 => ("SchemaReaderModel$Text", "numbers", "[J", true)
  | 11 => ("SchemaReaderModel$Text", "sizes", "[I", true)
  | 12 => ("SchemaReaderModel$Text", "inner", "[I", true)
  | 13 => ("SchemaReaderModel$Text", "nexts", "[I", true)
  | 14 => ("SchemaReaderModel$Text", "letters", "[B", true)
  | 15 => ("SchemaReaderModel$Text", "lettered", "I", false)
  | 16 => ("SchemaReaderModel$Text", "shapes", "I", false)
  | 17 => ("SchemaReaderModel$Text", "looked", "I", false)
  | 18 => ("SchemaReaderModel$Text", "sorts", "[I", true)
  | 19 => ("SchemaReaderModel$Text", "names", "[I", true)
  | 20 => ("SchemaReaderModel$Text", "wide", "[I", true)
  | 21 => ("SchemaReaderModel$Text", "kids", "[I", true)
  | 22 => ("SchemaReaderModel$Text", "many", "[I", true)
  | 23 => ("SchemaReaderModel$Text", "fallback", "[I", true)
  | 24 => ("SchemaReaderModel$Text", "kidCount", "I", false)
  | 25 => ("SchemaReaderModel$Text", "kidShape", "[I", true)
  | 26 => ("SchemaReaderModel$Text", "kidName", "[I", true)
  | 27 => ("SchemaReaderModel$Text", "kidDefault", "[I", true)
  | 28 => ("SchemaReaderModel$Text", "kidNext", "[I", true)
  | 29 => ("SchemaReaderModel$Text", "done", "I", false)
  | 30 => ("SchemaReaderModel$Text", "finished", "[I", true)
  | 31 => ("SchemaReaderModel$Text", "root", "I", false)
  | 32 => ("SchemaReaderModel$Text", "plain", "[B", true)
  | 33 => ("SchemaReaderModel$Text", "plainSize", "I", false)
  | _ => ("SchemaReaderModel$Text", "told", "[Z", true)
def tyX9 : Nat → FieldType := fun k => match k with
  | 0 => .array .byte
  | 1 => .int
  | 2 => .int
  | 3 => .int
  | 4 => .int
  | 5 => .int
  | 6 => .int
  | 7 => .int
  | 8 => .array .int
  | 9 => .array .int
  | 10 => .array .long
  | 11 => .array .int
  | 12 => .array .int
  | 13 => .array .int
  | 14 => .array .byte
  | 15 => .int
  | 16 => .int
  | 17 => .int
  | 18 => .array .int
  | 19 => .array .int
  | 20 => .array .int
  | 21 => .array .int
  | 22 => .array .int
  | 23 => .array .int
  | 24 => .int
  | 25 => .array .int
  | 26 => .array .int
  | 27 => .array .int
  | 28 => .array .int
  | 29 => .int
  | 30 => .array .int
  | 31 => .int
  | 32 => .array .byte
  | 33 => .int
  | _ => .array .boolean
theorem nmX9 : ∀ a, a < 35 → ∀ b, b < 35 → a ≠ b → (TX9 a).2.1 ≠ (TX9 b).2.1 := by decide +kernel
theorem tyX9_ok : ∀ k, k < 35 → parseFieldDescriptor (TX9 k).2.2.1 = some (tyX9 k) := by decide +kernel
theorem inX9 (c0 : Cond) : ∀ w ∈ u_ws RX9 TX9 35, w ∈ c0 :: sr_G := fun w h => List.mem_cons_of_mem _ (sr_ins (by decide +kernel) w h)
def RX10 : String := "SchemaReaderModel"
def TX10 : u_T := fun k => match k with
  | 0 => ("SchemaReaderModel", "thrown", "I", false)
  | 1 => ("SchemaReaderModel", "tape", "[B", true)
  | 2 => ("SchemaReaderModel", "taped", "I", false)
  | 3 => ("SchemaReaderModel", "typed", "LSchemaReaderModel$Text;", true)
  | 4 => ("SchemaReaderModel", "left", "LSchemaReaderModel$Text;", true)
  | 5 => ("SchemaReaderModel", "right", "LSchemaReaderModel$Text;", true)
  | 6 => ("SchemaReaderModel", "has", "Z", false)
  | 7 => ("SchemaReaderModel", "place", "I", false)
  | 8 => ("SchemaReaderModel", "kept", "[B", true)
  | 9 => ("SchemaReaderModel", "sizes", "[I", true)
  | 10 => ("SchemaReaderModel", "asked", "[Z", true)
  | 11 => ("SchemaReaderModel", "pairs", "[I", true)
  | _ => ("SchemaReaderModel", "many", "I", false)
def tyX10 : Nat → FieldType := fun k => match k with
  | 0 => .int
  | 1 => .array .byte
  | 2 => .int
  | 3 => .object "SchemaReaderModel$Text"
  | 4 => .object "SchemaReaderModel$Text"
  | 5 => .object "SchemaReaderModel$Text"
  | 6 => .boolean
  | 7 => .int
  | 8 => .array .byte
  | 9 => .array .int
  | 10 => .array .boolean
  | 11 => .array .int
  | _ => .int
theorem nmX10 : ∀ a, a < 13 → ∀ b, b < 13 → a ≠ b → (TX10 a).2.1 ≠ (TX10 b).2.1 := by decide +kernel
theorem tyX10_ok : ∀ k, k < 13 → parseFieldDescriptor (TX10 k).2.2.1 = some (tyX10 k) := by decide +kernel
theorem inX10 (c0 : Cond) : ∀ w ∈ u_ws RX10 TX10 13, w ∈ c0 :: sr_G := fun w h => List.mem_cons_of_mem _ (sr_ins (by decide +kernel) w h)
def RX8 : String := "SchemaReader"
def TX8 : u_T := fun k => match k with
  | 0 => ("SchemaReader", "text", "LSchemaReader$Text;", true)
  | 1 => ("SchemaReader", "dueDefaults", "LSchemaReader$Couples;", true)
  | 2 => ("SchemaReader", "askedRecords", "LSchemaReader$Couples;", true)
  | 3 => ("SchemaReader", "kept", "[LSchemaReader$Schema;", true)
  | 4 => ("SchemaReader", "printSteps", "[J", true)
  | 5 => ("SchemaReader", "latest", "LSchemaReader$Schema;", false)
  | 6 => ("SchemaReader", "hasLatest", "Z", false)
  | 7 => ("SchemaReader", "faultPlace", "I", false)
  | _ => ("SchemaReader", "keptCount", "I", false)
def tyX8 : Nat → FieldType := fun k => match k with
  | 0 => .object "SchemaReader$Text"
  | 1 => .object "SchemaReader$Couples"
  | 2 => .object "SchemaReader$Couples"
  | 3 => .array (.object "SchemaReader$Schema")
  | 4 => .array .long
  | 5 => .object "SchemaReader$Schema"
  | 6 => .boolean
  | 7 => .int
  | _ => .int
theorem nmX8 : ∀ a, a < 9 → ∀ b, b < 9 → a ≠ b → (TX8 a).2.1 ≠ (TX8 b).2.1 := by decide +kernel
theorem tyX8_ok : ∀ k, k < 9 → parseFieldDescriptor (TX8 k).2.2.1 = some (tyX8 k) := by decide +kernel
theorem inX8 (c0 : Cond) : ∀ w ∈ u_ws RX8 TX8 9, w ∈ c0 :: sr_G := fun w h => List.mem_cons_of_mem _ (sr_ins (by decide +kernel) w h)
def RX11 : String := "SchemaReader$Couples"
def TX11 : u_T := fun k => match k with
  | 0 => ("SchemaReader$Couples", "firsts", "[I", true)
  | 1 => ("SchemaReader$Couples", "seconds", "[I", true)
  | _ => ("SchemaReader$Couples", "count", "I", false)
def tyX11 : Nat → FieldType := fun k => match k with
  | 0 => .array .int
  | 1 => .array .int
  | _ => .int
theorem nmX11 : ∀ a, a < 3 → ∀ b, b < 3 → a ≠ b → (TX11 a).2.1 ≠ (TX11 b).2.1 := by decide +kernel
theorem tyX11_ok : ∀ k, k < 3 → parseFieldDescriptor (TX11 k).2.2.1 = some (tyX11 k) := by decide +kernel
theorem inX11 (c0 : Cond) : ∀ w ∈ u_ws RX11 TX11 3, w ∈ c0 :: sr_G := fun w h => List.mem_cons_of_mem _ (sr_ins (by decide +kernel) w h)
def RX0 : String := "SchemaReader$Defaults"
def TX0 : u_T := fun k => match k with
  | 0 => ("SchemaReader$Defaults", "text", "LSchemaReader$Text;", true)
  | _ => ("SchemaReader$Defaults", "schema", "LSchemaReader$Schema;", true)
def tyX0 : Nat → FieldType := fun k => match k with
  | 0 => .object "SchemaReader$Text"
  | _ => .object "SchemaReader$Schema"
theorem nmX0 : ∀ a, a < 2 → ∀ b, b < 2 → a ≠ b → (TX0 a).2.1 ≠ (TX0 b).2.1 := by decide +kernel
theorem tyX0_ok : ∀ k, k < 2 → parseFieldDescriptor (TX0 k).2.2.1 = some (tyX0 k) := by decide +kernel
theorem inX0 (c0 : Cond) : ∀ w ∈ u_ws RX0 TX0 2, w ∈ c0 :: sr_G := fun w h => List.mem_cons_of_mem _ (sr_ins (by decide +kernel) w h)
def RX1 : String := "SchemaReader$Fault"
def TX1 : u_T := fun k => match k with
  | _ => ("", "", "", false)
def tyX1 : Nat → FieldType := fun k => match k with
  | _ => .int
def RX2 : String := "SchemaReader$Keys"
def TX2 : u_T := fun k => match k with
  | 0 => ("SchemaReader$Keys", "heads", "[I", true)
  | 1 => ("SchemaReader$Keys", "places", "[I", true)
  | 2 => ("SchemaReader$Keys", "owners", "[I", true)
  | 3 => ("SchemaReader$Keys", "nexts", "[I", true)
  | _ => ("SchemaReader$Keys", "count", "I", false)
def tyX2 : Nat → FieldType := fun k => match k with
  | 0 => .array .int
  | 1 => .array .int
  | 2 => .array .int
  | 3 => .array .int
  | _ => .int
theorem nmX2 : ∀ a, a < 5 → ∀ b, b < 5 → a ≠ b → (TX2 a).2.1 ≠ (TX2 b).2.1 := by decide +kernel
theorem tyX2_ok : ∀ k, k < 5 → parseFieldDescriptor (TX2 k).2.2.1 = some (tyX2 k) := by decide +kernel
theorem inX2 (c0 : Cond) : ∀ w ∈ u_ws RX2 TX2 5, w ∈ c0 :: sr_G := fun w h => List.mem_cons_of_mem _ (sr_ins (by decide +kernel) w h)
def RX3 : String := "SchemaReader$Kind"
def TX3 : u_T := fun k => match k with
  | _ => ("", "", "", false)
def tyX3 : Nat → FieldType := fun k => match k with
  | _ => .int
def RX4 : String := "SchemaReader$Looker"
def TX4 : u_T := fun k => match k with
  | 0 => ("SchemaReader$Looker", "text", "LSchemaReader$Text;", true)
  | 1 => ("SchemaReader$Looker", "schema", "LSchemaReader$Schema;", true)
  | 2 => ("SchemaReader$Looker", "due", "LSchemaReader$Couples;", true)
  | 3 => ("SchemaReader$Looker", "fault", "I", false)
  | _ => ("SchemaReader$Looker", "faultPlace", "I", false)
def tyX4 : Nat → FieldType := fun k => match k with
  | 0 => .object "SchemaReader$Text"
  | 1 => .object "SchemaReader$Schema"
  | 2 => .object "SchemaReader$Couples"
  | 3 => .int
  | _ => .int
theorem nmX4 : ∀ a, a < 5 → ∀ b, b < 5 → a ≠ b → (TX4 a).2.1 ≠ (TX4 b).2.1 := by decide +kernel
theorem tyX4_ok : ∀ k, k < 5 → parseFieldDescriptor (TX4 k).2.2.1 = some (tyX4 k) := by decide +kernel
theorem inX4 (c0 : Cond) : ∀ w ∈ u_ws RX4 TX4 5, w ∈ c0 :: sr_G := fun w h => List.mem_cons_of_mem _ (sr_ins (by decide +kernel) w h)
def RX5 : String := "SchemaReader$Pair"
def TX5 : u_T := fun k => match k with
  | 0 => ("SchemaReader$Pair", "writer", "LSchemaReader$Schema;", true)
  | 1 => ("SchemaReader$Pair", "reader", "LSchemaReader$Schema;", true)
  | _ => ("SchemaReader$Pair", "asked", "LSchemaReader$Couples;", true)
def tyX5 : Nat → FieldType := fun k => match k with
  | 0 => .object "SchemaReader$Schema"
  | 1 => .object "SchemaReader$Schema"
  | _ => .object "SchemaReader$Couples"
theorem nmX5 : ∀ a, a < 3 → ∀ b, b < 3 → a ≠ b → (TX5 a).2.1 ≠ (TX5 b).2.1 := by decide +kernel
theorem tyX5_ok : ∀ k, k < 3 → parseFieldDescriptor (TX5 k).2.2.1 = some (tyX5 k) := by decide +kernel
theorem inX5 (c0 : Cond) : ∀ w ∈ u_ws RX5 TX5 3, w ∈ c0 :: sr_G := fun w h => List.mem_cons_of_mem _ (sr_ins (by decide +kernel) w h)
def RX6 : String := "SchemaReader$Schema"
def TX6 : u_T := fun k => match k with
  | 0 => ("SchemaReader$Schema", "plain", "[B", true)
  | 1 => ("SchemaReader$Schema", "kinds", "[I", true)
  | 2 => ("SchemaReader$Schema", "meant", "[I", true)
  | 3 => ("SchemaReader$Schema", "firsts", "[I", true)
  | 4 => ("SchemaReader$Schema", "nexts", "[I", true)
  | 5 => ("SchemaReader$Schema", "names", "[I", true)
  | 6 => ("SchemaReader$Schema", "fieldNames", "[I", true)
  | 7 => ("SchemaReader$Schema", "amounts", "[I", true)
  | 8 => ("SchemaReader$Schema", "fieldDefaults", "[Z", true)
  | 9 => ("SchemaReader$Schema", "enumDefaults", "[Z", true)
  | 10 => ("SchemaReader$Schema", "letterCount", "I", false)
  | _ => ("SchemaReader$Schema", "slotCount", "I", false)
def tyX6 : Nat → FieldType := fun k => match k with
  | 0 => .array .byte
  | 1 => .array .int
  | 2 => .array .int
  | 3 => .array .int
  | 4 => .array .int
  | 5 => .array .int
  | 6 => .array .int
  | 7 => .array .int
  | 8 => .array .boolean
  | 9 => .array .boolean
  | 10 => .int
  | _ => .int
theorem nmX6 : ∀ a, a < 12 → ∀ b, b < 12 → a ≠ b → (TX6 a).2.1 ≠ (TX6 b).2.1 := by decide +kernel
theorem tyX6_ok : ∀ k, k < 12 → parseFieldDescriptor (TX6 k).2.2.1 = some (tyX6 k) := by decide +kernel
theorem inX6 (c0 : Cond) : ∀ w ∈ u_ws RX6 TX6 12, w ∈ c0 :: sr_G := fun w h => List.mem_cons_of_mem _ (sr_ins (by decide +kernel) w h)
def RX7 : String := "SchemaReader$Text"
def TX7 : u_T := fun k => match k with
  | 0 => ("SchemaReader$Text", "tape", "[B", true)
  | 1 => ("SchemaReader$Text", "said", "[B", true)
  | 2 => ("SchemaReader$Text", "inner", "[I", true)
  | 3 => ("SchemaReader$Text", "next", "[I", true)
  | 4 => ("SchemaReader$Text", "amount", "[I", true)
  | 5 => ("SchemaReader$Text", "keys", "LSchemaReader$Keys;", true)
  | 6 => ("SchemaReader$Text", "length", "I", false)
  | _ => ("SchemaReader$Text", "wrongPlace", "I", false)
def tyX7 : Nat → FieldType := fun k => match k with
  | 0 => .array .byte
  | 1 => .array .byte
  | 2 => .array .int
  | 3 => .array .int
  | 4 => .array .int
  | 5 => .object "SchemaReader$Keys"
  | 6 => .int
  | _ => .int
theorem nmX7 : ∀ a, a < 8 → ∀ b, b < 8 → a ≠ b → (TX7 a).2.1 ≠ (TX7 b).2.1 := by decide +kernel
theorem tyX7_ok : ∀ k, k < 8 → parseFieldDescriptor (TX7 k).2.2.1 = some (tyX7 k) := by decide +kernel
theorem inX7 (c0 : Cond) : ∀ w ∈ u_ws RX7 TX7 8, w ∈ c0 :: sr_G := fun w h => List.mem_cons_of_mem _ (sr_ins (by decide +kernel) w h)
def RX20 : String := "java/lang/String"
def RX21 : String := "java/lang/StringLatin1"
def RX22 : String := "jdk/internal/util/Preconditions"
def RX23 : String := "java/lang/Math"
def RX24 : String := "java/util/Arrays"
def RX12 : String := "SchemaReaderLaw"
abbrev srCl : List vw_C := [(RX9, TX9, 35), (RX10, TX10, 13), (RX8, TX8, 9), (RX11, TX11, 3), (RX0, TX0, 2), (RX2, TX2, 5), (RX4, TX4, 5), (RX5, TX5, 3), (RX6, TX6, 12), (RX7, TX7, 8)]
