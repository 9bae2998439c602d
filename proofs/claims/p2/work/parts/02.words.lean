/-- the words that hold whatever the machine has linked since: one list for all methods -/
def sr_G : List Cond := lw_tbl.filter goodWord
theorem sr_in {w : Cond} (h : w ∈ lw_tbl) (hg : goodWord w = true) : w ∈ sr_G := List.mem_filter.mpr ⟨h, hg⟩
theorem sr_ins {ws : List Cond} (h : ws.all (fun w => decide (w ∈ lw_tbl) && goodWord w) = true) : ∀ w ∈ ws, w ∈ sr_G := fun w hw => by
  have h1 := List.all_eq_true.mp h w hw
  simp only [Bool.and_eq_true, decide_eq_true_eq] at h1
  exact sr_in h1.1 h1.2
theorem sr_good (c0 : Cond) : GoodIn (c0 :: sr_G) sr_G := fun w h => ⟨List.mem_cons_of_mem _ h, good_of_word (List.mem_filter.mp h).2⟩
theorem sr_V {own C : String} {ix : Nat} {y : MethodName} {k : Cond} (c0 : Cond) (h : ∀ w ∈ ([.methodLink own ix y, .instanceMethod y, .selects C y y, .initialized C, k] : List Cond), w ∈ sr_G) : GoodIn (c0 :: sr_G) (wsV own ix C y (k :: sr_G)) := by
  intro w hw
  have hm : w ∈ sr_G := by
    rcases List.mem_append.mp hw with h1 | h1
    · exact h w (by simp only [List.mem_cons, List.not_mem_nil, or_false] at h1 ⊢; rcases h1 with h1 | h1 | h1 | h1 <;> simp [h1])
    · rcases List.mem_cons.mp h1 with h1 | h1
      · exact h w (by simp [h1])
      · exact h1
  exact ⟨List.mem_cons_of_mem _ hm, good_of_word (List.mem_filter.mp hm).2⟩
theorem sr_S {own : String} {ix : Nat} {y : MethodName} {k : Cond} (c0 : Cond) (h : ∀ w ∈ ([.methodLink own ix y, .static y, .initialized y.cls, k] : List Cond), w ∈ sr_G) : GoodIn (c0 :: sr_G) (va_wsS own ix y (k :: sr_G)) := by
  intro w hw
  have hm : w ∈ sr_G := by
    rcases List.mem_append.mp hw with h1 | h1
    · exact h w (by simp only [List.mem_cons, List.not_mem_nil, or_false] at h1 ⊢; rcases h1 with h1 | h1 | h1 <;> simp [h1])
    · rcases List.mem_cons.mp h1 with h1 | h1
      · exact h w (by simp [h1])
      · exact h1
  exact ⟨List.mem_cons_of_mem _ hm, good_of_word (List.mem_filter.mp hm).2⟩
theorem in_tables_1_1 : ∀ w ∈ tables_1_1, w ∈ lw_tbl := fun w h => List.mem_append_right _ (show w ∈ tables_1 from (List.mem_append_left _ h))
theorem in_tables_1_2 : ∀ w ∈ tables_1_2, w ∈ lw_tbl := fun w h => List.mem_append_right _ (show w ∈ tables_1 from (List.mem_append_right _ (List.mem_append_left _ h)))
theorem in_tables_1_3 : ∀ w ∈ tables_1_3, w ∈ lw_tbl := fun w h => List.mem_append_right _ (show w ∈ tables_1 from (List.mem_append_right _ (List.mem_append_right _ (List.mem_append_left _ h))))
theorem in_tables_1_4 : ∀ w ∈ tables_1_4, w ∈ lw_tbl := fun w h => List.mem_append_right _ (show w ∈ tables_1 from (List.mem_append_right _ (List.mem_append_right _ (List.mem_append_right _ (List.mem_append_left _ h)))))
theorem in_tables_1_5 : ∀ w ∈ tables_1_5, w ∈ lw_tbl := fun w h => List.mem_append_right _ (show w ∈ tables_1 from (List.mem_append_right _ (List.mem_append_right _ (List.mem_append_right _ (List.mem_append_right _ (List.mem_append_left _ h))))))
theorem in_tables_1_6 : ∀ w ∈ tables_1_6, w ∈ lw_tbl := fun w h => List.mem_append_right _ (show w ∈ tables_1 from (List.mem_append_right _ (List.mem_append_right _ (List.mem_append_right _ (List.mem_append_right _ (List.mem_append_right _ (List.mem_append_left _ h)))))))
theorem in_tables_1_7 : ∀ w ∈ tables_1_7, w ∈ lw_tbl := fun w h => List.mem_append_right _ (show w ∈ tables_1 from (List.mem_append_right _ (List.mem_append_right _ (List.mem_append_right _ (List.mem_append_right _ (List.mem_append_right _ (List.mem_append_right _ h)))))))
def RX0 : String := "SchemaReader$Defaults"
def TX0 : u_T := fun k => match k with
  | 0 => ("SchemaReader$Defaults", "text", "LSchemaReader$Text;", true)
  | _ => ("SchemaReader$Defaults", "schema", "LSchemaReader$Schema;", true)
def tyX0 : Nat → FieldType := fun k => match k with
  | 0 => .object "SchemaReader$Text"
  | _ => .object "SchemaReader$Schema"
theorem nmX0 : ∀ a, a < 2 → ∀ b, b < 2 → a ≠ b → (TX0 a).2.1 ≠ (TX0 b).2.1 := by decide +kernel
theorem tyX0_ok : ∀ k, k < 2 → parseFieldDescriptor (TX0 k).2.2.1 = some (tyX0 k) := by decide +kernel
theorem inX0 (c0 : Cond) : ∀ w ∈ u_ws RX0 TX0 2, w ∈ c0 :: sr_G := fun w h => List.mem_cons_of_mem _ (sr_ins (by decide +kernel) w h)
def RX1 : String := "SchemaReader$Fault"
def TX1 : u_T := fun k => match k with
  | _ => ("", "", "", false)
def tyX1 : Nat → FieldType := fun k => match k with
  | _ => .int
def RX2 : String := "SchemaReader$Keys"
def TX2 : u_T := fun k => match k with
  | 0 => ("SchemaReader$Keys", "heads", "[I", true)
  | 1 => ("SchemaReader$Keys", "places", "[I", true)
  | 2 => ("SchemaReader$Keys", "owners", "[I", true)
  | 3 => ("SchemaReader$Keys", "nexts", "[I", true)
  | _ => ("SchemaReader$Keys", "count", "I", false)
def tyX2 : Nat → FieldType := fun k => match k with
  | 0 => .array .int
  | 1 => .array .int
  | 2 => .array .int
  | 3 => .array .int
  | _ => .int
theorem nmX2 : ∀ a, a < 5 → ∀ b, b < 5 → a ≠ b → (TX2 a).2.1 ≠ (TX2 b).2.1 := by decide +kernel
theorem tyX2_ok : ∀ k, k < 5 → parseFieldDescriptor (TX2 k).2.2.1 = some (tyX2 k) := by decide +kernel
theorem inX2 (c0 : Cond) : ∀ w ∈ u_ws RX2 TX2 5, w ∈ c0 :: sr_G := fun w h => List.mem_cons_of_mem _ (sr_ins (by decide +kernel) w h)
def RX3 : String := "SchemaReader$Kind"
def TX3 : u_T := fun k => match k with
  | _ => ("", "", "", false)
def tyX3 : Nat → FieldType := fun k => match k with
  | _ => .int
def RX4 : String := "SchemaReader$Looker"
def TX4 : u_T := fun k => match k with
  | 0 => ("SchemaReader$Looker", "text", "LSchemaReader$Text;", true)
  | 1 => ("SchemaReader$Looker", "schema", "LSchemaReader$Schema;", true)
  | 2 => ("SchemaReader$Looker", "dueSlots", "[I", true)
  | 3 => ("SchemaReader$Looker", "dueValues", "[I", true)
  | 4 => ("SchemaReader$Looker", "dueCount", "I", false)
  | 5 => ("SchemaReader$Looker", "fault", "I", false)
  | _ => ("SchemaReader$Looker", "faultPlace", "I", false)
def tyX4 : Nat → FieldType := fun k => match k with
  | 0 => .object "SchemaReader$Text"
  | 1 => .object "SchemaReader$Schema"
  | 2 => .array .int
  | 3 => .array .int
  | 4 => .int
  | 5 => .int
  | _ => .int
theorem nmX4 : ∀ a, a < 7 → ∀ b, b < 7 → a ≠ b → (TX4 a).2.1 ≠ (TX4 b).2.1 := by decide +kernel
theorem tyX4_ok : ∀ k, k < 7 → parseFieldDescriptor (TX4 k).2.2.1 = some (tyX4 k) := by decide +kernel
theorem inX4 (c0 : Cond) : ∀ w ∈ u_ws RX4 TX4 7, w ∈ c0 :: sr_G := fun w h => List.mem_cons_of_mem _ (sr_ins (by decide +kernel) w h)
def RX5 : String := "SchemaReader$Pair"
def TX5 : u_T := fun k => match k with
  | 0 => ("SchemaReader$Pair", "writer", "LSchemaReader$Schema;", true)
  | 1 => ("SchemaReader$Pair", "reader", "LSchemaReader$Schema;", true)
  | 2 => ("SchemaReader$Pair", "askedWriters", "[I", true)
  | 3 => ("SchemaReader$Pair", "askedReaders", "[I", true)
  | _ => ("SchemaReader$Pair", "askedCount", "I", false)
def tyX5 : Nat → FieldType := fun k => match k with
  | 0 => .object "SchemaReader$Schema"
  | 1 => .object "SchemaReader$Schema"
  | 2 => .array .int
  | 3 => .array .int
  | _ => .int
theorem nmX5 : ∀ a, a < 5 → ∀ b, b < 5 → a ≠ b → (TX5 a).2.1 ≠ (TX5 b).2.1 := by decide +kernel
theorem tyX5_ok : ∀ k, k < 5 → parseFieldDescriptor (TX5 k).2.2.1 = some (tyX5 k) := by decide +kernel
theorem inX5 (c0 : Cond) : ∀ w ∈ u_ws RX5 TX5 5, w ∈ c0 :: sr_G := fun w h => List.mem_cons_of_mem _ (sr_ins (by decide +kernel) w h)
def RX6 : String := "SchemaReader$Schema"
def TX6 : u_T := fun k => match k with
  | 0 => ("SchemaReader$Schema", "plain", "[B", true)
  | 1 => ("SchemaReader$Schema", "kinds", "[I", true)
  | 2 => ("SchemaReader$Schema", "meant", "[I", true)
  | 3 => ("SchemaReader$Schema", "firsts", "[I", true)
  | 4 => ("SchemaReader$Schema", "nexts", "[I", true)
  | 5 => ("SchemaReader$Schema", "names", "[I", true)
  | 6 => ("SchemaReader$Schema", "fieldNames", "[I", true)
  | 7 => ("SchemaReader$Schema", "amounts", "[I", true)
  | 8 => ("SchemaReader$Schema", "fieldDefaults", "[Z", true)
  | 9 => ("SchemaReader$Schema", "enumDefaults", "[Z", true)
  | 10 => ("SchemaReader$Schema", "letterCount", "I", false)
  | _ => ("SchemaReader$Schema", "slotCount", "I", false)
def tyX6 : Nat → FieldType := fun k => match k with
  | 0 => .array .byte
  | 1 => .array .int
  | 2 => .array .int
  | 3 => .array .int
  | 4 => .array .int
  | 5 => .array .int
  | 6 => .array .int
  | 7 => .array .int
  | 8 => .array .boolean
  | 9 => .array .boolean
  | 10 => .int
  | _ => .int
theorem nmX6 : ∀ a, a < 12 → ∀ b, b < 12 → a ≠ b → (TX6 a).2.1 ≠ (TX6 b).2.1 := by decide +kernel
theorem tyX6_ok : ∀ k, k < 12 → parseFieldDescriptor (TX6 k).2.2.1 = some (tyX6 k) := by decide +kernel
theorem inX6 (c0 : Cond) : ∀ w ∈ u_ws RX6 TX6 12, w ∈ c0 :: sr_G := fun w h => List.mem_cons_of_mem _ (sr_ins (by decide +kernel) w h)
def RX7 : String := "SchemaReader$Text"
def TX7 : u_T := fun k => match k with
  | 0 => ("SchemaReader$Text", "tape", "[B", true)
  | 1 => ("SchemaReader$Text", "said", "[B", true)
  | 2 => ("SchemaReader$Text", "inner", "[I", true)
  | 3 => ("SchemaReader$Text", "next", "[I", true)
  | 4 => ("SchemaReader$Text", "amount", "[I", true)
  | 5 => ("SchemaReader$Text", "keys", "LSchemaReader$Keys;", true)
  | 6 => ("SchemaReader$Text", "length", "I", false)
  | _ => ("SchemaReader$Text", "wrongPlace", "I", false)
def tyX7 : Nat → FieldType := fun k => match k with
  | 0 => .array .byte
  | 1 => .array .byte
  | 2 => .array .int
  | 3 => .array .int
  | 4 => .array .int
  | 5 => .object "SchemaReader$Keys"
  | 6 => .int
  | _ => .int
theorem nmX7 : ∀ a, a < 8 → ∀ b, b < 8 → a ≠ b → (TX7 a).2.1 ≠ (TX7 b).2.1 := by decide +kernel
theorem tyX7_ok : ∀ k, k < 8 → parseFieldDescriptor (TX7 k).2.2.1 = some (tyX7 k) := by decide +kernel
theorem inX7 (c0 : Cond) : ∀ w ∈ u_ws RX7 TX7 8, w ∈ c0 :: sr_G := fun w h => List.mem_cons_of_mem _ (sr_ins (by decide +kernel) w h)
def RX8 : String := "SchemaReader"
def TX8 : u_T := fun k => match k with
  | 0 => ("SchemaReader", "text", "LSchemaReader$Text;", true)
  | 1 => ("SchemaReader", "kept", "[LSchemaReader$Schema;", true)
  | 2 => ("SchemaReader", "printSteps", "[J", true)
  | 3 => ("SchemaReader", "latest", "LSchemaReader$Schema;", false)
  | 4 => ("SchemaReader", "hasLatest", "Z", false)
  | 5 => ("SchemaReader", "faultPlace", "I", false)
  | _ => ("SchemaReader", "keptCount", "I", false)
def tyX8 : Nat → FieldType := fun k => match k with
  | 0 => .object "SchemaReader$Text"
  | 1 => .array (.object "SchemaReader$Schema")
  | 2 => .array .long
  | 3 => .object "SchemaReader$Schema"
  | 4 => .boolean
  | 5 => .int
  | _ => .int
theorem nmX8 : ∀ a, a < 7 → ∀ b, b < 7 → a ≠ b → (TX8 a).2.1 ≠ (TX8 b).2.1 := by decide +kernel
theorem tyX8_ok : ∀ k, k < 7 → parseFieldDescriptor (TX8 k).2.2.1 = some (tyX8 k) := by decide +kernel
theorem inX8 (c0 : Cond) : ∀ w ∈ u_ws RX8 TX8 7, w ∈ c0 :: sr_G := fun w h => List.mem_cons_of_mem _ (sr_ins (by decide +kernel) w h)
def RX9 : String := "SchemaReaderModel$Text"
def TX9 : u_T := fun k => match k with
  | 0 => ("SchemaReaderModel$Text", "bytes", "[B", true)
  | 1 => ("SchemaReaderModel$Text", "length", "I", false)
  | 2 => ("SchemaReaderModel$Text", "at", "I", false)
  | 3 => ("SchemaReaderModel$Text", "deep", "I", false)
  | 4 => ("SchemaReaderModel$Text", "fault", "I", false)
  | 5 => ("SchemaReaderModel$Text", "place", "I", false)
  | 6 => ("SchemaReaderModel$Text", "end", "I", false)
  | 7 => ("SchemaReaderModel$Text", "nodes", "I", false)
  | 8 => ("SchemaReaderModel$Text", "kinds", "[I", true)
  | 9 => ("SchemaReaderModel$Text", "firsts", "[I", true)
  | 10 => ("SchemaReaderModel$Text", "numbers", "[J", true)
  | 11 => ("SchemaReaderModel$Text", "sizes", "[I", true)
  | 12 => ("SchemaReaderModel$Text", "inner", "[I", true)
  | 13 => ("SchemaReaderModel$Text", "nexts", "[I", true)
  | 14 => ("SchemaReaderModel$Text", "letters", "[B", true)
  | 15 => ("SchemaReaderModel$Text", "lettered", "I", false)
  | 16 => ("SchemaReaderModel$Text", "shapes", "I", false)
  | 17 => ("SchemaReaderModel$Text", "looked", "I", false)
  | 18 => ("SchemaReaderModel$Text", "sorts", "[I", true)
  | 19 => ("SchemaReaderModel$Text", "names", "[I", true)
  | 20 => ("SchemaReaderModel$Text", "wide", "[I", true)
  | 21 => ("SchemaReaderModel$Text", "kids", "[I", true)
  | 22 => ("SchemaReaderModel$Text", "many", "[I", true)
  | 23 => ("SchemaReaderModel$Text", "fallback", "[I", true)
  | 24 => ("SchemaReaderModel$Text", "kidCount", "I", false)
  | 25 => ("SchemaReaderModel$Text", "kidShape", "[I", true)
  | 26 => ("SchemaReaderModel$Text", "kidName", "[I", true)
  | 27 => ("SchemaReaderModel$Text", "kidDefault", "[I", true)
  | 28 => ("SchemaReaderModel$Text", "kidNext", "[I", true)
  | 29 => ("SchemaReaderModel$Text", "done", "I", false)
  | 30 => ("SchemaReaderModel$Text", "finished", "[I", true)
  | 31 => ("SchemaReaderModel$Text", "root", "I", false)
  | 32 => ("SchemaReaderModel$Text", "plain", "[B", true)
  | 33 => ("SchemaReaderModel$Text", "plainSize", "I", false)
  | _ => ("SchemaReaderModel$Text", "told", "[Z", true)
def tyX9 : Nat → FieldType := fun k => match k with
  | 0 => .array .byte
  | 1 => .int
  | 2 => .int
  | 3 => .int
  | 4 => .int
  | 5 => .int
  | 6 => .int
  | 7 => .int
  | 8 => .array .int
  | 9 => .array .int
  | 10 => .array .long
  | 11 => .array .int
  | 12 => .array .int
  | 13 => .array .int
  | 14 => .array .byte
  | 15 => .int
  | 16 => .int
  | 17 => .int
  | 18 => .array .int
  | 19 => .array .int
  | 20 => .array .int
  | 21 => .array .int
  | 22 => .array .int
  | 23 => .array .int
  | 24 => .int
  | 25 => .array .int
  | 26 => .array .int
  | 27 => .array .int
  | 28 => .array .int
  | 29 => .int
  | 30 => .array .int
  | 31 => .int
  | 32 => .array .byte
  | 33 => .int
  | _ => .array .boolean
theorem nmX9 : ∀ a, a < 35 → ∀ b, b < 35 → a ≠ b → (TX9 a).2.1 ≠ (TX9 b).2.1 := by decide +kernel
theorem tyX9_ok : ∀ k, k < 35 → parseFieldDescriptor (TX9 k).2.2.1 = some (tyX9 k) := by decide +kernel
theorem inX9 (c0 : Cond) : ∀ w ∈ u_ws RX9 TX9 35, w ∈ c0 :: sr_G := fun w h => List.mem_cons_of_mem _ (sr_ins (by decide +kernel) w h)
def RX10 : String := "SchemaReaderModel"
def TX10 : u_T := fun k => match k with
  | 0 => ("SchemaReaderModel", "thrown", "I", false)
  | 1 => ("SchemaReaderModel", "tape", "[B", true)
  | 2 => ("SchemaReaderModel", "taped", "I", false)
  | 3 => ("SchemaReaderModel", "typed", "LSchemaReaderModel$Text;", true)
  | 4 => ("SchemaReaderModel", "left", "LSchemaReaderModel$Text;", true)
  | 5 => ("SchemaReaderModel", "right", "LSchemaReaderModel$Text;", true)
  | 6 => ("SchemaReaderModel", "has", "Z", false)
  | 7 => ("SchemaReaderModel", "place", "I", false)
  | 8 => ("SchemaReaderModel", "kept", "[B", true)
  | 9 => ("SchemaReaderModel", "sizes", "[I", true)
  | 10 => ("SchemaReaderModel", "asked", "[Z", true)
  | 11 => ("SchemaReaderModel", "pairs", "[I", true)
  | _ => ("SchemaReaderModel", "many", "I", false)
def tyX10 : Nat → FieldType := fun k => match k with
  | 0 => .int
  | 1 => .array .byte
  | 2 => .int
  | 3 => .object "SchemaReaderModel$Text"
  | 4 => .object "SchemaReaderModel$Text"
  | 5 => .object "SchemaReaderModel$Text"
  | 6 => .boolean
  | 7 => .int
  | 8 => .array .byte
  | 9 => .array .int
  | 10 => .array .boolean
  | 11 => .array .int
  | _ => .int
theorem nmX10 : ∀ a, a < 13 → ∀ b, b < 13 → a ≠ b → (TX10 a).2.1 ≠ (TX10 b).2.1 := by decide +kernel
theorem tyX10_ok : ∀ k, k < 13 → parseFieldDescriptor (TX10 k).2.2.1 = some (tyX10 k) := by decide +kernel
theorem inX10 (c0 : Cond) : ∀ w ∈ u_ws RX10 TX10 13, w ∈ c0 :: sr_G := fun w h => List.mem_cons_of_mem _ (sr_ins (by decide +kernel) w h)
def RX20 : String := "java/lang/String"
def RX21 : String := "java/lang/StringLatin1"
def RX22 : String := "jdk/internal/util/Preconditions"
def RX23 : String := "java/lang/Math"
abbrev srCl : List vw_C := [(RX0, TX0, 2), (RX2, TX2, 5), (RX4, TX4, 7), (RX5, TX5, 5), (RX6, TX6, 12), (RX7, TX7, 8), (RX8, TX8, 7), (RX9, TX9, 35), (RX10, TX10, 13)]
abbrev cX20_coder : ByteArray := prog_20_method_152_code
def yX20_coder : MethodName := ⟨RX20, "coder", "()B"⟩
def wsX20_coder : List Cond := .code yX20_coder cX20_coder 1 (some .byte) :: sr_G
theorem dX20_coder_0 : decode cX20_coder 0 = .ok (.getstatic 38, 3) := by decide +kernel
theorem dX20_coder_3 : decode cX20_coder 3 = .ok (.ifCond .eq 10, 3) := by decide +kernel
theorem dX20_coder_6 : decode cX20_coder 6 = .ok (.aload_n 0, 1) := by decide +kernel
theorem dX20_coder_7 : decode cX20_coder 7 = .ok (.getfield 15, 3) := by decide +kernel
theorem dX20_coder_10 : decode cX20_coder 10 = .ok (.goto 4, 3) := by decide +kernel
theorem dX20_coder_13 : decode cX20_coder 13 = .ok (.iconst 1, 1) := by decide +kernel
theorem dX20_coder_14 : decode cX20_coder 14 = .ok (.ireturn, 1) := by decide +kernel
abbrev cX20_isLatin1 : ByteArray := prog_20_method_154_code
def yX20_isLatin1 : MethodName := ⟨RX20, "isLatin1", "()Z"⟩
def wsX20_isLatin1 : List Cond := .code yX20_isLatin1 cX20_isLatin1 1 (some .boolean) :: sr_G
theorem dX20_isLatin1_0 : decode cX20_isLatin1 0 = .ok (.getstatic 38, 3) := by decide +kernel
theorem dX20_isLatin1_3 : decode cX20_isLatin1 3 = .ok (.ifCond .eq 14, 3) := by decide +kernel
theorem dX20_isLatin1_6 : decode cX20_isLatin1 6 = .ok (.aload_n 0, 1) := by decide +kernel
theorem dX20_isLatin1_7 : decode cX20_isLatin1 7 = .ok (.getfield 15, 3) := by decide +kernel
theorem dX20_isLatin1_10 : decode cX20_isLatin1 10 = .ok (.ifCond .ne 7, 3) := by decide +kernel
theorem dX20_isLatin1_13 : decode cX20_isLatin1 13 = .ok (.iconst 1, 1) := by decide +kernel
theorem dX20_isLatin1_14 : decode cX20_isLatin1 14 = .ok (.goto 4, 3) := by decide +kernel
theorem dX20_isLatin1_17 : decode cX20_isLatin1 17 = .ok (.iconst 0, 1) := by decide +kernel
theorem dX20_isLatin1_18 : decode cX20_isLatin1 18 = .ok (.ireturn, 1) := by decide +kernel
abbrev cX20_length : ByteArray := prog_20_method_54_code
def yX20_length : MethodName := ⟨RX20, "length", "()I"⟩
def wsX20_length : List Cond := .code yX20_length cX20_length 1 (some .int) :: sr_G
theorem dX20_length_0 : decode cX20_length 0 = .ok (.aload_n 0, 1) := by decide +kernel
theorem dX20_length_1 : decode cX20_length 1 = .ok (.getfield 9, 3) := by decide +kernel
theorem dX20_length_4 : decode cX20_length 4 = .ok (.arraylength, 1) := by decide +kernel
theorem dX20_length_5 : decode cX20_length 5 = .ok (.aload_n 0, 1) := by decide +kernel
theorem dX20_length_6 : decode cX20_length 6 = .ok (.invokevirtual 335, 3) := by decide +kernel
theorem dX20_length_9 : decode cX20_length 9 = .ok (.ishr, 1) := by decide +kernel
theorem dX20_length_10 : decode cX20_length 10 = .ok (.ireturn, 1) := by decide +kernel
abbrev cX22_ck : ByteArray := prog_25_method_11_code
def yX22_ck : MethodName := ⟨RX22, "checkIndex", "(IILjava/util/function/BiFunction;)I"⟩
def wsX22_ck : List Cond := .code yX22_ck cX22_ck 3 (some .int) :: sr_G
theorem dX22_ck_0 : decode cX22_ck 0 = .ok (.iload_n 0, 1) := by decide +kernel
theorem dX22_ck_1 : decode cX22_ck 1 = .ok (.ifCond .lt 8, 3) := by decide +kernel
theorem dX22_ck_4 : decode cX22_ck 4 = .ok (.iload_n 0, 1) := by decide +kernel
theorem dX22_ck_5 : decode cX22_ck 5 = .ok (.iload_n 1, 1) := by decide +kernel
theorem dX22_ck_6 : decode cX22_ck 6 = .ok (.if_icmp .lt 10, 3) := by decide +kernel
theorem dX22_ck_9 : decode cX22_ck 9 = .ok (.aload_n 2, 1) := by decide +kernel
theorem dX22_ck_10 : decode cX22_ck 10 = .ok (.iload_n 0, 1) := by decide +kernel
theorem dX22_ck_11 : decode cX22_ck 11 = .ok (.iload_n 1, 1) := by decide +kernel
theorem dX22_ck_12 : decode cX22_ck 12 = .ok (.invokestatic 95, 3) := by decide +kernel
theorem dX22_ck_15 : decode cX22_ck 15 = .ok (.athrow, 1) := by decide +kernel
theorem dX22_ck_16 : decode cX22_ck 16 = .ok (.iload_n 0, 1) := by decide +kernel
theorem dX22_ck_17 : decode cX22_ck 17 = .ok (.ireturn, 1) := by decide +kernel
abbrev cX22_ckQ : ByteArray := prog_25_method_11_code
def yX22_ckQ : MethodName := ⟨RX22, "checkIndex", "(IILjava/util/function/BiFunction;)I"⟩
def wsX22_ckQ : List Cond := .code yX22_ckQ cX22_ckQ 3 (some .int) :: sr_G
theorem dX22_ckQ_0 : decode cX22_ckQ 0 = .ok (.iload_n 0, 1) := by decide +kernel
theorem dX22_ckQ_1 : decode cX22_ckQ 1 = .ok (.ifCond .lt 8, 3) := by decide +kernel
theorem dX22_ckQ_4 : decode cX22_ckQ 4 = .ok (.iload_n 0, 1) := by decide +kernel
theorem dX22_ckQ_5 : decode cX22_ckQ 5 = .ok (.iload_n 1, 1) := by decide +kernel
theorem dX22_ckQ_6 : decode cX22_ckQ 6 = .ok (.if_icmp .lt 10, 3) := by decide +kernel
theorem dX22_ckQ_9 : decode cX22_ckQ 9 = .ok (.aload_n 2, 1) := by decide +kernel
theorem dX22_ckQ_10 : decode cX22_ckQ 10 = .ok (.iload_n 0, 1) := by decide +kernel
theorem dX22_ckQ_11 : decode cX22_ckQ 11 = .ok (.iload_n 1, 1) := by decide +kernel
theorem dX22_ckQ_12 : decode cX22_ckQ 12 = .ok (.invokestatic 95, 3) := by decide +kernel
theorem dX22_ckQ_15 : decode cX22_ckQ 15 = .ok (.athrow, 1) := by decide +kernel
theorem dX22_ckQ_16 : decode cX22_ckQ 16 = .ok (.iload_n 0, 1) := by decide +kernel
theorem dX22_ckQ_17 : decode cX22_ckQ 17 = .ok (.ireturn, 1) := by decide +kernel
abbrev cX20_checkIndex : ByteArray := prog_20_method_155_code
def yX20_checkIndex : MethodName := ⟨RX20, "checkIndex", "(II)V"⟩
def wsX20_checkIndex : List Cond := .code yX20_checkIndex cX20_checkIndex 2 none :: sr_G
theorem dX20_checkIndex_0 : decode cX20_checkIndex 0 = .ok (.iload_n 0, 1) := by decide +kernel
theorem dX20_checkIndex_1 : decode cX20_checkIndex 1 = .ok (.iload_n 1, 1) := by decide +kernel
theorem dX20_checkIndex_2 : decode cX20_checkIndex 2 = .ok (.getstatic 1053, 3) := by decide +kernel
theorem dX20_checkIndex_5 : decode cX20_checkIndex 5 = .ok (.invokestatic 1059, 3) := by decide +kernel
theorem dX20_checkIndex_8 : decode cX20_checkIndex 8 = .ok (.pop, 1) := by decide +kernel
theorem dX20_checkIndex_9 : decode cX20_checkIndex 9 = .ok (.return_, 1) := by decide +kernel
abbrev cX21_charAt : ByteArray := prog_21_method_2_code
def yX21_charAt : MethodName := ⟨RX21, "charAt", "([BI)C"⟩
def wsX21_charAt : List Cond := .code yX21_charAt cX21_charAt 2 (some .char) :: sr_G
theorem dX21_charAt_0 : decode cX21_charAt 0 = .ok (.iload_n 1, 1) := by decide +kernel
theorem dX21_charAt_1 : decode cX21_charAt 1 = .ok (.aload_n 0, 1) := by decide +kernel
theorem dX21_charAt_2 : decode cX21_charAt 2 = .ok (.arraylength, 1) := by decide +kernel
theorem dX21_charAt_3 : decode cX21_charAt 3 = .ok (.invokestatic 9, 3) := by decide +kernel
theorem dX21_charAt_6 : decode cX21_charAt 6 = .ok (.aload_n 0, 1) := by decide +kernel
theorem dX21_charAt_7 : decode cX21_charAt 7 = .ok (.iload_n 1, 1) := by decide +kernel
theorem dX21_charAt_8 : decode cX21_charAt 8 = .ok (.baload, 1) := by decide +kernel
theorem dX21_charAt_9 : decode cX21_charAt 9 = .ok (.sipush 255, 3) := by decide +kernel
theorem dX21_charAt_12 : decode cX21_charAt 12 = .ok (.iand, 1) := by decide +kernel
theorem dX21_charAt_13 : decode cX21_charAt 13 = .ok (.i2c, 1) := by decide +kernel
theorem dX21_charAt_14 : decode cX21_charAt 14 = .ok (.ireturn, 1) := by decide +kernel
abbrev cX20_charAt : ByteArray := prog_20_method_56_code
def yX20_charAt : MethodName := ⟨RX20, "charAt", "(I)C"⟩
def wsX20_charAt : List Cond := .code yX20_charAt cX20_charAt 2 (some .char) :: sr_G
theorem dX20_charAt_0 : decode cX20_charAt 0 = .ok (.aload_n 0, 1) := by decide +kernel
theorem dX20_charAt_1 : decode cX20_charAt 1 = .ok (.invokevirtual 492, 3) := by decide +kernel
theorem dX20_charAt_4 : decode cX20_charAt 4 = .ok (.ifCond .eq 12, 3) := by decide +kernel
theorem dX20_charAt_7 : decode cX20_charAt 7 = .ok (.aload_n 0, 1) := by decide +kernel
theorem dX20_charAt_8 : decode cX20_charAt 8 = .ok (.getfield 9, 3) := by decide +kernel
theorem dX20_charAt_11 : decode cX20_charAt 11 = .ok (.iload_n 1, 1) := by decide +kernel
theorem dX20_charAt_12 : decode cX20_charAt 12 = .ok (.invokestatic 495, 3) := by decide +kernel
theorem dX20_charAt_15 : decode cX20_charAt 15 = .ok (.ireturn, 1) := by decide +kernel
theorem dX20_charAt_16 : decode cX20_charAt 16 = .ok (.aload_n 0, 1) := by decide +kernel
theorem dX20_charAt_17 : decode cX20_charAt 17 = .ok (.getfield 9, 3) := by decide +kernel
theorem dX20_charAt_20 : decode cX20_charAt 20 = .ok (.iload_n 1, 1) := by decide +kernel
theorem dX20_charAt_21 : decode cX20_charAt 21 = .ok (.invokestatic 498, 3) := by decide +kernel
theorem dX20_charAt_24 : decode cX20_charAt 24 = .ok (.ireturn, 1) := by decide +kernel
abbrev cX21_canEncode : ByteArray := prog_21_method_4_code
def yX21_canEncode : MethodName := ⟨RX21, "canEncode", "(I)Z"⟩
def wsX21_canEncode : List Cond := .code yX21_canEncode cX21_canEncode 1 (some .boolean) :: sr_G
theorem dX21_canEncode_0 : decode cX21_canEncode 0 = .ok (.iload_n 0, 1) := by decide +kernel
theorem dX21_canEncode_1 : decode cX21_canEncode 1 = .ok (.ifCond .lt 14, 3) := by decide +kernel
theorem dX21_canEncode_4 : decode cX21_canEncode 4 = .ok (.iload_n 0, 1) := by decide +kernel
theorem dX21_canEncode_5 : decode cX21_canEncode 5 = .ok (.sipush 255, 3) := by decide +kernel
theorem dX21_canEncode_8 : decode cX21_canEncode 8 = .ok (.if_icmp .gt 7, 3) := by decide +kernel
theorem dX21_canEncode_11 : decode cX21_canEncode 11 = .ok (.iconst 1, 1) := by decide +kernel
theorem dX21_canEncode_12 : decode cX21_canEncode 12 = .ok (.goto 4, 3) := by decide +kernel
theorem dX21_canEncode_15 : decode cX21_canEncode 15 = .ok (.iconst 0, 1) := by decide +kernel
theorem dX21_canEncode_16 : decode cX21_canEncode 16 = .ok (.ireturn, 1) := by decide +kernel
abbrev cX21_indexOfChar : ByteArray := prog_21_method_23_code
def yX21_indexOfChar : MethodName := ⟨RX21, "indexOfChar", "([BIII)I"⟩
def wsX21_indexOfChar : List Cond := .code yX21_indexOfChar cX21_indexOfChar 6 (some .int) :: sr_G
theorem dX21_indexOfChar_0 : decode cX21_indexOfChar 0 = .ok (.iload_n 1, 1) := by decide +kernel
theorem dX21_indexOfChar_1 : decode cX21_indexOfChar 1 = .ok (.i2b, 1) := by decide +kernel
theorem dX21_indexOfChar_2 : decode cX21_indexOfChar 2 = .ok (.istore 4, 2) := by decide +kernel
theorem dX21_indexOfChar_4 : decode cX21_indexOfChar 4 = .ok (.iload_n 2, 1) := by decide +kernel
theorem dX21_indexOfChar_5 : decode cX21_indexOfChar 5 = .ok (.istore 5, 2) := by decide +kernel
theorem dX21_indexOfChar_7 : decode cX21_indexOfChar 7 = .ok (.iload 5, 2) := by decide +kernel
theorem dX21_indexOfChar_9 : decode cX21_indexOfChar 9 = .ok (.iload_n 3, 1) := by decide +kernel
theorem dX21_indexOfChar_10 : decode cX21_indexOfChar 10 = .ok (.if_icmp .ge 21, 3) := by decide +kernel
theorem dX21_indexOfChar_13 : decode cX21_indexOfChar 13 = .ok (.aload_n 0, 1) := by decide +kernel
theorem dX21_indexOfChar_14 : decode cX21_indexOfChar 14 = .ok (.iload 5, 2) := by decide +kernel
theorem dX21_indexOfChar_16 : decode cX21_indexOfChar 16 = .ok (.baload, 1) := by decide +kernel
theorem dX21_indexOfChar_17 : decode cX21_indexOfChar 17 = .ok (.iload 4, 2) := by decide +kernel
theorem dX21_indexOfChar_19 : decode cX21_indexOfChar 19 = .ok (.if_icmp .ne 6, 3) := by decide +kernel
theorem dX21_indexOfChar_22 : decode cX21_indexOfChar 22 = .ok (.iload 5, 2) := by decide +kernel
theorem dX21_indexOfChar_24 : decode cX21_indexOfChar 24 = .ok (.ireturn, 1) := by decide +kernel
theorem dX21_indexOfChar_25 : decode cX21_indexOfChar 25 = .ok (.iinc 5 1, 3) := by decide +kernel
theorem dX21_indexOfChar_28 : decode cX21_indexOfChar 28 = .ok (.goto (-21), 3) := by decide +kernel
theorem dX21_indexOfChar_31 : decode cX21_indexOfChar 31 = .ok (.iconst (-1), 1) := by decide +kernel
theorem dX21_indexOfChar_32 : decode cX21_indexOfChar 32 = .ok (.ireturn, 1) := by decide +kernel
abbrev cX21_indexOf : ByteArray := prog_21_method_22_code
def yX21_indexOf : MethodName := ⟨RX21, "indexOf", "([BIII)I"⟩
def wsX21_indexOf : List Cond := .code yX21_indexOf cX21_indexOf 4 (some .int) :: sr_G
theorem dX21_indexOf_0 : decode cX21_indexOf 0 = .ok (.iload_n 1, 1) := by decide +kernel
theorem dX21_indexOf_1 : decode cX21_indexOf 1 = .ok (.invokestatic 88, 3) := by decide +kernel
theorem dX21_indexOf_4 : decode cX21_indexOf 4 = .ok (.ifCond .ne 5, 3) := by decide +kernel
theorem dX21_indexOf_7 : decode cX21_indexOf 7 = .ok (.iconst (-1), 1) := by decide +kernel
theorem dX21_indexOf_8 : decode cX21_indexOf 8 = .ok (.ireturn, 1) := by decide +kernel
theorem dX21_indexOf_9 : decode cX21_indexOf 9 = .ok (.iload_n 2, 1) := by decide +kernel
theorem dX21_indexOf_10 : decode cX21_indexOf 10 = .ok (.iconst 0, 1) := by decide +kernel
theorem dX21_indexOf_11 : decode cX21_indexOf 11 = .ok (.invokestatic 92, 3) := by decide +kernel
theorem dX21_indexOf_14 : decode cX21_indexOf 14 = .ok (.istore_n 2, 1) := by decide +kernel
theorem dX21_indexOf_15 : decode cX21_indexOf 15 = .ok (.iload_n 3, 1) := by decide +kernel
theorem dX21_indexOf_16 : decode cX21_indexOf 16 = .ok (.aload_n 0, 1) := by decide +kernel
theorem dX21_indexOf_17 : decode cX21_indexOf 17 = .ok (.arraylength, 1) := by decide +kernel
theorem dX21_indexOf_18 : decode cX21_indexOf 18 = .ok (.invokestatic 38, 3) := by decide +kernel
theorem dX21_indexOf_21 : decode cX21_indexOf 21 = .ok (.istore_n 3, 1) := by decide +kernel
theorem dX21_indexOf_22 : decode cX21_indexOf 22 = .ok (.iload_n 2, 1) := by decide +kernel
theorem dX21_indexOf_23 : decode cX21_indexOf 23 = .ok (.iload_n 3, 1) := by decide +kernel
theorem dX21_indexOf_24 : decode cX21_indexOf 24 = .ok (.if_icmp .lt 5, 3) := by decide +kernel
theorem dX21_indexOf_27 : decode cX21_indexOf 27 = .ok (.iconst (-1), 1) := by decide +kernel
theorem dX21_indexOf_28 : decode cX21_indexOf 28 = .ok (.ireturn, 1) := by decide +kernel
theorem dX21_indexOf_29 : decode cX21_indexOf 29 = .ok (.aload_n 0, 1) := by decide +kernel
theorem dX21_indexOf_30 : decode cX21_indexOf 30 = .ok (.iload_n 1, 1) := by decide +kernel
theorem dX21_indexOf_31 : decode cX21_indexOf 31 = .ok (.iload_n 2, 1) := by decide +kernel
theorem dX21_indexOf_32 : decode cX21_indexOf 32 = .ok (.iload_n 3, 1) := by decide +kernel
theorem dX21_indexOf_33 : decode cX21_indexOf 33 = .ok (.invokestatic 95, 3) := by decide +kernel
theorem dX21_indexOf_36 : decode cX21_indexOf 36 = .ok (.ireturn, 1) := by decide +kernel
abbrev cX20_indexOf2 : ByteArray := prog_20_method_80_code
def yX20_indexOf2 : MethodName := ⟨RX20, "indexOf", "(II)I"⟩
def wsX20_indexOf2 : List Cond := .code yX20_indexOf2 cX20_indexOf2 3 (some .int) :: sr_G
theorem dX20_indexOf2_0 : decode cX20_indexOf2 0 = .ok (.aload_n 0, 1) := by decide +kernel
theorem dX20_indexOf2_1 : decode cX20_indexOf2 1 = .ok (.invokevirtual 492, 3) := by decide +kernel
theorem dX20_indexOf2_4 : decode cX20_indexOf2 4 = .ok (.ifCond .eq 19, 3) := by decide +kernel
theorem dX20_indexOf2_7 : decode cX20_indexOf2 7 = .ok (.aload_n 0, 1) := by decide +kernel
theorem dX20_indexOf2_8 : decode cX20_indexOf2 8 = .ok (.getfield 9, 3) := by decide +kernel
theorem dX20_indexOf2_11 : decode cX20_indexOf2 11 = .ok (.iload_n 1, 1) := by decide +kernel
theorem dX20_indexOf2_12 : decode cX20_indexOf2 12 = .ok (.iload_n 2, 1) := by decide +kernel
theorem dX20_indexOf2_13 : decode cX20_indexOf2 13 = .ok (.aload_n 0, 1) := by decide +kernel
theorem dX20_indexOf2_14 : decode cX20_indexOf2 14 = .ok (.invokevirtual 505, 3) := by decide +kernel
theorem dX20_indexOf2_17 : decode cX20_indexOf2 17 = .ok (.invokestatic 637, 3) := by decide +kernel
theorem dX20_indexOf2_20 : decode cX20_indexOf2 20 = .ok (.goto 16, 3) := by decide +kernel
theorem dX20_indexOf2_23 : decode cX20_indexOf2 23 = .ok (.aload_n 0, 1) := by decide +kernel
theorem dX20_indexOf2_24 : decode cX20_indexOf2 24 = .ok (.getfield 9, 3) := by decide +kernel
theorem dX20_indexOf2_27 : decode cX20_indexOf2 27 = .ok (.iload_n 1, 1) := by decide +kernel
theorem dX20_indexOf2_28 : decode cX20_indexOf2 28 = .ok (.iload_n 2, 1) := by decide +kernel
theorem dX20_indexOf2_29 : decode cX20_indexOf2 29 = .ok (.aload_n 0, 1) := by decide +kernel
theorem dX20_indexOf2_30 : decode cX20_indexOf2 30 = .ok (.invokevirtual 505, 3) := by decide +kernel
theorem dX20_indexOf2_33 : decode cX20_indexOf2 33 = .ok (.invokestatic 640, 3) := by decide +kernel
theorem dX20_indexOf2_36 : decode cX20_indexOf2 36 = .ok (.ireturn, 1) := by decide +kernel
abbrev cX20_indexOf : ByteArray := prog_20_method_79_code
def yX20_indexOf : MethodName := ⟨RX20, "indexOf", "(I)I"⟩
def wsX20_indexOf : List Cond := .code yX20_indexOf cX20_indexOf 2 (some .int) :: sr_G
theorem dX20_indexOf_0 : decode cX20_indexOf 0 = .ok (.aload_n 0, 1) := by decide +kernel
theorem dX20_indexOf_1 : decode cX20_indexOf 1 = .ok (.iload_n 1, 1) := by decide +kernel
theorem dX20_indexOf_2 : decode cX20_indexOf 2 = .ok (.iconst 0, 1) := by decide +kernel
theorem dX20_indexOf_3 : decode cX20_indexOf 3 = .ok (.invokevirtual 633, 3) := by decide +kernel
theorem dX20_indexOf_6 : decode cX20_indexOf 6 = .ok (.ireturn, 1) := by decide +kernel
abbrev cX9_look : ByteArray := prog_12_method_4_code
def yX9_look : MethodName := ⟨RX9, "look", "()I"⟩
def wsX9_look : List Cond := .code yX9_look cX9_look 1 (some .int) :: sr_G
theorem dX9_look_0 : decode cX9_look 0 = .ok (.aload_n 0, 1) := by decide +kernel
theorem dX9_look_1 : decode cX9_look 1 = .ok (.getfield 95, 3) := by decide +kernel
theorem dX9_look_4 : decode cX9_look 4 = .ok (.aload_n 0, 1) := by decide +kernel
theorem dX9_look_5 : decode cX9_look 5 = .ok (.getfield 98, 3) := by decide +kernel
theorem dX9_look_8 : decode cX9_look 8 = .ok (.if_icmp .ge 15, 3) := by decide +kernel
theorem dX9_look_11 : decode cX9_look 11 = .ok (.aload_n 0, 1) := by decide +kernel
theorem dX9_look_12 : decode cX9_look 12 = .ok (.getfield 9, 3) := by decide +kernel
theorem dX9_look_15 : decode cX9_look 15 = .ok (.aload_n 0, 1) := by decide +kernel
theorem dX9_look_16 : decode cX9_look 16 = .ok (.getfield 95, 3) := by decide +kernel
theorem dX9_look_19 : decode cX9_look 19 = .ok (.baload, 1) := by decide +kernel
theorem dX9_look_20 : decode cX9_look 20 = .ok (.goto 4, 3) := by decide +kernel
theorem dX9_look_23 : decode cX9_look 23 = .ok (.iconst (-1), 1) := by decide +kernel
theorem dX9_look_24 : decode cX9_look 24 = .ok (.ireturn, 1) := by decide +kernel
abbrev cX9_blanks : ByteArray := prog_12_method_5_code
def yX9_blanks : MethodName := ⟨RX9, "blanks", "()V"⟩
def wsX9_blanks : List Cond := .code yX9_blanks cX9_blanks 1 none :: sr_G
theorem dX9_blanks_0 : decode cX9_blanks 0 = .ok (.aload_n 0, 1) := by decide +kernel
theorem dX9_blanks_1 : decode cX9_blanks 1 = .ok (.invokevirtual 101, 3) := by decide +kernel
theorem dX9_blanks_4 : decode cX9_blanks 4 = .ok (.bipush 32, 2) := by decide +kernel
theorem dX9_blanks_6 : decode cX9_blanks 6 = .ok (.if_icmp .eq 30, 3) := by decide +kernel
theorem dX9_blanks_9 : decode cX9_blanks 9 = .ok (.aload_n 0, 1) := by decide +kernel
theorem dX9_blanks_10 : decode cX9_blanks 10 = .ok (.invokevirtual 101, 3) := by decide +kernel
theorem dX9_blanks_13 : decode cX9_blanks 13 = .ok (.bipush 9, 2) := by decide +kernel
theorem dX9_blanks_15 : decode cX9_blanks 15 = .ok (.if_icmp .eq 21, 3) := by decide +kernel
theorem dX9_blanks_18 : decode cX9_blanks 18 = .ok (.aload_n 0, 1) := by decide +kernel
theorem dX9_blanks_19 : decode cX9_blanks 19 = .ok (.invokevirtual 101, 3) := by decide +kernel
theorem dX9_blanks_22 : decode cX9_blanks 22 = .ok (.bipush 10, 2) := by decide +kernel
theorem dX9_blanks_24 : decode cX9_blanks 24 = .ok (.if_icmp .eq 12, 3) := by decide +kernel
theorem dX9_blanks_27 : decode cX9_blanks 27 = .ok (.aload_n 0, 1) := by decide +kernel
theorem dX9_blanks_28 : decode cX9_blanks 28 = .ok (.invokevirtual 101, 3) := by decide +kernel
theorem dX9_blanks_31 : decode cX9_blanks 31 = .ok (.bipush 13, 2) := by decide +kernel
theorem dX9_blanks_33 : decode cX9_blanks 33 = .ok (.if_icmp .ne 16, 3) := by decide +kernel
theorem dX9_blanks_36 : decode cX9_blanks 36 = .ok (.aload_n 0, 1) := by decide +kernel
theorem dX9_blanks_37 : decode cX9_blanks 37 = .ok (.dup, 1) := by decide +kernel
theorem dX9_blanks_38 : decode cX9_blanks 38 = .ok (.getfield 95, 3) := by decide +kernel
theorem dX9_blanks_41 : decode cX9_blanks 41 = .ok (.iconst 1, 1) := by decide +kernel
theorem dX9_blanks_42 : decode cX9_blanks 42 = .ok (.iadd, 1) := by decide +kernel
theorem dX9_blanks_43 : decode cX9_blanks 43 = .ok (.putfield 95, 3) := by decide +kernel
theorem dX9_blanks_46 : decode cX9_blanks 46 = .ok (.goto (-46), 3) := by decide +kernel
theorem dX9_blanks_49 : decode cX9_blanks 49 = .ok (.return_, 1) := by decide +kernel
abbrev cX9_node : ByteArray := prog_12_method_7_code
def yX9_node : MethodName := ⟨RX9, "node", "(I)I"⟩
def wsX9_node : List Cond := .code yX9_node cX9_node 2 (some .int) :: sr_G
theorem dX9_node_0 : decode cX9_node 0 = .ok (.aload_n 0, 1) := by decide +kernel
theorem dX9_node_1 : decode cX9_node 1 = .ok (.getfield 15, 3) := by decide +kernel
theorem dX9_node_4 : decode cX9_node 4 = .ok (.aload_n 0, 1) := by decide +kernel
theorem dX9_node_5 : decode cX9_node 5 = .ok (.getfield 109, 3) := by decide +kernel
theorem dX9_node_8 : decode cX9_node 8 = .ok (.iload_n 1, 1) := by decide +kernel
theorem dX9_node_9 : decode cX9_node 9 = .ok (.iastore, 1) := by decide +kernel
theorem dX9_node_10 : decode cX9_node 10 = .ok (.aload_n 0, 1) := by decide +kernel
theorem dX9_node_11 : decode cX9_node 11 = .ok (.getfield 19, 3) := by decide +kernel
theorem dX9_node_14 : decode cX9_node 14 = .ok (.aload_n 0, 1) := by decide +kernel
theorem dX9_node_15 : decode cX9_node 15 = .ok (.getfield 109, 3) := by decide +kernel
theorem dX9_node_18 : decode cX9_node 18 = .ok (.aload_n 0, 1) := by decide +kernel
theorem dX9_node_19 : decode cX9_node 19 = .ok (.getfield 95, 3) := by decide +kernel
theorem dX9_node_22 : decode cX9_node 22 = .ok (.iastore, 1) := by decide +kernel
theorem dX9_node_23 : decode cX9_node 23 = .ok (.aload_n 0, 1) := by decide +kernel
theorem dX9_node_24 : decode cX9_node 24 = .ok (.getfield 22, 3) := by decide +kernel
theorem dX9_node_27 : decode cX9_node 27 = .ok (.aload_n 0, 1) := by decide +kernel
theorem dX9_node_28 : decode cX9_node 28 = .ok (.getfield 109, 3) := by decide +kernel
theorem dX9_node_31 : decode cX9_node 31 = .ok (.lconst 0, 1) := by decide +kernel
theorem dX9_node_32 : decode cX9_node 32 = .ok (.lastore, 1) := by decide +kernel
theorem dX9_node_33 : decode cX9_node 33 = .ok (.aload_n 0, 1) := by decide +kernel
theorem dX9_node_34 : decode cX9_node 34 = .ok (.getfield 26, 3) := by decide +kernel
theorem dX9_node_37 : decode cX9_node 37 = .ok (.aload_n 0, 1) := by decide +kernel
theorem dX9_node_38 : decode cX9_node 38 = .ok (.getfield 109, 3) := by decide +kernel
theorem dX9_node_41 : decode cX9_node 41 = .ok (.iconst 0, 1) := by decide +kernel
theorem dX9_node_42 : decode cX9_node 42 = .ok (.iastore, 1) := by decide +kernel
theorem dX9_node_43 : decode cX9_node 43 = .ok (.aload_n 0, 1) := by decide +kernel
theorem dX9_node_44 : decode cX9_node 44 = .ok (.getfield 29, 3) := by decide +kernel
theorem dX9_node_47 : decode cX9_node 47 = .ok (.aload_n 0, 1) := by decide +kernel
theorem dX9_node_48 : decode cX9_node 48 = .ok (.getfield 109, 3) := by decide +kernel
theorem dX9_node_51 : decode cX9_node 51 = .ok (.iconst (-1), 1) := by decide +kernel
theorem dX9_node_52 : decode cX9_node 52 = .ok (.iastore, 1) := by decide +kernel
theorem dX9_node_53 : decode cX9_node 53 = .ok (.aload_n 0, 1) := by decide +kernel
theorem dX9_node_54 : decode cX9_node 54 = .ok (.getfield 32, 3) := by decide +kernel
theorem dX9_node_57 : decode cX9_node 57 = .ok (.aload_n 0, 1) := by decide +kernel
theorem dX9_node_58 : decode cX9_node 58 = .ok (.getfield 109, 3) := by decide +kernel
theorem dX9_node_61 : decode cX9_node 61 = .ok (.iconst (-1), 1) := by decide +kernel
theorem dX9_node_62 : decode cX9_node 62 = .ok (.iastore, 1) := by decide +kernel
theorem dX9_node_63 : decode cX9_node 63 = .ok (.aload_n 0, 1) := by decide +kernel
theorem dX9_node_64 : decode cX9_node 64 = .ok (.dup, 1) := by decide +kernel
theorem dX9_node_65 : decode cX9_node 65 = .ok (.getfield 109, 3) := by decide +kernel
theorem dX9_node_68 : decode cX9_node 68 = .ok (.iconst 1, 1) := by decide +kernel
theorem dX9_node_69 : decode cX9_node 69 = .ok (.iadd, 1) := by decide +kernel
theorem dX9_node_70 : decode cX9_node 70 = .ok (.putfield 109, 3) := by decide +kernel
theorem dX9_node_73 : decode cX9_node 73 = .ok (.aload_n 0, 1) := by decide +kernel
theorem dX9_node_74 : decode cX9_node 74 = .ok (.getfield 109, 3) := by decide +kernel
theorem dX9_node_77 : decode cX9_node 77 = .ok (.iconst 1, 1) := by decide +kernel
theorem dX9_node_78 : decode cX9_node 78 = .ok (.isub, 1) := by decide +kernel
theorem dX9_node_79 : decode cX9_node 79 = .ok (.ireturn, 1) := by decide +kernel
abbrev cX9_hex : ByteArray := prog_12_method_11_code
def yX9_hex : MethodName := ⟨RX9, "hex", "(I)I"⟩
def wsX9_hex : List Cond := .code yX9_hex cX9_hex 1 (some .int) :: sr_G
theorem dX9_hex_0 : decode cX9_hex 0 = .ok (.iload_n 0, 1) := by decide +kernel
theorem dX9_hex_1 : decode cX9_hex 1 = .ok (.bipush 48, 2) := by decide +kernel
theorem dX9_hex_3 : decode cX9_hex 3 = .ok (.if_icmp .lt 16, 3) := by decide +kernel
theorem dX9_hex_6 : decode cX9_hex 6 = .ok (.iload_n 0, 1) := by decide +kernel
theorem dX9_hex_7 : decode cX9_hex 7 = .ok (.bipush 57, 2) := by decide +kernel
theorem dX9_hex_9 : decode cX9_hex 9 = .ok (.if_icmp .gt 10, 3) := by decide +kernel
theorem dX9_hex_12 : decode cX9_hex 12 = .ok (.iload_n 0, 1) := by decide +kernel
theorem dX9_hex_13 : decode cX9_hex 13 = .ok (.bipush 48, 2) := by decide +kernel
theorem dX9_hex_15 : decode cX9_hex 15 = .ok (.isub, 1) := by decide +kernel
theorem dX9_hex_16 : decode cX9_hex 16 = .ok (.goto 48, 3) := by decide +kernel
theorem dX9_hex_19 : decode cX9_hex 19 = .ok (.iload_n 0, 1) := by decide +kernel
theorem dX9_hex_20 : decode cX9_hex 20 = .ok (.bipush 97, 2) := by decide +kernel
theorem dX9_hex_22 : decode cX9_hex 22 = .ok (.if_icmp .lt 19, 3) := by decide +kernel
theorem dX9_hex_25 : decode cX9_hex 25 = .ok (.iload_n 0, 1) := by decide +kernel
theorem dX9_hex_26 : decode cX9_hex 26 = .ok (.bipush 102, 2) := by decide +kernel
theorem dX9_hex_28 : decode cX9_hex 28 = .ok (.if_icmp .gt 13, 3) := by decide +kernel
theorem dX9_hex_31 : decode cX9_hex 31 = .ok (.iload_n 0, 1) := by decide +kernel
theorem dX9_hex_32 : decode cX9_hex 32 = .ok (.bipush 97, 2) := by decide +kernel
theorem dX9_hex_34 : decode cX9_hex 34 = .ok (.isub, 1) := by decide +kernel
theorem dX9_hex_35 : decode cX9_hex 35 = .ok (.bipush 10, 2) := by decide +kernel
theorem dX9_hex_37 : decode cX9_hex 37 = .ok (.iadd, 1) := by decide +kernel
theorem dX9_hex_38 : decode cX9_hex 38 = .ok (.goto 26, 3) := by decide +kernel
theorem dX9_hex_41 : decode cX9_hex 41 = .ok (.iload_n 0, 1) := by decide +kernel
theorem dX9_hex_42 : decode cX9_hex 42 = .ok (.bipush 65, 2) := by decide +kernel
theorem dX9_hex_44 : decode cX9_hex 44 = .ok (.if_icmp .lt 19, 3) := by decide +kernel
theorem dX9_hex_47 : decode cX9_hex 47 = .ok (.iload_n 0, 1) := by decide +kernel
theorem dX9_hex_48 : decode cX9_hex 48 = .ok (.bipush 70, 2) := by decide +kernel
theorem dX9_hex_50 : decode cX9_hex 50 = .ok (.if_icmp .gt 13, 3) := by decide +kernel
theorem dX9_hex_53 : decode cX9_hex 53 = .ok (.iload_n 0, 1) := by decide +kernel
theorem dX9_hex_54 : decode cX9_hex 54 = .ok (.bipush 65, 2) := by decide +kernel
theorem dX9_hex_56 : decode cX9_hex 56 = .ok (.isub, 1) := by decide +kernel
theorem dX9_hex_57 : decode cX9_hex 57 = .ok (.bipush 10, 2) := by decide +kernel
theorem dX9_hex_59 : decode cX9_hex 59 = .ok (.iadd, 1) := by decide +kernel
theorem dX9_hex_60 : decode cX9_hex 60 = .ok (.goto 4, 3) := by decide +kernel
theorem dX9_hex_63 : decode cX9_hex 63 = .ok (.iconst (-1), 1) := by decide +kernel
theorem dX9_hex_64 : decode cX9_hex 64 = .ok (.ireturn, 1) := by decide +kernel
abbrev cX9_same : ByteArray := prog_12_method_15_code
def yX9_same : MethodName := ⟨RX9, "same", "(ILSchemaReaderModel$Text;I)Z"⟩
def wsX9_same : List Cond := .code yX9_same cX9_same 5 (some .boolean) :: sr_G
theorem dX9_same_0 : decode cX9_same 0 = .ok (.aload_n 0, 1) := by decide +kernel
theorem dX9_same_1 : decode cX9_same 1 = .ok (.getfield 26, 3) := by decide +kernel
theorem dX9_same_4 : decode cX9_same 4 = .ok (.iload_n 1, 1) := by decide +kernel
theorem dX9_same_5 : decode cX9_same 5 = .ok (.iaload, 1) := by decide +kernel
theorem dX9_same_6 : decode cX9_same 6 = .ok (.aload_n 2, 1) := by decide +kernel
theorem dX9_same_7 : decode cX9_same 7 = .ok (.getfield 26, 3) := by decide +kernel
theorem dX9_same_10 : decode cX9_same 10 = .ok (.iload_n 3, 1) := by decide +kernel
theorem dX9_same_11 : decode cX9_same 11 = .ok (.iaload, 1) := by decide +kernel
theorem dX9_same_12 : decode cX9_same 12 = .ok (.if_icmp .eq 5, 3) := by decide +kernel
theorem dX9_same_15 : decode cX9_same 15 = .ok (.iconst 0, 1) := by decide +kernel
theorem dX9_same_16 : decode cX9_same 16 = .ok (.ireturn, 1) := by decide +kernel
theorem dX9_same_17 : decode cX9_same 17 = .ok (.iconst 0, 1) := by decide +kernel
theorem dX9_same_18 : decode cX9_same 18 = .ok (.istore 4, 2) := by decide +kernel
theorem dX9_same_20 : decode cX9_same 20 = .ok (.iload 4, 2) := by decide +kernel
theorem dX9_same_22 : decode cX9_same 22 = .ok (.aload_n 0, 1) := by decide +kernel
theorem dX9_same_23 : decode cX9_same 23 = .ok (.getfield 26, 3) := by decide +kernel
theorem dX9_same_26 : decode cX9_same 26 = .ok (.iload_n 1, 1) := by decide +kernel
theorem dX9_same_27 : decode cX9_same 27 = .ok (.iaload, 1) := by decide +kernel
theorem dX9_same_28 : decode cX9_same 28 = .ok (.if_icmp .ge 44, 3) := by decide +kernel
theorem dX9_same_31 : decode cX9_same 31 = .ok (.aload_n 0, 1) := by decide +kernel
theorem dX9_same_32 : decode cX9_same 32 = .ok (.getfield 35, 3) := by decide +kernel
theorem dX9_same_35 : decode cX9_same 35 = .ok (.aload_n 0, 1) := by decide +kernel
theorem dX9_same_36 : decode cX9_same 36 = .ok (.getfield 22, 3) := by decide +kernel
theorem dX9_same_39 : decode cX9_same 39 = .ok (.iload_n 1, 1) := by decide +kernel
theorem dX9_same_40 : decode cX9_same 40 = .ok (.laload, 1) := by decide +kernel
theorem dX9_same_41 : decode cX9_same 41 = .ok (.l2i, 1) := by decide +kernel
theorem dX9_same_42 : decode cX9_same 42 = .ok (.iload 4, 2) := by decide +kernel
theorem dX9_same_44 : decode cX9_same 44 = .ok (.iadd, 1) := by decide +kernel
theorem dX9_same_45 : decode cX9_same 45 = .ok (.baload, 1) := by decide +kernel
theorem dX9_same_46 : decode cX9_same 46 = .ok (.aload_n 2, 1) := by decide +kernel
theorem dX9_same_47 : decode cX9_same 47 = .ok (.getfield 35, 3) := by decide +kernel
theorem dX9_same_50 : decode cX9_same 50 = .ok (.aload_n 2, 1) := by decide +kernel
theorem dX9_same_51 : decode cX9_same 51 = .ok (.getfield 22, 3) := by decide +kernel
theorem dX9_same_54 : decode cX9_same 54 = .ok (.iload_n 3, 1) := by decide +kernel
theorem dX9_same_55 : decode cX9_same 55 = .ok (.laload, 1) := by decide +kernel
theorem dX9_same_56 : decode cX9_same 56 = .ok (.l2i, 1) := by decide +kernel
theorem dX9_same_57 : decode cX9_same 57 = .ok (.iload 4, 2) := by decide +kernel
theorem dX9_same_59 : decode cX9_same 59 = .ok (.iadd, 1) := by decide +kernel
theorem dX9_same_60 : decode cX9_same 60 = .ok (.baload, 1) := by decide +kernel
theorem dX9_same_61 : decode cX9_same 61 = .ok (.if_icmp .eq 5, 3) := by decide +kernel
theorem dX9_same_64 : decode cX9_same 64 = .ok (.iconst 0, 1) := by decide +kernel
theorem dX9_same_65 : decode cX9_same 65 = .ok (.ireturn, 1) := by decide +kernel
theorem dX9_same_66 : decode cX9_same 66 = .ok (.iinc 4 1, 3) := by decide +kernel
theorem dX9_same_69 : decode cX9_same 69 = .ok (.goto (-49), 3) := by decide +kernel
theorem dX9_same_72 : decode cX9_same 72 = .ok (.iconst 1, 1) := by decide +kernel
theorem dX9_same_73 : decode cX9_same 73 = .ok (.ireturn, 1) := by decide +kernel
abbrev cX9_isName : ByteArray := prog_12_method_18_code
def yX9_isName : MethodName := ⟨RX9, "isName", "(I)Z"⟩
def wsX9_isName : List Cond := .code yX9_isName cX9_isName 6 (some .boolean) :: sr_G
theorem dX9_isName_0 : decode cX9_isName 0 = .ok (.aload_n 0, 1) := by decide +kernel
theorem dX9_isName_1 : decode cX9_isName 1 = .ok (.getfield 15, 3) := by decide +kernel
theorem dX9_isName_4 : decode cX9_isName 4 = .ok (.iload_n 1, 1) := by decide +kernel
theorem dX9_isName_5 : decode cX9_isName 5 = .ok (.iaload, 1) := by decide +kernel
theorem dX9_isName_6 : decode cX9_isName 6 = .ok (.iconst 2, 1) := by decide +kernel
theorem dX9_isName_7 : decode cX9_isName 7 = .ok (.if_icmp .ne 27, 3) := by decide +kernel
theorem dX9_isName_10 : decode cX9_isName 10 = .ok (.aload_n 0, 1) := by decide +kernel
theorem dX9_isName_11 : decode cX9_isName 11 = .ok (.getfield 26, 3) := by decide +kernel
theorem dX9_isName_14 : decode cX9_isName 14 = .ok (.iload_n 1, 1) := by decide +kernel
theorem dX9_isName_15 : decode cX9_isName 15 = .ok (.iaload, 1) := by decide +kernel
theorem dX9_isName_16 : decode cX9_isName 16 = .ok (.ifCond .le 18, 3) := by decide +kernel
theorem dX9_isName_19 : decode cX9_isName 19 = .ok (.aload_n 0, 1) := by decide +kernel
theorem dX9_isName_20 : decode cX9_isName 20 = .ok (.getfield 26, 3) := by decide +kernel
theorem dX9_isName_23 : decode cX9_isName 23 = .ok (.iload_n 1, 1) := by decide +kernel
theorem dX9_isName_24 : decode cX9_isName 24 = .ok (.iaload, 1) := by decide +kernel
theorem dX9_isName_25 : decode cX9_isName 25 = .ok (.bipush 33, 2) := by decide +kernel
theorem dX9_isName_27 : decode cX9_isName 27 = .ok (.if_icmp .ge 7, 3) := by decide +kernel
theorem dX9_isName_30 : decode cX9_isName 30 = .ok (.iconst 1, 1) := by decide +kernel
theorem dX9_isName_31 : decode cX9_isName 31 = .ok (.goto 4, 3) := by decide +kernel
theorem dX9_isName_34 : decode cX9_isName 34 = .ok (.iconst 0, 1) := by decide +kernel
theorem dX9_isName_35 : decode cX9_isName 35 = .ok (.istore_n 2, 1) := by decide +kernel
theorem dX9_isName_36 : decode cX9_isName 36 = .ok (.iconst 0, 1) := by decide +kernel
theorem dX9_isName_37 : decode cX9_isName 37 = .ok (.istore_n 3, 1) := by decide +kernel
theorem dX9_isName_38 : decode cX9_isName 38 = .ok (.iload_n 3, 1) := by decide +kernel
theorem dX9_isName_39 : decode cX9_isName 39 = .ok (.aload_n 0, 1) := by decide +kernel
theorem dX9_isName_40 : decode cX9_isName 40 = .ok (.getfield 26, 3) := by decide +kernel
theorem dX9_isName_43 : decode cX9_isName 43 = .ok (.iload_n 1, 1) := by decide +kernel
theorem dX9_isName_44 : decode cX9_isName 44 = .ok (.iaload, 1) := by decide +kernel
theorem dX9_isName_45 : decode cX9_isName 45 = .ok (.if_icmp .ge 100, 3) := by decide +kernel
theorem dX9_isName_48 : decode cX9_isName 48 = .ok (.iload_n 2, 1) := by decide +kernel
theorem dX9_isName_49 : decode cX9_isName 49 = .ok (.ifCond .eq 96, 3) := by decide +kernel
theorem dX9_isName_52 : decode cX9_isName 52 = .ok (.aload_n 0, 1) := by decide +kernel
theorem dX9_isName_53 : decode cX9_isName 53 = .ok (.getfield 35, 3) := by decide +kernel
theorem dX9_isName_56 : decode cX9_isName 56 = .ok (.aload_n 0, 1) := by decide +kernel
theorem dX9_isName_57 : decode cX9_isName 57 = .ok (.getfield 22, 3) := by decide +kernel
theorem dX9_isName_60 : decode cX9_isName 60 = .ok (.iload_n 1, 1) := by decide +kernel
theorem dX9_isName_61 : decode cX9_isName 61 = .ok (.laload, 1) := by decide +kernel
theorem dX9_isName_62 : decode cX9_isName 62 = .ok (.l2i, 1) := by decide +kernel
theorem dX9_isName_63 : decode cX9_isName 63 = .ok (.iload_n 3, 1) := by decide +kernel
theorem dX9_isName_64 : decode cX9_isName 64 = .ok (.iadd, 1) := by decide +kernel
theorem dX9_isName_65 : decode cX9_isName 65 = .ok (.baload, 1) := by decide +kernel
theorem dX9_isName_66 : decode cX9_isName 66 = .ok (.istore 4, 2) := by decide +kernel
theorem dX9_isName_68 : decode cX9_isName 68 = .ok (.iload 4, 2) := by decide +kernel
theorem dX9_isName_70 : decode cX9_isName 70 = .ok (.bipush 48, 2) := by decide +kernel
theorem dX9_isName_72 : decode cX9_isName 72 = .ok (.if_icmp .lt 14, 3) := by decide +kernel
theorem dX9_isName_75 : decode cX9_isName 75 = .ok (.iload 4, 2) := by decide +kernel
theorem dX9_isName_77 : decode cX9_isName 77 = .ok (.bipush 57, 2) := by decide +kernel
theorem dX9_isName_79 : decode cX9_isName 79 = .ok (.if_icmp .gt 7, 3) := by decide +kernel
theorem dX9_isName_82 : decode cX9_isName 82 = .ok (.iconst 1, 1) := by decide +kernel
theorem dX9_isName_83 : decode cX9_isName 83 = .ok (.goto 4, 3) := by decide +kernel
theorem dX9_isName_86 : decode cX9_isName 86 = .ok (.iconst 0, 1) := by decide +kernel
theorem dX9_isName_87 : decode cX9_isName 87 = .ok (.istore 5, 2) := by decide +kernel
theorem dX9_isName_89 : decode cX9_isName 89 = .ok (.iload 4, 2) := by decide +kernel
theorem dX9_isName_91 : decode cX9_isName 91 = .ok (.bipush 97, 2) := by decide +kernel
theorem dX9_isName_93 : decode cX9_isName 93 = .ok (.if_icmp .lt 10, 3) := by decide +kernel
theorem dX9_isName_96 : decode cX9_isName 96 = .ok (.iload 4, 2) := by decide +kernel
theorem dX9_isName_98 : decode cX9_isName 98 = .ok (.bipush 122, 2) := by decide +kernel
theorem dX9_isName_100 : decode cX9_isName 100 = .ok (.if_icmp .le 33, 3) := by decide +kernel
theorem dX9_isName_103 : decode cX9_isName 103 = .ok (.iload 4, 2) := by decide +kernel
theorem dX9_isName_105 : decode cX9_isName 105 = .ok (.bipush 65, 2) := by decide +kernel
theorem dX9_isName_107 : decode cX9_isName 107 = .ok (.if_icmp .lt 10, 3) := by decide +kernel
theorem dX9_isName_110 : decode cX9_isName 110 = .ok (.iload 4, 2) := by decide +kernel
theorem dX9_isName_112 : decode cX9_isName 112 = .ok (.bipush 90, 2) := by decide +kernel
theorem dX9_isName_114 : decode cX9_isName 114 = .ok (.if_icmp .le 19, 3) := by decide +kernel
theorem dX9_isName_117 : decode cX9_isName 117 = .ok (.iload 4, 2) := by decide +kernel
theorem dX9_isName_119 : decode cX9_isName 119 = .ok (.bipush 95, 2) := by decide +kernel
theorem dX9_isName_121 : decode cX9_isName 121 = .ok (.if_icmp .eq 12, 3) := by decide +kernel
theorem dX9_isName_124 : decode cX9_isName 124 = .ok (.iload 5, 2) := by decide +kernel
theorem dX9_isName_126 : decode cX9_isName 126 = .ok (.ifCond .eq 11, 3) := by decide +kernel
theorem dX9_isName_129 : decode cX9_isName 129 = .ok (.iload_n 3, 1) := by decide +kernel
theorem dX9_isName_130 : decode cX9_isName 130 = .ok (.ifCond .le 7, 3) := by decide +kernel
theorem dX9_isName_133 : decode cX9_isName 133 = .ok (.iconst 1, 1) := by decide +kernel
theorem dX9_isName_134 : decode cX9_isName 134 = .ok (.goto 4, 3) := by decide +kernel
theorem dX9_isName_137 : decode cX9_isName 137 = .ok (.iconst 0, 1) := by decide +kernel
theorem dX9_isName_138 : decode cX9_isName 138 = .ok (.istore_n 2, 1) := by decide +kernel
theorem dX9_isName_139 : decode cX9_isName 139 = .ok (.iinc 3 1, 3) := by decide +kernel
theorem dX9_isName_142 : decode cX9_isName 142 = .ok (.goto (-104), 3) := by decide +kernel
theorem dX9_isName_145 : decode cX9_isName 145 = .ok (.iload_n 2, 1) := by decide +kernel
theorem dX9_isName_146 : decode cX9_isName 146 = .ok (.ireturn, 1) := by decide +kernel
abbrev cX9_memberLike : ByteArray := prog_12_method_32_code
def yX9_memberLike : MethodName := ⟨RX9, "memberLike", "(II)I"⟩
def wsX9_memberLike : List Cond := .code yX9_memberLike cX9_memberLike 4 (some .int) :: sr_G
theorem dX9_memberLike_0 : decode cX9_memberLike 0 = .ok (.aload_n 0, 1) := by decide +kernel
theorem dX9_memberLike_1 : decode cX9_memberLike 1 = .ok (.getfield 29, 3) := by decide +kernel
theorem dX9_memberLike_4 : decode cX9_memberLike 4 = .ok (.iload_n 1, 1) := by decide +kernel
theorem dX9_memberLike_5 : decode cX9_memberLike 5 = .ok (.iaload, 1) := by decide +kernel
theorem dX9_memberLike_6 : decode cX9_memberLike 6 = .ok (.istore_n 3, 1) := by decide +kernel
theorem dX9_memberLike_7 : decode cX9_memberLike 7 = .ok (.iload_n 3, 1) := by decide +kernel
theorem dX9_memberLike_8 : decode cX9_memberLike 8 = .ok (.ifCond .lt 35, 3) := by decide +kernel
theorem dX9_memberLike_11 : decode cX9_memberLike 11 = .ok (.aload_n 0, 1) := by decide +kernel
theorem dX9_memberLike_12 : decode cX9_memberLike 12 = .ok (.iload_n 3, 1) := by decide +kernel
theorem dX9_memberLike_13 : decode cX9_memberLike 13 = .ok (.aload_n 0, 1) := by decide +kernel
theorem dX9_memberLike_14 : decode cX9_memberLike 14 = .ok (.iload_n 2, 1) := by decide +kernel
theorem dX9_memberLike_15 : decode cX9_memberLike 15 = .ok (.invokevirtual 155, 3) := by decide +kernel
theorem dX9_memberLike_18 : decode cX9_memberLike 18 = .ok (.ifCond .eq 10, 3) := by decide +kernel
theorem dX9_memberLike_21 : decode cX9_memberLike 21 = .ok (.aload_n 0, 1) := by decide +kernel
theorem dX9_memberLike_22 : decode cX9_memberLike 22 = .ok (.getfield 32, 3) := by decide +kernel
theorem dX9_memberLike_25 : decode cX9_memberLike 25 = .ok (.iload_n 3, 1) := by decide +kernel
theorem dX9_memberLike_26 : decode cX9_memberLike 26 = .ok (.iaload, 1) := by decide +kernel
theorem dX9_memberLike_27 : decode cX9_memberLike 27 = .ok (.ireturn, 1) := by decide +kernel
theorem dX9_memberLike_28 : decode cX9_memberLike 28 = .ok (.aload_n 0, 1) := by decide +kernel
theorem dX9_memberLike_29 : decode cX9_memberLike 29 = .ok (.getfield 32, 3) := by decide +kernel
theorem dX9_memberLike_32 : decode cX9_memberLike 32 = .ok (.aload_n 0, 1) := by decide +kernel
theorem dX9_memberLike_33 : decode cX9_memberLike 33 = .ok (.getfield 32, 3) := by decide +kernel
theorem dX9_memberLike_36 : decode cX9_memberLike 36 = .ok (.iload_n 3, 1) := by decide +kernel
theorem dX9_memberLike_37 : decode cX9_memberLike 37 = .ok (.iaload, 1) := by decide +kernel
theorem dX9_memberLike_38 : decode cX9_memberLike 38 = .ok (.iaload, 1) := by decide +kernel
theorem dX9_memberLike_39 : decode cX9_memberLike 39 = .ok (.istore_n 3, 1) := by decide +kernel
theorem dX9_memberLike_40 : decode cX9_memberLike 40 = .ok (.goto (-33), 3) := by decide +kernel
theorem dX9_memberLike_43 : decode cX9_memberLike 43 = .ok (.iconst (-1), 1) := by decide +kernel
theorem dX9_memberLike_44 : decode cX9_memberLike 44 = .ok (.ireturn, 1) := by decide +kernel
abbrev cX9_defined : ByteArray := prog_12_method_20_code
def yX9_defined : MethodName := ⟨RX9, "defined", "(I)I"⟩
def wsX9_defined : List Cond := .code yX9_defined cX9_defined 3 (some .int) :: sr_G
theorem dX9_defined_0 : decode cX9_defined 0 = .ok (.bipush 6, 2) := by decide +kernel
theorem dX9_defined_2 : decode cX9_defined 2 = .ok (.istore_n 2, 1) := by decide +kernel
theorem dX9_defined_3 : decode cX9_defined 3 = .ok (.iload_n 2, 1) := by decide +kernel
theorem dX9_defined_4 : decode cX9_defined 4 = .ok (.aload_n 0, 1) := by decide +kernel
theorem dX9_defined_5 : decode cX9_defined 5 = .ok (.getfield 189, 3) := by decide +kernel
theorem dX9_defined_8 : decode cX9_defined 8 = .ok (.if_icmp .ge 35, 3) := by decide +kernel
theorem dX9_defined_11 : decode cX9_defined 11 = .ok (.aload_n 0, 1) := by decide +kernel
theorem dX9_defined_12 : decode cX9_defined 12 = .ok (.getfield 41, 3) := by decide +kernel
theorem dX9_defined_15 : decode cX9_defined 15 = .ok (.iload_n 2, 1) := by decide +kernel
theorem dX9_defined_16 : decode cX9_defined 16 = .ok (.iaload, 1) := by decide +kernel
theorem dX9_defined_17 : decode cX9_defined 17 = .ok (.ifCond .lt 20, 3) := by decide +kernel
theorem dX9_defined_20 : decode cX9_defined 20 = .ok (.aload_n 0, 1) := by decide +kernel
theorem dX9_defined_21 : decode cX9_defined 21 = .ok (.aload_n 0, 1) := by decide +kernel
theorem dX9_defined_22 : decode cX9_defined 22 = .ok (.getfield 41, 3) := by decide +kernel
theorem dX9_defined_25 : decode cX9_defined 25 = .ok (.iload_n 2, 1) := by decide +kernel
theorem dX9_defined_26 : decode cX9_defined 26 = .ok (.iaload, 1) := by decide +kernel
theorem dX9_defined_27 : decode cX9_defined 27 = .ok (.aload_n 0, 1) := by decide +kernel
theorem dX9_defined_28 : decode cX9_defined 28 = .ok (.iload_n 1, 1) := by decide +kernel
theorem dX9_defined_29 : decode cX9_defined 29 = .ok (.invokevirtual 155, 3) := by decide +kernel
theorem dX9_defined_32 : decode cX9_defined 32 = .ok (.ifCond .eq 5, 3) := by decide +kernel
theorem dX9_defined_35 : decode cX9_defined 35 = .ok (.iload_n 2, 1) := by decide +kernel
theorem dX9_defined_36 : decode cX9_defined 36 = .ok (.ireturn, 1) := by decide +kernel
theorem dX9_defined_37 : decode cX9_defined 37 = .ok (.iinc 2 1, 3) := by decide +kernel
theorem dX9_defined_40 : decode cX9_defined 40 = .ok (.goto (-37), 3) := by decide +kernel
theorem dX9_defined_43 : decode cX9_defined 43 = .ok (.iconst (-1), 1) := by decide +kernel
theorem dX9_defined_44 : decode cX9_defined 44 = .ok (.ireturn, 1) := by decide +kernel
abbrev cX9_shape : ByteArray := prog_12_method_21_code
def yX9_shape : MethodName := ⟨RX9, "shape", "(I)I"⟩
def wsX9_shape : List Cond := .code yX9_shape cX9_shape 2 (some .int) :: sr_G
theorem dX9_shape_0 : decode cX9_shape 0 = .ok (.aload_n 0, 1) := by decide +kernel
theorem dX9_shape_1 : decode cX9_shape 1 = .ok (.getfield 38, 3) := by decide +kernel
theorem dX9_shape_4 : decode cX9_shape 4 = .ok (.aload_n 0, 1) := by decide +kernel
theorem dX9_shape_5 : decode cX9_shape 5 = .ok (.getfield 189, 3) := by decide +kernel
theorem dX9_shape_8 : decode cX9_shape 8 = .ok (.iload_n 1, 1) := by decide +kernel
theorem dX9_shape_9 : decode cX9_shape 9 = .ok (.iastore, 1) := by decide +kernel
theorem dX9_shape_10 : decode cX9_shape 10 = .ok (.aload_n 0, 1) := by decide +kernel
theorem dX9_shape_11 : decode cX9_shape 11 = .ok (.getfield 41, 3) := by decide +kernel
theorem dX9_shape_14 : decode cX9_shape 14 = .ok (.aload_n 0, 1) := by decide +kernel
theorem dX9_shape_15 : decode cX9_shape 15 = .ok (.getfield 189, 3) := by decide +kernel
theorem dX9_shape_18 : decode cX9_shape 18 = .ok (.iconst (-1), 1) := by decide +kernel
theorem dX9_shape_19 : decode cX9_shape 19 = .ok (.iastore, 1) := by decide +kernel
theorem dX9_shape_20 : decode cX9_shape 20 = .ok (.aload_n 0, 1) := by decide +kernel
theorem dX9_shape_21 : decode cX9_shape 21 = .ok (.getfield 44, 3) := by decide +kernel
theorem dX9_shape_24 : decode cX9_shape 24 = .ok (.aload_n 0, 1) := by decide +kernel
theorem dX9_shape_25 : decode cX9_shape 25 = .ok (.getfield 189, 3) := by decide +kernel
theorem dX9_shape_28 : decode cX9_shape 28 = .ok (.iconst 0, 1) := by decide +kernel
theorem dX9_shape_29 : decode cX9_shape 29 = .ok (.iastore, 1) := by decide +kernel
theorem dX9_shape_30 : decode cX9_shape 30 = .ok (.aload_n 0, 1) := by decide +kernel
theorem dX9_shape_31 : decode cX9_shape 31 = .ok (.getfield 47, 3) := by decide +kernel
theorem dX9_shape_34 : decode cX9_shape 34 = .ok (.aload_n 0, 1) := by decide +kernel
theorem dX9_shape_35 : decode cX9_shape 35 = .ok (.getfield 189, 3) := by decide +kernel
theorem dX9_shape_38 : decode cX9_shape 38 = .ok (.iconst (-1), 1) := by decide +kernel
theorem dX9_shape_39 : decode cX9_shape 39 = .ok (.iastore, 1) := by decide +kernel
theorem dX9_shape_40 : decode cX9_shape 40 = .ok (.aload_n 0, 1) := by decide +kernel
theorem dX9_shape_41 : decode cX9_shape 41 = .ok (.getfield 50, 3) := by decide +kernel
theorem dX9_shape_44 : decode cX9_shape 44 = .ok (.aload_n 0, 1) := by decide +kernel
theorem dX9_shape_45 : decode cX9_shape 45 = .ok (.getfield 189, 3) := by decide +kernel
theorem dX9_shape_48 : decode cX9_shape 48 = .ok (.iconst 0, 1) := by decide +kernel
theorem dX9_shape_49 : decode cX9_shape 49 = .ok (.iastore, 1) := by decide +kernel
theorem dX9_shape_50 : decode cX9_shape 50 = .ok (.aload_n 0, 1) := by decide +kernel
theorem dX9_shape_51 : decode cX9_shape 51 = .ok (.getfield 53, 3) := by decide +kernel
theorem dX9_shape_54 : decode cX9_shape 54 = .ok (.aload_n 0, 1) := by decide +kernel
theorem dX9_shape_55 : decode cX9_shape 55 = .ok (.getfield 189, 3) := by decide +kernel
theorem dX9_shape_58 : decode cX9_shape 58 = .ok (.iconst (-1), 1) := by decide +kernel
theorem dX9_shape_59 : decode cX9_shape 59 = .ok (.iastore, 1) := by decide +kernel
theorem dX9_shape_60 : decode cX9_shape 60 = .ok (.aload_n 0, 1) := by decide +kernel
theorem dX9_shape_61 : decode cX9_shape 61 = .ok (.dup, 1) := by decide +kernel
theorem dX9_shape_62 : decode cX9_shape 62 = .ok (.getfield 189, 3) := by decide +kernel
theorem dX9_shape_65 : decode cX9_shape 65 = .ok (.iconst 1, 1) := by decide +kernel
theorem dX9_shape_66 : decode cX9_shape 66 = .ok (.iadd, 1) := by decide +kernel
theorem dX9_shape_67 : decode cX9_shape 67 = .ok (.putfield 189, 3) := by decide +kernel
theorem dX9_shape_70 : decode cX9_shape 70 = .ok (.aload_n 0, 1) := by decide +kernel
theorem dX9_shape_71 : decode cX9_shape 71 = .ok (.getfield 189, 3) := by decide +kernel
theorem dX9_shape_74 : decode cX9_shape 74 = .ok (.iconst 1, 1) := by decide +kernel
theorem dX9_shape_75 : decode cX9_shape 75 = .ok (.isub, 1) := by decide +kernel
theorem dX9_shape_76 : decode cX9_shape 76 = .ok (.ireturn, 1) := by decide +kernel
abbrev cX9_addKid : ByteArray := prog_12_method_22_code
def yX9_addKid : MethodName := ⟨RX9, "addKid", "(II)I"⟩
def wsX9_addKid : List Cond := .code yX9_addKid cX9_addKid 4 (some .int) :: sr_G
theorem dX9_addKid_0 : decode cX9_addKid 0 = .ok (.aload_n 0, 1) := by decide +kernel
theorem dX9_addKid_1 : decode cX9_addKid 1 = .ok (.getfield 192, 3) := by decide +kernel
theorem dX9_addKid_4 : decode cX9_addKid 4 = .ok (.istore_n 3, 1) := by decide +kernel
theorem dX9_addKid_5 : decode cX9_addKid 5 = .ok (.aload_n 0, 1) := by decide +kernel
theorem dX9_addKid_6 : decode cX9_addKid 6 = .ok (.dup, 1) := by decide +kernel
theorem dX9_addKid_7 : decode cX9_addKid 7 = .ok (.getfield 192, 3) := by decide +kernel
theorem dX9_addKid_10 : decode cX9_addKid 10 = .ok (.iconst 1, 1) := by decide +kernel
theorem dX9_addKid_11 : decode cX9_addKid 11 = .ok (.iadd, 1) := by decide +kernel
theorem dX9_addKid_12 : decode cX9_addKid 12 = .ok (.putfield 192, 3) := by decide +kernel
theorem dX9_addKid_15 : decode cX9_addKid 15 = .ok (.aload_n 0, 1) := by decide +kernel
theorem dX9_addKid_16 : decode cX9_addKid 16 = .ok (.getfield 56, 3) := by decide +kernel
theorem dX9_addKid_19 : decode cX9_addKid 19 = .ok (.iload_n 3, 1) := by decide +kernel
theorem dX9_addKid_20 : decode cX9_addKid 20 = .ok (.iconst (-1), 1) := by decide +kernel
theorem dX9_addKid_21 : decode cX9_addKid 21 = .ok (.iastore, 1) := by decide +kernel
theorem dX9_addKid_22 : decode cX9_addKid 22 = .ok (.aload_n 0, 1) := by decide +kernel
theorem dX9_addKid_23 : decode cX9_addKid 23 = .ok (.getfield 59, 3) := by decide +kernel
theorem dX9_addKid_26 : decode cX9_addKid 26 = .ok (.iload_n 3, 1) := by decide +kernel
theorem dX9_addKid_27 : decode cX9_addKid 27 = .ok (.iconst (-1), 1) := by decide +kernel
theorem dX9_addKid_28 : decode cX9_addKid 28 = .ok (.iastore, 1) := by decide +kernel
theorem dX9_addKid_29 : decode cX9_addKid 29 = .ok (.aload_n 0, 1) := by decide +kernel
theorem dX9_addKid_30 : decode cX9_addKid 30 = .ok (.getfield 62, 3) := by decide +kernel
theorem dX9_addKid_33 : decode cX9_addKid 33 = .ok (.iload_n 3, 1) := by decide +kernel
theorem dX9_addKid_34 : decode cX9_addKid 34 = .ok (.iconst (-1), 1) := by decide +kernel
theorem dX9_addKid_35 : decode cX9_addKid 35 = .ok (.iastore, 1) := by decide +kernel
theorem dX9_addKid_36 : decode cX9_addKid 36 = .ok (.aload_n 0, 1) := by decide +kernel
theorem dX9_addKid_37 : decode cX9_addKid 37 = .ok (.getfield 65, 3) := by decide +kernel
theorem dX9_addKid_40 : decode cX9_addKid 40 = .ok (.iload_n 3, 1) := by decide +kernel
theorem dX9_addKid_41 : decode cX9_addKid 41 = .ok (.iconst (-1), 1) := by decide +kernel
theorem dX9_addKid_42 : decode cX9_addKid 42 = .ok (.iastore, 1) := by decide +kernel
theorem dX9_addKid_43 : decode cX9_addKid 43 = .ok (.iload_n 2, 1) := by decide +kernel
theorem dX9_addKid_44 : decode cX9_addKid 44 = .ok (.ifCond .ge 13, 3) := by decide +kernel
theorem dX9_addKid_47 : decode cX9_addKid 47 = .ok (.aload_n 0, 1) := by decide +kernel
theorem dX9_addKid_48 : decode cX9_addKid 48 = .ok (.getfield 47, 3) := by decide +kernel
theorem dX9_addKid_51 : decode cX9_addKid 51 = .ok (.iload_n 1, 1) := by decide +kernel
theorem dX9_addKid_52 : decode cX9_addKid 52 = .ok (.iload_n 3, 1) := by decide +kernel
theorem dX9_addKid_53 : decode cX9_addKid 53 = .ok (.iastore, 1) := by decide +kernel
theorem dX9_addKid_54 : decode cX9_addKid 54 = .ok (.goto 10, 3) := by decide +kernel
theorem dX9_addKid_57 : decode cX9_addKid 57 = .ok (.aload_n 0, 1) := by decide +kernel
theorem dX9_addKid_58 : decode cX9_addKid 58 = .ok (.getfield 65, 3) := by decide +kernel
theorem dX9_addKid_61 : decode cX9_addKid 61 = .ok (.iload_n 2, 1) := by decide +kernel
theorem dX9_addKid_62 : decode cX9_addKid 62 = .ok (.iload_n 3, 1) := by decide +kernel
theorem dX9_addKid_63 : decode cX9_addKid 63 = .ok (.iastore, 1) := by decide +kernel
theorem dX9_addKid_64 : decode cX9_addKid 64 = .ok (.aload_n 0, 1) := by decide +kernel
theorem dX9_addKid_65 : decode cX9_addKid 65 = .ok (.getfield 50, 3) := by decide +kernel
theorem dX9_addKid_68 : decode cX9_addKid 68 = .ok (.iload_n 1, 1) := by decide +kernel
theorem dX9_addKid_69 : decode cX9_addKid 69 = .ok (.dup2, 1) := by decide +kernel
theorem dX9_addKid_70 : decode cX9_addKid 70 = .ok (.iaload, 1) := by decide +kernel
theorem dX9_addKid_71 : decode cX9_addKid 71 = .ok (.iconst 1, 1) := by decide +kernel
theorem dX9_addKid_72 : decode cX9_addKid 72 = .ok (.iadd, 1) := by decide +kernel
theorem dX9_addKid_73 : decode cX9_addKid 73 = .ok (.iastore, 1) := by decide +kernel
theorem dX9_addKid_74 : decode cX9_addKid 74 = .ok (.iload_n 3, 1) := by decide +kernel
theorem dX9_addKid_75 : decode cX9_addKid 75 = .ok (.ireturn, 1) := by decide +kernel
abbrev cX9_alike : ByteArray := prog_12_method_24_code
def yX9_alike : MethodName := ⟨RX9, "alike", "(II)Z"⟩
def wsX9_alike : List Cond := .code yX9_alike cX9_alike 3 (some .boolean) :: sr_G
theorem dX9_alike_0 : decode cX9_alike 0 = .ok (.iload_n 1, 1) := by decide +kernel
theorem dX9_alike_1 : decode cX9_alike 1 = .ok (.iload_n 2, 1) := by decide +kernel
theorem dX9_alike_2 : decode cX9_alike 2 = .ok (.if_icmp .ne 5, 3) := by decide +kernel
theorem dX9_alike_5 : decode cX9_alike 5 = .ok (.iconst 1, 1) := by decide +kernel
theorem dX9_alike_6 : decode cX9_alike 6 = .ok (.ireturn, 1) := by decide +kernel
theorem dX9_alike_7 : decode cX9_alike 7 = .ok (.aload_n 0, 1) := by decide +kernel
theorem dX9_alike_8 : decode cX9_alike 8 = .ok (.getfield 38, 3) := by decide +kernel
theorem dX9_alike_11 : decode cX9_alike 11 = .ok (.iload_n 1, 1) := by decide +kernel
theorem dX9_alike_12 : decode cX9_alike 12 = .ok (.iaload, 1) := by decide +kernel
theorem dX9_alike_13 : decode cX9_alike 13 = .ok (.aload_n 0, 1) := by decide +kernel
theorem dX9_alike_14 : decode cX9_alike 14 = .ok (.getfield 38, 3) := by decide +kernel
theorem dX9_alike_17 : decode cX9_alike 17 = .ok (.iload_n 2, 1) := by decide +kernel
theorem dX9_alike_18 : decode cX9_alike 18 = .ok (.iaload, 1) := by decide +kernel
theorem dX9_alike_19 : decode cX9_alike 19 = .ok (.if_icmp .ne 29, 3) := by decide +kernel
theorem dX9_alike_22 : decode cX9_alike 22 = .ok (.aload_n 0, 1) := by decide +kernel
theorem dX9_alike_23 : decode cX9_alike 23 = .ok (.getfield 38, 3) := by decide +kernel
theorem dX9_alike_26 : decode cX9_alike 26 = .ok (.iload_n 1, 1) := by decide +kernel
theorem dX9_alike_27 : decode cX9_alike 27 = .ok (.iaload, 1) := by decide +kernel
theorem dX9_alike_28 : decode cX9_alike 28 = .ok (.bipush 6, 2) := by decide +kernel
theorem dX9_alike_30 : decode cX9_alike 30 = .ok (.if_icmp .eq 14, 3) := by decide +kernel
theorem dX9_alike_33 : decode cX9_alike 33 = .ok (.aload_n 0, 1) := by decide +kernel
theorem dX9_alike_34 : decode cX9_alike 34 = .ok (.getfield 38, 3) := by decide +kernel
theorem dX9_alike_37 : decode cX9_alike 37 = .ok (.iload_n 1, 1) := by decide +kernel
theorem dX9_alike_38 : decode cX9_alike 38 = .ok (.iaload, 1) := by decide +kernel
theorem dX9_alike_39 : decode cX9_alike 39 = .ok (.bipush 7, 2) := by decide +kernel
theorem dX9_alike_41 : decode cX9_alike 41 = .ok (.if_icmp .ne 7, 3) := by decide +kernel
theorem dX9_alike_44 : decode cX9_alike 44 = .ok (.iconst 1, 1) := by decide +kernel
theorem dX9_alike_45 : decode cX9_alike 45 = .ok (.goto 4, 3) := by decide +kernel
theorem dX9_alike_48 : decode cX9_alike 48 = .ok (.iconst 0, 1) := by decide +kernel
theorem dX9_alike_49 : decode cX9_alike 49 = .ok (.ireturn, 1) := by decide +kernel
abbrev cX9_symbol : ByteArray := prog_12_method_28_code
def yX9_symbol : MethodName := ⟨RX9, "symbol", "(ILSchemaReaderModel$Text;I)I"⟩
def wsX9_symbol : List Cond := .code yX9_symbol cX9_symbol 6 (some .int) :: sr_G
theorem dX9_symbol_0 : decode cX9_symbol 0 = .ok (.iconst 0, 1) := by decide +kernel
theorem dX9_symbol_1 : decode cX9_symbol 1 = .ok (.istore 4, 2) := by decide +kernel
theorem dX9_symbol_3 : decode cX9_symbol 3 = .ok (.aload_n 0, 1) := by decide +kernel
theorem dX9_symbol_4 : decode cX9_symbol 4 = .ok (.getfield 47, 3) := by decide +kernel
theorem dX9_symbol_7 : decode cX9_symbol 7 = .ok (.iload_n 1, 1) := by decide +kernel
theorem dX9_symbol_8 : decode cX9_symbol 8 = .ok (.iaload, 1) := by decide +kernel
theorem dX9_symbol_9 : decode cX9_symbol 9 = .ok (.istore 5, 2) := by decide +kernel
theorem dX9_symbol_11 : decode cX9_symbol 11 = .ok (.iload 5, 2) := by decide +kernel
theorem dX9_symbol_13 : decode cX9_symbol 13 = .ok (.ifCond .lt 37, 3) := by decide +kernel
theorem dX9_symbol_16 : decode cX9_symbol 16 = .ok (.aload_n 0, 1) := by decide +kernel
theorem dX9_symbol_17 : decode cX9_symbol 17 = .ok (.aload_n 0, 1) := by decide +kernel
theorem dX9_symbol_18 : decode cX9_symbol 18 = .ok (.getfield 59, 3) := by decide +kernel
theorem dX9_symbol_21 : decode cX9_symbol 21 = .ok (.iload 5, 2) := by decide +kernel
theorem dX9_symbol_23 : decode cX9_symbol 23 = .ok (.iaload, 1) := by decide +kernel
theorem dX9_symbol_24 : decode cX9_symbol 24 = .ok (.aload_n 2, 1) := by decide +kernel
theorem dX9_symbol_25 : decode cX9_symbol 25 = .ok (.iload_n 3, 1) := by decide +kernel
theorem dX9_symbol_26 : decode cX9_symbol 26 = .ok (.invokevirtual 155, 3) := by decide +kernel
theorem dX9_symbol_29 : decode cX9_symbol 29 = .ok (.ifCond .eq 6, 3) := by decide +kernel
theorem dX9_symbol_32 : decode cX9_symbol 32 = .ok (.iload 4, 2) := by decide +kernel
theorem dX9_symbol_34 : decode cX9_symbol 34 = .ok (.ireturn, 1) := by decide +kernel
theorem dX9_symbol_35 : decode cX9_symbol 35 = .ok (.iinc 4 1, 3) := by decide +kernel
theorem dX9_symbol_38 : decode cX9_symbol 38 = .ok (.aload_n 0, 1) := by decide +kernel
theorem dX9_symbol_39 : decode cX9_symbol 39 = .ok (.getfield 65, 3) := by decide +kernel
theorem dX9_symbol_42 : decode cX9_symbol 42 = .ok (.iload 5, 2) := by decide +kernel
theorem dX9_symbol_44 : decode cX9_symbol 44 = .ok (.iaload, 1) := by decide +kernel
theorem dX9_symbol_45 : decode cX9_symbol 45 = .ok (.istore 5, 2) := by decide +kernel
theorem dX9_symbol_47 : decode cX9_symbol 47 = .ok (.goto (-36), 3) := by decide +kernel
theorem dX9_symbol_50 : decode cX9_symbol 50 = .ok (.iconst (-1), 1) := by decide +kernel
theorem dX9_symbol_51 : decode cX9_symbol 51 = .ok (.ireturn, 1) := by decide +kernel
abbrev cX9_figure : ByteArray := prog_12_method_38_code
def yX9_figure : MethodName := ⟨RX9, "figure", "(I)V"⟩
def wsX9_figure : List Cond := .code yX9_figure cX9_figure 2 none :: sr_G
theorem dX9_figure_0 : decode cX9_figure 0 = .ok (.aload_n 0, 1) := by decide +kernel
theorem dX9_figure_1 : decode cX9_figure 1 = .ok (.getfield 71, 3) := by decide +kernel
theorem dX9_figure_4 : decode cX9_figure 4 = .ok (.aload_n 0, 1) := by decide +kernel
theorem dX9_figure_5 : decode cX9_figure 5 = .ok (.getfield 280, 3) := by decide +kernel
theorem dX9_figure_8 : decode cX9_figure 8 = .ok (.bipush 48, 2) := by decide +kernel
theorem dX9_figure_10 : decode cX9_figure 10 = .ok (.iload_n 1, 1) := by decide +kernel
theorem dX9_figure_11 : decode cX9_figure 11 = .ok (.iadd, 1) := by decide +kernel
theorem dX9_figure_12 : decode cX9_figure 12 = .ok (.i2b, 1) := by decide +kernel
theorem dX9_figure_13 : decode cX9_figure 13 = .ok (.bastore, 1) := by decide +kernel
theorem dX9_figure_14 : decode cX9_figure 14 = .ok (.aload_n 0, 1) := by decide +kernel
theorem dX9_figure_15 : decode cX9_figure 15 = .ok (.dup, 1) := by decide +kernel
theorem dX9_figure_16 : decode cX9_figure 16 = .ok (.getfield 280, 3) := by decide +kernel
theorem dX9_figure_19 : decode cX9_figure 19 = .ok (.iconst 1, 1) := by decide +kernel
theorem dX9_figure_20 : decode cX9_figure 20 = .ok (.iadd, 1) := by decide +kernel
theorem dX9_figure_21 : decode cX9_figure 21 = .ok (.putfield 280, 3) := by decide +kernel
theorem dX9_figure_24 : decode cX9_figure 24 = .ok (.return_, 1) := by decide +kernel
abbrev cX9_print : ByteArray := prog_12_method_40_code
def yX9_print : MethodName := ⟨RX9, "print", "()J"⟩
def wsX9_print : List Cond := .code yX9_print cX9_print 7 (some .long) :: sr_G
theorem dX9_print_0 : decode cX9_print 0 = .ok (.ldc2_w 335, 3) := by decide +kernel
theorem dX9_print_3 : decode cX9_print 3 = .ok (.lstore_n 1, 1) := by decide +kernel
theorem dX9_print_4 : decode cX9_print 4 = .ok (.iconst 0, 1) := by decide +kernel
theorem dX9_print_5 : decode cX9_print 5 = .ok (.istore_n 3, 1) := by decide +kernel
theorem dX9_print_6 : decode cX9_print 6 = .ok (.iload_n 3, 1) := by decide +kernel
theorem dX9_print_7 : decode cX9_print 7 = .ok (.aload_n 0, 1) := by decide +kernel
theorem dX9_print_8 : decode cX9_print 8 = .ok (.getfield 280, 3) := by decide +kernel
theorem dX9_print_11 : decode cX9_print 11 = .ok (.if_icmp .ge 71, 3) := by decide +kernel
theorem dX9_print_14 : decode cX9_print 14 = .ok (.lload_n 1, 1) := by decide +kernel
theorem dX9_print_15 : decode cX9_print 15 = .ok (.aload_n 0, 1) := by decide +kernel
theorem dX9_print_16 : decode cX9_print 16 = .ok (.getfield 71, 3) := by decide +kernel
theorem dX9_print_19 : decode cX9_print 19 = .ok (.iload_n 3, 1) := by decide +kernel
theorem dX9_print_20 : decode cX9_print 20 = .ok (.baload, 1) := by decide +kernel
theorem dX9_print_21 : decode cX9_print 21 = .ok (.i2l, 1) := by decide +kernel
theorem dX9_print_22 : decode cX9_print 22 = .ok (.lxor, 1) := by decide +kernel
theorem dX9_print_23 : decode cX9_print 23 = .ok (.ldc2_w 337, 3) := by decide +kernel
theorem dX9_print_26 : decode cX9_print 26 = .ok (.land, 1) := by decide +kernel
theorem dX9_print_27 : decode cX9_print 27 = .ok (.lstore 4, 2) := by decide +kernel
theorem dX9_print_29 : decode cX9_print 29 = .ok (.iconst 0, 1) := by decide +kernel
theorem dX9_print_30 : decode cX9_print 30 = .ok (.istore 6, 2) := by decide +kernel
theorem dX9_print_32 : decode cX9_print 32 = .ok (.iload 6, 2) := by decide +kernel
theorem dX9_print_34 : decode cX9_print 34 = .ok (.bipush 8, 2) := by decide +kernel
theorem dX9_print_36 : decode cX9_print 36 = .ok (.if_icmp .ge 32, 3) := by decide +kernel
theorem dX9_print_39 : decode cX9_print 39 = .ok (.lload 4, 2) := by decide +kernel
theorem dX9_print_41 : decode cX9_print 41 = .ok (.iconst 1, 1) := by decide +kernel
theorem dX9_print_42 : decode cX9_print 42 = .ok (.lushr, 1) := by decide +kernel
theorem dX9_print_43 : decode cX9_print 43 = .ok (.lload 4, 2) := by decide +kernel
theorem dX9_print_45 : decode cX9_print 45 = .ok (.lconst 1, 1) := by decide +kernel
theorem dX9_print_46 : decode cX9_print 46 = .ok (.land, 1) := by decide +kernel
theorem dX9_print_47 : decode cX9_print 47 = .ok (.lconst 1, 1) := by decide +kernel
theorem dX9_print_48 : decode cX9_print 48 = .ok (.lcmp, 1) := by decide +kernel
theorem dX9_print_49 : decode cX9_print 49 = .ok (.ifCond .ne 9, 3) := by decide +kernel
theorem dX9_print_52 : decode cX9_print 52 = .ok (.ldc2_w 335, 3) := by decide +kernel
theorem dX9_print_55 : decode cX9_print 55 = .ok (.goto 4, 3) := by decide +kernel
theorem dX9_print_58 : decode cX9_print 58 = .ok (.lconst 0, 1) := by decide +kernel
theorem dX9_print_59 : decode cX9_print 59 = .ok (.lxor, 1) := by decide +kernel
theorem dX9_print_60 : decode cX9_print 60 = .ok (.lstore 4, 2) := by decide +kernel
theorem dX9_print_62 : decode cX9_print 62 = .ok (.iinc 6 1, 3) := by decide +kernel
theorem dX9_print_65 : decode cX9_print 65 = .ok (.goto (-33), 3) := by decide +kernel
theorem dX9_print_68 : decode cX9_print 68 = .ok (.lload_n 1, 1) := by decide +kernel
theorem dX9_print_69 : decode cX9_print 69 = .ok (.bipush 8, 2) := by decide +kernel
theorem dX9_print_71 : decode cX9_print 71 = .ok (.lushr, 1) := by decide +kernel
theorem dX9_print_72 : decode cX9_print 72 = .ok (.lload 4, 2) := by decide +kernel
theorem dX9_print_74 : decode cX9_print 74 = .ok (.lxor, 1) := by decide +kernel
theorem dX9_print_75 : decode cX9_print 75 = .ok (.lstore_n 1, 1) := by decide +kernel
theorem dX9_print_76 : decode cX9_print 76 = .ok (.iinc 3 1, 3) := by decide +kernel
theorem dX9_print_79 : decode cX9_print 79 = .ok (.goto (-73), 3) := by decide +kernel
theorem dX9_print_82 : decode cX9_print 82 = .ok (.lload_n 1, 1) := by decide +kernel
theorem dX9_print_83 : decode cX9_print 83 = .ok (.lreturn, 1) := by decide +kernel
abbrev cX9_fail : ByteArray := prog_12_method_2_code
def yX9_fail : MethodName := ⟨RX9, "fail", "(II)V"⟩
def wsX9_fail : List Cond := .code yX9_fail cX9_fail 3 none :: sr_G
theorem dX9_fail_0 : decode cX9_fail 0 = .ok (.aload_n 0, 1) := by decide +kernel
theorem dX9_fail_1 : decode cX9_fail 1 = .ok (.iload_n 1, 1) := by decide +kernel
theorem dX9_fail_2 : decode cX9_fail 2 = .ok (.putfield 78, 3) := by decide +kernel
theorem dX9_fail_5 : decode cX9_fail 5 = .ok (.aload_n 0, 1) := by decide +kernel
theorem dX9_fail_6 : decode cX9_fail 6 = .ok (.iload_n 2, 1) := by decide +kernel
theorem dX9_fail_7 : decode cX9_fail 7 = .ok (.putfield 82, 3) := by decide +kernel
theorem dX9_fail_10 : decode cX9_fail 10 = .ok (.new 85, 3) := by decide +kernel
theorem dX9_fail_13 : decode cX9_fail 13 = .ok (.dup, 1) := by decide +kernel
theorem dX9_fail_14 : decode cX9_fail 14 = .ok (.ldc 87, 2) := by decide +kernel
theorem dX9_fail_16 : decode cX9_fail 16 = .ok (.invokespecial 88, 3) := by decide +kernel
theorem dX9_fail_19 : decode cX9_fail 19 = .ok (.athrow, 1) := by decide +kernel
abbrev cX9_need : ByteArray := prog_12_method_3_code
def yX9_need : MethodName := ⟨RX9, "need", "(ZII)V"⟩
def wsX9_need : List Cond := .code yX9_need cX9_need 4 none :: sr_G
theorem dX9_need_0 : decode cX9_need 0 = .ok (.iload_n 1, 1) := by decide +kernel
theorem dX9_need_1 : decode cX9_need 1 = .ok (.ifCond .ne 9, 3) := by decide +kernel
theorem dX9_need_4 : decode cX9_need 4 = .ok (.aload_n 0, 1) := by decide +kernel
theorem dX9_need_5 : decode cX9_need 5 = .ok (.iload_n 2, 1) := by decide +kernel
theorem dX9_need_6 : decode cX9_need 6 = .ok (.iload_n 3, 1) := by decide +kernel
theorem dX9_need_7 : decode cX9_need 7 = .ok (.invokevirtual 91, 3) := by decide +kernel
theorem dX9_need_10 : decode cX9_need 10 = .ok (.return_, 1) := by decide +kernel
abbrev cX9_take : ByteArray := prog_12_method_6_code
def yX9_take : MethodName := ⟨RX9, "take", "(I)V"⟩
def wsX9_take : List Cond := .code yX9_take cX9_take 2 none :: sr_G
theorem dX9_take_0 : decode cX9_take 0 = .ok (.aload_n 0, 1) := by decide +kernel
theorem dX9_take_1 : decode cX9_take 1 = .ok (.aload_n 0, 1) := by decide +kernel
theorem dX9_take_2 : decode cX9_take 2 = .ok (.invokevirtual 101, 3) := by decide +kernel
theorem dX9_take_5 : decode cX9_take 5 = .ok (.iload_n 1, 1) := by decide +kernel
theorem dX9_take_6 : decode cX9_take 6 = .ok (.if_icmp .ne 7, 3) := by decide +kernel
theorem dX9_take_9 : decode cX9_take 9 = .ok (.iconst 1, 1) := by decide +kernel
theorem dX9_take_10 : decode cX9_take 10 = .ok (.goto 4, 3) := by decide +kernel
theorem dX9_take_13 : decode cX9_take 13 = .ok (.iconst 0, 1) := by decide +kernel
theorem dX9_take_14 : decode cX9_take 14 = .ok (.iconst 1, 1) := by decide +kernel
theorem dX9_take_15 : decode cX9_take 15 = .ok (.aload_n 0, 1) := by decide +kernel
theorem dX9_take_16 : decode cX9_take 16 = .ok (.getfield 95, 3) := by decide +kernel
theorem dX9_take_19 : decode cX9_take 19 = .ok (.invokevirtual 105, 3) := by decide +kernel
theorem dX9_take_22 : decode cX9_take 22 = .ok (.aload_n 0, 1) := by decide +kernel
theorem dX9_take_23 : decode cX9_take 23 = .ok (.dup, 1) := by decide +kernel
theorem dX9_take_24 : decode cX9_take 24 = .ok (.getfield 95, 3) := by decide +kernel
theorem dX9_take_27 : decode cX9_take 27 = .ok (.iconst 1, 1) := by decide +kernel
theorem dX9_take_28 : decode cX9_take 28 = .ok (.iadd, 1) := by decide +kernel
theorem dX9_take_29 : decode cX9_take 29 = .ok (.putfield 95, 3) := by decide +kernel
theorem dX9_take_32 : decode cX9_take 32 = .ok (.return_, 1) := by decide +kernel
abbrev cX9_number : ByteArray := prog_12_method_14_code
def yX9_number : MethodName := ⟨RX9, "number", "()I"⟩
def wsX9_number : List Cond := .code yX9_number cX9_number 8 (some .int) :: sr_G
theorem dX9_number_0 : decode cX9_number 0 = .ok (.aload_n 0, 1) := by decide +kernel
theorem dX9_number_1 : decode cX9_number 1 = .ok (.iconst 3, 1) := by decide +kernel
theorem dX9_number_2 : decode cX9_number 2 = .ok (.invokevirtual 127, 3) := by decide +kernel
theorem dX9_number_5 : decode cX9_number 5 = .ok (.istore_n 1, 1) := by decide +kernel
theorem dX9_number_6 : decode cX9_number 6 = .ok (.aload_n 0, 1) := by decide +kernel
theorem dX9_number_7 : decode cX9_number 7 = .ok (.invokevirtual 101, 3) := by decide +kernel
theorem dX9_number_10 : decode cX9_number 10 = .ok (.bipush 45, 2) := by decide +kernel
theorem dX9_number_12 : decode cX9_number 12 = .ok (.if_icmp .ne 7, 3) := by decide +kernel
theorem dX9_number_15 : decode cX9_number 15 = .ok (.iconst 1, 1) := by decide +kernel
theorem dX9_number_16 : decode cX9_number 16 = .ok (.goto 4, 3) := by decide +kernel
theorem dX9_number_19 : decode cX9_number 19 = .ok (.iconst 0, 1) := by decide +kernel
theorem dX9_number_20 : decode cX9_number 20 = .ok (.istore_n 2, 1) := by decide +kernel
theorem dX9_number_21 : decode cX9_number 21 = .ok (.aload_n 0, 1) := by decide +kernel
theorem dX9_number_22 : decode cX9_number 22 = .ok (.iload_n 2, 1) := by decide +kernel
theorem dX9_number_23 : decode cX9_number 23 = .ok (.ifCond .eq 12, 3) := by decide +kernel
theorem dX9_number_26 : decode cX9_number 26 = .ok (.aload_n 0, 1) := by decide +kernel
theorem dX9_number_27 : decode cX9_number 27 = .ok (.getfield 95, 3) := by decide +kernel
theorem dX9_number_30 : decode cX9_number 30 = .ok (.iconst 1, 1) := by decide +kernel
theorem dX9_number_31 : decode cX9_number 31 = .ok (.iadd, 1) := by decide +kernel
theorem dX9_number_32 : decode cX9_number 32 = .ok (.goto 7, 3) := by decide +kernel
theorem dX9_number_35 : decode cX9_number 35 = .ok (.aload_n 0, 1) := by decide +kernel
theorem dX9_number_36 : decode cX9_number 36 = .ok (.getfield 95, 3) := by decide +kernel
theorem dX9_number_39 : decode cX9_number 39 = .ok (.putfield 95, 3) := by decide +kernel
theorem dX9_number_42 : decode cX9_number 42 = .ok (.aload_n 0, 1) := by decide +kernel
theorem dX9_number_43 : decode cX9_number 43 = .ok (.aload_n 0, 1) := by decide +kernel
theorem dX9_number_44 : decode cX9_number 44 = .ok (.invokevirtual 101, 3) := by decide +kernel
theorem dX9_number_47 : decode cX9_number 47 = .ok (.bipush 48, 2) := by decide +kernel
theorem dX9_number_49 : decode cX9_number 49 = .ok (.if_icmp .lt 16, 3) := by decide +kernel
theorem dX9_number_52 : decode cX9_number 52 = .ok (.aload_n 0, 1) := by decide +kernel
theorem dX9_number_53 : decode cX9_number 53 = .ok (.invokevirtual 101, 3) := by decide +kernel
theorem dX9_number_56 : decode cX9_number 56 = .ok (.bipush 57, 2) := by decide +kernel
theorem dX9_number_58 : decode cX9_number 58 = .ok (.if_icmp .gt 7, 3) := by decide +kernel
theorem dX9_number_61 : decode cX9_number 61 = .ok (.iconst 1, 1) := by decide +kernel
theorem dX9_number_62 : decode cX9_number 62 = .ok (.goto 4, 3) := by decide +kernel
theorem dX9_number_65 : decode cX9_number 65 = .ok (.iconst 0, 1) := by decide +kernel
theorem dX9_number_66 : decode cX9_number 66 = .ok (.iconst 1, 1) := by decide +kernel
theorem dX9_number_67 : decode cX9_number 67 = .ok (.aload_n 0, 1) := by decide +kernel
theorem dX9_number_68 : decode cX9_number 68 = .ok (.getfield 95, 3) := by decide +kernel
theorem dX9_number_71 : decode cX9_number 71 = .ok (.invokevirtual 105, 3) := by decide +kernel
theorem dX9_number_74 : decode cX9_number 74 = .ok (.aload_n 0, 1) := by decide +kernel
theorem dX9_number_75 : decode cX9_number 75 = .ok (.invokevirtual 101, 3) := by decide +kernel
theorem dX9_number_78 : decode cX9_number 78 = .ok (.bipush 48, 2) := by decide +kernel
theorem dX9_number_80 : decode cX9_number 80 = .ok (.if_icmp .ne 7, 3) := by decide +kernel
theorem dX9_number_83 : decode cX9_number 83 = .ok (.iconst 1, 1) := by decide +kernel
theorem dX9_number_84 : decode cX9_number 84 = .ok (.goto 4, 3) := by decide +kernel
theorem dX9_number_87 : decode cX9_number 87 = .ok (.iconst 0, 1) := by decide +kernel
theorem dX9_number_88 : decode cX9_number 88 = .ok (.istore_n 3, 1) := by decide +kernel
theorem dX9_number_89 : decode cX9_number 89 = .ok (.iconst 1, 1) := by decide +kernel
theorem dX9_number_90 : decode cX9_number 90 = .ok (.istore 4, 2) := by decide +kernel
theorem dX9_number_92 : decode cX9_number 92 = .ok (.lconst 0, 1) := by decide +kernel
theorem dX9_number_93 : decode cX9_number 93 = .ok (.lstore 5, 2) := by decide +kernel
theorem dX9_number_95 : decode cX9_number 95 = .ok (.aload_n 0, 1) := by decide +kernel
theorem dX9_number_96 : decode cX9_number 96 = .ok (.invokevirtual 101, 3) := by decide +kernel
theorem dX9_number_99 : decode cX9_number 99 = .ok (.bipush 48, 2) := by decide +kernel
theorem dX9_number_101 : decode cX9_number 101 = .ok (.if_icmp .lt 142, 3) := by decide +kernel
theorem dX9_number_104 : decode cX9_number 104 = .ok (.aload_n 0, 1) := by decide +kernel
theorem dX9_number_105 : decode cX9_number 105 = .ok (.invokevirtual 101, 3) := by decide +kernel
theorem dX9_number_108 : decode cX9_number 108 = .ok (.bipush 57, 2) := by decide +kernel
theorem dX9_number_110 : decode cX9_number 110 = .ok (.if_icmp .gt 133, 3) := by decide +kernel
theorem dX9_number_113 : decode cX9_number 113 = .ok (.iload_n 3, 1) := by decide +kernel
theorem dX9_number_114 : decode cX9_number 114 = .ok (.ifCond .eq 29, 3) := by decide +kernel
theorem dX9_number_117 : decode cX9_number 117 = .ok (.lload 5, 2) := by decide +kernel
theorem dX9_number_119 : decode cX9_number 119 = .ok (.lconst 0, 1) := by decide +kernel
theorem dX9_number_120 : decode cX9_number 120 = .ok (.lcmp, 1) := by decide +kernel
theorem dX9_number_121 : decode cX9_number 121 = .ok (.ifCond .ne 122, 3) := by decide +kernel
theorem dX9_number_124 : decode cX9_number 124 = .ok (.aload_n 0, 1) := by decide +kernel
theorem dX9_number_125 : decode cX9_number 125 = .ok (.getfield 15, 3) := by decide +kernel
theorem dX9_number_128 : decode cX9_number 128 = .ok (.iload_n 1, 1) := by decide +kernel
theorem dX9_number_129 : decode cX9_number 129 = .ok (.iaload, 1) := by decide +kernel
theorem dX9_number_130 : decode cX9_number 130 = .ok (.iconst 3, 1) := by decide +kernel
theorem dX9_number_131 : decode cX9_number 131 = .ok (.if_icmp .ne 112, 3) := by decide +kernel
theorem dX9_number_134 : decode cX9_number 134 = .ok (.aload_n 0, 1) := by decide +kernel
theorem dX9_number_135 : decode cX9_number 135 = .ok (.getfield 26, 3) := by decide +kernel
theorem dX9_number_138 : decode cX9_number 138 = .ok (.iload_n 1, 1) := by decide +kernel
theorem dX9_number_139 : decode cX9_number 139 = .ok (.iaload, 1) := by decide +kernel
theorem dX9_number_140 : decode cX9_number 140 = .ok (.ifCond .ne 103, 3) := by decide +kernel
theorem dX9_number_143 : decode cX9_number 143 = .ok (.aload_n 0, 1) := by decide +kernel
theorem dX9_number_144 : decode cX9_number 144 = .ok (.invokevirtual 101, 3) := by decide +kernel
theorem dX9_number_147 : decode cX9_number 147 = .ok (.bipush 48, 2) := by decide +kernel
theorem dX9_number_149 : decode cX9_number 149 = .ok (.isub, 1) := by decide +kernel
theorem dX9_number_150 : decode cX9_number 150 = .ok (.istore 7, 2) := by decide +kernel
theorem dX9_number_152 : decode cX9_number 152 = .ok (.iload 4, 2) := by decide +kernel
theorem dX9_number_154 : decode cX9_number 154 = .ok (.ifCond .eq 41, 3) := by decide +kernel
theorem dX9_number_157 : decode cX9_number 157 = .ok (.lload 5, 2) := by decide +kernel
theorem dX9_number_159 : decode cX9_number 159 = .ok (.ldc2_w 173, 3) := by decide +kernel
theorem dX9_number_162 : decode cX9_number 162 = .ok (.lcmp, 1) := by decide +kernel
theorem dX9_number_163 : decode cX9_number 163 = .ok (.ifCond .gt 28, 3) := by decide +kernel
theorem dX9_number_166 : decode cX9_number 166 = .ok (.lload 5, 2) := by decide +kernel
theorem dX9_number_168 : decode cX9_number 168 = .ok (.ldc2_w 173, 3) := by decide +kernel
theorem dX9_number_171 : decode cX9_number 171 = .ok (.lcmp, 1) := by decide +kernel
theorem dX9_number_172 : decode cX9_number 172 = .ok (.ifCond .ne 23, 3) := by decide +kernel
theorem dX9_number_175 : decode cX9_number 175 = .ok (.iload 7, 2) := by decide +kernel
theorem dX9_number_177 : decode cX9_number 177 = .ok (.iload_n 2, 1) := by decide +kernel
theorem dX9_number_178 : decode cX9_number 178 = .ok (.ifCond .eq 8, 3) := by decide +kernel
theorem dX9_number_181 : decode cX9_number 181 = .ok (.bipush 8, 2) := by decide +kernel
theorem dX9_number_183 : decode cX9_number 183 = .ok (.goto 5, 3) := by decide +kernel
theorem dX9_number_186 : decode cX9_number 186 = .ok (.bipush 7, 2) := by decide +kernel
theorem dX9_number_188 : decode cX9_number 188 = .ok (.if_icmp .gt 7, 3) := by decide +kernel
theorem dX9_number_191 : decode cX9_number 191 = .ok (.iconst 1, 1) := by decide +kernel
theorem dX9_number_192 : decode cX9_number 192 = .ok (.goto 4, 3) := by decide +kernel
theorem dX9_number_195 : decode cX9_number 195 = .ok (.iconst 0, 1) := by decide +kernel
theorem dX9_number_196 : decode cX9_number 196 = .ok (.istore 4, 2) := by decide +kernel
theorem dX9_number_198 : decode cX9_number 198 = .ok (.iload 4, 2) := by decide +kernel
theorem dX9_number_200 : decode cX9_number 200 = .ok (.ifCond .eq 16, 3) := by decide +kernel
theorem dX9_number_203 : decode cX9_number 203 = .ok (.ldc2_w 175, 3) := by decide +kernel
theorem dX9_number_206 : decode cX9_number 206 = .ok (.lload 5, 2) := by decide +kernel
theorem dX9_number_208 : decode cX9_number 208 = .ok (.lmul, 1) := by decide +kernel
theorem dX9_number_209 : decode cX9_number 209 = .ok (.iload 7, 2) := by decide +kernel
theorem dX9_number_211 : decode cX9_number 211 = .ok (.i2l, 1) := by decide +kernel
theorem dX9_number_212 : decode cX9_number 212 = .ok (.lsub, 1) := by decide +kernel
theorem dX9_number_213 : decode cX9_number 213 = .ok (.goto 5, 3) := by decide +kernel
theorem dX9_number_216 : decode cX9_number 216 = .ok (.lload 5, 2) := by decide +kernel
theorem dX9_number_218 : decode cX9_number 218 = .ok (.lstore 5, 2) := by decide +kernel
theorem dX9_number_220 : decode cX9_number 220 = .ok (.aload_n 0, 1) := by decide +kernel
theorem dX9_number_221 : decode cX9_number 221 = .ok (.getfield 26, 3) := by decide +kernel
theorem dX9_number_224 : decode cX9_number 224 = .ok (.iload_n 1, 1) := by decide +kernel
theorem dX9_number_225 : decode cX9_number 225 = .ok (.dup2, 1) := by decide +kernel
theorem dX9_number_226 : decode cX9_number 226 = .ok (.iaload, 1) := by decide +kernel
theorem dX9_number_227 : decode cX9_number 227 = .ok (.iconst 1, 1) := by decide +kernel
theorem dX9_number_228 : decode cX9_number 228 = .ok (.iadd, 1) := by decide +kernel
theorem dX9_number_229 : decode cX9_number 229 = .ok (.iastore, 1) := by decide +kernel
theorem dX9_number_230 : decode cX9_number 230 = .ok (.aload_n 0, 1) := by decide +kernel
theorem dX9_number_231 : decode cX9_number 231 = .ok (.dup, 1) := by decide +kernel
theorem dX9_number_232 : decode cX9_number 232 = .ok (.getfield 95, 3) := by decide +kernel
theorem dX9_number_235 : decode cX9_number 235 = .ok (.iconst 1, 1) := by decide +kernel
theorem dX9_number_236 : decode cX9_number 236 = .ok (.iadd, 1) := by decide +kernel
theorem dX9_number_237 : decode cX9_number 237 = .ok (.putfield 95, 3) := by decide +kernel
theorem dX9_number_240 : decode cX9_number 240 = .ok (.goto (-145), 3) := by decide +kernel
theorem dX9_number_243 : decode cX9_number 243 = .ok (.aload_n 0, 1) := by decide +kernel
theorem dX9_number_244 : decode cX9_number 244 = .ok (.iload 4, 2) := by decide +kernel
theorem dX9_number_246 : decode cX9_number 246 = .ok (.iconst 1, 1) := by decide +kernel
theorem dX9_number_247 : decode cX9_number 247 = .ok (.aload_n 0, 1) := by decide +kernel
theorem dX9_number_248 : decode cX9_number 248 = .ok (.getfield 19, 3) := by decide +kernel
theorem dX9_number_251 : decode cX9_number 251 = .ok (.iload_n 1, 1) := by decide +kernel
theorem dX9_number_252 : decode cX9_number 252 = .ok (.iaload, 1) := by decide +kernel
theorem dX9_number_253 : decode cX9_number 253 = .ok (.invokevirtual 105, 3) := by decide +kernel
theorem dX9_number_256 : decode cX9_number 256 = .ok (.aload_n 0, 1) := by decide +kernel
theorem dX9_number_257 : decode cX9_number 257 = .ok (.getfield 22, 3) := by decide +kernel
theorem dX9_number_260 : decode cX9_number 260 = .ok (.iload_n 1, 1) := by decide +kernel
theorem dX9_number_261 : decode cX9_number 261 = .ok (.iload_n 2, 1) := by decide +kernel
theorem dX9_number_262 : decode cX9_number 262 = .ok (.ifCond .eq 8, 3) := by decide +kernel
theorem dX9_number_265 : decode cX9_number 265 = .ok (.lload 5, 2) := by decide +kernel
theorem dX9_number_267 : decode cX9_number 267 = .ok (.goto 6, 3) := by decide +kernel
theorem dX9_number_270 : decode cX9_number 270 = .ok (.lload 5, 2) := by decide +kernel
theorem dX9_number_272 : decode cX9_number 272 = .ok (.lneg, 1) := by decide +kernel
theorem dX9_number_273 : decode cX9_number 273 = .ok (.lastore, 1) := by decide +kernel
theorem dX9_number_274 : decode cX9_number 274 = .ok (.iload_n 1, 1) := by decide +kernel
theorem dX9_number_275 : decode cX9_number 275 = .ok (.ireturn, 1) := by decide +kernel
abbrev cX9_is : ByteArray := prog_12_method_16_code
def yX9_is : MethodName := ⟨RX9, "is", "(ILjava/lang/String;)Z"⟩
def wsX9_is : List Cond := .code yX9_is cX9_is 5 (some .boolean) :: sr_G
theorem dX9_is_0 : decode cX9_is 0 = .ok (.aload_n 0, 1) := by decide +kernel
theorem dX9_is_1 : decode cX9_is 1 = .ok (.getfield 15, 3) := by decide +kernel
theorem dX9_is_4 : decode cX9_is 4 = .ok (.iload_n 1, 1) := by decide +kernel
theorem dX9_is_5 : decode cX9_is 5 = .ok (.iaload, 1) := by decide +kernel
theorem dX9_is_6 : decode cX9_is 6 = .ok (.iconst 2, 1) := by decide +kernel
theorem dX9_is_7 : decode cX9_is 7 = .ok (.if_icmp .ne 20, 3) := by decide +kernel
theorem dX9_is_10 : decode cX9_is 10 = .ok (.aload_n 0, 1) := by decide +kernel
theorem dX9_is_11 : decode cX9_is 11 = .ok (.getfield 26, 3) := by decide +kernel
theorem dX9_is_14 : decode cX9_is 14 = .ok (.iload_n 1, 1) := by decide +kernel
theorem dX9_is_15 : decode cX9_is 15 = .ok (.iaload, 1) := by decide +kernel
theorem dX9_is_16 : decode cX9_is 16 = .ok (.aload_n 2, 1) := by decide +kernel
theorem dX9_is_17 : decode cX9_is 17 = .ok (.invokevirtual 137, 3) := by decide +kernel
theorem dX9_is_20 : decode cX9_is 20 = .ok (.if_icmp .ne 7, 3) := by decide +kernel
theorem dX9_is_23 : decode cX9_is 23 = .ok (.iconst 1, 1) := by decide +kernel
theorem dX9_is_24 : decode cX9_is 24 = .ok (.goto 4, 3) := by decide +kernel
theorem dX9_is_27 : decode cX9_is 27 = .ok (.iconst 0, 1) := by decide +kernel
theorem dX9_is_28 : decode cX9_is 28 = .ok (.istore_n 3, 1) := by decide +kernel
theorem dX9_is_29 : decode cX9_is 29 = .ok (.iconst 0, 1) := by decide +kernel
theorem dX9_is_30 : decode cX9_is 30 = .ok (.istore 4, 2) := by decide +kernel
theorem dX9_is_32 : decode cX9_is 32 = .ok (.iload 4, 2) := by decide +kernel
theorem dX9_is_34 : decode cX9_is 34 = .ok (.aload_n 2, 1) := by decide +kernel
theorem dX9_is_35 : decode cX9_is 35 = .ok (.invokevirtual 137, 3) := by decide +kernel
theorem dX9_is_38 : decode cX9_is 38 = .ok (.if_icmp .ge 43, 3) := by decide +kernel
theorem dX9_is_41 : decode cX9_is 41 = .ok (.iload_n 3, 1) := by decide +kernel
theorem dX9_is_42 : decode cX9_is 42 = .ok (.ifCond .eq 39, 3) := by decide +kernel
theorem dX9_is_45 : decode cX9_is 45 = .ok (.aload_n 0, 1) := by decide +kernel
theorem dX9_is_46 : decode cX9_is 46 = .ok (.getfield 35, 3) := by decide +kernel
theorem dX9_is_49 : decode cX9_is 49 = .ok (.aload_n 0, 1) := by decide +kernel
theorem dX9_is_50 : decode cX9_is 50 = .ok (.getfield 22, 3) := by decide +kernel
theorem dX9_is_53 : decode cX9_is 53 = .ok (.iload_n 1, 1) := by decide +kernel
theorem dX9_is_54 : decode cX9_is 54 = .ok (.laload, 1) := by decide +kernel
theorem dX9_is_55 : decode cX9_is 55 = .ok (.l2i, 1) := by decide +kernel
theorem dX9_is_56 : decode cX9_is 56 = .ok (.iload 4, 2) := by decide +kernel
theorem dX9_is_58 : decode cX9_is 58 = .ok (.iadd, 1) := by decide +kernel
theorem dX9_is_59 : decode cX9_is 59 = .ok (.baload, 1) := by decide +kernel
theorem dX9_is_60 : decode cX9_is 60 = .ok (.aload_n 2, 1) := by decide +kernel
theorem dX9_is_61 : decode cX9_is 61 = .ok (.iload 4, 2) := by decide +kernel
theorem dX9_is_63 : decode cX9_is 63 = .ok (.invokevirtual 141, 3) := by decide +kernel
theorem dX9_is_66 : decode cX9_is 66 = .ok (.if_icmp .ne 7, 3) := by decide +kernel
theorem dX9_is_69 : decode cX9_is 69 = .ok (.iconst 1, 1) := by decide +kernel
theorem dX9_is_70 : decode cX9_is 70 = .ok (.goto 4, 3) := by decide +kernel
theorem dX9_is_73 : decode cX9_is 73 = .ok (.iconst 0, 1) := by decide +kernel
theorem dX9_is_74 : decode cX9_is 74 = .ok (.istore_n 3, 1) := by decide +kernel
theorem dX9_is_75 : decode cX9_is 75 = .ok (.iinc 4 1, 3) := by decide +kernel
theorem dX9_is_78 : decode cX9_is 78 = .ok (.goto (-46), 3) := by decide +kernel
theorem dX9_is_81 : decode cX9_is 81 = .ok (.iload_n 3, 1) := by decide +kernel
theorem dX9_is_82 : decode cX9_is 82 = .ok (.ireturn, 1) := by decide +kernel
abbrev cX9_member : ByteArray := prog_12_method_17_code
def yX9_member : MethodName := ⟨RX9, "member", "(ILjava/lang/String;)I"⟩
def wsX9_member : List Cond := .code yX9_member cX9_member 4 (some .int) :: sr_G
theorem dX9_member_0 : decode cX9_member 0 = .ok (.aload_n 0, 1) := by decide +kernel
theorem dX9_member_1 : decode cX9_member 1 = .ok (.getfield 29, 3) := by decide +kernel
theorem dX9_member_4 : decode cX9_member 4 = .ok (.iload_n 1, 1) := by decide +kernel
theorem dX9_member_5 : decode cX9_member 5 = .ok (.iaload, 1) := by decide +kernel
theorem dX9_member_6 : decode cX9_member 6 = .ok (.istore_n 3, 1) := by decide +kernel
theorem dX9_member_7 : decode cX9_member 7 = .ok (.iload_n 3, 1) := by decide +kernel
theorem dX9_member_8 : decode cX9_member 8 = .ok (.ifCond .lt 34, 3) := by decide +kernel
theorem dX9_member_11 : decode cX9_member 11 = .ok (.aload_n 0, 1) := by decide +kernel
theorem dX9_member_12 : decode cX9_member 12 = .ok (.iload_n 3, 1) := by decide +kernel
theorem dX9_member_13 : decode cX9_member 13 = .ok (.aload_n 2, 1) := by decide +kernel
theorem dX9_member_14 : decode cX9_member 14 = .ok (.invokevirtual 177, 3) := by decide +kernel
theorem dX9_member_17 : decode cX9_member 17 = .ok (.ifCond .eq 10, 3) := by decide +kernel
theorem dX9_member_20 : decode cX9_member 20 = .ok (.aload_n 0, 1) := by decide +kernel
theorem dX9_member_21 : decode cX9_member 21 = .ok (.getfield 32, 3) := by decide +kernel
theorem dX9_member_24 : decode cX9_member 24 = .ok (.iload_n 3, 1) := by decide +kernel
theorem dX9_member_25 : decode cX9_member 25 = .ok (.iaload, 1) := by decide +kernel
theorem dX9_member_26 : decode cX9_member 26 = .ok (.ireturn, 1) := by decide +kernel
theorem dX9_member_27 : decode cX9_member 27 = .ok (.aload_n 0, 1) := by decide +kernel
theorem dX9_member_28 : decode cX9_member 28 = .ok (.getfield 32, 3) := by decide +kernel
theorem dX9_member_31 : decode cX9_member 31 = .ok (.aload_n 0, 1) := by decide +kernel
theorem dX9_member_32 : decode cX9_member 32 = .ok (.getfield 32, 3) := by decide +kernel
theorem dX9_member_35 : decode cX9_member 35 = .ok (.iload_n 3, 1) := by decide +kernel
theorem dX9_member_36 : decode cX9_member 36 = .ok (.iaload, 1) := by decide +kernel
theorem dX9_member_37 : decode cX9_member 37 = .ok (.iaload, 1) := by decide +kernel
theorem dX9_member_38 : decode cX9_member 38 = .ok (.istore_n 3, 1) := by decide +kernel
theorem dX9_member_39 : decode cX9_member 39 = .ok (.goto (-32), 3) := by decide +kernel
theorem dX9_member_42 : decode cX9_member 42 = .ok (.iconst (-1), 1) := by decide +kernel
theorem dX9_member_43 : decode cX9_member 43 = .ok (.ireturn, 1) := by decide +kernel
abbrev cX9_word : ByteArray := prog_12_method_19_code
def yX9_word : MethodName := ⟨RX9, "word", "(I)I"⟩
def wsX9_word : List Cond := .code yX9_word cX9_word 2 (some .int) :: sr_G
theorem dX9_word_0 : decode cX9_word 0 = .ok (.aload_n 0, 1) := by decide +kernel
theorem dX9_word_1 : decode cX9_word 1 = .ok (.iload_n 1, 1) := by decide +kernel
theorem dX9_word_2 : decode cX9_word 2 = .ok (.ldc 135, 2) := by decide +kernel
theorem dX9_word_4 : decode cX9_word 4 = .ok (.invokevirtual 177, 3) := by decide +kernel
theorem dX9_word_7 : decode cX9_word 7 = .ok (.ifCond .eq 7, 3) := by decide +kernel
theorem dX9_word_10 : decode cX9_word 10 = .ok (.iconst 0, 1) := by decide +kernel
theorem dX9_word_11 : decode cX9_word 11 = .ok (.goto 74, 3) := by decide +kernel
theorem dX9_word_14 : decode cX9_word 14 = .ok (.aload_n 0, 1) := by decide +kernel
theorem dX9_word_15 : decode cX9_word 15 = .ok (.iload_n 1, 1) := by decide +kernel
theorem dX9_word_16 : decode cX9_word 16 = .ok (.ldc 181, 2) := by decide +kernel
theorem dX9_word_18 : decode cX9_word 18 = .ok (.invokevirtual 177, 3) := by decide +kernel
theorem dX9_word_21 : decode cX9_word 21 = .ok (.ifCond .eq 7, 3) := by decide +kernel
theorem dX9_word_24 : decode cX9_word 24 = .ok (.iconst 1, 1) := by decide +kernel
theorem dX9_word_25 : decode cX9_word 25 = .ok (.goto 60, 3) := by decide +kernel
theorem dX9_word_28 : decode cX9_word 28 = .ok (.aload_n 0, 1) := by decide +kernel
theorem dX9_word_29 : decode cX9_word 29 = .ok (.iload_n 1, 1) := by decide +kernel
theorem dX9_word_30 : decode cX9_word 30 = .ok (.ldc 183, 2) := by decide +kernel
theorem dX9_word_32 : decode cX9_word 32 = .ok (.invokevirtual 177, 3) := by decide +kernel
theorem dX9_word_35 : decode cX9_word 35 = .ok (.ifCond .eq 7, 3) := by decide +kernel
theorem dX9_word_38 : decode cX9_word 38 = .ok (.iconst 2, 1) := by decide +kernel
theorem dX9_word_39 : decode cX9_word 39 = .ok (.goto 46, 3) := by decide +kernel
theorem dX9_word_42 : decode cX9_word 42 = .ok (.aload_n 0, 1) := by decide +kernel
theorem dX9_word_43 : decode cX9_word 43 = .ok (.iload_n 1, 1) := by decide +kernel
theorem dX9_word_44 : decode cX9_word 44 = .ok (.ldc 185, 2) := by decide +kernel
theorem dX9_word_46 : decode cX9_word 46 = .ok (.invokevirtual 177, 3) := by decide +kernel
theorem dX9_word_49 : decode cX9_word 49 = .ok (.ifCond .eq 7, 3) := by decide +kernel
theorem dX9_word_52 : decode cX9_word 52 = .ok (.iconst 3, 1) := by decide +kernel
theorem dX9_word_53 : decode cX9_word 53 = .ok (.goto 32, 3) := by decide +kernel
theorem dX9_word_56 : decode cX9_word 56 = .ok (.aload_n 0, 1) := by decide +kernel
theorem dX9_word_57 : decode cX9_word 57 = .ok (.iload_n 1, 1) := by decide +kernel
theorem dX9_word_58 : decode cX9_word 58 = .ok (.ldc 187, 2) := by decide +kernel
theorem dX9_word_60 : decode cX9_word 60 = .ok (.invokevirtual 177, 3) := by decide +kernel
theorem dX9_word_63 : decode cX9_word 63 = .ok (.ifCond .eq 7, 3) := by decide +kernel
theorem dX9_word_66 : decode cX9_word 66 = .ok (.iconst 4, 1) := by decide +kernel
theorem dX9_word_67 : decode cX9_word 67 = .ok (.goto 18, 3) := by decide +kernel
theorem dX9_word_70 : decode cX9_word 70 = .ok (.aload_n 0, 1) := by decide +kernel
theorem dX9_word_71 : decode cX9_word 71 = .ok (.iload_n 1, 1) := by decide +kernel
theorem dX9_word_72 : decode cX9_word 72 = .ok (.ldc 188, 2) := by decide +kernel
theorem dX9_word_74 : decode cX9_word 74 = .ok (.invokevirtual 177, 3) := by decide +kernel
theorem dX9_word_77 : decode cX9_word 77 = .ok (.ifCond .eq 7, 3) := by decide +kernel
theorem dX9_word_80 : decode cX9_word 80 = .ok (.iconst 5, 1) := by decide +kernel
theorem dX9_word_81 : decode cX9_word 81 = .ok (.goto 4, 3) := by decide +kernel
theorem dX9_word_84 : decode cX9_word 84 = .ok (.iconst (-1), 1) := by decide +kernel
theorem dX9_word_85 : decode cX9_word 85 = .ok (.ireturn, 1) := by decide +kernel
abbrev cX9_put : ByteArray := prog_12_method_35_code
def yX9_put : MethodName := ⟨RX9, "put", "(Ljava/lang/String;)V"⟩
def wsX9_put : List Cond := .code yX9_put cX9_put 3 none :: sr_G
theorem dX9_put_0 : decode cX9_put 0 = .ok (.iconst 0, 1) := by decide +kernel
theorem dX9_put_1 : decode cX9_put 1 = .ok (.istore_n 2, 1) := by decide +kernel
theorem dX9_put_2 : decode cX9_put 2 = .ok (.iload_n 2, 1) := by decide +kernel
theorem dX9_put_3 : decode cX9_put 3 = .ok (.aload_n 1, 1) := by decide +kernel
theorem dX9_put_4 : decode cX9_put 4 = .ok (.invokevirtual 137, 3) := by decide +kernel
theorem dX9_put_7 : decode cX9_put 7 = .ok (.if_icmp .ge 34, 3) := by decide +kernel
theorem dX9_put_10 : decode cX9_put 10 = .ok (.aload_n 0, 1) := by decide +kernel
theorem dX9_put_11 : decode cX9_put 11 = .ok (.getfield 71, 3) := by decide +kernel
theorem dX9_put_14 : decode cX9_put 14 = .ok (.aload_n 0, 1) := by decide +kernel
theorem dX9_put_15 : decode cX9_put 15 = .ok (.getfield 280, 3) := by decide +kernel
theorem dX9_put_18 : decode cX9_put 18 = .ok (.aload_n 1, 1) := by decide +kernel
theorem dX9_put_19 : decode cX9_put 19 = .ok (.iload_n 2, 1) := by decide +kernel
theorem dX9_put_20 : decode cX9_put 20 = .ok (.invokevirtual 141, 3) := by decide +kernel
theorem dX9_put_23 : decode cX9_put 23 = .ok (.i2b, 1) := by decide +kernel
theorem dX9_put_24 : decode cX9_put 24 = .ok (.bastore, 1) := by decide +kernel
theorem dX9_put_25 : decode cX9_put 25 = .ok (.aload_n 0, 1) := by decide +kernel
theorem dX9_put_26 : decode cX9_put 26 = .ok (.dup, 1) := by decide +kernel
theorem dX9_put_27 : decode cX9_put 27 = .ok (.getfield 280, 3) := by decide +kernel
theorem dX9_put_30 : decode cX9_put 30 = .ok (.iconst 1, 1) := by decide +kernel
theorem dX9_put_31 : decode cX9_put 31 = .ok (.iadd, 1) := by decide +kernel
theorem dX9_put_32 : decode cX9_put 32 = .ok (.putfield 280, 3) := by decide +kernel
theorem dX9_put_35 : decode cX9_put 35 = .ok (.iinc 2 1, 3) := by decide +kernel
theorem dX9_put_38 : decode cX9_put 38 = .ok (.goto (-36), 3) := by decide +kernel
theorem dX9_put_41 : decode cX9_put 41 = .ok (.return_, 1) := by decide +kernel
abbrev cX9_putName : ByteArray := prog_12_method_36_code
def yX9_putName : MethodName := ⟨RX9, "putName", "(I)V"⟩
def wsX9_putName : List Cond := .code yX9_putName cX9_putName 3 none :: sr_G
theorem dX9_putName_0 : decode cX9_putName 0 = .ok (.aload_n 0, 1) := by decide +kernel
theorem dX9_putName_1 : decode cX9_putName 1 = .ok (.ldc_w, 1) := by decide +kernel
theorem dX9_putName_4 : decode cX9_putName 4 = .ok (.invokevirtual 297, 3) := by decide +kernel
theorem dX9_putName_7 : decode cX9_putName 7 = .ok (.iconst 0, 1) := by decide +kernel
theorem dX9_putName_8 : decode cX9_putName 8 = .ok (.istore_n 2, 1) := by decide +kernel
theorem dX9_putName_9 : decode cX9_putName 9 = .ok (.iload_n 2, 1) := by decide +kernel
theorem dX9_putName_10 : decode cX9_putName 10 = .ok (.aload_n 0, 1) := by decide +kernel
theorem dX9_putName_11 : decode cX9_putName 11 = .ok (.getfield 26, 3) := by decide +kernel
theorem dX9_putName_14 : decode cX9_putName 14 = .ok (.iload_n 1, 1) := by decide +kernel
theorem dX9_putName_15 : decode cX9_putName 15 = .ok (.iaload, 1) := by decide +kernel
theorem dX9_putName_16 : decode cX9_putName 16 = .ok (.if_icmp .ge 42, 3) := by decide +kernel
theorem dX9_putName_19 : decode cX9_putName 19 = .ok (.aload_n 0, 1) := by decide +kernel
theorem dX9_putName_20 : decode cX9_putName 20 = .ok (.getfield 71, 3) := by decide +kernel
theorem dX9_putName_23 : decode cX9_putName 23 = .ok (.aload_n 0, 1) := by decide +kernel
theorem dX9_putName_24 : decode cX9_putName 24 = .ok (.getfield 280, 3) := by decide +kernel
theorem dX9_putName_27 : decode cX9_putName 27 = .ok (.aload_n 0, 1) := by decide +kernel
theorem dX9_putName_28 : decode cX9_putName 28 = .ok (.getfield 35, 3) := by decide +kernel
theorem dX9_putName_31 : decode cX9_putName 31 = .ok (.aload_n 0, 1) := by decide +kernel
theorem dX9_putName_32 : decode cX9_putName 32 = .ok (.getfield 22, 3) := by decide +kernel
theorem dX9_putName_35 : decode cX9_putName 35 = .ok (.iload_n 1, 1) := by decide +kernel
theorem dX9_putName_36 : decode cX9_putName 36 = .ok (.laload, 1) := by decide +kernel
theorem dX9_putName_37 : decode cX9_putName 37 = .ok (.l2i, 1) := by decide +kernel
theorem dX9_putName_38 : decode cX9_putName 38 = .ok (.iload_n 2, 1) := by decide +kernel
theorem dX9_putName_39 : decode cX9_putName 39 = .ok (.iadd, 1) := by decide +kernel
theorem dX9_putName_40 : decode cX9_putName 40 = .ok (.baload, 1) := by decide +kernel
theorem dX9_putName_41 : decode cX9_putName 41 = .ok (.bastore, 1) := by decide +kernel
theorem dX9_putName_42 : decode cX9_putName 42 = .ok (.aload_n 0, 1) := by decide +kernel
theorem dX9_putName_43 : decode cX9_putName 43 = .ok (.dup, 1) := by decide +kernel
theorem dX9_putName_44 : decode cX9_putName 44 = .ok (.getfield 280, 3) := by decide +kernel
theorem dX9_putName_47 : decode cX9_putName 47 = .ok (.iconst 1, 1) := by decide +kernel
theorem dX9_putName_48 : decode cX9_putName 48 = .ok (.iadd, 1) := by decide +kernel
theorem dX9_putName_49 : decode cX9_putName 49 = .ok (.putfield 280, 3) := by decide +kernel
theorem dX9_putName_52 : decode cX9_putName 52 = .ok (.iinc 2 1, 3) := by decide +kernel
theorem dX9_putName_55 : decode cX9_putName 55 = .ok (.goto (-46), 3) := by decide +kernel
theorem dX9_putName_58 : decode cX9_putName 58 = .ok (.aload_n 0, 1) := by decide +kernel
theorem dX9_putName_59 : decode cX9_putName 59 = .ok (.ldc_w, 1) := by decide +kernel
theorem dX9_putName_62 : decode cX9_putName 62 = .ok (.invokevirtual 297, 3) := by decide +kernel
theorem dX9_putName_65 : decode cX9_putName 65 = .ok (.return_, 1) := by decide +kernel
abbrev cX9_escaped : ByteArray := prog_12_method_12_code
def yX9_escaped : MethodName := ⟨RX9, "escaped", "()I"⟩
def wsX9_escaped : List Cond := .code yX9_escaped cX9_escaped 6 (some .int) :: sr_G
theorem dX9_escaped_0 : decode cX9_escaped 0 = .ok (.aload_n 0, 1) := by decide +kernel
theorem dX9_escaped_1 : decode cX9_escaped 1 = .ok (.getfield 95, 3) := by decide +kernel
theorem dX9_escaped_4 : decode cX9_escaped 4 = .ok (.istore_n 1, 1) := by decide +kernel
theorem dX9_escaped_5 : decode cX9_escaped 5 = .ok (.aload_n 0, 1) := by decide +kernel
theorem dX9_escaped_6 : decode cX9_escaped 6 = .ok (.dup, 1) := by decide +kernel
theorem dX9_escaped_7 : decode cX9_escaped 7 = .ok (.getfield 95, 3) := by decide +kernel
theorem dX9_escaped_10 : decode cX9_escaped 10 = .ok (.iconst 1, 1) := by decide +kernel
theorem dX9_escaped_11 : decode cX9_escaped 11 = .ok (.iadd, 1) := by decide +kernel
theorem dX9_escaped_12 : decode cX9_escaped 12 = .ok (.putfield 95, 3) := by decide +kernel
theorem dX9_escaped_15 : decode cX9_escaped 15 = .ok (.aload_n 0, 1) := by decide +kernel
theorem dX9_escaped_16 : decode cX9_escaped 16 = .ok (.invokevirtual 101, 3) := by decide +kernel
theorem dX9_escaped_19 : decode cX9_escaped 19 = .ok (.istore_n 2, 1) := by decide +kernel
theorem dX9_escaped_20 : decode cX9_escaped 20 = .ok (.iload_n 2, 1) := by decide +kernel
theorem dX9_escaped_21 : decode cX9_escaped 21 = .ok (.ifCond .ge 7, 3) := by decide +kernel
theorem dX9_escaped_24 : decode cX9_escaped 24 = .ok (.iconst (-1), 1) := by decide +kernel
theorem dX9_escaped_25 : decode cX9_escaped 25 = .ok (.goto 10, 3) := by decide +kernel
theorem dX9_escaped_28 : decode cX9_escaped 28 = .ok (.ldc 159, 2) := by decide +kernel
theorem dX9_escaped_30 : decode cX9_escaped 30 = .ok (.iload_n 2, 1) := by decide +kernel
theorem dX9_escaped_31 : decode cX9_escaped 31 = .ok (.i2c, 1) := by decide +kernel
theorem dX9_escaped_32 : decode cX9_escaped 32 = .ok (.invokevirtual 161, 3) := by decide +kernel
theorem dX9_escaped_35 : decode cX9_escaped 35 = .ok (.istore_n 3, 1) := by decide +kernel
theorem dX9_escaped_36 : decode cX9_escaped 36 = .ok (.iload_n 3, 1) := by decide +kernel
theorem dX9_escaped_37 : decode cX9_escaped 37 = .ok (.ifCond .lt 86, 3) := by decide +kernel
theorem dX9_escaped_40 : decode cX9_escaped 40 = .ok (.aload_n 0, 1) := by decide +kernel
theorem dX9_escaped_41 : decode cX9_escaped 41 = .ok (.dup, 1) := by decide +kernel
theorem dX9_escaped_42 : decode cX9_escaped 42 = .ok (.getfield 95, 3) := by decide +kernel
theorem dX9_escaped_45 : decode cX9_escaped 45 = .ok (.iconst 1, 1) := by decide +kernel
theorem dX9_escaped_46 : decode cX9_escaped 46 = .ok (.iadd, 1) := by decide +kernel
theorem dX9_escaped_47 : decode cX9_escaped 47 = .ok (.putfield 95, 3) := by decide +kernel
theorem dX9_escaped_50 : decode cX9_escaped 50 = .ok (.iload_n 3, 1) := by decide +kernel
theorem dX9_escaped_51 : decode cX9_escaped 51 = .ok (.ifCond .ne 8, 3) := by decide +kernel
theorem dX9_escaped_54 : decode cX9_escaped 54 = .ok (.bipush 34, 2) := by decide +kernel
theorem dX9_escaped_56 : decode cX9_escaped 56 = .ok (.goto 66, 3) := by decide +kernel
theorem dX9_escaped_59 : decode cX9_escaped 59 = .ok (.iload_n 3, 1) := by decide +kernel
theorem dX9_escaped_60 : decode cX9_escaped 60 = .ok (.iconst 1, 1) := by decide +kernel
theorem dX9_escaped_61 : decode cX9_escaped 61 = .ok (.if_icmp .ne 8, 3) := by decide +kernel
theorem dX9_escaped_64 : decode cX9_escaped 64 = .ok (.bipush 92, 2) := by decide +kernel
theorem dX9_escaped_66 : decode cX9_escaped 66 = .ok (.goto 56, 3) := by decide +kernel
theorem dX9_escaped_69 : decode cX9_escaped 69 = .ok (.iload_n 3, 1) := by decide +kernel
theorem dX9_escaped_70 : decode cX9_escaped 70 = .ok (.iconst 2, 1) := by decide +kernel
theorem dX9_escaped_71 : decode cX9_escaped 71 = .ok (.if_icmp .ne 8, 3) := by decide +kernel
theorem dX9_escaped_74 : decode cX9_escaped 74 = .ok (.bipush 47, 2) := by decide +kernel
theorem dX9_escaped_76 : decode cX9_escaped 76 = .ok (.goto 46, 3) := by decide +kernel
theorem dX9_escaped_79 : decode cX9_escaped 79 = .ok (.iload_n 3, 1) := by decide +kernel
theorem dX9_escaped_80 : decode cX9_escaped 80 = .ok (.iconst 3, 1) := by decide +kernel
theorem dX9_escaped_81 : decode cX9_escaped 81 = .ok (.if_icmp .ne 8, 3) := by decide +kernel
theorem dX9_escaped_84 : decode cX9_escaped 84 = .ok (.bipush 8, 2) := by decide +kernel
theorem dX9_escaped_86 : decode cX9_escaped 86 = .ok (.goto 36, 3) := by decide +kernel
theorem dX9_escaped_89 : decode cX9_escaped 89 = .ok (.iload_n 3, 1) := by decide +kernel
theorem dX9_escaped_90 : decode cX9_escaped 90 = .ok (.iconst 4, 1) := by decide +kernel
theorem dX9_escaped_91 : decode cX9_escaped 91 = .ok (.if_icmp .ne 8, 3) := by decide +kernel
theorem dX9_escaped_94 : decode cX9_escaped 94 = .ok (.bipush 12, 2) := by decide +kernel
theorem dX9_escaped_96 : decode cX9_escaped 96 = .ok (.goto 26, 3) := by decide +kernel
theorem dX9_escaped_99 : decode cX9_escaped 99 = .ok (.iload_n 3, 1) := by decide +kernel
theorem dX9_escaped_100 : decode cX9_escaped 100 = .ok (.iconst 5, 1) := by decide +kernel
theorem dX9_escaped_101 : decode cX9_escaped 101 = .ok (.if_icmp .ne 8, 3) := by decide +kernel
theorem dX9_escaped_104 : decode cX9_escaped 104 = .ok (.bipush 10, 2) := by decide +kernel
theorem dX9_escaped_106 : decode cX9_escaped 106 = .ok (.goto 16, 3) := by decide +kernel
theorem dX9_escaped_109 : decode cX9_escaped 109 = .ok (.iload_n 3, 1) := by decide +kernel
theorem dX9_escaped_110 : decode cX9_escaped 110 = .ok (.bipush 6, 2) := by decide +kernel
theorem dX9_escaped_112 : decode cX9_escaped 112 = .ok (.if_icmp .ne 8, 3) := by decide +kernel
theorem dX9_escaped_115 : decode cX9_escaped 115 = .ok (.bipush 13, 2) := by decide +kernel
theorem dX9_escaped_117 : decode cX9_escaped 117 = .ok (.goto 5, 3) := by decide +kernel
theorem dX9_escaped_120 : decode cX9_escaped 120 = .ok (.bipush 9, 2) := by decide +kernel
theorem dX9_escaped_122 : decode cX9_escaped 122 = .ok (.ireturn, 1) := by decide +kernel
theorem dX9_escaped_123 : decode cX9_escaped 123 = .ok (.aload_n 0, 1) := by decide +kernel
theorem dX9_escaped_124 : decode cX9_escaped 124 = .ok (.bipush 117, 2) := by decide +kernel
theorem dX9_escaped_126 : decode cX9_escaped 126 = .ok (.invokevirtual 145, 3) := by decide +kernel
theorem dX9_escaped_129 : decode cX9_escaped 129 = .ok (.iconst 0, 1) := by decide +kernel
theorem dX9_escaped_130 : decode cX9_escaped 130 = .ok (.istore 4, 2) := by decide +kernel
theorem dX9_escaped_132 : decode cX9_escaped 132 = .ok (.iconst 0, 1) := by decide +kernel
theorem dX9_escaped_133 : decode cX9_escaped 133 = .ok (.istore 5, 2) := by decide +kernel
theorem dX9_escaped_135 : decode cX9_escaped 135 = .ok (.iload 5, 2) := by decide +kernel
theorem dX9_escaped_137 : decode cX9_escaped 137 = .ok (.iconst 4, 1) := by decide +kernel
theorem dX9_escaped_138 : decode cX9_escaped 138 = .ok (.if_icmp .ge 58, 3) := by decide +kernel
theorem dX9_escaped_141 : decode cX9_escaped 141 = .ok (.aload_n 0, 1) := by decide +kernel
theorem dX9_escaped_142 : decode cX9_escaped 142 = .ok (.aload_n 0, 1) := by decide +kernel
theorem dX9_escaped_143 : decode cX9_escaped 143 = .ok (.invokevirtual 101, 3) := by decide +kernel
theorem dX9_escaped_146 : decode cX9_escaped 146 = .ok (.invokestatic 164, 3) := by decide +kernel
theorem dX9_escaped_149 : decode cX9_escaped 149 = .ok (.ifCond .lt 7, 3) := by decide +kernel
theorem dX9_escaped_152 : decode cX9_escaped 152 = .ok (.iconst 1, 1) := by decide +kernel
theorem dX9_escaped_153 : decode cX9_escaped 153 = .ok (.goto 4, 3) := by decide +kernel
theorem dX9_escaped_156 : decode cX9_escaped 156 = .ok (.iconst 0, 1) := by decide +kernel
theorem dX9_escaped_157 : decode cX9_escaped 157 = .ok (.iconst 1, 1) := by decide +kernel
theorem dX9_escaped_158 : decode cX9_escaped 158 = .ok (.aload_n 0, 1) := by decide +kernel
theorem dX9_escaped_159 : decode cX9_escaped 159 = .ok (.getfield 95, 3) := by decide +kernel
theorem dX9_escaped_162 : decode cX9_escaped 162 = .ok (.invokevirtual 105, 3) := by decide +kernel
theorem dX9_escaped_165 : decode cX9_escaped 165 = .ok (.bipush 16, 2) := by decide +kernel
theorem dX9_escaped_167 : decode cX9_escaped 167 = .ok (.iload 4, 2) := by decide +kernel
theorem dX9_escaped_169 : decode cX9_escaped 169 = .ok (.imul, 1) := by decide +kernel
theorem dX9_escaped_170 : decode cX9_escaped 170 = .ok (.aload_n 0, 1) := by decide +kernel
theorem dX9_escaped_171 : decode cX9_escaped 171 = .ok (.invokevirtual 101, 3) := by decide +kernel
theorem dX9_escaped_174 : decode cX9_escaped 174 = .ok (.invokestatic 164, 3) := by decide +kernel
theorem dX9_escaped_177 : decode cX9_escaped 177 = .ok (.iadd, 1) := by decide +kernel
theorem dX9_escaped_178 : decode cX9_escaped 178 = .ok (.istore 4, 2) := by decide +kernel
theorem dX9_escaped_180 : decode cX9_escaped 180 = .ok (.aload_n 0, 1) := by decide +kernel
theorem dX9_escaped_181 : decode cX9_escaped 181 = .ok (.dup, 1) := by decide +kernel
theorem dX9_escaped_182 : decode cX9_escaped 182 = .ok (.getfield 95, 3) := by decide +kernel
theorem dX9_escaped_185 : decode cX9_escaped 185 = .ok (.iconst 1, 1) := by decide +kernel
theorem dX9_escaped_186 : decode cX9_escaped 186 = .ok (.iadd, 1) := by decide +kernel
theorem dX9_escaped_187 : decode cX9_escaped 187 = .ok (.putfield 95, 3) := by decide +kernel
theorem dX9_escaped_190 : decode cX9_escaped 190 = .ok (.iinc 5 1, 3) := by decide +kernel
theorem dX9_escaped_193 : decode cX9_escaped 193 = .ok (.goto (-58), 3) := by decide +kernel
theorem dX9_escaped_196 : decode cX9_escaped 196 = .ok (.aload_n 0, 1) := by decide +kernel
theorem dX9_escaped_197 : decode cX9_escaped 197 = .ok (.iload 4, 2) := by decide +kernel
theorem dX9_escaped_199 : decode cX9_escaped 199 = .ok (.sipush 256, 3) := by decide +kernel
theorem dX9_escaped_202 : decode cX9_escaped 202 = .ok (.if_icmp .ge 7, 3) := by decide +kernel
theorem dX9_escaped_205 : decode cX9_escaped 205 = .ok (.iconst 1, 1) := by decide +kernel
theorem dX9_escaped_206 : decode cX9_escaped 206 = .ok (.goto 4, 3) := by decide +kernel
theorem dX9_escaped_209 : decode cX9_escaped 209 = .ok (.iconst 0, 1) := by decide +kernel
theorem dX9_escaped_210 : decode cX9_escaped 210 = .ok (.iconst 1, 1) := by decide +kernel
theorem dX9_escaped_211 : decode cX9_escaped 211 = .ok (.iload_n 1, 1) := by decide +kernel
theorem dX9_escaped_212 : decode cX9_escaped 212 = .ok (.invokevirtual 105, 3) := by decide +kernel
theorem dX9_escaped_215 : decode cX9_escaped 215 = .ok (.iload 4, 2) := by decide +kernel
theorem dX9_escaped_217 : decode cX9_escaped 217 = .ok (.ireturn, 1) := by decide +kernel
abbrev cX9_string : ByteArray := prog_12_method_13_code
def yX9_string : MethodName := ⟨RX9, "string", "()I"⟩
def wsX9_string : List Cond := .code yX9_string cX9_string 3 (some .int) :: sr_G
theorem dX9_string_0 : decode cX9_string 0 = .ok (.aload_n 0, 1) := by decide +kernel
theorem dX9_string_1 : decode cX9_string 1 = .ok (.iconst 2, 1) := by decide +kernel
theorem dX9_string_2 : decode cX9_string 2 = .ok (.invokevirtual 127, 3) := by decide +kernel
theorem dX9_string_5 : decode cX9_string 5 = .ok (.istore_n 1, 1) := by decide +kernel
theorem dX9_string_6 : decode cX9_string 6 = .ok (.aload_n 0, 1) := by decide +kernel
theorem dX9_string_7 : decode cX9_string 7 = .ok (.getfield 22, 3) := by decide +kernel
theorem dX9_string_10 : decode cX9_string 10 = .ok (.iload_n 1, 1) := by decide +kernel
theorem dX9_string_11 : decode cX9_string 11 = .ok (.aload_n 0, 1) := by decide +kernel
theorem dX9_string_12 : decode cX9_string 12 = .ok (.getfield 167, 3) := by decide +kernel
theorem dX9_string_15 : decode cX9_string 15 = .ok (.i2l, 1) := by decide +kernel
theorem dX9_string_16 : decode cX9_string 16 = .ok (.lastore, 1) := by decide +kernel
theorem dX9_string_17 : decode cX9_string 17 = .ok (.aload_n 0, 1) := by decide +kernel
theorem dX9_string_18 : decode cX9_string 18 = .ok (.dup, 1) := by decide +kernel
theorem dX9_string_19 : decode cX9_string 19 = .ok (.getfield 95, 3) := by decide +kernel
theorem dX9_string_22 : decode cX9_string 22 = .ok (.iconst 1, 1) := by decide +kernel
theorem dX9_string_23 : decode cX9_string 23 = .ok (.iadd, 1) := by decide +kernel
theorem dX9_string_24 : decode cX9_string 24 = .ok (.putfield 95, 3) := by decide +kernel
theorem dX9_string_27 : decode cX9_string 27 = .ok (.aload_n 0, 1) := by decide +kernel
theorem dX9_string_28 : decode cX9_string 28 = .ok (.invokevirtual 101, 3) := by decide +kernel
theorem dX9_string_31 : decode cX9_string 31 = .ok (.bipush 34, 2) := by decide +kernel
theorem dX9_string_33 : decode cX9_string 33 = .ok (.if_icmp .eq 92, 3) := by decide +kernel
theorem dX9_string_36 : decode cX9_string 36 = .ok (.aload_n 0, 1) := by decide +kernel
theorem dX9_string_37 : decode cX9_string 37 = .ok (.invokevirtual 101, 3) := by decide +kernel
theorem dX9_string_40 : decode cX9_string 40 = .ok (.istore_n 2, 1) := by decide +kernel
theorem dX9_string_41 : decode cX9_string 41 = .ok (.aload_n 0, 1) := by decide +kernel
theorem dX9_string_42 : decode cX9_string 42 = .ok (.iload_n 2, 1) := by decide +kernel
theorem dX9_string_43 : decode cX9_string 43 = .ok (.bipush 32, 2) := by decide +kernel
theorem dX9_string_45 : decode cX9_string 45 = .ok (.if_icmp .lt 13, 3) := by decide +kernel
theorem dX9_string_48 : decode cX9_string 48 = .ok (.iload_n 2, 1) := by decide +kernel
theorem dX9_string_49 : decode cX9_string 49 = .ok (.bipush 126, 2) := by decide +kernel
theorem dX9_string_51 : decode cX9_string 51 = .ok (.if_icmp .gt 7, 3) := by decide +kernel
theorem dX9_string_54 : decode cX9_string 54 = .ok (.iconst 1, 1) := by decide +kernel
theorem dX9_string_55 : decode cX9_string 55 = .ok (.goto 4, 3) := by decide +kernel
theorem dX9_string_58 : decode cX9_string 58 = .ok (.iconst 0, 1) := by decide +kernel
theorem dX9_string_59 : decode cX9_string 59 = .ok (.iconst 1, 1) := by decide +kernel
theorem dX9_string_60 : decode cX9_string 60 = .ok (.aload_n 0, 1) := by decide +kernel
theorem dX9_string_61 : decode cX9_string 61 = .ok (.getfield 95, 3) := by decide +kernel
theorem dX9_string_64 : decode cX9_string 64 = .ok (.invokevirtual 105, 3) := by decide +kernel
theorem dX9_string_67 : decode cX9_string 67 = .ok (.iload_n 2, 1) := by decide +kernel
theorem dX9_string_68 : decode cX9_string 68 = .ok (.bipush 92, 2) := by decide +kernel
theorem dX9_string_70 : decode cX9_string 70 = .ok (.if_icmp .ne 11, 3) := by decide +kernel
theorem dX9_string_73 : decode cX9_string 73 = .ok (.aload_n 0, 1) := by decide +kernel
theorem dX9_string_74 : decode cX9_string 74 = .ok (.invokevirtual 170, 3) := by decide +kernel
theorem dX9_string_77 : decode cX9_string 77 = .ok (.istore_n 2, 1) := by decide +kernel
theorem dX9_string_78 : decode cX9_string 78 = .ok (.goto 13, 3) := by decide +kernel
theorem dX9_string_81 : decode cX9_string 81 = .ok (.aload_n 0, 1) := by decide +kernel
theorem dX9_string_82 : decode cX9_string 82 = .ok (.dup, 1) := by decide +kernel
theorem dX9_string_83 : decode cX9_string 83 = .ok (.getfield 95, 3) := by decide +kernel
theorem dX9_string_86 : decode cX9_string 86 = .ok (.iconst 1, 1) := by decide +kernel
theorem dX9_string_87 : decode cX9_string 87 = .ok (.iadd, 1) := by decide +kernel
theorem dX9_string_88 : decode cX9_string 88 = .ok (.putfield 95, 3) := by decide +kernel
theorem dX9_string_91 : decode cX9_string 91 = .ok (.aload_n 0, 1) := by decide +kernel
theorem dX9_string_92 : decode cX9_string 92 = .ok (.getfield 35, 3) := by decide +kernel
theorem dX9_string_95 : decode cX9_string 95 = .ok (.aload_n 0, 1) := by decide +kernel
theorem dX9_string_96 : decode cX9_string 96 = .ok (.getfield 167, 3) := by decide +kernel
theorem dX9_string_99 : decode cX9_string 99 = .ok (.iload_n 2, 1) := by decide +kernel
theorem dX9_string_100 : decode cX9_string 100 = .ok (.i2b, 1) := by decide +kernel
theorem dX9_string_101 : decode cX9_string 101 = .ok (.bastore, 1) := by decide +kernel
theorem dX9_string_102 : decode cX9_string 102 = .ok (.aload_n 0, 1) := by decide +kernel
theorem dX9_string_103 : decode cX9_string 103 = .ok (.dup, 1) := by decide +kernel
theorem dX9_string_104 : decode cX9_string 104 = .ok (.getfield 167, 3) := by decide +kernel
theorem dX9_string_107 : decode cX9_string 107 = .ok (.iconst 1, 1) := by decide +kernel
theorem dX9_string_108 : decode cX9_string 108 = .ok (.iadd, 1) := by decide +kernel
theorem dX9_string_109 : decode cX9_string 109 = .ok (.putfield 167, 3) := by decide +kernel
theorem dX9_string_112 : decode cX9_string 112 = .ok (.aload_n 0, 1) := by decide +kernel
theorem dX9_string_113 : decode cX9_string 113 = .ok (.getfield 26, 3) := by decide +kernel
theorem dX9_string_116 : decode cX9_string 116 = .ok (.iload_n 1, 1) := by decide +kernel
theorem dX9_string_117 : decode cX9_string 117 = .ok (.dup2, 1) := by decide +kernel
theorem dX9_string_118 : decode cX9_string 118 = .ok (.iaload, 1) := by decide +kernel
theorem dX9_string_119 : decode cX9_string 119 = .ok (.iconst 1, 1) := by decide +kernel
theorem dX9_string_120 : decode cX9_string 120 = .ok (.iadd, 1) := by decide +kernel
theorem dX9_string_121 : decode cX9_string 121 = .ok (.iastore, 1) := by decide +kernel
theorem dX9_string_122 : decode cX9_string 122 = .ok (.goto (-95), 3) := by decide +kernel
theorem dX9_string_125 : decode cX9_string 125 = .ok (.aload_n 0, 1) := by decide +kernel
theorem dX9_string_126 : decode cX9_string 126 = .ok (.dup, 1) := by decide +kernel
theorem dX9_string_127 : decode cX9_string 127 = .ok (.getfield 95, 3) := by decide +kernel
theorem dX9_string_130 : decode cX9_string 130 = .ok (.iconst 1, 1) := by decide +kernel
theorem dX9_string_131 : decode cX9_string 131 = .ok (.iadd, 1) := by decide +kernel
theorem dX9_string_132 : decode cX9_string 132 = .ok (.putfield 95, 3) := by decide +kernel
theorem dX9_string_135 : decode cX9_string 135 = .ok (.iload_n 1, 1) := by decide +kernel
theorem dX9_string_136 : decode cX9_string 136 = .ok (.ireturn, 1) := by decide +kernel
abbrev cX9_value : ByteArray := prog_12_method_8_code
def yX9_value : MethodName := ⟨RX9, "value", "()I"⟩
def wsX9_value : List Cond := .code yX9_value cX9_value 5 (some .int) :: sr_G
theorem dX9_value_0 : decode cX9_value 0 = .ok (.aload_n 0, 1) := by decide +kernel
theorem dX9_value_1 : decode cX9_value 1 = .ok (.invokevirtual 101, 3) := by decide +kernel
theorem dX9_value_4 : decode cX9_value 4 = .ok (.istore_n 1, 1) := by decide +kernel
theorem dX9_value_5 : decode cX9_value 5 = .ok (.iload_n 1, 1) := by decide +kernel
theorem dX9_value_6 : decode cX9_value 6 = .ok (.bipush 123, 2) := by decide +kernel
theorem dX9_value_8 : decode cX9_value 8 = .ok (.if_icmp .eq 9, 3) := by decide +kernel
theorem dX9_value_11 : decode cX9_value 11 = .ok (.iload_n 1, 1) := by decide +kernel
theorem dX9_value_12 : decode cX9_value 12 = .ok (.bipush 91, 2) := by decide +kernel
theorem dX9_value_14 : decode cX9_value 14 = .ok (.if_icmp .ne 66, 3) := by decide +kernel
theorem dX9_value_17 : decode cX9_value 17 = .ok (.aload_n 0, 1) := by decide +kernel
theorem dX9_value_18 : decode cX9_value 18 = .ok (.aload_n 0, 1) := by decide +kernel
theorem dX9_value_19 : decode cX9_value 19 = .ok (.getfield 112, 3) := by decide +kernel
theorem dX9_value_22 : decode cX9_value 22 = .ok (.bipush 24, 2) := by decide +kernel
theorem dX9_value_24 : decode cX9_value 24 = .ok (.if_icmp .ge 7, 3) := by decide +kernel
theorem dX9_value_27 : decode cX9_value 27 = .ok (.iconst 1, 1) := by decide +kernel
theorem dX9_value_28 : decode cX9_value 28 = .ok (.goto 4, 3) := by decide +kernel
theorem dX9_value_31 : decode cX9_value 31 = .ok (.iconst 0, 1) := by decide +kernel
theorem dX9_value_32 : decode cX9_value 32 = .ok (.iconst 1, 1) := by decide +kernel
theorem dX9_value_33 : decode cX9_value 33 = .ok (.aload_n 0, 1) := by decide +kernel
theorem dX9_value_34 : decode cX9_value 34 = .ok (.getfield 95, 3) := by decide +kernel
theorem dX9_value_37 : decode cX9_value 37 = .ok (.invokevirtual 105, 3) := by decide +kernel
theorem dX9_value_40 : decode cX9_value 40 = .ok (.aload_n 0, 1) := by decide +kernel
theorem dX9_value_41 : decode cX9_value 41 = .ok (.dup, 1) := by decide +kernel
theorem dX9_value_42 : decode cX9_value 42 = .ok (.getfield 112, 3) := by decide +kernel
theorem dX9_value_45 : decode cX9_value 45 = .ok (.iconst 1, 1) := by decide +kernel
theorem dX9_value_46 : decode cX9_value 46 = .ok (.iadd, 1) := by decide +kernel
theorem dX9_value_47 : decode cX9_value 47 = .ok (.putfield 112, 3) := by decide +kernel
theorem dX9_value_50 : decode cX9_value 50 = .ok (.iload_n 1, 1) := by decide +kernel
theorem dX9_value_51 : decode cX9_value 51 = .ok (.bipush 123, 2) := by decide +kernel
theorem dX9_value_53 : decode cX9_value 53 = .ok (.if_icmp .ne 10, 3) := by decide +kernel
theorem dX9_value_56 : decode cX9_value 56 = .ok (.aload_n 0, 1) := by decide +kernel
theorem dX9_value_57 : decode cX9_value 57 = .ok (.invokevirtual 115, 3) := by decide +kernel
theorem dX9_value_60 : decode cX9_value 60 = .ok (.goto 7, 3) := by decide +kernel
theorem dX9_value_63 : decode cX9_value 63 = .ok (.aload_n 0, 1) := by decide +kernel
theorem dX9_value_64 : decode cX9_value 64 = .ok (.invokevirtual 118, 3) := by decide +kernel
theorem dX9_value_67 : decode cX9_value 67 = .ok (.istore_n 2, 1) := by decide +kernel
theorem dX9_value_68 : decode cX9_value 68 = .ok (.aload_n 0, 1) := by decide +kernel
theorem dX9_value_69 : decode cX9_value 69 = .ok (.dup, 1) := by decide +kernel
theorem dX9_value_70 : decode cX9_value 70 = .ok (.getfield 112, 3) := by decide +kernel
theorem dX9_value_73 : decode cX9_value 73 = .ok (.iconst 1, 1) := by decide +kernel
theorem dX9_value_74 : decode cX9_value 74 = .ok (.isub, 1) := by decide +kernel
theorem dX9_value_75 : decode cX9_value 75 = .ok (.putfield 112, 3) := by decide +kernel
theorem dX9_value_78 : decode cX9_value 78 = .ok (.iload_n 2, 1) := by decide +kernel
theorem dX9_value_79 : decode cX9_value 79 = .ok (.ireturn, 1) := by decide +kernel
theorem dX9_value_80 : decode cX9_value 80 = .ok (.iload_n 1, 1) := by decide +kernel
theorem dX9_value_81 : decode cX9_value 81 = .ok (.bipush 34, 2) := by decide +kernel
theorem dX9_value_83 : decode cX9_value 83 = .ok (.if_icmp .ne 8, 3) := by decide +kernel
theorem dX9_value_86 : decode cX9_value 86 = .ok (.aload_n 0, 1) := by decide +kernel
theorem dX9_value_87 : decode cX9_value 87 = .ok (.invokevirtual 121, 3) := by decide +kernel
theorem dX9_value_90 : decode cX9_value 90 = .ok (.ireturn, 1) := by decide +kernel
theorem dX9_value_91 : decode cX9_value 91 = .ok (.iload_n 1, 1) := by decide +kernel
theorem dX9_value_92 : decode cX9_value 92 = .ok (.bipush 45, 2) := by decide +kernel
theorem dX9_value_94 : decode cX9_value 94 = .ok (.if_icmp .eq 15, 3) := by decide +kernel
theorem dX9_value_97 : decode cX9_value 97 = .ok (.iload_n 1, 1) := by decide +kernel
theorem dX9_value_98 : decode cX9_value 98 = .ok (.bipush 48, 2) := by decide +kernel
theorem dX9_value_100 : decode cX9_value 100 = .ok (.if_icmp .lt 14, 3) := by decide +kernel
theorem dX9_value_103 : decode cX9_value 103 = .ok (.iload_n 1, 1) := by decide +kernel
theorem dX9_value_104 : decode cX9_value 104 = .ok (.bipush 57, 2) := by decide +kernel
theorem dX9_value_106 : decode cX9_value 106 = .ok (.if_icmp .gt 8, 3) := by decide +kernel
theorem dX9_value_109 : decode cX9_value 109 = .ok (.aload_n 0, 1) := by decide +kernel
theorem dX9_value_110 : decode cX9_value 110 = .ok (.invokevirtual 124, 3) := by decide +kernel
theorem dX9_value_113 : decode cX9_value 113 = .ok (.ireturn, 1) := by decide +kernel
theorem dX9_value_114 : decode cX9_value 114 = .ok (.aload_n 0, 1) := by decide +kernel
theorem dX9_value_115 : decode cX9_value 115 = .ok (.iload_n 1, 1) := by decide +kernel
theorem dX9_value_116 : decode cX9_value 116 = .ok (.bipush 116, 2) := by decide +kernel
theorem dX9_value_118 : decode cX9_value 118 = .ok (.if_icmp .ne 7, 3) := by decide +kernel
theorem dX9_value_121 : decode cX9_value 121 = .ok (.iconst 4, 1) := by decide +kernel
theorem dX9_value_122 : decode cX9_value 122 = .ok (.goto 15, 3) := by decide +kernel
theorem dX9_value_125 : decode cX9_value 125 = .ok (.iload_n 1, 1) := by decide +kernel
theorem dX9_value_126 : decode cX9_value 126 = .ok (.bipush 102, 2) := by decide +kernel
theorem dX9_value_128 : decode cX9_value 128 = .ok (.if_icmp .ne 7, 3) := by decide +kernel
theorem dX9_value_131 : decode cX9_value 131 = .ok (.iconst 5, 1) := by decide +kernel
theorem dX9_value_132 : decode cX9_value 132 = .ok (.goto 5, 3) := by decide +kernel
theorem dX9_value_135 : decode cX9_value 135 = .ok (.bipush 6, 2) := by decide +kernel
theorem dX9_value_137 : decode cX9_value 137 = .ok (.invokevirtual 127, 3) := by decide +kernel
theorem dX9_value_140 : decode cX9_value 140 = .ok (.istore_n 2, 1) := by decide +kernel
theorem dX9_value_141 : decode cX9_value 141 = .ok (.iload_n 1, 1) := by decide +kernel
theorem dX9_value_142 : decode cX9_value 142 = .ok (.bipush 116, 2) := by decide +kernel
theorem dX9_value_144 : decode cX9_value 144 = .ok (.if_icmp .ne 8, 3) := by decide +kernel
theorem dX9_value_147 : decode cX9_value 147 = .ok (.ldc 131, 2) := by decide +kernel
theorem dX9_value_149 : decode cX9_value 149 = .ok (.goto 16, 3) := by decide +kernel
theorem dX9_value_152 : decode cX9_value 152 = .ok (.iload_n 1, 1) := by decide +kernel
theorem dX9_value_153 : decode cX9_value 153 = .ok (.bipush 102, 2) := by decide +kernel
theorem dX9_value_155 : decode cX9_value 155 = .ok (.if_icmp .ne 8, 3) := by decide +kernel
theorem dX9_value_158 : decode cX9_value 158 = .ok (.ldc 133, 2) := by decide +kernel
theorem dX9_value_160 : decode cX9_value 160 = .ok (.goto 5, 3) := by decide +kernel
theorem dX9_value_163 : decode cX9_value 163 = .ok (.ldc 135, 2) := by decide +kernel
theorem dX9_value_165 : decode cX9_value 165 = .ok (.astore_n 3, 1) := by decide +kernel
theorem dX9_value_166 : decode cX9_value 166 = .ok (.iconst 0, 1) := by decide +kernel
theorem dX9_value_167 : decode cX9_value 167 = .ok (.istore 4, 2) := by decide +kernel
theorem dX9_value_169 : decode cX9_value 169 = .ok (.iload 4, 2) := by decide +kernel
theorem dX9_value_171 : decode cX9_value 171 = .ok (.aload_n 3, 1) := by decide +kernel
theorem dX9_value_172 : decode cX9_value 172 = .ok (.invokevirtual 137, 3) := by decide +kernel
theorem dX9_value_175 : decode cX9_value 175 = .ok (.if_icmp .ge 19, 3) := by decide +kernel
theorem dX9_value_178 : decode cX9_value 178 = .ok (.aload_n 0, 1) := by decide +kernel
theorem dX9_value_179 : decode cX9_value 179 = .ok (.aload_n 3, 1) := by decide +kernel
theorem dX9_value_180 : decode cX9_value 180 = .ok (.iload 4, 2) := by decide +kernel
theorem dX9_value_182 : decode cX9_value 182 = .ok (.invokevirtual 141, 3) := by decide +kernel
theorem dX9_value_185 : decode cX9_value 185 = .ok (.invokevirtual 145, 3) := by decide +kernel
theorem dX9_value_188 : decode cX9_value 188 = .ok (.iinc 4 1, 3) := by decide +kernel
theorem dX9_value_191 : decode cX9_value 191 = .ok (.goto (-22), 3) := by decide +kernel
theorem dX9_value_194 : decode cX9_value 194 = .ok (.iload_n 2, 1) := by decide +kernel
theorem dX9_value_195 : decode cX9_value 195 = .ok (.ireturn, 1) := by decide +kernel
abbrev cX9_list : ByteArray := prog_12_method_9_code
def yX9_list : MethodName := ⟨RX9, "list", "()I"⟩
def wsX9_list : List Cond := .code yX9_list cX9_list 5 (some .int) :: sr_G
theorem dX9_list_0 : decode cX9_list 0 = .ok (.aload_n 0, 1) := by decide +kernel
theorem dX9_list_1 : decode cX9_list 1 = .ok (.iconst 1, 1) := by decide +kernel
theorem dX9_list_2 : decode cX9_list 2 = .ok (.invokevirtual 127, 3) := by decide +kernel
theorem dX9_list_5 : decode cX9_list 5 = .ok (.istore_n 1, 1) := by decide +kernel
theorem dX9_list_6 : decode cX9_list 6 = .ok (.aload_n 0, 1) := by decide +kernel
theorem dX9_list_7 : decode cX9_list 7 = .ok (.dup, 1) := by decide +kernel
theorem dX9_list_8 : decode cX9_list 8 = .ok (.getfield 95, 3) := by decide +kernel
theorem dX9_list_11 : decode cX9_list 11 = .ok (.iconst 1, 1) := by decide +kernel
theorem dX9_list_12 : decode cX9_list 12 = .ok (.iadd, 1) := by decide +kernel
theorem dX9_list_13 : decode cX9_list 13 = .ok (.putfield 95, 3) := by decide +kernel
theorem dX9_list_16 : decode cX9_list 16 = .ok (.aload_n 0, 1) := by decide +kernel
theorem dX9_list_17 : decode cX9_list 17 = .ok (.invokevirtual 149, 3) := by decide +kernel
theorem dX9_list_20 : decode cX9_list 20 = .ok (.iconst (-1), 1) := by decide +kernel
theorem dX9_list_21 : decode cX9_list 21 = .ok (.istore_n 2, 1) := by decide +kernel
theorem dX9_list_22 : decode cX9_list 22 = .ok (.aload_n 0, 1) := by decide +kernel
theorem dX9_list_23 : decode cX9_list 23 = .ok (.invokevirtual 101, 3) := by decide +kernel
theorem dX9_list_26 : decode cX9_list 26 = .ok (.bipush 93, 2) := by decide +kernel
theorem dX9_list_28 : decode cX9_list 28 = .ok (.if_icmp .eq 7, 3) := by decide +kernel
theorem dX9_list_31 : decode cX9_list 31 = .ok (.iconst 1, 1) := by decide +kernel
theorem dX9_list_32 : decode cX9_list 32 = .ok (.goto 4, 3) := by decide +kernel
theorem dX9_list_35 : decode cX9_list 35 = .ok (.iconst 0, 1) := by decide +kernel
theorem dX9_list_36 : decode cX9_list 36 = .ok (.istore_n 3, 1) := by decide +kernel
theorem dX9_list_37 : decode cX9_list 37 = .ok (.iload_n 3, 1) := by decide +kernel
theorem dX9_list_38 : decode cX9_list 38 = .ok (.ifCond .eq 85, 3) := by decide +kernel
theorem dX9_list_41 : decode cX9_list 41 = .ok (.aload_n 0, 1) := by decide +kernel
theorem dX9_list_42 : decode cX9_list 42 = .ok (.invokevirtual 152, 3) := by decide +kernel
theorem dX9_list_45 : decode cX9_list 45 = .ok (.istore 4, 2) := by decide +kernel
theorem dX9_list_47 : decode cX9_list 47 = .ok (.iload_n 2, 1) := by decide +kernel
theorem dX9_list_48 : decode cX9_list 48 = .ok (.ifCond .ge 14, 3) := by decide +kernel
theorem dX9_list_51 : decode cX9_list 51 = .ok (.aload_n 0, 1) := by decide +kernel
theorem dX9_list_52 : decode cX9_list 52 = .ok (.getfield 29, 3) := by decide +kernel
theorem dX9_list_55 : decode cX9_list 55 = .ok (.iload_n 1, 1) := by decide +kernel
theorem dX9_list_56 : decode cX9_list 56 = .ok (.iload 4, 2) := by decide +kernel
theorem dX9_list_58 : decode cX9_list 58 = .ok (.iastore, 1) := by decide +kernel
theorem dX9_list_59 : decode cX9_list 59 = .ok (.goto 11, 3) := by decide +kernel
theorem dX9_list_62 : decode cX9_list 62 = .ok (.aload_n 0, 1) := by decide +kernel
theorem dX9_list_63 : decode cX9_list 63 = .ok (.getfield 32, 3) := by decide +kernel
theorem dX9_list_66 : decode cX9_list 66 = .ok (.iload_n 2, 1) := by decide +kernel
theorem dX9_list_67 : decode cX9_list 67 = .ok (.iload 4, 2) := by decide +kernel
theorem dX9_list_69 : decode cX9_list 69 = .ok (.iastore, 1) := by decide +kernel
theorem dX9_list_70 : decode cX9_list 70 = .ok (.iload 4, 2) := by decide +kernel
theorem dX9_list_72 : decode cX9_list 72 = .ok (.istore_n 2, 1) := by decide +kernel
theorem dX9_list_73 : decode cX9_list 73 = .ok (.aload_n 0, 1) := by decide +kernel
theorem dX9_list_74 : decode cX9_list 74 = .ok (.getfield 26, 3) := by decide +kernel
theorem dX9_list_77 : decode cX9_list 77 = .ok (.iload_n 1, 1) := by decide +kernel
theorem dX9_list_78 : decode cX9_list 78 = .ok (.dup2, 1) := by decide +kernel
theorem dX9_list_79 : decode cX9_list 79 = .ok (.iaload, 1) := by decide +kernel
theorem dX9_list_80 : decode cX9_list 80 = .ok (.iconst 1, 1) := by decide +kernel
theorem dX9_list_81 : decode cX9_list 81 = .ok (.iadd, 1) := by decide +kernel
theorem dX9_list_82 : decode cX9_list 82 = .ok (.iastore, 1) := by decide +kernel
theorem dX9_list_83 : decode cX9_list 83 = .ok (.aload_n 0, 1) := by decide +kernel
theorem dX9_list_84 : decode cX9_list 84 = .ok (.invokevirtual 149, 3) := by decide +kernel
theorem dX9_list_87 : decode cX9_list 87 = .ok (.aload_n 0, 1) := by decide +kernel
theorem dX9_list_88 : decode cX9_list 88 = .ok (.invokevirtual 101, 3) := by decide +kernel
theorem dX9_list_91 : decode cX9_list 91 = .ok (.bipush 44, 2) := by decide +kernel
theorem dX9_list_93 : decode cX9_list 93 = .ok (.if_icmp .ne 7, 3) := by decide +kernel
theorem dX9_list_96 : decode cX9_list 96 = .ok (.iconst 1, 1) := by decide +kernel
theorem dX9_list_97 : decode cX9_list 97 = .ok (.goto 4, 3) := by decide +kernel
theorem dX9_list_100 : decode cX9_list 100 = .ok (.iconst 0, 1) := by decide +kernel
theorem dX9_list_101 : decode cX9_list 101 = .ok (.istore_n 3, 1) := by decide +kernel
theorem dX9_list_102 : decode cX9_list 102 = .ok (.iload_n 3, 1) := by decide +kernel
theorem dX9_list_103 : decode cX9_list 103 = .ok (.ifCond .eq 17, 3) := by decide +kernel
theorem dX9_list_106 : decode cX9_list 106 = .ok (.aload_n 0, 1) := by decide +kernel
theorem dX9_list_107 : decode cX9_list 107 = .ok (.dup, 1) := by decide +kernel
theorem dX9_list_108 : decode cX9_list 108 = .ok (.getfield 95, 3) := by decide +kernel
theorem dX9_list_111 : decode cX9_list 111 = .ok (.iconst 1, 1) := by decide +kernel
theorem dX9_list_112 : decode cX9_list 112 = .ok (.iadd, 1) := by decide +kernel
theorem dX9_list_113 : decode cX9_list 113 = .ok (.putfield 95, 3) := by decide +kernel
theorem dX9_list_116 : decode cX9_list 116 = .ok (.aload_n 0, 1) := by decide +kernel
theorem dX9_list_117 : decode cX9_list 117 = .ok (.invokevirtual 149, 3) := by decide +kernel
theorem dX9_list_120 : decode cX9_list 120 = .ok (.goto (-83), 3) := by decide +kernel
theorem dX9_list_123 : decode cX9_list 123 = .ok (.aload_n 0, 1) := by decide +kernel
theorem dX9_list_124 : decode cX9_list 124 = .ok (.bipush 93, 2) := by decide +kernel
theorem dX9_list_126 : decode cX9_list 126 = .ok (.invokevirtual 145, 3) := by decide +kernel
theorem dX9_list_129 : decode cX9_list 129 = .ok (.iload_n 1, 1) := by decide +kernel
theorem dX9_list_130 : decode cX9_list 130 = .ok (.ireturn, 1) := by decide +kernel
abbrev cX9_object : ByteArray := prog_12_method_10_code
def yX9_object : MethodName := ⟨RX9, "object", "()I"⟩
def wsX9_object : List Cond := .code yX9_object cX9_object 6 (some .int) :: sr_G
theorem dX9_object_0 : decode cX9_object 0 = .ok (.aload_n 0, 1) := by decide +kernel
theorem dX9_object_1 : decode cX9_object 1 = .ok (.iconst 0, 1) := by decide +kernel
theorem dX9_object_2 : decode cX9_object 2 = .ok (.invokevirtual 127, 3) := by decide +kernel
theorem dX9_object_5 : decode cX9_object 5 = .ok (.istore_n 1, 1) := by decide +kernel
theorem dX9_object_6 : decode cX9_object 6 = .ok (.aload_n 0, 1) := by decide +kernel
theorem dX9_object_7 : decode cX9_object 7 = .ok (.dup, 1) := by decide +kernel
theorem dX9_object_8 : decode cX9_object 8 = .ok (.getfield 95, 3) := by decide +kernel
theorem dX9_object_11 : decode cX9_object 11 = .ok (.iconst 1, 1) := by decide +kernel
theorem dX9_object_12 : decode cX9_object 12 = .ok (.iadd, 1) := by decide +kernel
theorem dX9_object_13 : decode cX9_object 13 = .ok (.putfield 95, 3) := by decide +kernel
theorem dX9_object_16 : decode cX9_object 16 = .ok (.aload_n 0, 1) := by decide +kernel
theorem dX9_object_17 : decode cX9_object 17 = .ok (.invokevirtual 149, 3) := by decide +kernel
theorem dX9_object_20 : decode cX9_object 20 = .ok (.iconst (-1), 1) := by decide +kernel
theorem dX9_object_21 : decode cX9_object 21 = .ok (.istore_n 2, 1) := by decide +kernel
theorem dX9_object_22 : decode cX9_object 22 = .ok (.aload_n 0, 1) := by decide +kernel
theorem dX9_object_23 : decode cX9_object 23 = .ok (.invokevirtual 101, 3) := by decide +kernel
theorem dX9_object_26 : decode cX9_object 26 = .ok (.bipush 125, 2) := by decide +kernel
theorem dX9_object_28 : decode cX9_object 28 = .ok (.if_icmp .eq 7, 3) := by decide +kernel
theorem dX9_object_31 : decode cX9_object 31 = .ok (.iconst 1, 1) := by decide +kernel
theorem dX9_object_32 : decode cX9_object 32 = .ok (.goto 4, 3) := by decide +kernel
theorem dX9_object_35 : decode cX9_object 35 = .ok (.iconst 0, 1) := by decide +kernel
theorem dX9_object_36 : decode cX9_object 36 = .ok (.istore_n 3, 1) := by decide +kernel
theorem dX9_object_37 : decode cX9_object 37 = .ok (.iload_n 3, 1) := by decide +kernel
theorem dX9_object_38 : decode cX9_object 38 = .ok (.ifCond .eq 186, 3) := by decide +kernel
theorem dX9_object_41 : decode cX9_object 41 = .ok (.aload_n 0, 1) := by decide +kernel
theorem dX9_object_42 : decode cX9_object 42 = .ok (.aload_n 0, 1) := by decide +kernel
theorem dX9_object_43 : decode cX9_object 43 = .ok (.invokevirtual 101, 3) := by decide +kernel
theorem dX9_object_46 : decode cX9_object 46 = .ok (.bipush 34, 2) := by decide +kernel
theorem dX9_object_48 : decode cX9_object 48 = .ok (.if_icmp .ne 7, 3) := by decide +kernel
theorem dX9_object_51 : decode cX9_object 51 = .ok (.iconst 1, 1) := by decide +kernel
theorem dX9_object_52 : decode cX9_object 52 = .ok (.goto 4, 3) := by decide +kernel
theorem dX9_object_55 : decode cX9_object 55 = .ok (.iconst 0, 1) := by decide +kernel
theorem dX9_object_56 : decode cX9_object 56 = .ok (.iconst 1, 1) := by decide +kernel
theorem dX9_object_57 : decode cX9_object 57 = .ok (.aload_n 0, 1) := by decide +kernel
theorem dX9_object_58 : decode cX9_object 58 = .ok (.getfield 95, 3) := by decide +kernel
theorem dX9_object_61 : decode cX9_object 61 = .ok (.invokevirtual 105, 3) := by decide +kernel
theorem dX9_object_64 : decode cX9_object 64 = .ok (.aload_n 0, 1) := by decide +kernel
theorem dX9_object_65 : decode cX9_object 65 = .ok (.invokevirtual 121, 3) := by decide +kernel
theorem dX9_object_68 : decode cX9_object 68 = .ok (.istore 4, 2) := by decide +kernel
theorem dX9_object_70 : decode cX9_object 70 = .ok (.aload_n 0, 1) := by decide +kernel
theorem dX9_object_71 : decode cX9_object 71 = .ok (.getfield 29, 3) := by decide +kernel
theorem dX9_object_74 : decode cX9_object 74 = .ok (.iload_n 1, 1) := by decide +kernel
theorem dX9_object_75 : decode cX9_object 75 = .ok (.iaload, 1) := by decide +kernel
theorem dX9_object_76 : decode cX9_object 76 = .ok (.istore 5, 2) := by decide +kernel
theorem dX9_object_78 : decode cX9_object 78 = .ok (.iload 5, 2) := by decide +kernel
theorem dX9_object_80 : decode cX9_object 80 = .ok (.ifCond .lt 49, 3) := by decide +kernel
theorem dX9_object_83 : decode cX9_object 83 = .ok (.aload_n 0, 1) := by decide +kernel
theorem dX9_object_84 : decode cX9_object 84 = .ok (.aload_n 0, 1) := by decide +kernel
theorem dX9_object_85 : decode cX9_object 85 = .ok (.iload 5, 2) := by decide +kernel
theorem dX9_object_87 : decode cX9_object 87 = .ok (.aload_n 0, 1) := by decide +kernel
theorem dX9_object_88 : decode cX9_object 88 = .ok (.iload 4, 2) := by decide +kernel
theorem dX9_object_90 : decode cX9_object 90 = .ok (.invokevirtual 155, 3) := by decide +kernel
theorem dX9_object_93 : decode cX9_object 93 = .ok (.ifCond .ne 7, 3) := by decide +kernel
theorem dX9_object_96 : decode cX9_object 96 = .ok (.iconst 1, 1) := by decide +kernel
theorem dX9_object_97 : decode cX9_object 97 = .ok (.goto 4, 3) := by decide +kernel
theorem dX9_object_100 : decode cX9_object 100 = .ok (.iconst 0, 1) := by decide +kernel
theorem dX9_object_101 : decode cX9_object 101 = .ok (.iconst 1, 1) := by decide +kernel
theorem dX9_object_102 : decode cX9_object 102 = .ok (.aload_n 0, 1) := by decide +kernel
theorem dX9_object_103 : decode cX9_object 103 = .ok (.getfield 19, 3) := by decide +kernel
theorem dX9_object_106 : decode cX9_object 106 = .ok (.iload 4, 2) := by decide +kernel
theorem dX9_object_108 : decode cX9_object 108 = .ok (.iaload, 1) := by decide +kernel
theorem dX9_object_109 : decode cX9_object 109 = .ok (.invokevirtual 105, 3) := by decide +kernel
theorem dX9_object_112 : decode cX9_object 112 = .ok (.aload_n 0, 1) := by decide +kernel
theorem dX9_object_113 : decode cX9_object 113 = .ok (.getfield 32, 3) := by decide +kernel
theorem dX9_object_116 : decode cX9_object 116 = .ok (.aload_n 0, 1) := by decide +kernel
theorem dX9_object_117 : decode cX9_object 117 = .ok (.getfield 32, 3) := by decide +kernel
theorem dX9_object_120 : decode cX9_object 120 = .ok (.iload 5, 2) := by decide +kernel
theorem dX9_object_122 : decode cX9_object 122 = .ok (.iaload, 1) := by decide +kernel
theorem dX9_object_123 : decode cX9_object 123 = .ok (.iaload, 1) := by decide +kernel
theorem dX9_object_124 : decode cX9_object 124 = .ok (.istore 5, 2) := by decide +kernel
theorem dX9_object_126 : decode cX9_object 126 = .ok (.goto (-48), 3) := by decide +kernel
theorem dX9_object_129 : decode cX9_object 129 = .ok (.aload_n 0, 1) := by decide +kernel
theorem dX9_object_130 : decode cX9_object 130 = .ok (.invokevirtual 149, 3) := by decide +kernel
theorem dX9_object_133 : decode cX9_object 133 = .ok (.aload_n 0, 1) := by decide +kernel
theorem dX9_object_134 : decode cX9_object 134 = .ok (.bipush 58, 2) := by decide +kernel
theorem dX9_object_136 : decode cX9_object 136 = .ok (.invokevirtual 145, 3) := by decide +kernel
theorem dX9_object_139 : decode cX9_object 139 = .ok (.aload_n 0, 1) := by decide +kernel
theorem dX9_object_140 : decode cX9_object 140 = .ok (.invokevirtual 149, 3) := by decide +kernel
theorem dX9_object_143 : decode cX9_object 143 = .ok (.aload_n 0, 1) := by decide +kernel
theorem dX9_object_144 : decode cX9_object 144 = .ok (.invokevirtual 152, 3) := by decide +kernel
theorem dX9_object_147 : decode cX9_object 147 = .ok (.istore 5, 2) := by decide +kernel
theorem dX9_object_149 : decode cX9_object 149 = .ok (.iload_n 2, 1) := by decide +kernel
theorem dX9_object_150 : decode cX9_object 150 = .ok (.ifCond .ge 14, 3) := by decide +kernel
theorem dX9_object_153 : decode cX9_object 153 = .ok (.aload_n 0, 1) := by decide +kernel
theorem dX9_object_154 : decode cX9_object 154 = .ok (.getfield 29, 3) := by decide +kernel
theorem dX9_object_157 : decode cX9_object 157 = .ok (.iload_n 1, 1) := by decide +kernel
theorem dX9_object_158 : decode cX9_object 158 = .ok (.iload 4, 2) := by decide +kernel
theorem dX9_object_160 : decode cX9_object 160 = .ok (.iastore, 1) := by decide +kernel
theorem dX9_object_161 : decode cX9_object 161 = .ok (.goto 11, 3) := by decide +kernel
theorem dX9_object_164 : decode cX9_object 164 = .ok (.aload_n 0, 1) := by decide +kernel
theorem dX9_object_165 : decode cX9_object 165 = .ok (.getfield 32, 3) := by decide +kernel
theorem dX9_object_168 : decode cX9_object 168 = .ok (.iload_n 2, 1) := by decide +kernel
theorem dX9_object_169 : decode cX9_object 169 = .ok (.iload 4, 2) := by decide +kernel
theorem dX9_object_171 : decode cX9_object 171 = .ok (.iastore, 1) := by decide +kernel
theorem dX9_object_172 : decode cX9_object 172 = .ok (.aload_n 0, 1) := by decide +kernel
theorem dX9_object_173 : decode cX9_object 173 = .ok (.getfield 32, 3) := by decide +kernel
theorem dX9_object_176 : decode cX9_object 176 = .ok (.iload 4, 2) := by decide +kernel
theorem dX9_object_178 : decode cX9_object 178 = .ok (.iload 5, 2) := by decide +kernel
theorem dX9_object_180 : decode cX9_object 180 = .ok (.iastore, 1) := by decide +kernel
theorem dX9_object_181 : decode cX9_object 181 = .ok (.iload 5, 2) := by decide +kernel
theorem dX9_object_183 : decode cX9_object 183 = .ok (.istore_n 2, 1) := by decide +kernel
theorem dX9_object_184 : decode cX9_object 184 = .ok (.aload_n 0, 1) := by decide +kernel
theorem dX9_object_185 : decode cX9_object 185 = .ok (.invokevirtual 149, 3) := by decide +kernel
theorem dX9_object_188 : decode cX9_object 188 = .ok (.aload_n 0, 1) := by decide +kernel
theorem dX9_object_189 : decode cX9_object 189 = .ok (.invokevirtual 101, 3) := by decide +kernel
theorem dX9_object_192 : decode cX9_object 192 = .ok (.bipush 44, 2) := by decide +kernel
theorem dX9_object_194 : decode cX9_object 194 = .ok (.if_icmp .ne 7, 3) := by decide +kernel
theorem dX9_object_197 : decode cX9_object 197 = .ok (.iconst 1, 1) := by decide +kernel
theorem dX9_object_198 : decode cX9_object 198 = .ok (.goto 4, 3) := by decide +kernel
theorem dX9_object_201 : decode cX9_object 201 = .ok (.iconst 0, 1) := by decide +kernel
theorem dX9_object_202 : decode cX9_object 202 = .ok (.istore_n 3, 1) := by decide +kernel
theorem dX9_object_203 : decode cX9_object 203 = .ok (.iload_n 3, 1) := by decide +kernel
theorem dX9_object_204 : decode cX9_object 204 = .ok (.ifCond .eq 17, 3) := by decide +kernel
theorem dX9_object_207 : decode cX9_object 207 = .ok (.aload_n 0, 1) := by decide +kernel
theorem dX9_object_208 : decode cX9_object 208 = .ok (.dup, 1) := by decide +kernel
theorem dX9_object_209 : decode cX9_object 209 = .ok (.getfield 95, 3) := by decide +kernel
theorem dX9_object_212 : decode cX9_object 212 = .ok (.iconst 1, 1) := by decide +kernel
theorem dX9_object_213 : decode cX9_object 213 = .ok (.iadd, 1) := by decide +kernel
theorem dX9_object_214 : decode cX9_object 214 = .ok (.putfield 95, 3) := by decide +kernel
theorem dX9_object_217 : decode cX9_object 217 = .ok (.aload_n 0, 1) := by decide +kernel
theorem dX9_object_218 : decode cX9_object 218 = .ok (.invokevirtual 149, 3) := by decide +kernel
theorem dX9_object_221 : decode cX9_object 221 = .ok (.goto (-184), 3) := by decide +kernel
theorem dX9_object_224 : decode cX9_object 224 = .ok (.aload_n 0, 1) := by decide +kernel
theorem dX9_object_225 : decode cX9_object 225 = .ok (.bipush 125, 2) := by decide +kernel
theorem dX9_object_227 : decode cX9_object 227 = .ok (.invokevirtual 145, 3) := by decide +kernel
theorem dX9_object_230 : decode cX9_object 230 = .ok (.iload_n 1, 1) := by decide +kernel
theorem dX9_object_231 : decode cX9_object 231 = .ok (.ireturn, 1) := by decide +kernel
abbrev cX9_symbols : ByteArray := prog_12_method_27_code
def yX9_symbols : MethodName := ⟨RX9, "symbols", "(II)V"⟩
def wsX9_symbols : List Cond := .code yX9_symbols cX9_symbols 7 none :: sr_G
theorem dX9_symbols_0 : decode cX9_symbols 0 = .ok (.aload_n 0, 1) := by decide +kernel
theorem dX9_symbols_1 : decode cX9_symbols 1 = .ok (.iload_n 2, 1) := by decide +kernel
theorem dX9_symbols_2 : decode cX9_symbols 2 = .ok (.ldc_w, 1) := by decide +kernel
theorem dX9_symbols_5 : decode cX9_symbols 5 = .ok (.invokevirtual 210, 3) := by decide +kernel
theorem dX9_symbols_8 : decode cX9_symbols 8 = .ok (.istore_n 3, 1) := by decide +kernel
theorem dX9_symbols_9 : decode cX9_symbols 9 = .ok (.aload_n 0, 1) := by decide +kernel
theorem dX9_symbols_10 : decode cX9_symbols 10 = .ok (.iload_n 3, 1) := by decide +kernel
theorem dX9_symbols_11 : decode cX9_symbols 11 = .ok (.ifCond .lt 7, 3) := by decide +kernel
theorem dX9_symbols_14 : decode cX9_symbols 14 = .ok (.iconst 1, 1) := by decide +kernel
theorem dX9_symbols_15 : decode cX9_symbols 15 = .ok (.goto 4, 3) := by decide +kernel
theorem dX9_symbols_18 : decode cX9_symbols 18 = .ok (.iconst 0, 1) := by decide +kernel
theorem dX9_symbols_19 : decode cX9_symbols 19 = .ok (.bipush 8, 2) := by decide +kernel
theorem dX9_symbols_21 : decode cX9_symbols 21 = .ok (.aload_n 0, 1) := by decide +kernel
theorem dX9_symbols_22 : decode cX9_symbols 22 = .ok (.getfield 19, 3) := by decide +kernel
theorem dX9_symbols_25 : decode cX9_symbols 25 = .ok (.iload_n 2, 1) := by decide +kernel
theorem dX9_symbols_26 : decode cX9_symbols 26 = .ok (.iaload, 1) := by decide +kernel
theorem dX9_symbols_27 : decode cX9_symbols 27 = .ok (.invokevirtual 105, 3) := by decide +kernel
theorem dX9_symbols_30 : decode cX9_symbols 30 = .ok (.aload_n 0, 1) := by decide +kernel
theorem dX9_symbols_31 : decode cX9_symbols 31 = .ok (.aload_n 0, 1) := by decide +kernel
theorem dX9_symbols_32 : decode cX9_symbols 32 = .ok (.getfield 15, 3) := by decide +kernel
theorem dX9_symbols_35 : decode cX9_symbols 35 = .ok (.iload_n 3, 1) := by decide +kernel
theorem dX9_symbols_36 : decode cX9_symbols 36 = .ok (.iaload, 1) := by decide +kernel
theorem dX9_symbols_37 : decode cX9_symbols 37 = .ok (.iconst 1, 1) := by decide +kernel
theorem dX9_symbols_38 : decode cX9_symbols 38 = .ok (.if_icmp .ne 27, 3) := by decide +kernel
theorem dX9_symbols_41 : decode cX9_symbols 41 = .ok (.aload_n 0, 1) := by decide +kernel
theorem dX9_symbols_42 : decode cX9_symbols 42 = .ok (.getfield 26, 3) := by decide +kernel
theorem dX9_symbols_45 : decode cX9_symbols 45 = .ok (.iload_n 3, 1) := by decide +kernel
theorem dX9_symbols_46 : decode cX9_symbols 46 = .ok (.iaload, 1) := by decide +kernel
theorem dX9_symbols_47 : decode cX9_symbols 47 = .ok (.ifCond .le 18, 3) := by decide +kernel
theorem dX9_symbols_50 : decode cX9_symbols 50 = .ok (.aload_n 0, 1) := by decide +kernel
theorem dX9_symbols_51 : decode cX9_symbols 51 = .ok (.getfield 26, 3) := by decide +kernel
theorem dX9_symbols_54 : decode cX9_symbols 54 = .ok (.iload_n 3, 1) := by decide +kernel
theorem dX9_symbols_55 : decode cX9_symbols 55 = .ok (.iaload, 1) := by decide +kernel
theorem dX9_symbols_56 : decode cX9_symbols 56 = .ok (.bipush 33, 2) := by decide +kernel
theorem dX9_symbols_58 : decode cX9_symbols 58 = .ok (.if_icmp .ge 7, 3) := by decide +kernel
theorem dX9_symbols_61 : decode cX9_symbols 61 = .ok (.iconst 1, 1) := by decide +kernel
theorem dX9_symbols_62 : decode cX9_symbols 62 = .ok (.goto 4, 3) := by decide +kernel
theorem dX9_symbols_65 : decode cX9_symbols 65 = .ok (.iconst 0, 1) := by decide +kernel
theorem dX9_symbols_66 : decode cX9_symbols 66 = .ok (.bipush 11, 2) := by decide +kernel
theorem dX9_symbols_68 : decode cX9_symbols 68 = .ok (.aload_n 0, 1) := by decide +kernel
theorem dX9_symbols_69 : decode cX9_symbols 69 = .ok (.getfield 19, 3) := by decide +kernel
theorem dX9_symbols_72 : decode cX9_symbols 72 = .ok (.iload_n 3, 1) := by decide +kernel
theorem dX9_symbols_73 : decode cX9_symbols 73 = .ok (.iaload, 1) := by decide +kernel
theorem dX9_symbols_74 : decode cX9_symbols 74 = .ok (.invokevirtual 105, 3) := by decide +kernel
theorem dX9_symbols_77 : decode cX9_symbols 77 = .ok (.iconst (-1), 1) := by decide +kernel
theorem dX9_symbols_78 : decode cX9_symbols 78 = .ok (.istore 4, 2) := by decide +kernel
theorem dX9_symbols_80 : decode cX9_symbols 80 = .ok (.aload_n 0, 1) := by decide +kernel
theorem dX9_symbols_81 : decode cX9_symbols 81 = .ok (.getfield 29, 3) := by decide +kernel
theorem dX9_symbols_84 : decode cX9_symbols 84 = .ok (.iload_n 3, 1) := by decide +kernel
theorem dX9_symbols_85 : decode cX9_symbols 85 = .ok (.iaload, 1) := by decide +kernel
theorem dX9_symbols_86 : decode cX9_symbols 86 = .ok (.istore 5, 2) := by decide +kernel
theorem dX9_symbols_88 : decode cX9_symbols 88 = .ok (.iload 5, 2) := by decide +kernel
theorem dX9_symbols_90 : decode cX9_symbols 90 = .ok (.ifCond .lt 112, 3) := by decide +kernel
theorem dX9_symbols_93 : decode cX9_symbols 93 = .ok (.aload_n 0, 1) := by decide +kernel
theorem dX9_symbols_94 : decode cX9_symbols 94 = .ok (.aload_n 0, 1) := by decide +kernel
theorem dX9_symbols_95 : decode cX9_symbols 95 = .ok (.iload 5, 2) := by decide +kernel
theorem dX9_symbols_97 : decode cX9_symbols 97 = .ok (.invokevirtual 248, 3) := by decide +kernel
theorem dX9_symbols_100 : decode cX9_symbols 100 = .ok (.bipush 11, 2) := by decide +kernel
theorem dX9_symbols_102 : decode cX9_symbols 102 = .ok (.aload_n 0, 1) := by decide +kernel
theorem dX9_symbols_103 : decode cX9_symbols 103 = .ok (.getfield 19, 3) := by decide +kernel
theorem dX9_symbols_106 : decode cX9_symbols 106 = .ok (.iload 5, 2) := by decide +kernel
theorem dX9_symbols_108 : decode cX9_symbols 108 = .ok (.iaload, 1) := by decide +kernel
theorem dX9_symbols_109 : decode cX9_symbols 109 = .ok (.invokevirtual 105, 3) := by decide +kernel
theorem dX9_symbols_112 : decode cX9_symbols 112 = .ok (.aload_n 0, 1) := by decide +kernel
theorem dX9_symbols_113 : decode cX9_symbols 113 = .ok (.getfield 47, 3) := by decide +kernel
theorem dX9_symbols_116 : decode cX9_symbols 116 = .ok (.iload_n 1, 1) := by decide +kernel
theorem dX9_symbols_117 : decode cX9_symbols 117 = .ok (.iaload, 1) := by decide +kernel
theorem dX9_symbols_118 : decode cX9_symbols 118 = .ok (.istore 6, 2) := by decide +kernel
theorem dX9_symbols_120 : decode cX9_symbols 120 = .ok (.iload 6, 2) := by decide +kernel
theorem dX9_symbols_122 : decode cX9_symbols 122 = .ok (.ifCond .lt 50, 3) := by decide +kernel
theorem dX9_symbols_125 : decode cX9_symbols 125 = .ok (.aload_n 0, 1) := by decide +kernel
theorem dX9_symbols_126 : decode cX9_symbols 126 = .ok (.aload_n 0, 1) := by decide +kernel
theorem dX9_symbols_127 : decode cX9_symbols 127 = .ok (.aload_n 0, 1) := by decide +kernel
theorem dX9_symbols_128 : decode cX9_symbols 128 = .ok (.getfield 59, 3) := by decide +kernel
theorem dX9_symbols_131 : decode cX9_symbols 131 = .ok (.iload 6, 2) := by decide +kernel
theorem dX9_symbols_133 : decode cX9_symbols 133 = .ok (.iaload, 1) := by decide +kernel
theorem dX9_symbols_134 : decode cX9_symbols 134 = .ok (.aload_n 0, 1) := by decide +kernel
theorem dX9_symbols_135 : decode cX9_symbols 135 = .ok (.iload 5, 2) := by decide +kernel
theorem dX9_symbols_137 : decode cX9_symbols 137 = .ok (.invokevirtual 155, 3) := by decide +kernel
theorem dX9_symbols_140 : decode cX9_symbols 140 = .ok (.ifCond .ne 7, 3) := by decide +kernel
theorem dX9_symbols_143 : decode cX9_symbols 143 = .ok (.iconst 1, 1) := by decide +kernel
theorem dX9_symbols_144 : decode cX9_symbols 144 = .ok (.goto 4, 3) := by decide +kernel
theorem dX9_symbols_147 : decode cX9_symbols 147 = .ok (.iconst 0, 1) := by decide +kernel
theorem dX9_symbols_148 : decode cX9_symbols 148 = .ok (.bipush 11, 2) := by decide +kernel
theorem dX9_symbols_150 : decode cX9_symbols 150 = .ok (.aload_n 0, 1) := by decide +kernel
theorem dX9_symbols_151 : decode cX9_symbols 151 = .ok (.getfield 19, 3) := by decide +kernel
theorem dX9_symbols_154 : decode cX9_symbols 154 = .ok (.iload 5, 2) := by decide +kernel
theorem dX9_symbols_156 : decode cX9_symbols 156 = .ok (.iaload, 1) := by decide +kernel
theorem dX9_symbols_157 : decode cX9_symbols 157 = .ok (.invokevirtual 105, 3) := by decide +kernel
theorem dX9_symbols_160 : decode cX9_symbols 160 = .ok (.aload_n 0, 1) := by decide +kernel
theorem dX9_symbols_161 : decode cX9_symbols 161 = .ok (.getfield 65, 3) := by decide +kernel
theorem dX9_symbols_164 : decode cX9_symbols 164 = .ok (.iload 6, 2) := by decide +kernel
theorem dX9_symbols_166 : decode cX9_symbols 166 = .ok (.iaload, 1) := by decide +kernel
theorem dX9_symbols_167 : decode cX9_symbols 167 = .ok (.istore 6, 2) := by decide +kernel
theorem dX9_symbols_169 : decode cX9_symbols 169 = .ok (.goto (-49), 3) := by decide +kernel
theorem dX9_symbols_172 : decode cX9_symbols 172 = .ok (.aload_n 0, 1) := by decide +kernel
theorem dX9_symbols_173 : decode cX9_symbols 173 = .ok (.iload_n 1, 1) := by decide +kernel
theorem dX9_symbols_174 : decode cX9_symbols 174 = .ok (.iload 4, 2) := by decide +kernel
theorem dX9_symbols_176 : decode cX9_symbols 176 = .ok (.invokevirtual 225, 3) := by decide +kernel
theorem dX9_symbols_179 : decode cX9_symbols 179 = .ok (.istore 4, 2) := by decide +kernel
theorem dX9_symbols_181 : decode cX9_symbols 181 = .ok (.aload_n 0, 1) := by decide +kernel
theorem dX9_symbols_182 : decode cX9_symbols 182 = .ok (.getfield 59, 3) := by decide +kernel
theorem dX9_symbols_185 : decode cX9_symbols 185 = .ok (.iload 4, 2) := by decide +kernel
theorem dX9_symbols_187 : decode cX9_symbols 187 = .ok (.iload 5, 2) := by decide +kernel
theorem dX9_symbols_189 : decode cX9_symbols 189 = .ok (.iastore, 1) := by decide +kernel
theorem dX9_symbols_190 : decode cX9_symbols 190 = .ok (.aload_n 0, 1) := by decide +kernel
theorem dX9_symbols_191 : decode cX9_symbols 191 = .ok (.getfield 32, 3) := by decide +kernel
theorem dX9_symbols_194 : decode cX9_symbols 194 = .ok (.iload 5, 2) := by decide +kernel
theorem dX9_symbols_196 : decode cX9_symbols 196 = .ok (.iaload, 1) := by decide +kernel
theorem dX9_symbols_197 : decode cX9_symbols 197 = .ok (.istore 5, 2) := by decide +kernel
theorem dX9_symbols_199 : decode cX9_symbols 199 = .ok (.goto (-111), 3) := by decide +kernel
theorem dX9_symbols_202 : decode cX9_symbols 202 = .ok (.aload_n 0, 1) := by decide +kernel
theorem dX9_symbols_203 : decode cX9_symbols 203 = .ok (.iload_n 2, 1) := by decide +kernel
theorem dX9_symbols_204 : decode cX9_symbols 204 = .ok (.ldc_w, 1) := by decide +kernel
theorem dX9_symbols_207 : decode cX9_symbols 207 = .ok (.invokevirtual 210, 3) := by decide +kernel
theorem dX9_symbols_210 : decode cX9_symbols 210 = .ok (.istore 5, 2) := by decide +kernel
theorem dX9_symbols_212 : decode cX9_symbols 212 = .ok (.iload 5, 2) := by decide +kernel
theorem dX9_symbols_214 : decode cX9_symbols 214 = .ok (.ifCond .lt 57, 3) := by decide +kernel
theorem dX9_symbols_217 : decode cX9_symbols 217 = .ok (.aload_n 0, 1) := by decide +kernel
theorem dX9_symbols_218 : decode cX9_symbols 218 = .ok (.aload_n 0, 1) := by decide +kernel
theorem dX9_symbols_219 : decode cX9_symbols 219 = .ok (.getfield 15, 3) := by decide +kernel
theorem dX9_symbols_222 : decode cX9_symbols 222 = .ok (.iload 5, 2) := by decide +kernel
theorem dX9_symbols_224 : decode cX9_symbols 224 = .ok (.iaload, 1) := by decide +kernel
theorem dX9_symbols_225 : decode cX9_symbols 225 = .ok (.iconst 2, 1) := by decide +kernel
theorem dX9_symbols_226 : decode cX9_symbols 226 = .ok (.if_icmp .ne 18, 3) := by decide +kernel
theorem dX9_symbols_229 : decode cX9_symbols 229 = .ok (.aload_n 0, 1) := by decide +kernel
theorem dX9_symbols_230 : decode cX9_symbols 230 = .ok (.iload_n 1, 1) := by decide +kernel
theorem dX9_symbols_231 : decode cX9_symbols 231 = .ok (.aload_n 0, 1) := by decide +kernel
theorem dX9_symbols_232 : decode cX9_symbols 232 = .ok (.iload 5, 2) := by decide +kernel
theorem dX9_symbols_234 : decode cX9_symbols 234 = .ok (.invokevirtual 266, 3) := by decide +kernel
theorem dX9_symbols_237 : decode cX9_symbols 237 = .ok (.ifCond .lt 7, 3) := by decide +kernel
theorem dX9_symbols_240 : decode cX9_symbols 240 = .ok (.iconst 1, 1) := by decide +kernel
theorem dX9_symbols_241 : decode cX9_symbols 241 = .ok (.goto 4, 3) := by decide +kernel
theorem dX9_symbols_244 : decode cX9_symbols 244 = .ok (.iconst 0, 1) := by decide +kernel
theorem dX9_symbols_245 : decode cX9_symbols 245 = .ok (.bipush 12, 2) := by decide +kernel
theorem dX9_symbols_247 : decode cX9_symbols 247 = .ok (.aload_n 0, 1) := by decide +kernel
theorem dX9_symbols_248 : decode cX9_symbols 248 = .ok (.getfield 19, 3) := by decide +kernel
theorem dX9_symbols_251 : decode cX9_symbols 251 = .ok (.iload 5, 2) := by decide +kernel
theorem dX9_symbols_253 : decode cX9_symbols 253 = .ok (.iaload, 1) := by decide +kernel
theorem dX9_symbols_254 : decode cX9_symbols 254 = .ok (.invokevirtual 105, 3) := by decide +kernel
theorem dX9_symbols_257 : decode cX9_symbols 257 = .ok (.aload_n 0, 1) := by decide +kernel
theorem dX9_symbols_258 : decode cX9_symbols 258 = .ok (.getfield 53, 3) := by decide +kernel
theorem dX9_symbols_261 : decode cX9_symbols 261 = .ok (.iload_n 1, 1) := by decide +kernel
theorem dX9_symbols_262 : decode cX9_symbols 262 = .ok (.aload_n 0, 1) := by decide +kernel
theorem dX9_symbols_263 : decode cX9_symbols 263 = .ok (.iload_n 1, 1) := by decide +kernel
theorem dX9_symbols_264 : decode cX9_symbols 264 = .ok (.aload_n 0, 1) := by decide +kernel
theorem dX9_symbols_265 : decode cX9_symbols 265 = .ok (.iload 5, 2) := by decide +kernel
theorem dX9_symbols_267 : decode cX9_symbols 267 = .ok (.invokevirtual 266, 3) := by decide +kernel
theorem dX9_symbols_270 : decode cX9_symbols 270 = .ok (.iastore, 1) := by decide +kernel
theorem dX9_symbols_271 : decode cX9_symbols 271 = .ok (.return_, 1) := by decide +kernel
abbrev cX9_schemaOf : ByteArray := prog_12_method_23_code
def yX9_schemaOf : MethodName := ⟨RX9, "schemaOf", "(IIZ)I"⟩
def wsX9_schemaOf : List Cond := .code yX9_schemaOf cX9_schemaOf 9 (some .int) :: sr_G
theorem dX9_schemaOf_0 : decode cX9_schemaOf 0 = .ok (.aload_n 0, 1) := by decide +kernel
theorem dX9_schemaOf_1 : decode cX9_schemaOf 1 = .ok (.aload_n 0, 1) := by decide +kernel
theorem dX9_schemaOf_2 : decode cX9_schemaOf 2 = .ok (.getfield 195, 3) := by decide +kernel
theorem dX9_schemaOf_5 : decode cX9_schemaOf 5 = .ok (.sipush 128, 3) := by decide +kernel
theorem dX9_schemaOf_8 : decode cX9_schemaOf 8 = .ok (.if_icmp .ge 7, 3) := by decide +kernel
theorem dX9_schemaOf_11 : decode cX9_schemaOf 11 = .ok (.iconst 1, 1) := by decide +kernel
theorem dX9_schemaOf_12 : decode cX9_schemaOf 12 = .ok (.goto 4, 3) := by decide +kernel
theorem dX9_schemaOf_15 : decode cX9_schemaOf 15 = .ok (.iconst 0, 1) := by decide +kernel
theorem dX9_schemaOf_16 : decode cX9_schemaOf 16 = .ok (.bipush 13, 2) := by decide +kernel
theorem dX9_schemaOf_18 : decode cX9_schemaOf 18 = .ok (.aload_n 0, 1) := by decide +kernel
theorem dX9_schemaOf_19 : decode cX9_schemaOf 19 = .ok (.getfield 19, 3) := by decide +kernel
theorem dX9_schemaOf_22 : decode cX9_schemaOf 22 = .ok (.iload_n 1, 1) := by decide +kernel
theorem dX9_schemaOf_23 : decode cX9_schemaOf 23 = .ok (.iaload, 1) := by decide +kernel
theorem dX9_schemaOf_24 : decode cX9_schemaOf 24 = .ok (.invokevirtual 105, 3) := by decide +kernel
theorem dX9_schemaOf_27 : decode cX9_schemaOf 27 = .ok (.aload_n 0, 1) := by decide +kernel
theorem dX9_schemaOf_28 : decode cX9_schemaOf 28 = .ok (.dup, 1) := by decide +kernel
theorem dX9_schemaOf_29 : decode cX9_schemaOf 29 = .ok (.getfield 195, 3) := by decide +kernel
theorem dX9_schemaOf_32 : decode cX9_schemaOf 32 = .ok (.iconst 1, 1) := by decide +kernel
theorem dX9_schemaOf_33 : decode cX9_schemaOf 33 = .ok (.iadd, 1) := by decide +kernel
theorem dX9_schemaOf_34 : decode cX9_schemaOf 34 = .ok (.putfield 195, 3) := by decide +kernel
theorem dX9_schemaOf_37 : decode cX9_schemaOf 37 = .ok (.aload_n 0, 1) := by decide +kernel
theorem dX9_schemaOf_38 : decode cX9_schemaOf 38 = .ok (.iload_n 2, 1) := by decide +kernel
theorem dX9_schemaOf_39 : decode cX9_schemaOf 39 = .ok (.bipush 16, 2) := by decide +kernel
theorem dX9_schemaOf_41 : decode cX9_schemaOf 41 = .ok (.if_icmp .ge 7, 3) := by decide +kernel
theorem dX9_schemaOf_44 : decode cX9_schemaOf 44 = .ok (.iconst 1, 1) := by decide +kernel
theorem dX9_schemaOf_45 : decode cX9_schemaOf 45 = .ok (.goto 4, 3) := by decide +kernel
theorem dX9_schemaOf_48 : decode cX9_schemaOf 48 = .ok (.iconst 0, 1) := by decide +kernel
theorem dX9_schemaOf_49 : decode cX9_schemaOf 49 = .ok (.bipush 14, 2) := by decide +kernel
theorem dX9_schemaOf_51 : decode cX9_schemaOf 51 = .ok (.aload_n 0, 1) := by decide +kernel
theorem dX9_schemaOf_52 : decode cX9_schemaOf 52 = .ok (.getfield 19, 3) := by decide +kernel
theorem dX9_schemaOf_55 : decode cX9_schemaOf 55 = .ok (.iload_n 1, 1) := by decide +kernel
theorem dX9_schemaOf_56 : decode cX9_schemaOf 56 = .ok (.iaload, 1) := by decide +kernel
theorem dX9_schemaOf_57 : decode cX9_schemaOf 57 = .ok (.invokevirtual 105, 3) := by decide +kernel
theorem dX9_schemaOf_60 : decode cX9_schemaOf 60 = .ok (.aload_n 0, 1) := by decide +kernel
theorem dX9_schemaOf_61 : decode cX9_schemaOf 61 = .ok (.getfield 15, 3) := by decide +kernel
theorem dX9_schemaOf_64 : decode cX9_schemaOf 64 = .ok (.iload_n 1, 1) := by decide +kernel
theorem dX9_schemaOf_65 : decode cX9_schemaOf 65 = .ok (.iaload, 1) := by decide +kernel
theorem dX9_schemaOf_66 : decode cX9_schemaOf 66 = .ok (.iconst 2, 1) := by decide +kernel
theorem dX9_schemaOf_67 : decode cX9_schemaOf 67 = .ok (.if_icmp .ne 51, 3) := by decide +kernel
theorem dX9_schemaOf_70 : decode cX9_schemaOf 70 = .ok (.aload_n 0, 1) := by decide +kernel
theorem dX9_schemaOf_71 : decode cX9_schemaOf 71 = .ok (.iload_n 1, 1) := by decide +kernel
theorem dX9_schemaOf_72 : decode cX9_schemaOf 72 = .ok (.invokevirtual 198, 3) := by decide +kernel
theorem dX9_schemaOf_75 : decode cX9_schemaOf 75 = .ok (.istore 4, 2) := by decide +kernel
theorem dX9_schemaOf_77 : decode cX9_schemaOf 77 = .ok (.iload 4, 2) := by decide +kernel
theorem dX9_schemaOf_79 : decode cX9_schemaOf 79 = .ok (.ifCond .lt 8, 3) := by decide +kernel
theorem dX9_schemaOf_82 : decode cX9_schemaOf 82 = .ok (.iload 4, 2) := by decide +kernel
theorem dX9_schemaOf_84 : decode cX9_schemaOf 84 = .ok (.goto 8, 3) := by decide +kernel
theorem dX9_schemaOf_87 : decode cX9_schemaOf 87 = .ok (.aload_n 0, 1) := by decide +kernel
theorem dX9_schemaOf_88 : decode cX9_schemaOf 88 = .ok (.iload_n 1, 1) := by decide +kernel
theorem dX9_schemaOf_89 : decode cX9_schemaOf 89 = .ok (.invokevirtual 201, 3) := by decide +kernel
theorem dX9_schemaOf_92 : decode cX9_schemaOf 92 = .ok (.istore 5, 2) := by decide +kernel
theorem dX9_schemaOf_94 : decode cX9_schemaOf 94 = .ok (.aload_n 0, 1) := by decide +kernel
theorem dX9_schemaOf_95 : decode cX9_schemaOf 95 = .ok (.iload 5, 2) := by decide +kernel
theorem dX9_schemaOf_97 : decode cX9_schemaOf 97 = .ok (.ifCond .lt 7, 3) := by decide +kernel
theorem dX9_schemaOf_100 : decode cX9_schemaOf 100 = .ok (.iconst 1, 1) := by decide +kernel
theorem dX9_schemaOf_101 : decode cX9_schemaOf 101 = .ok (.goto 4, 3) := by decide +kernel
theorem dX9_schemaOf_104 : decode cX9_schemaOf 104 = .ok (.iconst 0, 1) := by decide +kernel
theorem dX9_schemaOf_105 : decode cX9_schemaOf 105 = .ok (.iconst 3, 1) := by decide +kernel
theorem dX9_schemaOf_106 : decode cX9_schemaOf 106 = .ok (.aload_n 0, 1) := by decide +kernel
theorem dX9_schemaOf_107 : decode cX9_schemaOf 107 = .ok (.getfield 19, 3) := by decide +kernel
theorem dX9_schemaOf_110 : decode cX9_schemaOf 110 = .ok (.iload_n 1, 1) := by decide +kernel
theorem dX9_schemaOf_111 : decode cX9_schemaOf 111 = .ok (.iaload, 1) := by decide +kernel
theorem dX9_schemaOf_112 : decode cX9_schemaOf 112 = .ok (.invokevirtual 105, 3) := by decide +kernel
theorem dX9_schemaOf_115 : decode cX9_schemaOf 115 = .ok (.iload 5, 2) := by decide +kernel
theorem dX9_schemaOf_117 : decode cX9_schemaOf 117 = .ok (.ireturn, 1) := by decide +kernel
theorem dX9_schemaOf_118 : decode cX9_schemaOf 118 = .ok (.aload_n 0, 1) := by decide +kernel
theorem dX9_schemaOf_119 : decode cX9_schemaOf 119 = .ok (.getfield 15, 3) := by decide +kernel
theorem dX9_schemaOf_122 : decode cX9_schemaOf 122 = .ok (.iload_n 1, 1) := by decide +kernel
theorem dX9_schemaOf_123 : decode cX9_schemaOf 123 = .ok (.iaload, 1) := by decide +kernel
theorem dX9_schemaOf_124 : decode cX9_schemaOf 124 = .ok (.iconst 1, 1) := by decide +kernel
theorem dX9_schemaOf_125 : decode cX9_schemaOf 125 = .ok (.if_icmp .ne 11, 3) := by decide +kernel
theorem dX9_schemaOf_128 : decode cX9_schemaOf 128 = .ok (.aload_n 0, 1) := by decide +kernel
theorem dX9_schemaOf_129 : decode cX9_schemaOf 129 = .ok (.iload_n 1, 1) := by decide +kernel
theorem dX9_schemaOf_130 : decode cX9_schemaOf 130 = .ok (.iload_n 2, 1) := by decide +kernel
theorem dX9_schemaOf_131 : decode cX9_schemaOf 131 = .ok (.iload_n 3, 1) := by decide +kernel
theorem dX9_schemaOf_132 : decode cX9_schemaOf 132 = .ok (.invokevirtual 204, 3) := by decide +kernel
theorem dX9_schemaOf_135 : decode cX9_schemaOf 135 = .ok (.ireturn, 1) := by decide +kernel
theorem dX9_schemaOf_136 : decode cX9_schemaOf 136 = .ok (.aload_n 0, 1) := by decide +kernel
theorem dX9_schemaOf_137 : decode cX9_schemaOf 137 = .ok (.aload_n 0, 1) := by decide +kernel
theorem dX9_schemaOf_138 : decode cX9_schemaOf 138 = .ok (.getfield 15, 3) := by decide +kernel
theorem dX9_schemaOf_141 : decode cX9_schemaOf 141 = .ok (.iload_n 1, 1) := by decide +kernel
theorem dX9_schemaOf_142 : decode cX9_schemaOf 142 = .ok (.iaload, 1) := by decide +kernel
theorem dX9_schemaOf_143 : decode cX9_schemaOf 143 = .ok (.ifCond .ne 7, 3) := by decide +kernel
theorem dX9_schemaOf_146 : decode cX9_schemaOf 146 = .ok (.iconst 1, 1) := by decide +kernel
theorem dX9_schemaOf_147 : decode cX9_schemaOf 147 = .ok (.goto 4, 3) := by decide +kernel
theorem dX9_schemaOf_150 : decode cX9_schemaOf 150 = .ok (.iconst 0, 1) := by decide +kernel
theorem dX9_schemaOf_151 : decode cX9_schemaOf 151 = .ok (.iconst 2, 1) := by decide +kernel
theorem dX9_schemaOf_152 : decode cX9_schemaOf 152 = .ok (.aload_n 0, 1) := by decide +kernel
theorem dX9_schemaOf_153 : decode cX9_schemaOf 153 = .ok (.getfield 19, 3) := by decide +kernel
theorem dX9_schemaOf_156 : decode cX9_schemaOf 156 = .ok (.iload_n 1, 1) := by decide +kernel
theorem dX9_schemaOf_157 : decode cX9_schemaOf 157 = .ok (.iaload, 1) := by decide +kernel
theorem dX9_schemaOf_158 : decode cX9_schemaOf 158 = .ok (.invokevirtual 105, 3) := by decide +kernel
theorem dX9_schemaOf_161 : decode cX9_schemaOf 161 = .ok (.aload_n 0, 1) := by decide +kernel
theorem dX9_schemaOf_162 : decode cX9_schemaOf 162 = .ok (.iload_n 1, 1) := by decide +kernel
theorem dX9_schemaOf_163 : decode cX9_schemaOf 163 = .ok (.ldc 208, 2) := by decide +kernel
theorem dX9_schemaOf_165 : decode cX9_schemaOf 165 = .ok (.invokevirtual 210, 3) := by decide +kernel
theorem dX9_schemaOf_168 : decode cX9_schemaOf 168 = .ok (.istore 4, 2) := by decide +kernel
theorem dX9_schemaOf_170 : decode cX9_schemaOf 170 = .ok (.aload_n 0, 1) := by decide +kernel
theorem dX9_schemaOf_171 : decode cX9_schemaOf 171 = .ok (.iload 4, 2) := by decide +kernel
theorem dX9_schemaOf_173 : decode cX9_schemaOf 173 = .ok (.ifCond .lt 18, 3) := by decide +kernel
theorem dX9_schemaOf_176 : decode cX9_schemaOf 176 = .ok (.aload_n 0, 1) := by decide +kernel
theorem dX9_schemaOf_177 : decode cX9_schemaOf 177 = .ok (.getfield 15, 3) := by decide +kernel
theorem dX9_schemaOf_180 : decode cX9_schemaOf 180 = .ok (.iload 4, 2) := by decide +kernel
theorem dX9_schemaOf_182 : decode cX9_schemaOf 182 = .ok (.iaload, 1) := by decide +kernel
theorem dX9_schemaOf_183 : decode cX9_schemaOf 183 = .ok (.iconst 2, 1) := by decide +kernel
theorem dX9_schemaOf_184 : decode cX9_schemaOf 184 = .ok (.if_icmp .ne 7, 3) := by decide +kernel
theorem dX9_schemaOf_187 : decode cX9_schemaOf 187 = .ok (.iconst 1, 1) := by decide +kernel
theorem dX9_schemaOf_188 : decode cX9_schemaOf 188 = .ok (.goto 4, 3) := by decide +kernel
theorem dX9_schemaOf_191 : decode cX9_schemaOf 191 = .ok (.iconst 0, 1) := by decide +kernel
theorem dX9_schemaOf_192 : decode cX9_schemaOf 192 = .ok (.bipush 7, 2) := by decide +kernel
theorem dX9_schemaOf_194 : decode cX9_schemaOf 194 = .ok (.aload_n 0, 1) := by decide +kernel
theorem dX9_schemaOf_195 : decode cX9_schemaOf 195 = .ok (.getfield 19, 3) := by decide +kernel
theorem dX9_schemaOf_198 : decode cX9_schemaOf 198 = .ok (.iload_n 1, 1) := by decide +kernel
theorem dX9_schemaOf_199 : decode cX9_schemaOf 199 = .ok (.iaload, 1) := by decide +kernel
theorem dX9_schemaOf_200 : decode cX9_schemaOf 200 = .ok (.invokevirtual 105, 3) := by decide +kernel
theorem dX9_schemaOf_203 : decode cX9_schemaOf 203 = .ok (.aload_n 0, 1) := by decide +kernel
theorem dX9_schemaOf_204 : decode cX9_schemaOf 204 = .ok (.iload 4, 2) := by decide +kernel
theorem dX9_schemaOf_206 : decode cX9_schemaOf 206 = .ok (.invokevirtual 198, 3) := by decide +kernel
theorem dX9_schemaOf_209 : decode cX9_schemaOf 209 = .ok (.ifCond .lt 10, 3) := by decide +kernel
theorem dX9_schemaOf_212 : decode cX9_schemaOf 212 = .ok (.aload_n 0, 1) := by decide +kernel
theorem dX9_schemaOf_213 : decode cX9_schemaOf 213 = .ok (.iload 4, 2) := by decide +kernel
theorem dX9_schemaOf_215 : decode cX9_schemaOf 215 = .ok (.invokevirtual 198, 3) := by decide +kernel
theorem dX9_schemaOf_218 : decode cX9_schemaOf 218 = .ok (.ireturn, 1) := by decide +kernel
theorem dX9_schemaOf_219 : decode cX9_schemaOf 219 = .ok (.aload_n 0, 1) := by decide +kernel
theorem dX9_schemaOf_220 : decode cX9_schemaOf 220 = .ok (.iload 4, 2) := by decide +kernel
theorem dX9_schemaOf_222 : decode cX9_schemaOf 222 = .ok (.ldc 214, 2) := by decide +kernel
theorem dX9_schemaOf_224 : decode cX9_schemaOf 224 = .ok (.invokevirtual 177, 3) := by decide +kernel
theorem dX9_schemaOf_227 : decode cX9_schemaOf 227 = .ok (.ifCond .ne 14, 3) := by decide +kernel
theorem dX9_schemaOf_230 : decode cX9_schemaOf 230 = .ok (.aload_n 0, 1) := by decide +kernel
theorem dX9_schemaOf_231 : decode cX9_schemaOf 231 = .ok (.iload 4, 2) := by decide +kernel
theorem dX9_schemaOf_233 : decode cX9_schemaOf 233 = .ok (.ldc 216, 2) := by decide +kernel
theorem dX9_schemaOf_235 : decode cX9_schemaOf 235 = .ok (.invokevirtual 177, 3) := by decide +kernel
theorem dX9_schemaOf_238 : decode cX9_schemaOf 238 = .ok (.ifCond .eq 101, 3) := by decide +kernel
theorem dX9_schemaOf_241 : decode cX9_schemaOf 241 = .ok (.aload_n 0, 1) := by decide +kernel
theorem dX9_schemaOf_242 : decode cX9_schemaOf 242 = .ok (.iload 4, 2) := by decide +kernel
theorem dX9_schemaOf_244 : decode cX9_schemaOf 244 = .ok (.ldc 214, 2) := by decide +kernel
theorem dX9_schemaOf_246 : decode cX9_schemaOf 246 = .ok (.invokevirtual 177, 3) := by decide +kernel
theorem dX9_schemaOf_249 : decode cX9_schemaOf 249 = .ok (.istore 5, 2) := by decide +kernel
theorem dX9_schemaOf_251 : decode cX9_schemaOf 251 = .ok (.aload_n 0, 1) := by decide +kernel
theorem dX9_schemaOf_252 : decode cX9_schemaOf 252 = .ok (.iload_n 1, 1) := by decide +kernel
theorem dX9_schemaOf_253 : decode cX9_schemaOf 253 = .ok (.iload 5, 2) := by decide +kernel
theorem dX9_schemaOf_255 : decode cX9_schemaOf 255 = .ok (.ifCond .eq 8, 3) := by decide +kernel
theorem dX9_schemaOf_258 : decode cX9_schemaOf 258 = .ok (.ldc 218, 2) := by decide +kernel
theorem dX9_schemaOf_260 : decode cX9_schemaOf 260 = .ok (.goto 5, 3) := by decide +kernel
theorem dX9_schemaOf_263 : decode cX9_schemaOf 263 = .ok (.ldc 220, 2) := by decide +kernel
theorem dX9_schemaOf_265 : decode cX9_schemaOf 265 = .ok (.invokevirtual 210, 3) := by decide +kernel
theorem dX9_schemaOf_268 : decode cX9_schemaOf 268 = .ok (.istore 6, 2) := by decide +kernel
theorem dX9_schemaOf_270 : decode cX9_schemaOf 270 = .ok (.aload_n 0, 1) := by decide +kernel
theorem dX9_schemaOf_271 : decode cX9_schemaOf 271 = .ok (.iload 6, 2) := by decide +kernel
theorem dX9_schemaOf_273 : decode cX9_schemaOf 273 = .ok (.ifCond .lt 7, 3) := by decide +kernel
theorem dX9_schemaOf_276 : decode cX9_schemaOf 276 = .ok (.iconst 1, 1) := by decide +kernel
theorem dX9_schemaOf_277 : decode cX9_schemaOf 277 = .ok (.goto 4, 3) := by decide +kernel
theorem dX9_schemaOf_280 : decode cX9_schemaOf 280 = .ok (.iconst 0, 1) := by decide +kernel
theorem dX9_schemaOf_281 : decode cX9_schemaOf 281 = .ok (.bipush 8, 2) := by decide +kernel
theorem dX9_schemaOf_283 : decode cX9_schemaOf 283 = .ok (.aload_n 0, 1) := by decide +kernel
theorem dX9_schemaOf_284 : decode cX9_schemaOf 284 = .ok (.getfield 19, 3) := by decide +kernel
theorem dX9_schemaOf_287 : decode cX9_schemaOf 287 = .ok (.iload_n 1, 1) := by decide +kernel
theorem dX9_schemaOf_288 : decode cX9_schemaOf 288 = .ok (.iaload, 1) := by decide +kernel
theorem dX9_schemaOf_289 : decode cX9_schemaOf 289 = .ok (.invokevirtual 105, 3) := by decide +kernel
theorem dX9_schemaOf_292 : decode cX9_schemaOf 292 = .ok (.aload_n 0, 1) := by decide +kernel
theorem dX9_schemaOf_293 : decode cX9_schemaOf 293 = .ok (.iload 5, 2) := by decide +kernel
theorem dX9_schemaOf_295 : decode cX9_schemaOf 295 = .ok (.ifCond .eq 8, 3) := by decide +kernel
theorem dX9_schemaOf_298 : decode cX9_schemaOf 298 = .ok (.bipush 6, 2) := by decide +kernel
theorem dX9_schemaOf_300 : decode cX9_schemaOf 300 = .ok (.goto 5, 3) := by decide +kernel
theorem dX9_schemaOf_303 : decode cX9_schemaOf 303 = .ok (.bipush 7, 2) := by decide +kernel
theorem dX9_schemaOf_305 : decode cX9_schemaOf 305 = .ok (.invokevirtual 222, 3) := by decide +kernel
theorem dX9_schemaOf_308 : decode cX9_schemaOf 308 = .ok (.istore 7, 2) := by decide +kernel
theorem dX9_schemaOf_310 : decode cX9_schemaOf 310 = .ok (.aload_n 0, 1) := by decide +kernel
theorem dX9_schemaOf_311 : decode cX9_schemaOf 311 = .ok (.iload 7, 2) := by decide +kernel
theorem dX9_schemaOf_313 : decode cX9_schemaOf 313 = .ok (.iconst (-1), 1) := by decide +kernel
theorem dX9_schemaOf_314 : decode cX9_schemaOf 314 = .ok (.invokevirtual 225, 3) := by decide +kernel
theorem dX9_schemaOf_317 : decode cX9_schemaOf 317 = .ok (.istore 8, 2) := by decide +kernel
theorem dX9_schemaOf_319 : decode cX9_schemaOf 319 = .ok (.aload_n 0, 1) := by decide +kernel
theorem dX9_schemaOf_320 : decode cX9_schemaOf 320 = .ok (.getfield 56, 3) := by decide +kernel
theorem dX9_schemaOf_323 : decode cX9_schemaOf 323 = .ok (.iload 8, 2) := by decide +kernel
theorem dX9_schemaOf_325 : decode cX9_schemaOf 325 = .ok (.aload_n 0, 1) := by decide +kernel
theorem dX9_schemaOf_326 : decode cX9_schemaOf 326 = .ok (.iload 6, 2) := by decide +kernel
theorem dX9_schemaOf_328 : decode cX9_schemaOf 328 = .ok (.iload_n 2, 1) := by decide +kernel
theorem dX9_schemaOf_329 : decode cX9_schemaOf 329 = .ok (.iconst 1, 1) := by decide +kernel
theorem dX9_schemaOf_330 : decode cX9_schemaOf 330 = .ok (.iadd, 1) := by decide +kernel
theorem dX9_schemaOf_331 : decode cX9_schemaOf 331 = .ok (.iconst 0, 1) := by decide +kernel
theorem dX9_schemaOf_332 : decode cX9_schemaOf 332 = .ok (.invokevirtual 229, 3) := by decide +kernel
theorem dX9_schemaOf_335 : decode cX9_schemaOf 335 = .ok (.iastore, 1) := by decide +kernel
theorem dX9_schemaOf_336 : decode cX9_schemaOf 336 = .ok (.iload 7, 2) := by decide +kernel
theorem dX9_schemaOf_338 : decode cX9_schemaOf 338 = .ok (.ireturn, 1) := by decide +kernel
theorem dX9_schemaOf_339 : decode cX9_schemaOf 339 = .ok (.aload_n 0, 1) := by decide +kernel
theorem dX9_schemaOf_340 : decode cX9_schemaOf 340 = .ok (.iload 4, 2) := by decide +kernel
theorem dX9_schemaOf_342 : decode cX9_schemaOf 342 = .ok (.ldc 232, 2) := by decide +kernel
theorem dX9_schemaOf_344 : decode cX9_schemaOf 344 = .ok (.invokevirtual 177, 3) := by decide +kernel
theorem dX9_schemaOf_347 : decode cX9_schemaOf 347 = .ok (.ifCond .ne 25, 3) := by decide +kernel
theorem dX9_schemaOf_350 : decode cX9_schemaOf 350 = .ok (.aload_n 0, 1) := by decide +kernel
theorem dX9_schemaOf_351 : decode cX9_schemaOf 351 = .ok (.iload 4, 2) := by decide +kernel
theorem dX9_schemaOf_353 : decode cX9_schemaOf 353 = .ok (.ldc 234, 2) := by decide +kernel
theorem dX9_schemaOf_355 : decode cX9_schemaOf 355 = .ok (.invokevirtual 177, 3) := by decide +kernel
theorem dX9_schemaOf_358 : decode cX9_schemaOf 358 = .ok (.ifCond .ne 14, 3) := by decide +kernel
theorem dX9_schemaOf_361 : decode cX9_schemaOf 361 = .ok (.aload_n 0, 1) := by decide +kernel
theorem dX9_schemaOf_362 : decode cX9_schemaOf 362 = .ok (.iload 4, 2) := by decide +kernel
theorem dX9_schemaOf_364 : decode cX9_schemaOf 364 = .ok (.ldc 236, 2) := by decide +kernel
theorem dX9_schemaOf_366 : decode cX9_schemaOf 366 = .ok (.invokevirtual 177, 3) := by decide +kernel
theorem dX9_schemaOf_369 : decode cX9_schemaOf 369 = .ok (.ifCond .eq 12, 3) := by decide +kernel
theorem dX9_schemaOf_372 : decode cX9_schemaOf 372 = .ok (.aload_n 0, 1) := by decide +kernel
theorem dX9_schemaOf_373 : decode cX9_schemaOf 373 = .ok (.iload_n 1, 1) := by decide +kernel
theorem dX9_schemaOf_374 : decode cX9_schemaOf 374 = .ok (.iload 4, 2) := by decide +kernel
theorem dX9_schemaOf_376 : decode cX9_schemaOf 376 = .ok (.iload_n 2, 1) := by decide +kernel
theorem dX9_schemaOf_377 : decode cX9_schemaOf 377 = .ok (.invokevirtual 238, 3) := by decide +kernel
theorem dX9_schemaOf_380 : decode cX9_schemaOf 380 = .ok (.ireturn, 1) := by decide +kernel
theorem dX9_schemaOf_381 : decode cX9_schemaOf 381 = .ok (.aload_n 0, 1) := by decide +kernel
theorem dX9_schemaOf_382 : decode cX9_schemaOf 382 = .ok (.iload 4, 2) := by decide +kernel
theorem dX9_schemaOf_384 : decode cX9_schemaOf 384 = .ok (.invokevirtual 201, 3) := by decide +kernel
theorem dX9_schemaOf_387 : decode cX9_schemaOf 387 = .ok (.istore 5, 2) := by decide +kernel
theorem dX9_schemaOf_389 : decode cX9_schemaOf 389 = .ok (.aload_n 0, 1) := by decide +kernel
theorem dX9_schemaOf_390 : decode cX9_schemaOf 390 = .ok (.iload 5, 2) := by decide +kernel
theorem dX9_schemaOf_392 : decode cX9_schemaOf 392 = .ok (.ifCond .lt 7, 3) := by decide +kernel
theorem dX9_schemaOf_395 : decode cX9_schemaOf 395 = .ok (.iconst 1, 1) := by decide +kernel
theorem dX9_schemaOf_396 : decode cX9_schemaOf 396 = .ok (.goto 4, 3) := by decide +kernel
theorem dX9_schemaOf_399 : decode cX9_schemaOf 399 = .ok (.iconst 0, 1) := by decide +kernel
theorem dX9_schemaOf_400 : decode cX9_schemaOf 400 = .ok (.iconst 3, 1) := by decide +kernel
theorem dX9_schemaOf_401 : decode cX9_schemaOf 401 = .ok (.aload_n 0, 1) := by decide +kernel
theorem dX9_schemaOf_402 : decode cX9_schemaOf 402 = .ok (.getfield 19, 3) := by decide +kernel
theorem dX9_schemaOf_405 : decode cX9_schemaOf 405 = .ok (.iload 4, 2) := by decide +kernel
theorem dX9_schemaOf_407 : decode cX9_schemaOf 407 = .ok (.iaload, 1) := by decide +kernel
theorem dX9_schemaOf_408 : decode cX9_schemaOf 408 = .ok (.invokevirtual 105, 3) := by decide +kernel
theorem dX9_schemaOf_411 : decode cX9_schemaOf 411 = .ok (.iload 5, 2) := by decide +kernel
theorem dX9_schemaOf_413 : decode cX9_schemaOf 413 = .ok (.ireturn, 1) := by decide +kernel
abbrev cX9_union : ByteArray := prog_12_method_25_code
def yX9_union : MethodName := ⟨RX9, "union", "(IIZ)I"⟩
def wsX9_union : List Cond := .code yX9_union cX9_union 9 (some .int) :: sr_G
theorem dX9_union_0 : decode cX9_union 0 = .ok (.aload_n 0, 1) := by decide +kernel
theorem dX9_union_1 : decode cX9_union 1 = .ok (.iload_n 3, 1) := by decide +kernel
theorem dX9_union_2 : decode cX9_union 2 = .ok (.ifCond .ne 7, 3) := by decide +kernel
theorem dX9_union_5 : decode cX9_union 5 = .ok (.iconst 1, 1) := by decide +kernel
theorem dX9_union_6 : decode cX9_union 6 = .ok (.goto 4, 3) := by decide +kernel
theorem dX9_union_9 : decode cX9_union 9 = .ok (.iconst 0, 1) := by decide +kernel
theorem dX9_union_10 : decode cX9_union 10 = .ok (.iconst 4, 1) := by decide +kernel
theorem dX9_union_11 : decode cX9_union 11 = .ok (.aload_n 0, 1) := by decide +kernel
theorem dX9_union_12 : decode cX9_union 12 = .ok (.getfield 19, 3) := by decide +kernel
theorem dX9_union_15 : decode cX9_union 15 = .ok (.iload_n 1, 1) := by decide +kernel
theorem dX9_union_16 : decode cX9_union 16 = .ok (.iaload, 1) := by decide +kernel
theorem dX9_union_17 : decode cX9_union 17 = .ok (.invokevirtual 105, 3) := by decide +kernel
theorem dX9_union_20 : decode cX9_union 20 = .ok (.aload_n 0, 1) := by decide +kernel
theorem dX9_union_21 : decode cX9_union 21 = .ok (.aload_n 0, 1) := by decide +kernel
theorem dX9_union_22 : decode cX9_union 22 = .ok (.getfield 26, 3) := by decide +kernel
theorem dX9_union_25 : decode cX9_union 25 = .ok (.iload_n 1, 1) := by decide +kernel
theorem dX9_union_26 : decode cX9_union 26 = .ok (.iaload, 1) := by decide +kernel
theorem dX9_union_27 : decode cX9_union 27 = .ok (.ifCond .le 18, 3) := by decide +kernel
theorem dX9_union_30 : decode cX9_union 30 = .ok (.aload_n 0, 1) := by decide +kernel
theorem dX9_union_31 : decode cX9_union 31 = .ok (.getfield 26, 3) := by decide +kernel
theorem dX9_union_34 : decode cX9_union 34 = .ok (.iload_n 1, 1) := by decide +kernel
theorem dX9_union_35 : decode cX9_union 35 = .ok (.iaload, 1) := by decide +kernel
theorem dX9_union_36 : decode cX9_union 36 = .ok (.bipush 17, 2) := by decide +kernel
theorem dX9_union_38 : decode cX9_union 38 = .ok (.if_icmp .ge 7, 3) := by decide +kernel
theorem dX9_union_41 : decode cX9_union 41 = .ok (.iconst 1, 1) := by decide +kernel
theorem dX9_union_42 : decode cX9_union 42 = .ok (.goto 4, 3) := by decide +kernel
theorem dX9_union_45 : decode cX9_union 45 = .ok (.iconst 0, 1) := by decide +kernel
theorem dX9_union_46 : decode cX9_union 46 = .ok (.iconst 5, 1) := by decide +kernel
theorem dX9_union_47 : decode cX9_union 47 = .ok (.aload_n 0, 1) := by decide +kernel
theorem dX9_union_48 : decode cX9_union 48 = .ok (.getfield 19, 3) := by decide +kernel
theorem dX9_union_51 : decode cX9_union 51 = .ok (.iload_n 1, 1) := by decide +kernel
theorem dX9_union_52 : decode cX9_union 52 = .ok (.iaload, 1) := by decide +kernel
theorem dX9_union_53 : decode cX9_union 53 = .ok (.invokevirtual 105, 3) := by decide +kernel
theorem dX9_union_56 : decode cX9_union 56 = .ok (.aload_n 0, 1) := by decide +kernel
theorem dX9_union_57 : decode cX9_union 57 = .ok (.bipush 8, 2) := by decide +kernel
theorem dX9_union_59 : decode cX9_union 59 = .ok (.invokevirtual 222, 3) := by decide +kernel
theorem dX9_union_62 : decode cX9_union 62 = .ok (.istore 4, 2) := by decide +kernel
theorem dX9_union_64 : decode cX9_union 64 = .ok (.iconst (-1), 1) := by decide +kernel
theorem dX9_union_65 : decode cX9_union 65 = .ok (.istore 5, 2) := by decide +kernel
theorem dX9_union_67 : decode cX9_union 67 = .ok (.aload_n 0, 1) := by decide +kernel
theorem dX9_union_68 : decode cX9_union 68 = .ok (.getfield 29, 3) := by decide +kernel
theorem dX9_union_71 : decode cX9_union 71 = .ok (.iload_n 1, 1) := by decide +kernel
theorem dX9_union_72 : decode cX9_union 72 = .ok (.iaload, 1) := by decide +kernel
theorem dX9_union_73 : decode cX9_union 73 = .ok (.istore 6, 2) := by decide +kernel
theorem dX9_union_75 : decode cX9_union 75 = .ok (.iload 6, 2) := by decide +kernel
theorem dX9_union_77 : decode cX9_union 77 = .ok (.ifCond .lt 106, 3) := by decide +kernel
theorem dX9_union_80 : decode cX9_union 80 = .ok (.aload_n 0, 1) := by decide +kernel
theorem dX9_union_81 : decode cX9_union 81 = .ok (.iload 6, 2) := by decide +kernel
theorem dX9_union_83 : decode cX9_union 83 = .ok (.iload_n 2, 1) := by decide +kernel
theorem dX9_union_84 : decode cX9_union 84 = .ok (.iconst 1, 1) := by decide +kernel
theorem dX9_union_85 : decode cX9_union 85 = .ok (.iadd, 1) := by decide +kernel
theorem dX9_union_86 : decode cX9_union 86 = .ok (.iconst 1, 1) := by decide +kernel
theorem dX9_union_87 : decode cX9_union 87 = .ok (.invokevirtual 229, 3) := by decide +kernel
theorem dX9_union_90 : decode cX9_union 90 = .ok (.istore 7, 2) := by decide +kernel
theorem dX9_union_92 : decode cX9_union 92 = .ok (.aload_n 0, 1) := by decide +kernel
theorem dX9_union_93 : decode cX9_union 93 = .ok (.getfield 47, 3) := by decide +kernel
theorem dX9_union_96 : decode cX9_union 96 = .ok (.iload 4, 2) := by decide +kernel
theorem dX9_union_98 : decode cX9_union 98 = .ok (.iaload, 1) := by decide +kernel
theorem dX9_union_99 : decode cX9_union 99 = .ok (.istore 8, 2) := by decide +kernel
theorem dX9_union_101 : decode cX9_union 101 = .ok (.iload 8, 2) := by decide +kernel
theorem dX9_union_103 : decode cX9_union 103 = .ok (.ifCond .lt 49, 3) := by decide +kernel
theorem dX9_union_106 : decode cX9_union 106 = .ok (.aload_n 0, 1) := by decide +kernel
theorem dX9_union_107 : decode cX9_union 107 = .ok (.aload_n 0, 1) := by decide +kernel
theorem dX9_union_108 : decode cX9_union 108 = .ok (.aload_n 0, 1) := by decide +kernel
theorem dX9_union_109 : decode cX9_union 109 = .ok (.getfield 56, 3) := by decide +kernel
theorem dX9_union_112 : decode cX9_union 112 = .ok (.iload 8, 2) := by decide +kernel
theorem dX9_union_114 : decode cX9_union 114 = .ok (.iaload, 1) := by decide +kernel
theorem dX9_union_115 : decode cX9_union 115 = .ok (.iload 7, 2) := by decide +kernel
theorem dX9_union_117 : decode cX9_union 117 = .ok (.invokevirtual 242, 3) := by decide +kernel
theorem dX9_union_120 : decode cX9_union 120 = .ok (.ifCond .ne 7, 3) := by decide +kernel
theorem dX9_union_123 : decode cX9_union 123 = .ok (.iconst 1, 1) := by decide +kernel
theorem dX9_union_124 : decode cX9_union 124 = .ok (.goto 4, 3) := by decide +kernel
theorem dX9_union_127 : decode cX9_union 127 = .ok (.iconst 0, 1) := by decide +kernel
theorem dX9_union_128 : decode cX9_union 128 = .ok (.bipush 6, 2) := by decide +kernel
theorem dX9_union_130 : decode cX9_union 130 = .ok (.aload_n 0, 1) := by decide +kernel
theorem dX9_union_131 : decode cX9_union 131 = .ok (.getfield 19, 3) := by decide +kernel
theorem dX9_union_134 : decode cX9_union 134 = .ok (.iload 6, 2) := by decide +kernel
theorem dX9_union_136 : decode cX9_union 136 = .ok (.iaload, 1) := by decide +kernel
theorem dX9_union_137 : decode cX9_union 137 = .ok (.invokevirtual 105, 3) := by decide +kernel
theorem dX9_union_140 : decode cX9_union 140 = .ok (.aload_n 0, 1) := by decide +kernel
theorem dX9_union_141 : decode cX9_union 141 = .ok (.getfield 65, 3) := by decide +kernel
theorem dX9_union_144 : decode cX9_union 144 = .ok (.iload 8, 2) := by decide +kernel
theorem dX9_union_146 : decode cX9_union 146 = .ok (.iaload, 1) := by decide +kernel
theorem dX9_union_147 : decode cX9_union 147 = .ok (.istore 8, 2) := by decide +kernel
theorem dX9_union_149 : decode cX9_union 149 = .ok (.goto (-48), 3) := by decide +kernel
theorem dX9_union_152 : decode cX9_union 152 = .ok (.aload_n 0, 1) := by decide +kernel
theorem dX9_union_153 : decode cX9_union 153 = .ok (.iload 4, 2) := by decide +kernel
theorem dX9_union_155 : decode cX9_union 155 = .ok (.iload 5, 2) := by decide +kernel
theorem dX9_union_157 : decode cX9_union 157 = .ok (.invokevirtual 225, 3) := by decide +kernel
theorem dX9_union_160 : decode cX9_union 160 = .ok (.istore 5, 2) := by decide +kernel
theorem dX9_union_162 : decode cX9_union 162 = .ok (.aload_n 0, 1) := by decide +kernel
theorem dX9_union_163 : decode cX9_union 163 = .ok (.getfield 56, 3) := by decide +kernel
theorem dX9_union_166 : decode cX9_union 166 = .ok (.iload 5, 2) := by decide +kernel
theorem dX9_union_168 : decode cX9_union 168 = .ok (.iload 7, 2) := by decide +kernel
theorem dX9_union_170 : decode cX9_union 170 = .ok (.iastore, 1) := by decide +kernel
theorem dX9_union_171 : decode cX9_union 171 = .ok (.aload_n 0, 1) := by decide +kernel
theorem dX9_union_172 : decode cX9_union 172 = .ok (.getfield 32, 3) := by decide +kernel
theorem dX9_union_175 : decode cX9_union 175 = .ok (.iload 6, 2) := by decide +kernel
theorem dX9_union_177 : decode cX9_union 177 = .ok (.iaload, 1) := by decide +kernel
theorem dX9_union_178 : decode cX9_union 178 = .ok (.istore 6, 2) := by decide +kernel
theorem dX9_union_180 : decode cX9_union 180 = .ok (.goto (-105), 3) := by decide +kernel
theorem dX9_union_183 : decode cX9_union 183 = .ok (.iload 4, 2) := by decide +kernel
theorem dX9_union_185 : decode cX9_union 185 = .ok (.ireturn, 1) := by decide +kernel
abbrev cX9_named : ByteArray := prog_12_method_26_code
def yX9_named : MethodName := ⟨RX9, "named", "(III)I"⟩
def wsX9_named : List Cond := .code yX9_named cX9_named 8 (some .int) :: sr_G
theorem dX9_named_0 : decode cX9_named 0 = .ok (.aload_n 0, 1) := by decide +kernel
theorem dX9_named_1 : decode cX9_named 1 = .ok (.iload_n 1, 1) := by decide +kernel
theorem dX9_named_2 : decode cX9_named 2 = .ok (.ldc 246, 2) := by decide +kernel
theorem dX9_named_4 : decode cX9_named 4 = .ok (.invokevirtual 210, 3) := by decide +kernel
theorem dX9_named_7 : decode cX9_named 7 = .ok (.istore 4, 2) := by decide +kernel
theorem dX9_named_9 : decode cX9_named 9 = .ok (.aload_n 0, 1) := by decide +kernel
theorem dX9_named_10 : decode cX9_named 10 = .ok (.iload 4, 2) := by decide +kernel
theorem dX9_named_12 : decode cX9_named 12 = .ok (.ifCond .lt 18, 3) := by decide +kernel
theorem dX9_named_15 : decode cX9_named 15 = .ok (.aload_n 0, 1) := by decide +kernel
theorem dX9_named_16 : decode cX9_named 16 = .ok (.getfield 15, 3) := by decide +kernel
theorem dX9_named_19 : decode cX9_named 19 = .ok (.iload 4, 2) := by decide +kernel
theorem dX9_named_21 : decode cX9_named 21 = .ok (.iaload, 1) := by decide +kernel
theorem dX9_named_22 : decode cX9_named 22 = .ok (.iconst 2, 1) := by decide +kernel
theorem dX9_named_23 : decode cX9_named 23 = .ok (.if_icmp .ne 7, 3) := by decide +kernel
theorem dX9_named_26 : decode cX9_named 26 = .ok (.iconst 1, 1) := by decide +kernel
theorem dX9_named_27 : decode cX9_named 27 = .ok (.goto 4, 3) := by decide +kernel
theorem dX9_named_30 : decode cX9_named 30 = .ok (.iconst 0, 1) := by decide +kernel
theorem dX9_named_31 : decode cX9_named 31 = .ok (.bipush 8, 2) := by decide +kernel
theorem dX9_named_33 : decode cX9_named 33 = .ok (.aload_n 0, 1) := by decide +kernel
theorem dX9_named_34 : decode cX9_named 34 = .ok (.getfield 19, 3) := by decide +kernel
theorem dX9_named_37 : decode cX9_named 37 = .ok (.iload_n 1, 1) := by decide +kernel
theorem dX9_named_38 : decode cX9_named 38 = .ok (.iaload, 1) := by decide +kernel
theorem dX9_named_39 : decode cX9_named 39 = .ok (.invokevirtual 105, 3) := by decide +kernel
theorem dX9_named_42 : decode cX9_named 42 = .ok (.aload_n 0, 1) := by decide +kernel
theorem dX9_named_43 : decode cX9_named 43 = .ok (.iload 4, 2) := by decide +kernel
theorem dX9_named_45 : decode cX9_named 45 = .ok (.invokevirtual 248, 3) := by decide +kernel
theorem dX9_named_48 : decode cX9_named 48 = .ok (.ifCond .eq 80, 3) := by decide +kernel
theorem dX9_named_51 : decode cX9_named 51 = .ok (.aload_n 0, 1) := by decide +kernel
theorem dX9_named_52 : decode cX9_named 52 = .ok (.iload 4, 2) := by decide +kernel
theorem dX9_named_54 : decode cX9_named 54 = .ok (.invokevirtual 198, 3) := by decide +kernel
theorem dX9_named_57 : decode cX9_named 57 = .ok (.ifCond .ge 71, 3) := by decide +kernel
theorem dX9_named_60 : decode cX9_named 60 = .ok (.aload_n 0, 1) := by decide +kernel
theorem dX9_named_61 : decode cX9_named 61 = .ok (.iload 4, 2) := by decide +kernel
theorem dX9_named_63 : decode cX9_named 63 = .ok (.ldc 214, 2) := by decide +kernel
theorem dX9_named_65 : decode cX9_named 65 = .ok (.invokevirtual 177, 3) := by decide +kernel
theorem dX9_named_68 : decode cX9_named 68 = .ok (.ifCond .ne 60, 3) := by decide +kernel
theorem dX9_named_71 : decode cX9_named 71 = .ok (.aload_n 0, 1) := by decide +kernel
theorem dX9_named_72 : decode cX9_named 72 = .ok (.iload 4, 2) := by decide +kernel
theorem dX9_named_74 : decode cX9_named 74 = .ok (.ldc 216, 2) := by decide +kernel
theorem dX9_named_76 : decode cX9_named 76 = .ok (.invokevirtual 177, 3) := by decide +kernel
theorem dX9_named_79 : decode cX9_named 79 = .ok (.ifCond .ne 49, 3) := by decide +kernel
theorem dX9_named_82 : decode cX9_named 82 = .ok (.aload_n 0, 1) := by decide +kernel
theorem dX9_named_83 : decode cX9_named 83 = .ok (.iload 4, 2) := by decide +kernel
theorem dX9_named_85 : decode cX9_named 85 = .ok (.ldc 232, 2) := by decide +kernel
theorem dX9_named_87 : decode cX9_named 87 = .ok (.invokevirtual 177, 3) := by decide +kernel
theorem dX9_named_90 : decode cX9_named 90 = .ok (.ifCond .ne 38, 3) := by decide +kernel
theorem dX9_named_93 : decode cX9_named 93 = .ok (.aload_n 0, 1) := by decide +kernel
theorem dX9_named_94 : decode cX9_named 94 = .ok (.iload 4, 2) := by decide +kernel
theorem dX9_named_96 : decode cX9_named 96 = .ok (.ldc 234, 2) := by decide +kernel
theorem dX9_named_98 : decode cX9_named 98 = .ok (.invokevirtual 177, 3) := by decide +kernel
theorem dX9_named_101 : decode cX9_named 101 = .ok (.ifCond .ne 27, 3) := by decide +kernel
theorem dX9_named_104 : decode cX9_named 104 = .ok (.aload_n 0, 1) := by decide +kernel
theorem dX9_named_105 : decode cX9_named 105 = .ok (.iload 4, 2) := by decide +kernel
theorem dX9_named_107 : decode cX9_named 107 = .ok (.ldc 236, 2) := by decide +kernel
theorem dX9_named_109 : decode cX9_named 109 = .ok (.invokevirtual 177, 3) := by decide +kernel
theorem dX9_named_112 : decode cX9_named 112 = .ok (.ifCond .ne 16, 3) := by decide +kernel
theorem dX9_named_115 : decode cX9_named 115 = .ok (.aload_n 0, 1) := by decide +kernel
theorem dX9_named_116 : decode cX9_named 116 = .ok (.iload 4, 2) := by decide +kernel
theorem dX9_named_118 : decode cX9_named 118 = .ok (.invokevirtual 201, 3) := by decide +kernel
theorem dX9_named_121 : decode cX9_named 121 = .ok (.ifCond .ge 7, 3) := by decide +kernel
theorem dX9_named_124 : decode cX9_named 124 = .ok (.iconst 1, 1) := by decide +kernel
theorem dX9_named_125 : decode cX9_named 125 = .ok (.goto 4, 3) := by decide +kernel
theorem dX9_named_128 : decode cX9_named 128 = .ok (.iconst 0, 1) := by decide +kernel
theorem dX9_named_129 : decode cX9_named 129 = .ok (.istore 5, 2) := by decide +kernel
theorem dX9_named_131 : decode cX9_named 131 = .ok (.aload_n 0, 1) := by decide +kernel
theorem dX9_named_132 : decode cX9_named 132 = .ok (.iload 5, 2) := by decide +kernel
theorem dX9_named_134 : decode cX9_named 134 = .ok (.bipush 9, 2) := by decide +kernel
theorem dX9_named_136 : decode cX9_named 136 = .ok (.aload_n 0, 1) := by decide +kernel
theorem dX9_named_137 : decode cX9_named 137 = .ok (.getfield 19, 3) := by decide +kernel
theorem dX9_named_140 : decode cX9_named 140 = .ok (.iload 4, 2) := by decide +kernel
theorem dX9_named_142 : decode cX9_named 142 = .ok (.iaload, 1) := by decide +kernel
theorem dX9_named_143 : decode cX9_named 143 = .ok (.invokevirtual 105, 3) := by decide +kernel
theorem dX9_named_146 : decode cX9_named 146 = .ok (.aload_n 0, 1) := by decide +kernel
theorem dX9_named_147 : decode cX9_named 147 = .ok (.aload_n 0, 1) := by decide +kernel
theorem dX9_named_148 : decode cX9_named 148 = .ok (.iload_n 2, 1) := by decide +kernel
theorem dX9_named_149 : decode cX9_named 149 = .ok (.ldc 232, 2) := by decide +kernel
theorem dX9_named_151 : decode cX9_named 151 = .ok (.invokevirtual 177, 3) := by decide +kernel
theorem dX9_named_154 : decode cX9_named 154 = .ok (.ifCond .eq 8, 3) := by decide +kernel
theorem dX9_named_157 : decode cX9_named 157 = .ok (.bipush 9, 2) := by decide +kernel
theorem dX9_named_159 : decode cX9_named 159 = .ok (.goto 20, 3) := by decide +kernel
theorem dX9_named_162 : decode cX9_named 162 = .ok (.aload_n 0, 1) := by decide +kernel
theorem dX9_named_163 : decode cX9_named 163 = .ok (.iload_n 2, 1) := by decide +kernel
theorem dX9_named_164 : decode cX9_named 164 = .ok (.ldc 234, 2) := by decide +kernel
theorem dX9_named_166 : decode cX9_named 166 = .ok (.invokevirtual 177, 3) := by decide +kernel
theorem dX9_named_169 : decode cX9_named 169 = .ok (.ifCond .eq 8, 3) := by decide +kernel
theorem dX9_named_172 : decode cX9_named 172 = .ok (.bipush 10, 2) := by decide +kernel
theorem dX9_named_174 : decode cX9_named 174 = .ok (.goto 5, 3) := by decide +kernel
theorem dX9_named_177 : decode cX9_named 177 = .ok (.bipush 11, 2) := by decide +kernel
theorem dX9_named_179 : decode cX9_named 179 = .ok (.invokevirtual 222, 3) := by decide +kernel
theorem dX9_named_182 : decode cX9_named 182 = .ok (.istore 6, 2) := by decide +kernel
theorem dX9_named_184 : decode cX9_named 184 = .ok (.aload_n 0, 1) := by decide +kernel
theorem dX9_named_185 : decode cX9_named 185 = .ok (.getfield 41, 3) := by decide +kernel
theorem dX9_named_188 : decode cX9_named 188 = .ok (.iload 6, 2) := by decide +kernel
theorem dX9_named_190 : decode cX9_named 190 = .ok (.iload 4, 2) := by decide +kernel
theorem dX9_named_192 : decode cX9_named 192 = .ok (.iastore, 1) := by decide +kernel
theorem dX9_named_193 : decode cX9_named 193 = .ok (.aload_n 0, 1) := by decide +kernel
theorem dX9_named_194 : decode cX9_named 194 = .ok (.getfield 38, 3) := by decide +kernel
theorem dX9_named_197 : decode cX9_named 197 = .ok (.iload 6, 2) := by decide +kernel
theorem dX9_named_199 : decode cX9_named 199 = .ok (.iaload, 1) := by decide +kernel
theorem dX9_named_200 : decode cX9_named 200 = .ok (.bipush 9, 2) := by decide +kernel
theorem dX9_named_202 : decode cX9_named 202 = .ok (.if_icmp .ne 107, 3) := by decide +kernel
theorem dX9_named_205 : decode cX9_named 205 = .ok (.aload_n 0, 1) := by decide +kernel
theorem dX9_named_206 : decode cX9_named 206 = .ok (.iload_n 1, 1) := by decide +kernel
theorem dX9_named_207 : decode cX9_named 207 = .ok (.ldc 252, 2) := by decide +kernel
theorem dX9_named_209 : decode cX9_named 209 = .ok (.invokevirtual 210, 3) := by decide +kernel
theorem dX9_named_212 : decode cX9_named 212 = .ok (.istore 7, 2) := by decide +kernel
theorem dX9_named_214 : decode cX9_named 214 = .ok (.aload_n 0, 1) := by decide +kernel
theorem dX9_named_215 : decode cX9_named 215 = .ok (.iload 7, 2) := by decide +kernel
theorem dX9_named_217 : decode cX9_named 217 = .ok (.ifCond .lt 7, 3) := by decide +kernel
theorem dX9_named_220 : decode cX9_named 220 = .ok (.iconst 1, 1) := by decide +kernel
theorem dX9_named_221 : decode cX9_named 221 = .ok (.goto 4, 3) := by decide +kernel
theorem dX9_named_224 : decode cX9_named 224 = .ok (.iconst 0, 1) := by decide +kernel
theorem dX9_named_225 : decode cX9_named 225 = .ok (.bipush 8, 2) := by decide +kernel
theorem dX9_named_227 : decode cX9_named 227 = .ok (.aload_n 0, 1) := by decide +kernel
theorem dX9_named_228 : decode cX9_named 228 = .ok (.getfield 19, 3) := by decide +kernel
theorem dX9_named_231 : decode cX9_named 231 = .ok (.iload_n 1, 1) := by decide +kernel
theorem dX9_named_232 : decode cX9_named 232 = .ok (.iaload, 1) := by decide +kernel
theorem dX9_named_233 : decode cX9_named 233 = .ok (.invokevirtual 105, 3) := by decide +kernel
theorem dX9_named_236 : decode cX9_named 236 = .ok (.aload_n 0, 1) := by decide +kernel
theorem dX9_named_237 : decode cX9_named 237 = .ok (.aload_n 0, 1) := by decide +kernel
theorem dX9_named_238 : decode cX9_named 238 = .ok (.getfield 15, 3) := by decide +kernel
theorem dX9_named_241 : decode cX9_named 241 = .ok (.iload 7, 2) := by decide +kernel
theorem dX9_named_243 : decode cX9_named 243 = .ok (.iaload, 1) := by decide +kernel
theorem dX9_named_244 : decode cX9_named 244 = .ok (.iconst 3, 1) := by decide +kernel
theorem dX9_named_245 : decode cX9_named 245 = .ok (.if_icmp .ne 33, 3) := by decide +kernel
theorem dX9_named_248 : decode cX9_named 248 = .ok (.aload_n 0, 1) := by decide +kernel
theorem dX9_named_249 : decode cX9_named 249 = .ok (.getfield 22, 3) := by decide +kernel
theorem dX9_named_252 : decode cX9_named 252 = .ok (.iload 7, 2) := by decide +kernel
theorem dX9_named_254 : decode cX9_named 254 = .ok (.laload, 1) := by decide +kernel
theorem dX9_named_255 : decode cX9_named 255 = .ok (.lconst 0, 1) := by decide +kernel
theorem dX9_named_256 : decode cX9_named 256 = .ok (.lcmp, 1) := by decide +kernel
theorem dX9_named_257 : decode cX9_named 257 = .ok (.ifCond .lt 21, 3) := by decide +kernel
theorem dX9_named_260 : decode cX9_named 260 = .ok (.aload_n 0, 1) := by decide +kernel
theorem dX9_named_261 : decode cX9_named 261 = .ok (.getfield 22, 3) := by decide +kernel
theorem dX9_named_264 : decode cX9_named 264 = .ok (.iload 7, 2) := by decide +kernel
theorem dX9_named_266 : decode cX9_named 266 = .ok (.laload, 1) := by decide +kernel
theorem dX9_named_267 : decode cX9_named 267 = .ok (.ldc2_w 254, 3) := by decide +kernel
theorem dX9_named_270 : decode cX9_named 270 = .ok (.lcmp, 1) := by decide +kernel
theorem dX9_named_271 : decode cX9_named 271 = .ok (.ifCond .gt 7, 3) := by decide +kernel
theorem dX9_named_274 : decode cX9_named 274 = .ok (.iconst 1, 1) := by decide +kernel
theorem dX9_named_275 : decode cX9_named 275 = .ok (.goto 4, 3) := by decide +kernel
theorem dX9_named_278 : decode cX9_named 278 = .ok (.iconst 0, 1) := by decide +kernel
theorem dX9_named_279 : decode cX9_named 279 = .ok (.bipush 10, 2) := by decide +kernel
theorem dX9_named_281 : decode cX9_named 281 = .ok (.aload_n 0, 1) := by decide +kernel
theorem dX9_named_282 : decode cX9_named 282 = .ok (.getfield 19, 3) := by decide +kernel
theorem dX9_named_285 : decode cX9_named 285 = .ok (.iload 7, 2) := by decide +kernel
theorem dX9_named_287 : decode cX9_named 287 = .ok (.iaload, 1) := by decide +kernel
theorem dX9_named_288 : decode cX9_named 288 = .ok (.invokevirtual 105, 3) := by decide +kernel
theorem dX9_named_291 : decode cX9_named 291 = .ok (.aload_n 0, 1) := by decide +kernel
theorem dX9_named_292 : decode cX9_named 292 = .ok (.getfield 44, 3) := by decide +kernel
theorem dX9_named_295 : decode cX9_named 295 = .ok (.iload 6, 2) := by decide +kernel
theorem dX9_named_297 : decode cX9_named 297 = .ok (.aload_n 0, 1) := by decide +kernel
theorem dX9_named_298 : decode cX9_named 298 = .ok (.getfield 22, 3) := by decide +kernel
theorem dX9_named_301 : decode cX9_named 301 = .ok (.iload 7, 2) := by decide +kernel
theorem dX9_named_303 : decode cX9_named 303 = .ok (.laload, 1) := by decide +kernel
theorem dX9_named_304 : decode cX9_named 304 = .ok (.l2i, 1) := by decide +kernel
theorem dX9_named_305 : decode cX9_named 305 = .ok (.iastore, 1) := by decide +kernel
theorem dX9_named_306 : decode cX9_named 306 = .ok (.goto 33, 3) := by decide +kernel
theorem dX9_named_309 : decode cX9_named 309 = .ok (.aload_n 0, 1) := by decide +kernel
theorem dX9_named_310 : decode cX9_named 310 = .ok (.getfield 38, 3) := by decide +kernel
theorem dX9_named_313 : decode cX9_named 313 = .ok (.iload 6, 2) := by decide +kernel
theorem dX9_named_315 : decode cX9_named 315 = .ok (.iaload, 1) := by decide +kernel
theorem dX9_named_316 : decode cX9_named 316 = .ok (.bipush 10, 2) := by decide +kernel
theorem dX9_named_318 : decode cX9_named 318 = .ok (.if_icmp .ne 13, 3) := by decide +kernel
theorem dX9_named_321 : decode cX9_named 321 = .ok (.aload_n 0, 1) := by decide +kernel
theorem dX9_named_322 : decode cX9_named 322 = .ok (.iload 6, 2) := by decide +kernel
theorem dX9_named_324 : decode cX9_named 324 = .ok (.iload_n 1, 1) := by decide +kernel
theorem dX9_named_325 : decode cX9_named 325 = .ok (.invokevirtual 256, 3) := by decide +kernel
theorem dX9_named_328 : decode cX9_named 328 = .ok (.goto 11, 3) := by decide +kernel
theorem dX9_named_331 : decode cX9_named 331 = .ok (.aload_n 0, 1) := by decide +kernel
theorem dX9_named_332 : decode cX9_named 332 = .ok (.iload 6, 2) := by decide +kernel
theorem dX9_named_334 : decode cX9_named 334 = .ok (.iload_n 1, 1) := by decide +kernel
theorem dX9_named_335 : decode cX9_named 335 = .ok (.iload_n 3, 1) := by decide +kernel
theorem dX9_named_336 : decode cX9_named 336 = .ok (.invokevirtual 259, 3) := by decide +kernel
theorem dX9_named_339 : decode cX9_named 339 = .ok (.iload 6, 2) := by decide +kernel
theorem dX9_named_341 : decode cX9_named 341 = .ok (.ireturn, 1) := by decide +kernel
abbrev cX9_fields : ByteArray := prog_12_method_29_code
def yX9_fields : MethodName := ⟨RX9, "fields", "(III)V"⟩
def wsX9_fields : List Cond := .code yX9_fields cX9_fields 10 none :: sr_G
theorem dX9_fields_0 : decode cX9_fields 0 = .ok (.aload_n 0, 1) := by decide +kernel
theorem dX9_fields_1 : decode cX9_fields 1 = .ok (.iload_n 2, 1) := by decide +kernel
theorem dX9_fields_2 : decode cX9_fields 2 = .ok (.ldc_w, 1) := by decide +kernel
theorem dX9_fields_5 : decode cX9_fields 5 = .ok (.invokevirtual 210, 3) := by decide +kernel
theorem dX9_fields_8 : decode cX9_fields 8 = .ok (.istore 4, 2) := by decide +kernel
theorem dX9_fields_10 : decode cX9_fields 10 = .ok (.aload_n 0, 1) := by decide +kernel
theorem dX9_fields_11 : decode cX9_fields 11 = .ok (.iload 4, 2) := by decide +kernel
theorem dX9_fields_13 : decode cX9_fields 13 = .ok (.ifCond .lt 7, 3) := by decide +kernel
theorem dX9_fields_16 : decode cX9_fields 16 = .ok (.iconst 1, 1) := by decide +kernel
theorem dX9_fields_17 : decode cX9_fields 17 = .ok (.goto 4, 3) := by decide +kernel
theorem dX9_fields_20 : decode cX9_fields 20 = .ok (.iconst 0, 1) := by decide +kernel
theorem dX9_fields_21 : decode cX9_fields 21 = .ok (.bipush 8, 2) := by decide +kernel
theorem dX9_fields_23 : decode cX9_fields 23 = .ok (.aload_n 0, 1) := by decide +kernel
theorem dX9_fields_24 : decode cX9_fields 24 = .ok (.getfield 19, 3) := by decide +kernel
theorem dX9_fields_27 : decode cX9_fields 27 = .ok (.iload_n 2, 1) := by decide +kernel
theorem dX9_fields_28 : decode cX9_fields 28 = .ok (.iaload, 1) := by decide +kernel
theorem dX9_fields_29 : decode cX9_fields 29 = .ok (.invokevirtual 105, 3) := by decide +kernel
theorem dX9_fields_32 : decode cX9_fields 32 = .ok (.aload_n 0, 1) := by decide +kernel
theorem dX9_fields_33 : decode cX9_fields 33 = .ok (.aload_n 0, 1) := by decide +kernel
theorem dX9_fields_34 : decode cX9_fields 34 = .ok (.getfield 15, 3) := by decide +kernel
theorem dX9_fields_37 : decode cX9_fields 37 = .ok (.iload 4, 2) := by decide +kernel
theorem dX9_fields_39 : decode cX9_fields 39 = .ok (.iaload, 1) := by decide +kernel
theorem dX9_fields_40 : decode cX9_fields 40 = .ok (.iconst 1, 1) := by decide +kernel
theorem dX9_fields_41 : decode cX9_fields 41 = .ok (.if_icmp .ne 19, 3) := by decide +kernel
theorem dX9_fields_44 : decode cX9_fields 44 = .ok (.aload_n 0, 1) := by decide +kernel
theorem dX9_fields_45 : decode cX9_fields 45 = .ok (.getfield 26, 3) := by decide +kernel
theorem dX9_fields_48 : decode cX9_fields 48 = .ok (.iload 4, 2) := by decide +kernel
theorem dX9_fields_50 : decode cX9_fields 50 = .ok (.iaload, 1) := by decide +kernel
theorem dX9_fields_51 : decode cX9_fields 51 = .ok (.bipush 33, 2) := by decide +kernel
theorem dX9_fields_53 : decode cX9_fields 53 = .ok (.if_icmp .ge 7, 3) := by decide +kernel
theorem dX9_fields_56 : decode cX9_fields 56 = .ok (.iconst 1, 1) := by decide +kernel
theorem dX9_fields_57 : decode cX9_fields 57 = .ok (.goto 4, 3) := by decide +kernel
theorem dX9_fields_60 : decode cX9_fields 60 = .ok (.iconst 0, 1) := by decide +kernel
theorem dX9_fields_61 : decode cX9_fields 61 = .ok (.bipush 11, 2) := by decide +kernel
theorem dX9_fields_63 : decode cX9_fields 63 = .ok (.aload_n 0, 1) := by decide +kernel
theorem dX9_fields_64 : decode cX9_fields 64 = .ok (.getfield 19, 3) := by decide +kernel
theorem dX9_fields_67 : decode cX9_fields 67 = .ok (.iload 4, 2) := by decide +kernel
theorem dX9_fields_69 : decode cX9_fields 69 = .ok (.iaload, 1) := by decide +kernel
theorem dX9_fields_70 : decode cX9_fields 70 = .ok (.invokevirtual 105, 3) := by decide +kernel
theorem dX9_fields_73 : decode cX9_fields 73 = .ok (.iconst (-1), 1) := by decide +kernel
theorem dX9_fields_74 : decode cX9_fields 74 = .ok (.istore 5, 2) := by decide +kernel
theorem dX9_fields_76 : decode cX9_fields 76 = .ok (.aload_n 0, 1) := by decide +kernel
theorem dX9_fields_77 : decode cX9_fields 77 = .ok (.getfield 29, 3) := by decide +kernel
theorem dX9_fields_80 : decode cX9_fields 80 = .ok (.iload 4, 2) := by decide +kernel
theorem dX9_fields_82 : decode cX9_fields 82 = .ok (.iaload, 1) := by decide +kernel
theorem dX9_fields_83 : decode cX9_fields 83 = .ok (.istore 6, 2) := by decide +kernel
theorem dX9_fields_85 : decode cX9_fields 85 = .ok (.iload 6, 2) := by decide +kernel
theorem dX9_fields_87 : decode cX9_fields 87 = .ok (.ifCond .lt 269, 3) := by decide +kernel
theorem dX9_fields_90 : decode cX9_fields 90 = .ok (.aload_n 0, 1) := by decide +kernel
theorem dX9_fields_91 : decode cX9_fields 91 = .ok (.aload_n 0, 1) := by decide +kernel
theorem dX9_fields_92 : decode cX9_fields 92 = .ok (.getfield 15, 3) := by decide +kernel
theorem dX9_fields_95 : decode cX9_fields 95 = .ok (.iload 6, 2) := by decide +kernel
theorem dX9_fields_97 : decode cX9_fields 97 = .ok (.iaload, 1) := by decide +kernel
theorem dX9_fields_98 : decode cX9_fields 98 = .ok (.ifCond .ne 7, 3) := by decide +kernel
theorem dX9_fields_101 : decode cX9_fields 101 = .ok (.iconst 1, 1) := by decide +kernel
theorem dX9_fields_102 : decode cX9_fields 102 = .ok (.goto 4, 3) := by decide +kernel
theorem dX9_fields_105 : decode cX9_fields 105 = .ok (.iconst 0, 1) := by decide +kernel
theorem dX9_fields_106 : decode cX9_fields 106 = .ok (.bipush 11, 2) := by decide +kernel
theorem dX9_fields_108 : decode cX9_fields 108 = .ok (.aload_n 0, 1) := by decide +kernel
theorem dX9_fields_109 : decode cX9_fields 109 = .ok (.getfield 19, 3) := by decide +kernel
theorem dX9_fields_112 : decode cX9_fields 112 = .ok (.iload 6, 2) := by decide +kernel
theorem dX9_fields_114 : decode cX9_fields 114 = .ok (.iaload, 1) := by decide +kernel
theorem dX9_fields_115 : decode cX9_fields 115 = .ok (.invokevirtual 105, 3) := by decide +kernel
theorem dX9_fields_118 : decode cX9_fields 118 = .ok (.aload_n 0, 1) := by decide +kernel
theorem dX9_fields_119 : decode cX9_fields 119 = .ok (.iload 6, 2) := by decide +kernel
theorem dX9_fields_121 : decode cX9_fields 121 = .ok (.ldc 246, 2) := by decide +kernel
theorem dX9_fields_123 : decode cX9_fields 123 = .ok (.invokevirtual 210, 3) := by decide +kernel
theorem dX9_fields_126 : decode cX9_fields 126 = .ok (.istore 7, 2) := by decide +kernel
theorem dX9_fields_128 : decode cX9_fields 128 = .ok (.aload_n 0, 1) := by decide +kernel
theorem dX9_fields_129 : decode cX9_fields 129 = .ok (.iload 7, 2) := by decide +kernel
theorem dX9_fields_131 : decode cX9_fields 131 = .ok (.ifCond .lt 18, 3) := by decide +kernel
theorem dX9_fields_134 : decode cX9_fields 134 = .ok (.aload_n 0, 1) := by decide +kernel
theorem dX9_fields_135 : decode cX9_fields 135 = .ok (.getfield 15, 3) := by decide +kernel
theorem dX9_fields_138 : decode cX9_fields 138 = .ok (.iload 7, 2) := by decide +kernel
theorem dX9_fields_140 : decode cX9_fields 140 = .ok (.iaload, 1) := by decide +kernel
theorem dX9_fields_141 : decode cX9_fields 141 = .ok (.iconst 2, 1) := by decide +kernel
theorem dX9_fields_142 : decode cX9_fields 142 = .ok (.if_icmp .ne 7, 3) := by decide +kernel
theorem dX9_fields_145 : decode cX9_fields 145 = .ok (.iconst 1, 1) := by decide +kernel
theorem dX9_fields_146 : decode cX9_fields 146 = .ok (.goto 4, 3) := by decide +kernel
theorem dX9_fields_149 : decode cX9_fields 149 = .ok (.iconst 0, 1) := by decide +kernel
theorem dX9_fields_150 : decode cX9_fields 150 = .ok (.bipush 8, 2) := by decide +kernel
theorem dX9_fields_152 : decode cX9_fields 152 = .ok (.aload_n 0, 1) := by decide +kernel
theorem dX9_fields_153 : decode cX9_fields 153 = .ok (.getfield 19, 3) := by decide +kernel
theorem dX9_fields_156 : decode cX9_fields 156 = .ok (.iload 6, 2) := by decide +kernel
theorem dX9_fields_158 : decode cX9_fields 158 = .ok (.iaload, 1) := by decide +kernel
theorem dX9_fields_159 : decode cX9_fields 159 = .ok (.invokevirtual 105, 3) := by decide +kernel
theorem dX9_fields_162 : decode cX9_fields 162 = .ok (.aload_n 0, 1) := by decide +kernel
theorem dX9_fields_163 : decode cX9_fields 163 = .ok (.iload 7, 2) := by decide +kernel
theorem dX9_fields_165 : decode cX9_fields 165 = .ok (.invokevirtual 248, 3) := by decide +kernel
theorem dX9_fields_168 : decode cX9_fields 168 = .ok (.istore 8, 2) := by decide +kernel
theorem dX9_fields_170 : decode cX9_fields 170 = .ok (.aload_n 0, 1) := by decide +kernel
theorem dX9_fields_171 : decode cX9_fields 171 = .ok (.getfield 47, 3) := by decide +kernel
theorem dX9_fields_174 : decode cX9_fields 174 = .ok (.iload_n 1, 1) := by decide +kernel
theorem dX9_fields_175 : decode cX9_fields 175 = .ok (.iaload, 1) := by decide +kernel
theorem dX9_fields_176 : decode cX9_fields 176 = .ok (.istore 9, 2) := by decide +kernel
theorem dX9_fields_178 : decode cX9_fields 178 = .ok (.iload 9, 2) := by decide +kernel
theorem dX9_fields_180 : decode cX9_fields 180 = .ok (.ifCond .lt 44, 3) := by decide +kernel
theorem dX9_fields_183 : decode cX9_fields 183 = .ok (.iload 8, 2) := by decide +kernel
theorem dX9_fields_185 : decode cX9_fields 185 = .ok (.ifCond .eq 24, 3) := by decide +kernel
theorem dX9_fields_188 : decode cX9_fields 188 = .ok (.aload_n 0, 1) := by decide +kernel
theorem dX9_fields_189 : decode cX9_fields 189 = .ok (.aload_n 0, 1) := by decide +kernel
theorem dX9_fields_190 : decode cX9_fields 190 = .ok (.getfield 59, 3) := by decide +kernel
theorem dX9_fields_193 : decode cX9_fields 193 = .ok (.iload 9, 2) := by decide +kernel
theorem dX9_fields_195 : decode cX9_fields 195 = .ok (.iaload, 1) := by decide +kernel
theorem dX9_fields_196 : decode cX9_fields 196 = .ok (.aload_n 0, 1) := by decide +kernel
theorem dX9_fields_197 : decode cX9_fields 197 = .ok (.iload 7, 2) := by decide +kernel
theorem dX9_fields_199 : decode cX9_fields 199 = .ok (.invokevirtual 155, 3) := by decide +kernel
theorem dX9_fields_202 : decode cX9_fields 202 = .ok (.ifCond .ne 7, 3) := by decide +kernel
theorem dX9_fields_205 : decode cX9_fields 205 = .ok (.iconst 1, 1) := by decide +kernel
theorem dX9_fields_206 : decode cX9_fields 206 = .ok (.goto 4, 3) := by decide +kernel
theorem dX9_fields_209 : decode cX9_fields 209 = .ok (.iconst 0, 1) := by decide +kernel
theorem dX9_fields_210 : decode cX9_fields 210 = .ok (.istore 8, 2) := by decide +kernel
theorem dX9_fields_212 : decode cX9_fields 212 = .ok (.aload_n 0, 1) := by decide +kernel
theorem dX9_fields_213 : decode cX9_fields 213 = .ok (.getfield 65, 3) := by decide +kernel
theorem dX9_fields_216 : decode cX9_fields 216 = .ok (.iload 9, 2) := by decide +kernel
theorem dX9_fields_218 : decode cX9_fields 218 = .ok (.iaload, 1) := by decide +kernel
theorem dX9_fields_219 : decode cX9_fields 219 = .ok (.istore 9, 2) := by decide +kernel
theorem dX9_fields_221 : decode cX9_fields 221 = .ok (.goto (-43), 3) := by decide +kernel
theorem dX9_fields_224 : decode cX9_fields 224 = .ok (.aload_n 0, 1) := by decide +kernel
theorem dX9_fields_225 : decode cX9_fields 225 = .ok (.iload 8, 2) := by decide +kernel
theorem dX9_fields_227 : decode cX9_fields 227 = .ok (.bipush 9, 2) := by decide +kernel
theorem dX9_fields_229 : decode cX9_fields 229 = .ok (.aload_n 0, 1) := by decide +kernel
theorem dX9_fields_230 : decode cX9_fields 230 = .ok (.getfield 19, 3) := by decide +kernel
theorem dX9_fields_233 : decode cX9_fields 233 = .ok (.iload 7, 2) := by decide +kernel
theorem dX9_fields_235 : decode cX9_fields 235 = .ok (.iaload, 1) := by decide +kernel
theorem dX9_fields_236 : decode cX9_fields 236 = .ok (.invokevirtual 105, 3) := by decide +kernel
theorem dX9_fields_239 : decode cX9_fields 239 = .ok (.aload_n 0, 1) := by decide +kernel
theorem dX9_fields_240 : decode cX9_fields 240 = .ok (.iload 6, 2) := by decide +kernel
theorem dX9_fields_242 : decode cX9_fields 242 = .ok (.ldc 208, 2) := by decide +kernel
theorem dX9_fields_244 : decode cX9_fields 244 = .ok (.invokevirtual 210, 3) := by decide +kernel
theorem dX9_fields_247 : decode cX9_fields 247 = .ok (.istore 9, 2) := by decide +kernel
theorem dX9_fields_249 : decode cX9_fields 249 = .ok (.aload_n 0, 1) := by decide +kernel
theorem dX9_fields_250 : decode cX9_fields 250 = .ok (.iload 9, 2) := by decide +kernel
theorem dX9_fields_252 : decode cX9_fields 252 = .ok (.ifCond .lt 7, 3) := by decide +kernel
theorem dX9_fields_255 : decode cX9_fields 255 = .ok (.iconst 1, 1) := by decide +kernel
theorem dX9_fields_256 : decode cX9_fields 256 = .ok (.goto 4, 3) := by decide +kernel
theorem dX9_fields_259 : decode cX9_fields 259 = .ok (.iconst 0, 1) := by decide +kernel
theorem dX9_fields_260 : decode cX9_fields 260 = .ok (.bipush 8, 2) := by decide +kernel
theorem dX9_fields_262 : decode cX9_fields 262 = .ok (.aload_n 0, 1) := by decide +kernel
theorem dX9_fields_263 : decode cX9_fields 263 = .ok (.getfield 19, 3) := by decide +kernel
theorem dX9_fields_266 : decode cX9_fields 266 = .ok (.iload 6, 2) := by decide +kernel
theorem dX9_fields_268 : decode cX9_fields 268 = .ok (.iaload, 1) := by decide +kernel
theorem dX9_fields_269 : decode cX9_fields 269 = .ok (.invokevirtual 105, 3) := by decide +kernel
theorem dX9_fields_272 : decode cX9_fields 272 = .ok (.aload_n 0, 1) := by decide +kernel
theorem dX9_fields_273 : decode cX9_fields 273 = .ok (.iload_n 1, 1) := by decide +kernel
theorem dX9_fields_274 : decode cX9_fields 274 = .ok (.iload 5, 2) := by decide +kernel
theorem dX9_fields_276 : decode cX9_fields 276 = .ok (.invokevirtual 225, 3) := by decide +kernel
theorem dX9_fields_279 : decode cX9_fields 279 = .ok (.istore 5, 2) := by decide +kernel
theorem dX9_fields_281 : decode cX9_fields 281 = .ok (.aload_n 0, 1) := by decide +kernel
theorem dX9_fields_282 : decode cX9_fields 282 = .ok (.getfield 59, 3) := by decide +kernel
theorem dX9_fields_285 : decode cX9_fields 285 = .ok (.iload 5, 2) := by decide +kernel
theorem dX9_fields_287 : decode cX9_fields 287 = .ok (.iload 7, 2) := by decide +kernel
theorem dX9_fields_289 : decode cX9_fields 289 = .ok (.iastore, 1) := by decide +kernel
theorem dX9_fields_290 : decode cX9_fields 290 = .ok (.aload_n 0, 1) := by decide +kernel
theorem dX9_fields_291 : decode cX9_fields 291 = .ok (.getfield 62, 3) := by decide +kernel
theorem dX9_fields_294 : decode cX9_fields 294 = .ok (.iload 5, 2) := by decide +kernel
theorem dX9_fields_296 : decode cX9_fields 296 = .ok (.aload_n 0, 1) := by decide +kernel
theorem dX9_fields_297 : decode cX9_fields 297 = .ok (.iload 6, 2) := by decide +kernel
theorem dX9_fields_299 : decode cX9_fields 299 = .ok (.ldc_w, 1) := by decide +kernel
theorem dX9_fields_302 : decode cX9_fields 302 = .ok (.invokevirtual 210, 3) := by decide +kernel
theorem dX9_fields_305 : decode cX9_fields 305 = .ok (.iastore, 1) := by decide +kernel
theorem dX9_fields_306 : decode cX9_fields 306 = .ok (.aload_n 0, 1) := by decide +kernel
theorem dX9_fields_307 : decode cX9_fields 307 = .ok (.getfield 56, 3) := by decide +kernel
theorem dX9_fields_310 : decode cX9_fields 310 = .ok (.iload 5, 2) := by decide +kernel
theorem dX9_fields_312 : decode cX9_fields 312 = .ok (.aload_n 0, 1) := by decide +kernel
theorem dX9_fields_313 : decode cX9_fields 313 = .ok (.iload 9, 2) := by decide +kernel
theorem dX9_fields_315 : decode cX9_fields 315 = .ok (.iload_n 3, 1) := by decide +kernel
theorem dX9_fields_316 : decode cX9_fields 316 = .ok (.iconst 1, 1) := by decide +kernel
theorem dX9_fields_317 : decode cX9_fields 317 = .ok (.iadd, 1) := by decide +kernel
theorem dX9_fields_318 : decode cX9_fields 318 = .ok (.iconst 0, 1) := by decide +kernel
theorem dX9_fields_319 : decode cX9_fields 319 = .ok (.invokevirtual 229, 3) := by decide +kernel
theorem dX9_fields_322 : decode cX9_fields 322 = .ok (.iastore, 1) := by decide +kernel
theorem dX9_fields_323 : decode cX9_fields 323 = .ok (.aload_n 0, 1) := by decide +kernel
theorem dX9_fields_324 : decode cX9_fields 324 = .ok (.getfield 68, 3) := by decide +kernel
theorem dX9_fields_327 : decode cX9_fields 327 = .ok (.aload_n 0, 1) := by decide +kernel
theorem dX9_fields_328 : decode cX9_fields 328 = .ok (.getfield 271, 3) := by decide +kernel
theorem dX9_fields_331 : decode cX9_fields 331 = .ok (.iload 5, 2) := by decide +kernel
theorem dX9_fields_333 : decode cX9_fields 333 = .ok (.iastore, 1) := by decide +kernel
theorem dX9_fields_334 : decode cX9_fields 334 = .ok (.aload_n 0, 1) := by decide +kernel
theorem dX9_fields_335 : decode cX9_fields 335 = .ok (.dup, 1) := by decide +kernel
theorem dX9_fields_336 : decode cX9_fields 336 = .ok (.getfield 271, 3) := by decide +kernel
theorem dX9_fields_339 : decode cX9_fields 339 = .ok (.iconst 1, 1) := by decide +kernel
theorem dX9_fields_340 : decode cX9_fields 340 = .ok (.iadd, 1) := by decide +kernel
theorem dX9_fields_341 : decode cX9_fields 341 = .ok (.putfield 271, 3) := by decide +kernel
theorem dX9_fields_344 : decode cX9_fields 344 = .ok (.aload_n 0, 1) := by decide +kernel
theorem dX9_fields_345 : decode cX9_fields 345 = .ok (.getfield 32, 3) := by decide +kernel
theorem dX9_fields_348 : decode cX9_fields 348 = .ok (.iload 6, 2) := by decide +kernel
theorem dX9_fields_350 : decode cX9_fields 350 = .ok (.iaload, 1) := by decide +kernel
theorem dX9_fields_351 : decode cX9_fields 351 = .ok (.istore 6, 2) := by decide +kernel
theorem dX9_fields_353 : decode cX9_fields 353 = .ok (.goto (-268), 3) := by decide +kernel
theorem dX9_fields_356 : decode cX9_fields 356 = .ok (.return_, 1) := by decide +kernel
abbrev cX9_fit : ByteArray := prog_12_method_31_code
def yX9_fit : MethodName := ⟨RX9, "fit", "(II)V"⟩
def wsX9_fit : List Cond := .code yX9_fit cX9_fit 6 none :: sr_G
theorem dX9_fit_0 : decode cX9_fit 0 = .ok (.aload_n 0, 1) := by decide +kernel
theorem dX9_fit_1 : decode cX9_fit 1 = .ok (.getfield 19, 3) := by decide +kernel
theorem dX9_fit_4 : decode cX9_fit 4 = .ok (.iload_n 1, 1) := by decide +kernel
theorem dX9_fit_5 : decode cX9_fit 5 = .ok (.iaload, 1) := by decide +kernel
theorem dX9_fit_6 : decode cX9_fit 6 = .ok (.istore_n 3, 1) := by decide +kernel
theorem dX9_fit_7 : decode cX9_fit 7 = .ok (.aload_n 0, 1) := by decide +kernel
theorem dX9_fit_8 : decode cX9_fit 8 = .ok (.getfield 38, 3) := by decide +kernel
theorem dX9_fit_11 : decode cX9_fit 11 = .ok (.iload_n 2, 1) := by decide +kernel
theorem dX9_fit_12 : decode cX9_fit 12 = .ok (.iaload, 1) := by decide +kernel
theorem dX9_fit_13 : decode cX9_fit 13 = .ok (.tableswitch 450 0 10 #[59, 85, 120, 163, 188, 188, 307, 374, 288, 213, 253], 59) := by decide +kernel
theorem dX9_fit_72 : decode cX9_fit 72 = .ok (.aload_n 0, 1) := by decide +kernel
theorem dX9_fit_73 : decode cX9_fit 73 = .ok (.aload_n 0, 1) := by decide +kernel
theorem dX9_fit_74 : decode cX9_fit 74 = .ok (.getfield 15, 3) := by decide +kernel
theorem dX9_fit_77 : decode cX9_fit 77 = .ok (.iload_n 1, 1) := by decide +kernel
theorem dX9_fit_78 : decode cX9_fit 78 = .ok (.iaload, 1) := by decide +kernel
theorem dX9_fit_79 : decode cX9_fit 79 = .ok (.bipush 6, 2) := by decide +kernel
theorem dX9_fit_81 : decode cX9_fit 81 = .ok (.if_icmp .ne 7, 3) := by decide +kernel
theorem dX9_fit_84 : decode cX9_fit 84 = .ok (.iconst 1, 1) := by decide +kernel
theorem dX9_fit_85 : decode cX9_fit 85 = .ok (.goto 4, 3) := by decide +kernel
theorem dX9_fit_88 : decode cX9_fit 88 = .ok (.iconst 0, 1) := by decide +kernel
theorem dX9_fit_89 : decode cX9_fit 89 = .ok (.bipush 12, 2) := by decide +kernel
theorem dX9_fit_91 : decode cX9_fit 91 = .ok (.iload_n 3, 1) := by decide +kernel
theorem dX9_fit_92 : decode cX9_fit 92 = .ok (.invokevirtual 105, 3) := by decide +kernel
theorem dX9_fit_95 : decode cX9_fit 95 = .ok (.goto 458, 3) := by decide +kernel
theorem dX9_fit_98 : decode cX9_fit 98 = .ok (.aload_n 0, 1) := by decide +kernel
theorem dX9_fit_99 : decode cX9_fit 99 = .ok (.aload_n 0, 1) := by decide +kernel
theorem dX9_fit_100 : decode cX9_fit 100 = .ok (.getfield 15, 3) := by decide +kernel
theorem dX9_fit_103 : decode cX9_fit 103 = .ok (.iload_n 1, 1) := by decide +kernel
theorem dX9_fit_104 : decode cX9_fit 104 = .ok (.iaload, 1) := by decide +kernel
theorem dX9_fit_105 : decode cX9_fit 105 = .ok (.iconst 4, 1) := by decide +kernel
theorem dX9_fit_106 : decode cX9_fit 106 = .ok (.if_icmp .eq 13, 3) := by decide +kernel
theorem dX9_fit_109 : decode cX9_fit 109 = .ok (.aload_n 0, 1) := by decide +kernel
theorem dX9_fit_110 : decode cX9_fit 110 = .ok (.getfield 15, 3) := by decide +kernel
theorem dX9_fit_113 : decode cX9_fit 113 = .ok (.iload_n 1, 1) := by decide +kernel
theorem dX9_fit_114 : decode cX9_fit 114 = .ok (.iaload, 1) := by decide +kernel
theorem dX9_fit_115 : decode cX9_fit 115 = .ok (.iconst 5, 1) := by decide +kernel
theorem dX9_fit_116 : decode cX9_fit 116 = .ok (.if_icmp .ne 7, 3) := by decide +kernel
theorem dX9_fit_119 : decode cX9_fit 119 = .ok (.iconst 1, 1) := by decide +kernel
theorem dX9_fit_120 : decode cX9_fit 120 = .ok (.goto 4, 3) := by decide +kernel
theorem dX9_fit_123 : decode cX9_fit 123 = .ok (.iconst 0, 1) := by decide +kernel
theorem dX9_fit_124 : decode cX9_fit 124 = .ok (.bipush 12, 2) := by decide +kernel
theorem dX9_fit_126 : decode cX9_fit 126 = .ok (.iload_n 3, 1) := by decide +kernel
theorem dX9_fit_127 : decode cX9_fit 127 = .ok (.invokevirtual 105, 3) := by decide +kernel
theorem dX9_fit_130 : decode cX9_fit 130 = .ok (.goto 423, 3) := by decide +kernel
theorem dX9_fit_133 : decode cX9_fit 133 = .ok (.aload_n 0, 1) := by decide +kernel
theorem dX9_fit_134 : decode cX9_fit 134 = .ok (.aload_n 0, 1) := by decide +kernel
theorem dX9_fit_135 : decode cX9_fit 135 = .ok (.getfield 15, 3) := by decide +kernel
theorem dX9_fit_138 : decode cX9_fit 138 = .ok (.iload_n 1, 1) := by decide +kernel
theorem dX9_fit_139 : decode cX9_fit 139 = .ok (.iaload, 1) := by decide +kernel
theorem dX9_fit_140 : decode cX9_fit 140 = .ok (.iconst 3, 1) := by decide +kernel
theorem dX9_fit_141 : decode cX9_fit 141 = .ok (.if_icmp .ne 25, 3) := by decide +kernel
theorem dX9_fit_144 : decode cX9_fit 144 = .ok (.aload_n 0, 1) := by decide +kernel
theorem dX9_fit_145 : decode cX9_fit 145 = .ok (.getfield 22, 3) := by decide +kernel
theorem dX9_fit_148 : decode cX9_fit 148 = .ok (.iload_n 1, 1) := by decide +kernel
theorem dX9_fit_149 : decode cX9_fit 149 = .ok (.laload, 1) := by decide +kernel
theorem dX9_fit_150 : decode cX9_fit 150 = .ok (.aload_n 0, 1) := by decide +kernel
theorem dX9_fit_151 : decode cX9_fit 151 = .ok (.getfield 22, 3) := by decide +kernel
theorem dX9_fit_154 : decode cX9_fit 154 = .ok (.iload_n 1, 1) := by decide +kernel
theorem dX9_fit_155 : decode cX9_fit 155 = .ok (.laload, 1) := by decide +kernel
theorem dX9_fit_156 : decode cX9_fit 156 = .ok (.l2i, 1) := by decide +kernel
theorem dX9_fit_157 : decode cX9_fit 157 = .ok (.i2l, 1) := by decide +kernel
theorem dX9_fit_158 : decode cX9_fit 158 = .ok (.lcmp, 1) := by decide +kernel
theorem dX9_fit_159 : decode cX9_fit 159 = .ok (.ifCond .ne 7, 3) := by decide +kernel
theorem dX9_fit_162 : decode cX9_fit 162 = .ok (.iconst 1, 1) := by decide +kernel
theorem dX9_fit_163 : decode cX9_fit 163 = .ok (.goto 4, 3) := by decide +kernel
theorem dX9_fit_166 : decode cX9_fit 166 = .ok (.iconst 0, 1) := by decide +kernel
theorem dX9_fit_167 : decode cX9_fit 167 = .ok (.bipush 12, 2) := by decide +kernel
theorem dX9_fit_169 : decode cX9_fit 169 = .ok (.iload_n 3, 1) := by decide +kernel
theorem dX9_fit_170 : decode cX9_fit 170 = .ok (.invokevirtual 105, 3) := by decide +kernel
theorem dX9_fit_173 : decode cX9_fit 173 = .ok (.goto 380, 3) := by decide +kernel
theorem dX9_fit_176 : decode cX9_fit 176 = .ok (.aload_n 0, 1) := by decide +kernel
theorem dX9_fit_177 : decode cX9_fit 177 = .ok (.aload_n 0, 1) := by decide +kernel
theorem dX9_fit_178 : decode cX9_fit 178 = .ok (.getfield 15, 3) := by decide +kernel
theorem dX9_fit_181 : decode cX9_fit 181 = .ok (.iload_n 1, 1) := by decide +kernel
theorem dX9_fit_182 : decode cX9_fit 182 = .ok (.iaload, 1) := by decide +kernel
theorem dX9_fit_183 : decode cX9_fit 183 = .ok (.iconst 3, 1) := by decide +kernel
theorem dX9_fit_184 : decode cX9_fit 184 = .ok (.if_icmp .ne 7, 3) := by decide +kernel
theorem dX9_fit_187 : decode cX9_fit 187 = .ok (.iconst 1, 1) := by decide +kernel
theorem dX9_fit_188 : decode cX9_fit 188 = .ok (.goto 4, 3) := by decide +kernel
theorem dX9_fit_191 : decode cX9_fit 191 = .ok (.iconst 0, 1) := by decide +kernel
theorem dX9_fit_192 : decode cX9_fit 192 = .ok (.bipush 12, 2) := by decide +kernel
theorem dX9_fit_194 : decode cX9_fit 194 = .ok (.iload_n 3, 1) := by decide +kernel
theorem dX9_fit_195 : decode cX9_fit 195 = .ok (.invokevirtual 105, 3) := by decide +kernel
theorem dX9_fit_198 : decode cX9_fit 198 = .ok (.goto 355, 3) := by decide +kernel
theorem dX9_fit_201 : decode cX9_fit 201 = .ok (.aload_n 0, 1) := by decide +kernel
theorem dX9_fit_202 : decode cX9_fit 202 = .ok (.aload_n 0, 1) := by decide +kernel
theorem dX9_fit_203 : decode cX9_fit 203 = .ok (.getfield 15, 3) := by decide +kernel
theorem dX9_fit_206 : decode cX9_fit 206 = .ok (.iload_n 1, 1) := by decide +kernel
theorem dX9_fit_207 : decode cX9_fit 207 = .ok (.iaload, 1) := by decide +kernel
theorem dX9_fit_208 : decode cX9_fit 208 = .ok (.iconst 2, 1) := by decide +kernel
theorem dX9_fit_209 : decode cX9_fit 209 = .ok (.if_icmp .ne 7, 3) := by decide +kernel
theorem dX9_fit_212 : decode cX9_fit 212 = .ok (.iconst 1, 1) := by decide +kernel
theorem dX9_fit_213 : decode cX9_fit 213 = .ok (.goto 4, 3) := by decide +kernel
theorem dX9_fit_216 : decode cX9_fit 216 = .ok (.iconst 0, 1) := by decide +kernel
theorem dX9_fit_217 : decode cX9_fit 217 = .ok (.bipush 12, 2) := by decide +kernel
theorem dX9_fit_219 : decode cX9_fit 219 = .ok (.iload_n 3, 1) := by decide +kernel
theorem dX9_fit_220 : decode cX9_fit 220 = .ok (.invokevirtual 105, 3) := by decide +kernel
theorem dX9_fit_223 : decode cX9_fit 223 = .ok (.goto 330, 3) := by decide +kernel
theorem dX9_fit_226 : decode cX9_fit 226 = .ok (.aload_n 0, 1) := by decide +kernel
theorem dX9_fit_227 : decode cX9_fit 227 = .ok (.aload_n 0, 1) := by decide +kernel
theorem dX9_fit_228 : decode cX9_fit 228 = .ok (.getfield 15, 3) := by decide +kernel
theorem dX9_fit_231 : decode cX9_fit 231 = .ok (.iload_n 1, 1) := by decide +kernel
theorem dX9_fit_232 : decode cX9_fit 232 = .ok (.iaload, 1) := by decide +kernel
theorem dX9_fit_233 : decode cX9_fit 233 = .ok (.iconst 2, 1) := by decide +kernel
theorem dX9_fit_234 : decode cX9_fit 234 = .ok (.if_icmp .ne 22, 3) := by decide +kernel
theorem dX9_fit_237 : decode cX9_fit 237 = .ok (.aload_n 0, 1) := by decide +kernel
theorem dX9_fit_238 : decode cX9_fit 238 = .ok (.getfield 26, 3) := by decide +kernel
theorem dX9_fit_241 : decode cX9_fit 241 = .ok (.iload_n 1, 1) := by decide +kernel
theorem dX9_fit_242 : decode cX9_fit 242 = .ok (.iaload, 1) := by decide +kernel
theorem dX9_fit_243 : decode cX9_fit 243 = .ok (.aload_n 0, 1) := by decide +kernel
theorem dX9_fit_244 : decode cX9_fit 244 = .ok (.getfield 44, 3) := by decide +kernel
theorem dX9_fit_247 : decode cX9_fit 247 = .ok (.iload_n 2, 1) := by decide +kernel
theorem dX9_fit_248 : decode cX9_fit 248 = .ok (.iaload, 1) := by decide +kernel
theorem dX9_fit_249 : decode cX9_fit 249 = .ok (.if_icmp .ne 7, 3) := by decide +kernel
theorem dX9_fit_252 : decode cX9_fit 252 = .ok (.iconst 1, 1) := by decide +kernel
theorem dX9_fit_253 : decode cX9_fit 253 = .ok (.goto 4, 3) := by decide +kernel
theorem dX9_fit_256 : decode cX9_fit 256 = .ok (.iconst 0, 1) := by decide +kernel
theorem dX9_fit_257 : decode cX9_fit 257 = .ok (.bipush 12, 2) := by decide +kernel
theorem dX9_fit_259 : decode cX9_fit 259 = .ok (.iload_n 3, 1) := by decide +kernel
theorem dX9_fit_260 : decode cX9_fit 260 = .ok (.invokevirtual 105, 3) := by decide +kernel
theorem dX9_fit_263 : decode cX9_fit 263 = .ok (.goto 290, 3) := by decide +kernel
theorem dX9_fit_266 : decode cX9_fit 266 = .ok (.aload_n 0, 1) := by decide +kernel
theorem dX9_fit_267 : decode cX9_fit 267 = .ok (.aload_n 0, 1) := by decide +kernel
theorem dX9_fit_268 : decode cX9_fit 268 = .ok (.getfield 15, 3) := by decide +kernel
theorem dX9_fit_271 : decode cX9_fit 271 = .ok (.iload_n 1, 1) := by decide +kernel
theorem dX9_fit_272 : decode cX9_fit 272 = .ok (.iaload, 1) := by decide +kernel
theorem dX9_fit_273 : decode cX9_fit 273 = .ok (.iconst 2, 1) := by decide +kernel
theorem dX9_fit_274 : decode cX9_fit 274 = .ok (.if_icmp .ne 17, 3) := by decide +kernel
theorem dX9_fit_277 : decode cX9_fit 277 = .ok (.aload_n 0, 1) := by decide +kernel
theorem dX9_fit_278 : decode cX9_fit 278 = .ok (.iload_n 2, 1) := by decide +kernel
theorem dX9_fit_279 : decode cX9_fit 279 = .ok (.aload_n 0, 1) := by decide +kernel
theorem dX9_fit_280 : decode cX9_fit 280 = .ok (.iload_n 1, 1) := by decide +kernel
theorem dX9_fit_281 : decode cX9_fit 281 = .ok (.invokevirtual 266, 3) := by decide +kernel
theorem dX9_fit_284 : decode cX9_fit 284 = .ok (.ifCond .lt 7, 3) := by decide +kernel
theorem dX9_fit_287 : decode cX9_fit 287 = .ok (.iconst 1, 1) := by decide +kernel
theorem dX9_fit_288 : decode cX9_fit 288 = .ok (.goto 4, 3) := by decide +kernel
theorem dX9_fit_291 : decode cX9_fit 291 = .ok (.iconst 0, 1) := by decide +kernel
theorem dX9_fit_292 : decode cX9_fit 292 = .ok (.bipush 12, 2) := by decide +kernel
theorem dX9_fit_294 : decode cX9_fit 294 = .ok (.iload_n 3, 1) := by decide +kernel
theorem dX9_fit_295 : decode cX9_fit 295 = .ok (.invokevirtual 105, 3) := by decide +kernel
theorem dX9_fit_298 : decode cX9_fit 298 = .ok (.goto 255, 3) := by decide +kernel
theorem dX9_fit_301 : decode cX9_fit 301 = .ok (.aload_n 0, 1) := by decide +kernel
theorem dX9_fit_302 : decode cX9_fit 302 = .ok (.iload_n 1, 1) := by decide +kernel
theorem dX9_fit_303 : decode cX9_fit 303 = .ok (.aload_n 0, 1) := by decide +kernel
theorem dX9_fit_304 : decode cX9_fit 304 = .ok (.getfield 56, 3) := by decide +kernel
theorem dX9_fit_307 : decode cX9_fit 307 = .ok (.aload_n 0, 1) := by decide +kernel
theorem dX9_fit_308 : decode cX9_fit 308 = .ok (.getfield 47, 3) := by decide +kernel
theorem dX9_fit_311 : decode cX9_fit 311 = .ok (.iload_n 2, 1) := by decide +kernel
theorem dX9_fit_312 : decode cX9_fit 312 = .ok (.iaload, 1) := by decide +kernel
theorem dX9_fit_313 : decode cX9_fit 313 = .ok (.iaload, 1) := by decide +kernel
theorem dX9_fit_314 : decode cX9_fit 314 = .ok (.invokevirtual 274, 3) := by decide +kernel
theorem dX9_fit_317 : decode cX9_fit 317 = .ok (.goto 236, 3) := by decide +kernel
theorem dX9_fit_320 : decode cX9_fit 320 = .ok (.aload_n 0, 1) := by decide +kernel
theorem dX9_fit_321 : decode cX9_fit 321 = .ok (.aload_n 0, 1) := by decide +kernel
theorem dX9_fit_322 : decode cX9_fit 322 = .ok (.getfield 15, 3) := by decide +kernel
theorem dX9_fit_325 : decode cX9_fit 325 = .ok (.iload_n 1, 1) := by decide +kernel
theorem dX9_fit_326 : decode cX9_fit 326 = .ok (.iaload, 1) := by decide +kernel
theorem dX9_fit_327 : decode cX9_fit 327 = .ok (.iconst 1, 1) := by decide +kernel
theorem dX9_fit_328 : decode cX9_fit 328 = .ok (.if_icmp .ne 7, 3) := by decide +kernel
theorem dX9_fit_331 : decode cX9_fit 331 = .ok (.iconst 1, 1) := by decide +kernel
theorem dX9_fit_332 : decode cX9_fit 332 = .ok (.goto 4, 3) := by decide +kernel
theorem dX9_fit_335 : decode cX9_fit 335 = .ok (.iconst 0, 1) := by decide +kernel
theorem dX9_fit_336 : decode cX9_fit 336 = .ok (.bipush 12, 2) := by decide +kernel
theorem dX9_fit_338 : decode cX9_fit 338 = .ok (.iload_n 3, 1) := by decide +kernel
theorem dX9_fit_339 : decode cX9_fit 339 = .ok (.invokevirtual 105, 3) := by decide +kernel
theorem dX9_fit_342 : decode cX9_fit 342 = .ok (.aload_n 0, 1) := by decide +kernel
theorem dX9_fit_343 : decode cX9_fit 343 = .ok (.getfield 29, 3) := by decide +kernel
theorem dX9_fit_346 : decode cX9_fit 346 = .ok (.iload_n 1, 1) := by decide +kernel
theorem dX9_fit_347 : decode cX9_fit 347 = .ok (.iaload, 1) := by decide +kernel
theorem dX9_fit_348 : decode cX9_fit 348 = .ok (.istore 4, 2) := by decide +kernel
theorem dX9_fit_350 : decode cX9_fit 350 = .ok (.iload 4, 2) := by decide +kernel
theorem dX9_fit_352 : decode cX9_fit 352 = .ok (.ifCond .lt 32, 3) := by decide +kernel
theorem dX9_fit_355 : decode cX9_fit 355 = .ok (.aload_n 0, 1) := by decide +kernel
theorem dX9_fit_356 : decode cX9_fit 356 = .ok (.iload 4, 2) := by decide +kernel
theorem dX9_fit_358 : decode cX9_fit 358 = .ok (.aload_n 0, 1) := by decide +kernel
theorem dX9_fit_359 : decode cX9_fit 359 = .ok (.getfield 56, 3) := by decide +kernel
theorem dX9_fit_362 : decode cX9_fit 362 = .ok (.aload_n 0, 1) := by decide +kernel
theorem dX9_fit_363 : decode cX9_fit 363 = .ok (.getfield 47, 3) := by decide +kernel
theorem dX9_fit_366 : decode cX9_fit 366 = .ok (.iload_n 2, 1) := by decide +kernel
theorem dX9_fit_367 : decode cX9_fit 367 = .ok (.iaload, 1) := by decide +kernel
theorem dX9_fit_368 : decode cX9_fit 368 = .ok (.iaload, 1) := by decide +kernel
theorem dX9_fit_369 : decode cX9_fit 369 = .ok (.invokevirtual 274, 3) := by decide +kernel
theorem dX9_fit_372 : decode cX9_fit 372 = .ok (.aload_n 0, 1) := by decide +kernel
theorem dX9_fit_373 : decode cX9_fit 373 = .ok (.getfield 32, 3) := by decide +kernel
theorem dX9_fit_376 : decode cX9_fit 376 = .ok (.iload 4, 2) := by decide +kernel
theorem dX9_fit_378 : decode cX9_fit 378 = .ok (.iaload, 1) := by decide +kernel
theorem dX9_fit_379 : decode cX9_fit 379 = .ok (.istore 4, 2) := by decide +kernel
theorem dX9_fit_381 : decode cX9_fit 381 = .ok (.goto (-31), 3) := by decide +kernel
theorem dX9_fit_384 : decode cX9_fit 384 = .ok (.goto 169, 3) := by decide +kernel
theorem dX9_fit_387 : decode cX9_fit 387 = .ok (.aload_n 0, 1) := by decide +kernel
theorem dX9_fit_388 : decode cX9_fit 388 = .ok (.aload_n 0, 1) := by decide +kernel
theorem dX9_fit_389 : decode cX9_fit 389 = .ok (.getfield 15, 3) := by decide +kernel
theorem dX9_fit_392 : decode cX9_fit 392 = .ok (.iload_n 1, 1) := by decide +kernel
theorem dX9_fit_393 : decode cX9_fit 393 = .ok (.iaload, 1) := by decide +kernel
theorem dX9_fit_394 : decode cX9_fit 394 = .ok (.ifCond .ne 7, 3) := by decide +kernel
theorem dX9_fit_397 : decode cX9_fit 397 = .ok (.iconst 1, 1) := by decide +kernel
theorem dX9_fit_398 : decode cX9_fit 398 = .ok (.goto 4, 3) := by decide +kernel
theorem dX9_fit_401 : decode cX9_fit 401 = .ok (.iconst 0, 1) := by decide +kernel
theorem dX9_fit_402 : decode cX9_fit 402 = .ok (.bipush 12, 2) := by decide +kernel
theorem dX9_fit_404 : decode cX9_fit 404 = .ok (.iload_n 3, 1) := by decide +kernel
theorem dX9_fit_405 : decode cX9_fit 405 = .ok (.invokevirtual 105, 3) := by decide +kernel
theorem dX9_fit_408 : decode cX9_fit 408 = .ok (.aload_n 0, 1) := by decide +kernel
theorem dX9_fit_409 : decode cX9_fit 409 = .ok (.getfield 29, 3) := by decide +kernel
theorem dX9_fit_412 : decode cX9_fit 412 = .ok (.iload_n 1, 1) := by decide +kernel
theorem dX9_fit_413 : decode cX9_fit 413 = .ok (.iaload, 1) := by decide +kernel
theorem dX9_fit_414 : decode cX9_fit 414 = .ok (.istore 4, 2) := by decide +kernel
theorem dX9_fit_416 : decode cX9_fit 416 = .ok (.iload 4, 2) := by decide +kernel
theorem dX9_fit_418 : decode cX9_fit 418 = .ok (.ifCond .lt 42, 3) := by decide +kernel
theorem dX9_fit_421 : decode cX9_fit 421 = .ok (.aload_n 0, 1) := by decide +kernel
theorem dX9_fit_422 : decode cX9_fit 422 = .ok (.aload_n 0, 1) := by decide +kernel
theorem dX9_fit_423 : decode cX9_fit 423 = .ok (.getfield 32, 3) := by decide +kernel
theorem dX9_fit_426 : decode cX9_fit 426 = .ok (.iload 4, 2) := by decide +kernel
theorem dX9_fit_428 : decode cX9_fit 428 = .ok (.iaload, 1) := by decide +kernel
theorem dX9_fit_429 : decode cX9_fit 429 = .ok (.aload_n 0, 1) := by decide +kernel
theorem dX9_fit_430 : decode cX9_fit 430 = .ok (.getfield 56, 3) := by decide +kernel
theorem dX9_fit_433 : decode cX9_fit 433 = .ok (.aload_n 0, 1) := by decide +kernel
theorem dX9_fit_434 : decode cX9_fit 434 = .ok (.getfield 47, 3) := by decide +kernel
theorem dX9_fit_437 : decode cX9_fit 437 = .ok (.iload_n 2, 1) := by decide +kernel
theorem dX9_fit_438 : decode cX9_fit 438 = .ok (.iaload, 1) := by decide +kernel
theorem dX9_fit_439 : decode cX9_fit 439 = .ok (.iaload, 1) := by decide +kernel
theorem dX9_fit_440 : decode cX9_fit 440 = .ok (.invokevirtual 274, 3) := by decide +kernel
theorem dX9_fit_443 : decode cX9_fit 443 = .ok (.aload_n 0, 1) := by decide +kernel
theorem dX9_fit_444 : decode cX9_fit 444 = .ok (.getfield 32, 3) := by decide +kernel
theorem dX9_fit_447 : decode cX9_fit 447 = .ok (.aload_n 0, 1) := by decide +kernel
theorem dX9_fit_448 : decode cX9_fit 448 = .ok (.getfield 32, 3) := by decide +kernel
theorem dX9_fit_451 : decode cX9_fit 451 = .ok (.iload 4, 2) := by decide +kernel
theorem dX9_fit_453 : decode cX9_fit 453 = .ok (.iaload, 1) := by decide +kernel
theorem dX9_fit_454 : decode cX9_fit 454 = .ok (.iaload, 1) := by decide +kernel
theorem dX9_fit_455 : decode cX9_fit 455 = .ok (.istore 4, 2) := by decide +kernel
theorem dX9_fit_457 : decode cX9_fit 457 = .ok (.goto (-41), 3) := by decide +kernel
theorem dX9_fit_460 : decode cX9_fit 460 = .ok (.goto 93, 3) := by decide +kernel
theorem dX9_fit_463 : decode cX9_fit 463 = .ok (.aload_n 0, 1) := by decide +kernel
theorem dX9_fit_464 : decode cX9_fit 464 = .ok (.aload_n 0, 1) := by decide +kernel
theorem dX9_fit_465 : decode cX9_fit 465 = .ok (.getfield 15, 3) := by decide +kernel
theorem dX9_fit_468 : decode cX9_fit 468 = .ok (.iload_n 1, 1) := by decide +kernel
theorem dX9_fit_469 : decode cX9_fit 469 = .ok (.iaload, 1) := by decide +kernel
theorem dX9_fit_470 : decode cX9_fit 470 = .ok (.ifCond .ne 7, 3) := by decide +kernel
theorem dX9_fit_473 : decode cX9_fit 473 = .ok (.iconst 1, 1) := by decide +kernel
theorem dX9_fit_474 : decode cX9_fit 474 = .ok (.goto 4, 3) := by decide +kernel
theorem dX9_fit_477 : decode cX9_fit 477 = .ok (.iconst 0, 1) := by decide +kernel
theorem dX9_fit_478 : decode cX9_fit 478 = .ok (.bipush 12, 2) := by decide +kernel
theorem dX9_fit_480 : decode cX9_fit 480 = .ok (.iload_n 3, 1) := by decide +kernel
theorem dX9_fit_481 : decode cX9_fit 481 = .ok (.invokevirtual 105, 3) := by decide +kernel
theorem dX9_fit_484 : decode cX9_fit 484 = .ok (.aload_n 0, 1) := by decide +kernel
theorem dX9_fit_485 : decode cX9_fit 485 = .ok (.getfield 47, 3) := by decide +kernel
theorem dX9_fit_488 : decode cX9_fit 488 = .ok (.iload_n 2, 1) := by decide +kernel
theorem dX9_fit_489 : decode cX9_fit 489 = .ok (.iaload, 1) := by decide +kernel
theorem dX9_fit_490 : decode cX9_fit 490 = .ok (.istore 4, 2) := by decide +kernel
theorem dX9_fit_492 : decode cX9_fit 492 = .ok (.iload 4, 2) := by decide +kernel
theorem dX9_fit_494 : decode cX9_fit 494 = .ok (.ifCond .lt 59, 3) := by decide +kernel
theorem dX9_fit_497 : decode cX9_fit 497 = .ok (.aload_n 0, 1) := by decide +kernel
theorem dX9_fit_498 : decode cX9_fit 498 = .ok (.iload_n 1, 1) := by decide +kernel
theorem dX9_fit_499 : decode cX9_fit 499 = .ok (.aload_n 0, 1) := by decide +kernel
theorem dX9_fit_500 : decode cX9_fit 500 = .ok (.getfield 59, 3) := by decide +kernel
theorem dX9_fit_503 : decode cX9_fit 503 = .ok (.iload 4, 2) := by decide +kernel
theorem dX9_fit_505 : decode cX9_fit 505 = .ok (.iaload, 1) := by decide +kernel
theorem dX9_fit_506 : decode cX9_fit 506 = .ok (.invokevirtual 277, 3) := by decide +kernel
theorem dX9_fit_509 : decode cX9_fit 509 = .ok (.istore 5, 2) := by decide +kernel
theorem dX9_fit_511 : decode cX9_fit 511 = .ok (.aload_n 0, 1) := by decide +kernel
theorem dX9_fit_512 : decode cX9_fit 512 = .ok (.iload 5, 2) := by decide +kernel
theorem dX9_fit_514 : decode cX9_fit 514 = .ok (.ifCond .lt 7, 3) := by decide +kernel
theorem dX9_fit_517 : decode cX9_fit 517 = .ok (.iconst 1, 1) := by decide +kernel
theorem dX9_fit_518 : decode cX9_fit 518 = .ok (.goto 4, 3) := by decide +kernel
theorem dX9_fit_521 : decode cX9_fit 521 = .ok (.iconst 0, 1) := by decide +kernel
theorem dX9_fit_522 : decode cX9_fit 522 = .ok (.bipush 12, 2) := by decide +kernel
theorem dX9_fit_524 : decode cX9_fit 524 = .ok (.iload_n 3, 1) := by decide +kernel
theorem dX9_fit_525 : decode cX9_fit 525 = .ok (.invokevirtual 105, 3) := by decide +kernel
theorem dX9_fit_528 : decode cX9_fit 528 = .ok (.aload_n 0, 1) := by decide +kernel
theorem dX9_fit_529 : decode cX9_fit 529 = .ok (.iload 5, 2) := by decide +kernel
theorem dX9_fit_531 : decode cX9_fit 531 = .ok (.aload_n 0, 1) := by decide +kernel
theorem dX9_fit_532 : decode cX9_fit 532 = .ok (.getfield 56, 3) := by decide +kernel
theorem dX9_fit_535 : decode cX9_fit 535 = .ok (.iload 4, 2) := by decide +kernel
theorem dX9_fit_537 : decode cX9_fit 537 = .ok (.iaload, 1) := by decide +kernel
theorem dX9_fit_538 : decode cX9_fit 538 = .ok (.invokevirtual 274, 3) := by decide +kernel
theorem dX9_fit_541 : decode cX9_fit 541 = .ok (.aload_n 0, 1) := by decide +kernel
theorem dX9_fit_542 : decode cX9_fit 542 = .ok (.getfield 65, 3) := by decide +kernel
theorem dX9_fit_545 : decode cX9_fit 545 = .ok (.iload 4, 2) := by decide +kernel
theorem dX9_fit_547 : decode cX9_fit 547 = .ok (.iaload, 1) := by decide +kernel
theorem dX9_fit_548 : decode cX9_fit 548 = .ok (.istore 4, 2) := by decide +kernel
theorem dX9_fit_550 : decode cX9_fit 550 = .ok (.goto (-58), 3) := by decide +kernel
theorem dX9_fit_553 : decode cX9_fit 553 = .ok (.return_, 1) := by decide +kernel
abbrev cX9_write : ByteArray := prog_12_method_37_code
def yX9_write : MethodName := ⟨RX9, "write", "(I)V"⟩
def wsX9_write : List Cond := .code yX9_write cX9_write 3 none :: sr_G
theorem dX9_write_0 : decode cX9_write 0 = .ok (.aload_n 0, 1) := by decide +kernel
theorem dX9_write_1 : decode cX9_write 1 = .ok (.getfield 38, 3) := by decide +kernel
theorem dX9_write_4 : decode cX9_write 4 = .ok (.iload_n 1, 1) := by decide +kernel
theorem dX9_write_5 : decode cX9_write 5 = .ok (.iaload, 1) := by decide +kernel
theorem dX9_write_6 : decode cX9_write 6 = .ok (.tableswitch 165 6 11 #[38, 38, 87, 157, 157, 157], 38) := by decide +kernel
theorem dX9_write_44 : decode cX9_write 44 = .ok (.aload_n 0, 1) := by decide +kernel
theorem dX9_write_45 : decode cX9_write 45 = .ok (.aload_n 0, 1) := by decide +kernel
theorem dX9_write_46 : decode cX9_write 46 = .ok (.getfield 38, 3) := by decide +kernel
theorem dX9_write_49 : decode cX9_write 49 = .ok (.iload_n 1, 1) := by decide +kernel
theorem dX9_write_50 : decode cX9_write 50 = .ok (.iaload, 1) := by decide +kernel
theorem dX9_write_51 : decode cX9_write 51 = .ok (.bipush 6, 2) := by decide +kernel
theorem dX9_write_53 : decode cX9_write 53 = .ok (.if_icmp .ne 9, 3) := by decide +kernel
theorem dX9_write_56 : decode cX9_write 56 = .ok (.ldc_w, 1) := by decide +kernel
theorem dX9_write_59 : decode cX9_write 59 = .ok (.goto 6, 3) := by decide +kernel
theorem dX9_write_62 : decode cX9_write 62 = .ok (.ldc_w, 1) := by decide +kernel
theorem dX9_write_65 : decode cX9_write 65 = .ok (.invokevirtual 297, 3) := by decide +kernel
theorem dX9_write_68 : decode cX9_write 68 = .ok (.aload_n 0, 1) := by decide +kernel
theorem dX9_write_69 : decode cX9_write 69 = .ok (.aload_n 0, 1) := by decide +kernel
theorem dX9_write_70 : decode cX9_write 70 = .ok (.getfield 56, 3) := by decide +kernel
theorem dX9_write_73 : decode cX9_write 73 = .ok (.aload_n 0, 1) := by decide +kernel
theorem dX9_write_74 : decode cX9_write 74 = .ok (.getfield 47, 3) := by decide +kernel
theorem dX9_write_77 : decode cX9_write 77 = .ok (.iload_n 1, 1) := by decide +kernel
theorem dX9_write_78 : decode cX9_write 78 = .ok (.iaload, 1) := by decide +kernel
theorem dX9_write_79 : decode cX9_write 79 = .ok (.iaload, 1) := by decide +kernel
theorem dX9_write_80 : decode cX9_write 80 = .ok (.invokevirtual 289, 3) := by decide +kernel
theorem dX9_write_83 : decode cX9_write 83 = .ok (.aload_n 0, 1) := by decide +kernel
theorem dX9_write_84 : decode cX9_write 84 = .ok (.ldc_w, 1) := by decide +kernel
theorem dX9_write_87 : decode cX9_write 87 = .ok (.invokevirtual 297, 3) := by decide +kernel
theorem dX9_write_90 : decode cX9_write 90 = .ok (.goto 175, 3) := by decide +kernel
theorem dX9_write_93 : decode cX9_write 93 = .ok (.aload_n 0, 1) := by decide +kernel
theorem dX9_write_94 : decode cX9_write 94 = .ok (.ldc_w, 1) := by decide +kernel
theorem dX9_write_97 : decode cX9_write 97 = .ok (.invokevirtual 297, 3) := by decide +kernel
theorem dX9_write_100 : decode cX9_write 100 = .ok (.aload_n 0, 1) := by decide +kernel
theorem dX9_write_101 : decode cX9_write 101 = .ok (.getfield 47, 3) := by decide +kernel
theorem dX9_write_104 : decode cX9_write 104 = .ok (.iload_n 1, 1) := by decide +kernel
theorem dX9_write_105 : decode cX9_write 105 = .ok (.iaload, 1) := by decide +kernel
theorem dX9_write_106 : decode cX9_write 106 = .ok (.istore_n 2, 1) := by decide +kernel
theorem dX9_write_107 : decode cX9_write 107 = .ok (.iload_n 2, 1) := by decide +kernel
theorem dX9_write_108 : decode cX9_write 108 = .ok (.ifCond .lt 45, 3) := by decide +kernel
theorem dX9_write_111 : decode cX9_write 111 = .ok (.aload_n 0, 1) := by decide +kernel
theorem dX9_write_112 : decode cX9_write 112 = .ok (.aload_n 0, 1) := by decide +kernel
theorem dX9_write_113 : decode cX9_write 113 = .ok (.getfield 56, 3) := by decide +kernel
theorem dX9_write_116 : decode cX9_write 116 = .ok (.iload_n 2, 1) := by decide +kernel
theorem dX9_write_117 : decode cX9_write 117 = .ok (.iaload, 1) := by decide +kernel
theorem dX9_write_118 : decode cX9_write 118 = .ok (.invokevirtual 289, 3) := by decide +kernel
theorem dX9_write_121 : decode cX9_write 121 = .ok (.aload_n 0, 1) := by decide +kernel
theorem dX9_write_122 : decode cX9_write 122 = .ok (.aload_n 0, 1) := by decide +kernel
theorem dX9_write_123 : decode cX9_write 123 = .ok (.getfield 65, 3) := by decide +kernel
theorem dX9_write_126 : decode cX9_write 126 = .ok (.iload_n 2, 1) := by decide +kernel
theorem dX9_write_127 : decode cX9_write 127 = .ok (.iaload, 1) := by decide +kernel
theorem dX9_write_128 : decode cX9_write 128 = .ok (.ifCond .lt 9, 3) := by decide +kernel
theorem dX9_write_131 : decode cX9_write 131 = .ok (.ldc_w, 1) := by decide +kernel
theorem dX9_write_134 : decode cX9_write 134 = .ok (.goto 6, 3) := by decide +kernel
theorem dX9_write_137 : decode cX9_write 137 = .ok (.ldc_w, 1) := by decide +kernel
theorem dX9_write_140 : decode cX9_write 140 = .ok (.invokevirtual 297, 3) := by decide +kernel
theorem dX9_write_143 : decode cX9_write 143 = .ok (.aload_n 0, 1) := by decide +kernel
theorem dX9_write_144 : decode cX9_write 144 = .ok (.getfield 65, 3) := by decide +kernel
theorem dX9_write_147 : decode cX9_write 147 = .ok (.iload_n 2, 1) := by decide +kernel
theorem dX9_write_148 : decode cX9_write 148 = .ok (.iaload, 1) := by decide +kernel
theorem dX9_write_149 : decode cX9_write 149 = .ok (.istore_n 2, 1) := by decide +kernel
theorem dX9_write_150 : decode cX9_write 150 = .ok (.goto (-43), 3) := by decide +kernel
theorem dX9_write_153 : decode cX9_write 153 = .ok (.aload_n 0, 1) := by decide +kernel
theorem dX9_write_154 : decode cX9_write 154 = .ok (.ldc_w, 1) := by decide +kernel
theorem dX9_write_157 : decode cX9_write 157 = .ok (.invokevirtual 297, 3) := by decide +kernel
theorem dX9_write_160 : decode cX9_write 160 = .ok (.goto 105, 3) := by decide +kernel
theorem dX9_write_163 : decode cX9_write 163 = .ok (.aload_n 0, 1) := by decide +kernel
theorem dX9_write_164 : decode cX9_write 164 = .ok (.iload_n 1, 1) := by decide +kernel
theorem dX9_write_165 : decode cX9_write 165 = .ok (.invokevirtual 314, 3) := by decide +kernel
theorem dX9_write_168 : decode cX9_write 168 = .ok (.goto 97, 3) := by decide +kernel
theorem dX9_write_171 : decode cX9_write 171 = .ok (.aload_n 0, 1) := by decide +kernel
theorem dX9_write_172 : decode cX9_write 172 = .ok (.ldc_w, 1) := by decide +kernel
theorem dX9_write_175 : decode cX9_write 175 = .ok (.invokevirtual 297, 3) := by decide +kernel
theorem dX9_write_178 : decode cX9_write 178 = .ok (.aload_n 0, 1) := by decide +kernel
theorem dX9_write_179 : decode cX9_write 179 = .ok (.aload_n 0, 1) := by decide +kernel
theorem dX9_write_180 : decode cX9_write 180 = .ok (.getfield 38, 3) := by decide +kernel
theorem dX9_write_183 : decode cX9_write 183 = .ok (.iload_n 1, 1) := by decide +kernel
theorem dX9_write_184 : decode cX9_write 184 = .ok (.iaload, 1) := by decide +kernel
theorem dX9_write_185 : decode cX9_write 185 = .ok (.ifCond .ne 8, 3) := by decide +kernel
theorem dX9_write_188 : decode cX9_write 188 = .ok (.ldc 135, 2) := by decide +kernel
theorem dX9_write_190 : decode cX9_write 190 = .ok (.goto 65, 3) := by decide +kernel
theorem dX9_write_193 : decode cX9_write 193 = .ok (.aload_n 0, 1) := by decide +kernel
theorem dX9_write_194 : decode cX9_write 194 = .ok (.getfield 38, 3) := by decide +kernel
theorem dX9_write_197 : decode cX9_write 197 = .ok (.iload_n 1, 1) := by decide +kernel
theorem dX9_write_198 : decode cX9_write 198 = .ok (.iaload, 1) := by decide +kernel
theorem dX9_write_199 : decode cX9_write 199 = .ok (.iconst 1, 1) := by decide +kernel
theorem dX9_write_200 : decode cX9_write 200 = .ok (.if_icmp .ne 8, 3) := by decide +kernel
theorem dX9_write_203 : decode cX9_write 203 = .ok (.ldc 181, 2) := by decide +kernel
theorem dX9_write_205 : decode cX9_write 205 = .ok (.goto 50, 3) := by decide +kernel
theorem dX9_write_208 : decode cX9_write 208 = .ok (.aload_n 0, 1) := by decide +kernel
theorem dX9_write_209 : decode cX9_write 209 = .ok (.getfield 38, 3) := by decide +kernel
theorem dX9_write_212 : decode cX9_write 212 = .ok (.iload_n 1, 1) := by decide +kernel
theorem dX9_write_213 : decode cX9_write 213 = .ok (.iaload, 1) := by decide +kernel
theorem dX9_write_214 : decode cX9_write 214 = .ok (.iconst 2, 1) := by decide +kernel
theorem dX9_write_215 : decode cX9_write 215 = .ok (.if_icmp .ne 8, 3) := by decide +kernel
theorem dX9_write_218 : decode cX9_write 218 = .ok (.ldc 183, 2) := by decide +kernel
theorem dX9_write_220 : decode cX9_write 220 = .ok (.goto 35, 3) := by decide +kernel
theorem dX9_write_223 : decode cX9_write 223 = .ok (.aload_n 0, 1) := by decide +kernel
theorem dX9_write_224 : decode cX9_write 224 = .ok (.getfield 38, 3) := by decide +kernel
theorem dX9_write_227 : decode cX9_write 227 = .ok (.iload_n 1, 1) := by decide +kernel
theorem dX9_write_228 : decode cX9_write 228 = .ok (.iaload, 1) := by decide +kernel
theorem dX9_write_229 : decode cX9_write 229 = .ok (.iconst 3, 1) := by decide +kernel
theorem dX9_write_230 : decode cX9_write 230 = .ok (.if_icmp .ne 8, 3) := by decide +kernel
theorem dX9_write_233 : decode cX9_write 233 = .ok (.ldc 185, 2) := by decide +kernel
theorem dX9_write_235 : decode cX9_write 235 = .ok (.goto 20, 3) := by decide +kernel
theorem dX9_write_238 : decode cX9_write 238 = .ok (.aload_n 0, 1) := by decide +kernel
theorem dX9_write_239 : decode cX9_write 239 = .ok (.getfield 38, 3) := by decide +kernel
theorem dX9_write_242 : decode cX9_write 242 = .ok (.iload_n 1, 1) := by decide +kernel
theorem dX9_write_243 : decode cX9_write 243 = .ok (.iaload, 1) := by decide +kernel
theorem dX9_write_244 : decode cX9_write 244 = .ok (.iconst 4, 1) := by decide +kernel
theorem dX9_write_245 : decode cX9_write 245 = .ok (.if_icmp .ne 8, 3) := by decide +kernel
theorem dX9_write_248 : decode cX9_write 248 = .ok (.ldc 187, 2) := by decide +kernel
theorem dX9_write_250 : decode cX9_write 250 = .ok (.goto 5, 3) := by decide +kernel
theorem dX9_write_253 : decode cX9_write 253 = .ok (.ldc 188, 2) := by decide +kernel
theorem dX9_write_255 : decode cX9_write 255 = .ok (.invokevirtual 297, 3) := by decide +kernel
theorem dX9_write_258 : decode cX9_write 258 = .ok (.aload_n 0, 1) := by decide +kernel
theorem dX9_write_259 : decode cX9_write 259 = .ok (.ldc_w, 1) := by decide +kernel
theorem dX9_write_262 : decode cX9_write 262 = .ok (.invokevirtual 297, 3) := by decide +kernel
theorem dX9_write_265 : decode cX9_write 265 = .ok (.return_, 1) := by decide +kernel
abbrev cX9_writeNamed : ByteArray := prog_12_method_39_code
def yX9_writeNamed : MethodName := ⟨RX9, "writeNamed", "(I)V"⟩
def wsX9_writeNamed : List Cond := .code yX9_writeNamed cX9_writeNamed 3 none :: sr_G
theorem dX9_writeNamed_0 : decode cX9_writeNamed 0 = .ok (.aload_n 0, 1) := by decide +kernel
theorem dX9_writeNamed_1 : decode cX9_writeNamed 1 = .ok (.getfield 74, 3) := by decide +kernel
theorem dX9_writeNamed_4 : decode cX9_writeNamed 4 = .ok (.iload_n 1, 1) := by decide +kernel
theorem dX9_writeNamed_5 : decode cX9_writeNamed 5 = .ok (.baload, 1) := by decide +kernel
theorem dX9_writeNamed_6 : decode cX9_writeNamed 6 = .ok (.ifCond .eq 14, 3) := by decide +kernel
theorem dX9_writeNamed_9 : decode cX9_writeNamed 9 = .ok (.aload_n 0, 1) := by decide +kernel
theorem dX9_writeNamed_10 : decode cX9_writeNamed 10 = .ok (.aload_n 0, 1) := by decide +kernel
theorem dX9_writeNamed_11 : decode cX9_writeNamed 11 = .ok (.getfield 41, 3) := by decide +kernel
theorem dX9_writeNamed_14 : decode cX9_writeNamed 14 = .ok (.iload_n 1, 1) := by decide +kernel
theorem dX9_writeNamed_15 : decode cX9_writeNamed 15 = .ok (.iaload, 1) := by decide +kernel
theorem dX9_writeNamed_16 : decode cX9_writeNamed 16 = .ok (.invokevirtual 317, 3) := by decide +kernel
theorem dX9_writeNamed_19 : decode cX9_writeNamed 19 = .ok (.return_, 1) := by decide +kernel
theorem dX9_writeNamed_20 : decode cX9_writeNamed 20 = .ok (.aload_n 0, 1) := by decide +kernel
theorem dX9_writeNamed_21 : decode cX9_writeNamed 21 = .ok (.getfield 74, 3) := by decide +kernel
theorem dX9_writeNamed_24 : decode cX9_writeNamed 24 = .ok (.iload_n 1, 1) := by decide +kernel
theorem dX9_writeNamed_25 : decode cX9_writeNamed 25 = .ok (.iconst 1, 1) := by decide +kernel
theorem dX9_writeNamed_26 : decode cX9_writeNamed 26 = .ok (.bastore, 1) := by decide +kernel
theorem dX9_writeNamed_27 : decode cX9_writeNamed 27 = .ok (.aload_n 0, 1) := by decide +kernel
theorem dX9_writeNamed_28 : decode cX9_writeNamed 28 = .ok (.ldc_w, 1) := by decide +kernel
theorem dX9_writeNamed_31 : decode cX9_writeNamed 31 = .ok (.invokevirtual 297, 3) := by decide +kernel
theorem dX9_writeNamed_34 : decode cX9_writeNamed 34 = .ok (.aload_n 0, 1) := by decide +kernel
theorem dX9_writeNamed_35 : decode cX9_writeNamed 35 = .ok (.aload_n 0, 1) := by decide +kernel
theorem dX9_writeNamed_36 : decode cX9_writeNamed 36 = .ok (.getfield 41, 3) := by decide +kernel
theorem dX9_writeNamed_39 : decode cX9_writeNamed 39 = .ok (.iload_n 1, 1) := by decide +kernel
theorem dX9_writeNamed_40 : decode cX9_writeNamed 40 = .ok (.iaload, 1) := by decide +kernel
theorem dX9_writeNamed_41 : decode cX9_writeNamed 41 = .ok (.invokevirtual 317, 3) := by decide +kernel
theorem dX9_writeNamed_44 : decode cX9_writeNamed 44 = .ok (.aload_n 0, 1) := by decide +kernel
theorem dX9_writeNamed_45 : decode cX9_writeNamed 45 = .ok (.getfield 38, 3) := by decide +kernel
theorem dX9_writeNamed_48 : decode cX9_writeNamed 48 = .ok (.iload_n 1, 1) := by decide +kernel
theorem dX9_writeNamed_49 : decode cX9_writeNamed 49 = .ok (.iaload, 1) := by decide +kernel
theorem dX9_writeNamed_50 : decode cX9_writeNamed 50 = .ok (.bipush 9, 2) := by decide +kernel
theorem dX9_writeNamed_52 : decode cX9_writeNamed 52 = .ok (.if_icmp .ne 55, 3) := by decide +kernel
theorem dX9_writeNamed_55 : decode cX9_writeNamed 55 = .ok (.aload_n 0, 1) := by decide +kernel
theorem dX9_writeNamed_56 : decode cX9_writeNamed 56 = .ok (.ldc_w, 1) := by decide +kernel
theorem dX9_writeNamed_59 : decode cX9_writeNamed 59 = .ok (.invokevirtual 297, 3) := by decide +kernel
theorem dX9_writeNamed_62 : decode cX9_writeNamed 62 = .ok (.aload_n 0, 1) := by decide +kernel
theorem dX9_writeNamed_63 : decode cX9_writeNamed 63 = .ok (.getfield 44, 3) := by decide +kernel
theorem dX9_writeNamed_66 : decode cX9_writeNamed 66 = .ok (.iload_n 1, 1) := by decide +kernel
theorem dX9_writeNamed_67 : decode cX9_writeNamed 67 = .ok (.iaload, 1) := by decide +kernel
theorem dX9_writeNamed_68 : decode cX9_writeNamed 68 = .ok (.bipush 9, 2) := by decide +kernel
theorem dX9_writeNamed_70 : decode cX9_writeNamed 70 = .ok (.if_icmp .le 16, 3) := by decide +kernel
theorem dX9_writeNamed_73 : decode cX9_writeNamed 73 = .ok (.aload_n 0, 1) := by decide +kernel
theorem dX9_writeNamed_74 : decode cX9_writeNamed 74 = .ok (.aload_n 0, 1) := by decide +kernel
theorem dX9_writeNamed_75 : decode cX9_writeNamed 75 = .ok (.getfield 44, 3) := by decide +kernel
theorem dX9_writeNamed_78 : decode cX9_writeNamed 78 = .ok (.iload_n 1, 1) := by decide +kernel
theorem dX9_writeNamed_79 : decode cX9_writeNamed 79 = .ok (.iaload, 1) := by decide +kernel
theorem dX9_writeNamed_80 : decode cX9_writeNamed 80 = .ok (.bipush 10, 2) := by decide +kernel
theorem dX9_writeNamed_82 : decode cX9_writeNamed 82 = .ok (.idiv, 1) := by decide +kernel
theorem dX9_writeNamed_83 : decode cX9_writeNamed 83 = .ok (.invokevirtual 324, 3) := by decide +kernel
theorem dX9_writeNamed_86 : decode cX9_writeNamed 86 = .ok (.aload_n 0, 1) := by decide +kernel
theorem dX9_writeNamed_87 : decode cX9_writeNamed 87 = .ok (.aload_n 0, 1) := by decide +kernel
theorem dX9_writeNamed_88 : decode cX9_writeNamed 88 = .ok (.getfield 44, 3) := by decide +kernel
theorem dX9_writeNamed_91 : decode cX9_writeNamed 91 = .ok (.iload_n 1, 1) := by decide +kernel
theorem dX9_writeNamed_92 : decode cX9_writeNamed 92 = .ok (.iaload, 1) := by decide +kernel
theorem dX9_writeNamed_93 : decode cX9_writeNamed 93 = .ok (.bipush 10, 2) := by decide +kernel
theorem dX9_writeNamed_95 : decode cX9_writeNamed 95 = .ok (.irem, 1) := by decide +kernel
theorem dX9_writeNamed_96 : decode cX9_writeNamed 96 = .ok (.invokevirtual 324, 3) := by decide +kernel
theorem dX9_writeNamed_99 : decode cX9_writeNamed 99 = .ok (.aload_n 0, 1) := by decide +kernel
theorem dX9_writeNamed_100 : decode cX9_writeNamed 100 = .ok (.ldc_w, 1) := by decide +kernel
theorem dX9_writeNamed_103 : decode cX9_writeNamed 103 = .ok (.invokevirtual 297, 3) := by decide +kernel
theorem dX9_writeNamed_106 : decode cX9_writeNamed 106 = .ok (.return_, 1) := by decide +kernel
theorem dX9_writeNamed_107 : decode cX9_writeNamed 107 = .ok (.aload_n 0, 1) := by decide +kernel
theorem dX9_writeNamed_108 : decode cX9_writeNamed 108 = .ok (.aload_n 0, 1) := by decide +kernel
theorem dX9_writeNamed_109 : decode cX9_writeNamed 109 = .ok (.getfield 38, 3) := by decide +kernel
theorem dX9_writeNamed_112 : decode cX9_writeNamed 112 = .ok (.iload_n 1, 1) := by decide +kernel
theorem dX9_writeNamed_113 : decode cX9_writeNamed 113 = .ok (.iaload, 1) := by decide +kernel
theorem dX9_writeNamed_114 : decode cX9_writeNamed 114 = .ok (.bipush 10, 2) := by decide +kernel
theorem dX9_writeNamed_116 : decode cX9_writeNamed 116 = .ok (.if_icmp .ne 9, 3) := by decide +kernel
theorem dX9_writeNamed_119 : decode cX9_writeNamed 119 = .ok (.ldc_w, 1) := by decide +kernel
theorem dX9_writeNamed_122 : decode cX9_writeNamed 122 = .ok (.goto 6, 3) := by decide +kernel
theorem dX9_writeNamed_125 : decode cX9_writeNamed 125 = .ok (.ldc_w, 1) := by decide +kernel
theorem dX9_writeNamed_128 : decode cX9_writeNamed 128 = .ok (.invokevirtual 297, 3) := by decide +kernel
theorem dX9_writeNamed_131 : decode cX9_writeNamed 131 = .ok (.aload_n 0, 1) := by decide +kernel
theorem dX9_writeNamed_132 : decode cX9_writeNamed 132 = .ok (.getfield 47, 3) := by decide +kernel
theorem dX9_writeNamed_135 : decode cX9_writeNamed 135 = .ok (.iload_n 1, 1) := by decide +kernel
theorem dX9_writeNamed_136 : decode cX9_writeNamed 136 = .ok (.iaload, 1) := by decide +kernel
theorem dX9_writeNamed_137 : decode cX9_writeNamed 137 = .ok (.istore_n 2, 1) := by decide +kernel
theorem dX9_writeNamed_138 : decode cX9_writeNamed 138 = .ok (.iload_n 2, 1) := by decide +kernel
theorem dX9_writeNamed_139 : decode cX9_writeNamed 139 = .ok (.ifCond .lt 98, 3) := by decide +kernel
theorem dX9_writeNamed_142 : decode cX9_writeNamed 142 = .ok (.aload_n 0, 1) := by decide +kernel
theorem dX9_writeNamed_143 : decode cX9_writeNamed 143 = .ok (.getfield 38, 3) := by decide +kernel
theorem dX9_writeNamed_146 : decode cX9_writeNamed 146 = .ok (.iload_n 1, 1) := by decide +kernel
theorem dX9_writeNamed_147 : decode cX9_writeNamed 147 = .ok (.iaload, 1) := by decide +kernel
theorem dX9_writeNamed_148 : decode cX9_writeNamed 148 = .ok (.bipush 11, 2) := by decide +kernel
theorem dX9_writeNamed_150 : decode cX9_writeNamed 150 = .ok (.if_icmp .ne 10, 3) := by decide +kernel
theorem dX9_writeNamed_153 : decode cX9_writeNamed 153 = .ok (.aload_n 0, 1) := by decide +kernel
theorem dX9_writeNamed_154 : decode cX9_writeNamed 154 = .ok (.ldc_w, 1) := by decide +kernel
theorem dX9_writeNamed_157 : decode cX9_writeNamed 157 = .ok (.invokevirtual 297, 3) := by decide +kernel
theorem dX9_writeNamed_160 : decode cX9_writeNamed 160 = .ok (.aload_n 0, 1) := by decide +kernel
theorem dX9_writeNamed_161 : decode cX9_writeNamed 161 = .ok (.aload_n 0, 1) := by decide +kernel
theorem dX9_writeNamed_162 : decode cX9_writeNamed 162 = .ok (.getfield 59, 3) := by decide +kernel
theorem dX9_writeNamed_165 : decode cX9_writeNamed 165 = .ok (.iload_n 2, 1) := by decide +kernel
theorem dX9_writeNamed_166 : decode cX9_writeNamed 166 = .ok (.iaload, 1) := by decide +kernel
theorem dX9_writeNamed_167 : decode cX9_writeNamed 167 = .ok (.invokevirtual 317, 3) := by decide +kernel
theorem dX9_writeNamed_170 : decode cX9_writeNamed 170 = .ok (.aload_n 0, 1) := by decide +kernel
theorem dX9_writeNamed_171 : decode cX9_writeNamed 171 = .ok (.getfield 38, 3) := by decide +kernel
theorem dX9_writeNamed_174 : decode cX9_writeNamed 174 = .ok (.iload_n 1, 1) := by decide +kernel
theorem dX9_writeNamed_175 : decode cX9_writeNamed 175 = .ok (.iaload, 1) := by decide +kernel
theorem dX9_writeNamed_176 : decode cX9_writeNamed 176 = .ok (.bipush 11, 2) := by decide +kernel
theorem dX9_writeNamed_178 : decode cX9_writeNamed 178 = .ok (.if_icmp .ne 27, 3) := by decide +kernel
theorem dX9_writeNamed_181 : decode cX9_writeNamed 181 = .ok (.aload_n 0, 1) := by decide +kernel
theorem dX9_writeNamed_182 : decode cX9_writeNamed 182 = .ok (.ldc_w, 1) := by decide +kernel
theorem dX9_writeNamed_185 : decode cX9_writeNamed 185 = .ok (.invokevirtual 297, 3) := by decide +kernel
theorem dX9_writeNamed_188 : decode cX9_writeNamed 188 = .ok (.aload_n 0, 1) := by decide +kernel
theorem dX9_writeNamed_189 : decode cX9_writeNamed 189 = .ok (.aload_n 0, 1) := by decide +kernel
theorem dX9_writeNamed_190 : decode cX9_writeNamed 190 = .ok (.getfield 56, 3) := by decide +kernel
theorem dX9_writeNamed_193 : decode cX9_writeNamed 193 = .ok (.iload_n 2, 1) := by decide +kernel
theorem dX9_writeNamed_194 : decode cX9_writeNamed 194 = .ok (.iaload, 1) := by decide +kernel
theorem dX9_writeNamed_195 : decode cX9_writeNamed 195 = .ok (.invokevirtual 289, 3) := by decide +kernel
theorem dX9_writeNamed_198 : decode cX9_writeNamed 198 = .ok (.aload_n 0, 1) := by decide +kernel
theorem dX9_writeNamed_199 : decode cX9_writeNamed 199 = .ok (.ldc_w, 1) := by decide +kernel
theorem dX9_writeNamed_202 : decode cX9_writeNamed 202 = .ok (.invokevirtual 297, 3) := by decide +kernel
theorem dX9_writeNamed_205 : decode cX9_writeNamed 205 = .ok (.aload_n 0, 1) := by decide +kernel
theorem dX9_writeNamed_206 : decode cX9_writeNamed 206 = .ok (.aload_n 0, 1) := by decide +kernel
theorem dX9_writeNamed_207 : decode cX9_writeNamed 207 = .ok (.getfield 65, 3) := by decide +kernel
theorem dX9_writeNamed_210 : decode cX9_writeNamed 210 = .ok (.iload_n 2, 1) := by decide +kernel
theorem dX9_writeNamed_211 : decode cX9_writeNamed 211 = .ok (.iaload, 1) := by decide +kernel
theorem dX9_writeNamed_212 : decode cX9_writeNamed 212 = .ok (.ifCond .lt 9, 3) := by decide +kernel
theorem dX9_writeNamed_215 : decode cX9_writeNamed 215 = .ok (.ldc_w, 1) := by decide +kernel
theorem dX9_writeNamed_218 : decode cX9_writeNamed 218 = .ok (.goto 6, 3) := by decide +kernel
theorem dX9_writeNamed_221 : decode cX9_writeNamed 221 = .ok (.ldc_w, 1) := by decide +kernel
theorem dX9_writeNamed_224 : decode cX9_writeNamed 224 = .ok (.invokevirtual 297, 3) := by decide +kernel
theorem dX9_writeNamed_227 : decode cX9_writeNamed 227 = .ok (.aload_n 0, 1) := by decide +kernel
theorem dX9_writeNamed_228 : decode cX9_writeNamed 228 = .ok (.getfield 65, 3) := by decide +kernel
theorem dX9_writeNamed_231 : decode cX9_writeNamed 231 = .ok (.iload_n 2, 1) := by decide +kernel
theorem dX9_writeNamed_232 : decode cX9_writeNamed 232 = .ok (.iaload, 1) := by decide +kernel
theorem dX9_writeNamed_233 : decode cX9_writeNamed 233 = .ok (.istore_n 2, 1) := by decide +kernel
theorem dX9_writeNamed_234 : decode cX9_writeNamed 234 = .ok (.goto (-96), 3) := by decide +kernel
theorem dX9_writeNamed_237 : decode cX9_writeNamed 237 = .ok (.aload_n 0, 1) := by decide +kernel
theorem dX9_writeNamed_238 : decode cX9_writeNamed 238 = .ok (.ldc_w, 1) := by decide +kernel
theorem dX9_writeNamed_241 : decode cX9_writeNamed 241 = .ok (.invokevirtual 297, 3) := by decide +kernel
theorem dX9_writeNamed_244 : decode cX9_writeNamed 244 = .ok (.return_, 1) := by decide +kernel
abbrev cX9_readAll : ByteArray := prog_12_method_34_code
def yX9_readAll : MethodName := ⟨RX9, "readAll", "()V"⟩
def wsX9_readAll : List Cond := .code yX9_readAll cX9_readAll 4 none :: sr_G
theorem dX9_readAll_0 : decode cX9_readAll 0 = .ok (.aload_n 0, 1) := by decide +kernel
theorem dX9_readAll_1 : decode cX9_readAll 1 = .ok (.invokevirtual 149, 3) := by decide +kernel
theorem dX9_readAll_4 : decode cX9_readAll 4 = .ok (.aload_n 0, 1) := by decide +kernel
theorem dX9_readAll_5 : decode cX9_readAll 5 = .ok (.invokevirtual 152, 3) := by decide +kernel
theorem dX9_readAll_8 : decode cX9_readAll 8 = .ok (.istore_n 1, 1) := by decide +kernel
theorem dX9_readAll_9 : decode cX9_readAll 9 = .ok (.aload_n 0, 1) := by decide +kernel
theorem dX9_readAll_10 : decode cX9_readAll 10 = .ok (.aload_n 0, 1) := by decide +kernel
theorem dX9_readAll_11 : decode cX9_readAll 11 = .ok (.getfield 95, 3) := by decide +kernel
theorem dX9_readAll_14 : decode cX9_readAll 14 = .ok (.putfield 292, 3) := by decide +kernel
theorem dX9_readAll_17 : decode cX9_readAll 17 = .ok (.aload_n 0, 1) := by decide +kernel
theorem dX9_readAll_18 : decode cX9_readAll 18 = .ok (.invokevirtual 149, 3) := by decide +kernel
theorem dX9_readAll_21 : decode cX9_readAll 21 = .ok (.aload_n 0, 1) := by decide +kernel
theorem dX9_readAll_22 : decode cX9_readAll 22 = .ok (.aload_n 0, 1) := by decide +kernel
theorem dX9_readAll_23 : decode cX9_readAll 23 = .ok (.getfield 95, 3) := by decide +kernel
theorem dX9_readAll_26 : decode cX9_readAll 26 = .ok (.aload_n 0, 1) := by decide +kernel
theorem dX9_readAll_27 : decode cX9_readAll 27 = .ok (.getfield 98, 3) := by decide +kernel
theorem dX9_readAll_30 : decode cX9_readAll 30 = .ok (.if_icmp .ne 7, 3) := by decide +kernel
theorem dX9_readAll_33 : decode cX9_readAll 33 = .ok (.iconst 1, 1) := by decide +kernel
theorem dX9_readAll_34 : decode cX9_readAll 34 = .ok (.goto 4, 3) := by decide +kernel
theorem dX9_readAll_37 : decode cX9_readAll 37 = .ok (.iconst 0, 1) := by decide +kernel
theorem dX9_readAll_38 : decode cX9_readAll 38 = .ok (.iconst 1, 1) := by decide +kernel
theorem dX9_readAll_39 : decode cX9_readAll 39 = .ok (.aload_n 0, 1) := by decide +kernel
theorem dX9_readAll_40 : decode cX9_readAll 40 = .ok (.getfield 95, 3) := by decide +kernel
theorem dX9_readAll_43 : decode cX9_readAll 43 = .ok (.invokevirtual 105, 3) := by decide +kernel
theorem dX9_readAll_46 : decode cX9_readAll 46 = .ok (.aload_n 0, 1) := by decide +kernel
theorem dX9_readAll_47 : decode cX9_readAll 47 = .ok (.aload_n 0, 1) := by decide +kernel
theorem dX9_readAll_48 : decode cX9_readAll 48 = .ok (.iload_n 1, 1) := by decide +kernel
theorem dX9_readAll_49 : decode cX9_readAll 49 = .ok (.iconst 0, 1) := by decide +kernel
theorem dX9_readAll_50 : decode cX9_readAll 50 = .ok (.iconst 0, 1) := by decide +kernel
theorem dX9_readAll_51 : decode cX9_readAll 51 = .ok (.invokevirtual 229, 3) := by decide +kernel
theorem dX9_readAll_54 : decode cX9_readAll 54 = .ok (.putfield 286, 3) := by decide +kernel
theorem dX9_readAll_57 : decode cX9_readAll 57 = .ok (.iconst 0, 1) := by decide +kernel
theorem dX9_readAll_58 : decode cX9_readAll 58 = .ok (.istore_n 2, 1) := by decide +kernel
theorem dX9_readAll_59 : decode cX9_readAll 59 = .ok (.iload_n 2, 1) := by decide +kernel
theorem dX9_readAll_60 : decode cX9_readAll 60 = .ok (.aload_n 0, 1) := by decide +kernel
theorem dX9_readAll_61 : decode cX9_readAll 61 = .ok (.getfield 271, 3) := by decide +kernel
theorem dX9_readAll_64 : decode cX9_readAll 64 = .ok (.if_icmp .ge 41, 3) := by decide +kernel
theorem dX9_readAll_67 : decode cX9_readAll 67 = .ok (.aload_n 0, 1) := by decide +kernel
theorem dX9_readAll_68 : decode cX9_readAll 68 = .ok (.getfield 68, 3) := by decide +kernel
theorem dX9_readAll_71 : decode cX9_readAll 71 = .ok (.iload_n 2, 1) := by decide +kernel
theorem dX9_readAll_72 : decode cX9_readAll 72 = .ok (.iaload, 1) := by decide +kernel
theorem dX9_readAll_73 : decode cX9_readAll 73 = .ok (.istore_n 3, 1) := by decide +kernel
theorem dX9_readAll_74 : decode cX9_readAll 74 = .ok (.aload_n 0, 1) := by decide +kernel
theorem dX9_readAll_75 : decode cX9_readAll 75 = .ok (.getfield 62, 3) := by decide +kernel
theorem dX9_readAll_78 : decode cX9_readAll 78 = .ok (.iload_n 3, 1) := by decide +kernel
theorem dX9_readAll_79 : decode cX9_readAll 79 = .ok (.iaload, 1) := by decide +kernel
theorem dX9_readAll_80 : decode cX9_readAll 80 = .ok (.ifCond .lt 19, 3) := by decide +kernel
theorem dX9_readAll_83 : decode cX9_readAll 83 = .ok (.aload_n 0, 1) := by decide +kernel
theorem dX9_readAll_84 : decode cX9_readAll 84 = .ok (.aload_n 0, 1) := by decide +kernel
theorem dX9_readAll_85 : decode cX9_readAll 85 = .ok (.getfield 62, 3) := by decide +kernel
theorem dX9_readAll_88 : decode cX9_readAll 88 = .ok (.iload_n 3, 1) := by decide +kernel
theorem dX9_readAll_89 : decode cX9_readAll 89 = .ok (.iaload, 1) := by decide +kernel
theorem dX9_readAll_90 : decode cX9_readAll 90 = .ok (.aload_n 0, 1) := by decide +kernel
theorem dX9_readAll_91 : decode cX9_readAll 91 = .ok (.getfield 56, 3) := by decide +kernel
theorem dX9_readAll_94 : decode cX9_readAll 94 = .ok (.iload_n 3, 1) := by decide +kernel
theorem dX9_readAll_95 : decode cX9_readAll 95 = .ok (.iaload, 1) := by decide +kernel
theorem dX9_readAll_96 : decode cX9_readAll 96 = .ok (.invokevirtual 274, 3) := by decide +kernel
theorem dX9_readAll_99 : decode cX9_readAll 99 = .ok (.iinc 2 1, 3) := by decide +kernel
theorem dX9_readAll_102 : decode cX9_readAll 102 = .ok (.goto (-43), 3) := by decide +kernel
theorem dX9_readAll_105 : decode cX9_readAll 105 = .ok (.return_, 1) := by decide +kernel
theorem wf20_38 : (.fieldLink "java/lang/String" 38 "java/lang/String" "COMPACT_STRINGS" "Z" : Cond) ∈ sr_G := sr_in (in_tables_1_2 _ (List.mem_of_getElem? (i := 52) rfl)) rfl
theorem wf20_15 : (.fieldLink "java/lang/String" 15 "java/lang/String" "coder" "B" : Cond) ∈ sr_G := sr_in (in_tables_1_7 _ (List.mem_of_getElem? (i := 34) rfl)) rfl
theorem wf20_9 : (.fieldLink "java/lang/String" 9 "java/lang/String" "value" "[B" : Cond) ∈ sr_G := sr_in (in_tables_1_7 _ (List.mem_of_getElem? (i := 33) rfl)) rfl
theorem wf9_95 : (.fieldLink "SchemaReaderModel$Text" 95 "SchemaReaderModel$Text" "at" "I" : Cond) ∈ sr_G := sr_in (in_tables_1_5 _ (List.mem_of_getElem? (i := 7) rfl)) rfl
theorem wf9_98 : (.fieldLink "SchemaReaderModel$Text" 98 "SchemaReaderModel$Text" "length" "I" : Cond) ∈ sr_G := sr_in (in_tables_1_5 _ (List.mem_of_getElem? (i := 5) rfl)) rfl
theorem wf9_9 : (.fieldLink "SchemaReaderModel$Text" 9 "SchemaReaderModel$Text" "bytes" "[B" : Cond) ∈ sr_G := sr_in (in_tables_1_5 _ (List.mem_of_getElem? (i := 3) rfl)) rfl
theorem wf9_15 : (.fieldLink "SchemaReaderModel$Text" 15 "SchemaReaderModel$Text" "kinds" "[I" : Cond) ∈ sr_G := sr_in (in_tables_1_5 _ (List.mem_of_getElem? (i := 14) rfl)) rfl
theorem wf9_109 : (.fieldLink "SchemaReaderModel$Text" 109 "SchemaReaderModel$Text" "nodes" "I" : Cond) ∈ sr_G := sr_in (in_tables_1_5 _ (List.mem_of_getElem? (i := 13) rfl)) rfl
theorem wf9_19 : (.fieldLink "SchemaReaderModel$Text" 19 "SchemaReaderModel$Text" "firsts" "[I" : Cond) ∈ sr_G := sr_in (in_tables_1_5 _ (List.mem_of_getElem? (i := 15) rfl)) rfl
theorem wf9_22 : (.fieldLink "SchemaReaderModel$Text" 22 "SchemaReaderModel$Text" "numbers" "[J" : Cond) ∈ sr_G := sr_in (in_tables_1_5 _ (List.mem_of_getElem? (i := 16) rfl)) rfl
theorem wf9_26 : (.fieldLink "SchemaReaderModel$Text" 26 "SchemaReaderModel$Text" "sizes" "[I" : Cond) ∈ sr_G := sr_in (in_tables_1_5 _ (List.mem_of_getElem? (i := 17) rfl)) rfl
theorem wf9_29 : (.fieldLink "SchemaReaderModel$Text" 29 "SchemaReaderModel$Text" "inner" "[I" : Cond) ∈ sr_G := sr_in (in_tables_1_5 _ (List.mem_of_getElem? (i := 18) rfl)) rfl
theorem wf9_32 : (.fieldLink "SchemaReaderModel$Text" 32 "SchemaReaderModel$Text" "nexts" "[I" : Cond) ∈ sr_G := sr_in (in_tables_1_5 _ (List.mem_of_getElem? (i := 19) rfl)) rfl
theorem wf9_35 : (.fieldLink "SchemaReaderModel$Text" 35 "SchemaReaderModel$Text" "letters" "[B" : Cond) ∈ sr_G := sr_in (in_tables_1_5 _ (List.mem_of_getElem? (i := 20) rfl)) rfl
theorem wf9_189 : (.fieldLink "SchemaReaderModel$Text" 189 "SchemaReaderModel$Text" "shapes" "I" : Cond) ∈ sr_G := sr_in (in_tables_1_5 _ (List.mem_of_getElem? (i := 22) rfl)) rfl
theorem wf9_41 : (.fieldLink "SchemaReaderModel$Text" 41 "SchemaReaderModel$Text" "names" "[I" : Cond) ∈ sr_G := sr_in (in_tables_1_5 _ (List.mem_of_getElem? (i := 26) rfl)) rfl
theorem wf9_38 : (.fieldLink "SchemaReaderModel$Text" 38 "SchemaReaderModel$Text" "sorts" "[I" : Cond) ∈ sr_G := sr_in (in_tables_1_5 _ (List.mem_of_getElem? (i := 24) rfl)) rfl
theorem wf9_44 : (.fieldLink "SchemaReaderModel$Text" 44 "SchemaReaderModel$Text" "wide" "[I" : Cond) ∈ sr_G := sr_in (in_tables_1_5 _ (List.mem_of_getElem? (i := 28) rfl)) rfl
theorem wf9_47 : (.fieldLink "SchemaReaderModel$Text" 47 "SchemaReaderModel$Text" "kids" "[I" : Cond) ∈ sr_G := sr_in (in_tables_1_5 _ (List.mem_of_getElem? (i := 30) rfl)) rfl
theorem wf9_50 : (.fieldLink "SchemaReaderModel$Text" 50 "SchemaReaderModel$Text" "many" "[I" : Cond) ∈ sr_G := sr_in (in_tables_1_5 _ (List.mem_of_getElem? (i := 32) rfl)) rfl
theorem wf9_53 : (.fieldLink "SchemaReaderModel$Text" 53 "SchemaReaderModel$Text" "fallback" "[I" : Cond) ∈ sr_G := sr_in (in_tables_1_5 _ (List.mem_of_getElem? (i := 33) rfl)) rfl
theorem wf9_192 : (.fieldLink "SchemaReaderModel$Text" 192 "SchemaReaderModel$Text" "kidCount" "I" : Cond) ∈ sr_G := sr_in (in_tables_1_5 _ (List.mem_of_getElem? (i := 35) rfl)) rfl
theorem wf9_56 : (.fieldLink "SchemaReaderModel$Text" 56 "SchemaReaderModel$Text" "kidShape" "[I" : Cond) ∈ sr_G := sr_in (in_tables_1_5 _ (List.mem_of_getElem? (i := 36) rfl)) rfl
theorem wf9_59 : (.fieldLink "SchemaReaderModel$Text" 59 "SchemaReaderModel$Text" "kidName" "[I" : Cond) ∈ sr_G := sr_in (in_tables_1_5 _ (List.mem_of_getElem? (i := 38) rfl)) rfl
theorem wf9_62 : (.fieldLink "SchemaReaderModel$Text" 62 "SchemaReaderModel$Text" "kidDefault" "[I" : Cond) ∈ sr_G := sr_in (in_tables_1_5 _ (List.mem_of_getElem? (i := 40) rfl)) rfl
theorem wf9_65 : (.fieldLink "SchemaReaderModel$Text" 65 "SchemaReaderModel$Text" "kidNext" "[I" : Cond) ∈ sr_G := sr_in (in_tables_1_5 _ (List.mem_of_getElem? (i := 42) rfl)) rfl
theorem wf9_71 : (.fieldLink "SchemaReaderModel$Text" 71 "SchemaReaderModel$Text" "plain" "[B" : Cond) ∈ sr_G := sr_in (in_tables_1_5 _ (List.mem_of_getElem? (i := 48) rfl)) rfl
theorem wf9_280 : (.fieldLink "SchemaReaderModel$Text" 280 "SchemaReaderModel$Text" "plainSize" "I" : Cond) ∈ sr_G := sr_in (in_tables_1_5 _ (List.mem_of_getElem? (i := 51) rfl)) rfl
theorem wcl9_335 : (.constantLong "SchemaReaderModel$Text" 335 (-4513414715797952619) : Cond) ∈ sr_G := sr_in (in_tables_1_6 _ (List.mem_of_getElem? (i := 222) rfl)) rfl
theorem wcl9_337 : (.constantLong "SchemaReaderModel$Text" 337 (255) : Cond) ∈ sr_G := sr_in (in_tables_1_6 _ (List.mem_of_getElem? (i := 223) rfl)) rfl
theorem wf9_78 : (.fieldLink "SchemaReaderModel$Text" 78 "SchemaReaderModel$Text" "fault" "I" : Cond) ∈ sr_G := sr_in (in_tables_1_5 _ (List.mem_of_getElem? (i := 9) rfl)) rfl
theorem wf9_82 : (.fieldLink "SchemaReaderModel$Text" 82 "SchemaReaderModel$Text" "place" "I" : Cond) ∈ sr_G := sr_in (in_tables_1_5 _ (List.mem_of_getElem? (i := 10) rfl)) rfl
theorem wcl9_175 : (.constantLong "SchemaReaderModel$Text" 175 (10) : Cond) ∈ sr_G := sr_in (in_tables_1_6 _ (List.mem_of_getElem? (i := 79) rfl)) rfl
theorem wcl9_173 : (.constantLong "SchemaReaderModel$Text" 173 (-922337203685477580) : Cond) ∈ sr_G := sr_in (in_tables_1_6 _ (List.mem_of_getElem? (i := 78) rfl)) rfl
theorem wf9_167 : (.fieldLink "SchemaReaderModel$Text" 167 "SchemaReaderModel$Text" "lettered" "I" : Cond) ∈ sr_G := sr_in (in_tables_1_5 _ (List.mem_of_getElem? (i := 21) rfl)) rfl
theorem wf9_112 : (.fieldLink "SchemaReaderModel$Text" 112 "SchemaReaderModel$Text" "deep" "I" : Cond) ∈ sr_G := sr_in (in_tables_1_5 _ (List.mem_of_getElem? (i := 8) rfl)) rfl
theorem wf9_195 : (.fieldLink "SchemaReaderModel$Text" 195 "SchemaReaderModel$Text" "looked" "I" : Cond) ∈ sr_G := sr_in (in_tables_1_5 _ (List.mem_of_getElem? (i := 23) rfl)) rfl
theorem wcl9_254 : (.constantLong "SchemaReaderModel$Text" 254 (64) : Cond) ∈ sr_G := sr_in (in_tables_1_6 _ (List.mem_of_getElem? (i := 144) rfl)) rfl
theorem wf9_68 : (.fieldLink "SchemaReaderModel$Text" 68 "SchemaReaderModel$Text" "finished" "[I" : Cond) ∈ sr_G := sr_in (in_tables_1_5 _ (List.mem_of_getElem? (i := 45) rfl)) rfl
theorem wf9_271 : (.fieldLink "SchemaReaderModel$Text" 271 "SchemaReaderModel$Text" "done" "I" : Cond) ∈ sr_G := sr_in (in_tables_1_5 _ (List.mem_of_getElem? (i := 44) rfl)) rfl
theorem wf9_74 : (.fieldLink "SchemaReaderModel$Text" 74 "SchemaReaderModel$Text" "told" "[Z" : Cond) ∈ sr_G := sr_in (in_tables_1_5 _ (List.mem_of_getElem? (i := 52) rfl)) rfl
theorem wf9_292 : (.fieldLink "SchemaReaderModel$Text" 292 "SchemaReaderModel$Text" "end" "I" : Cond) ∈ sr_G := sr_in (in_tables_1_5 _ (List.mem_of_getElem? (i := 12) rfl)) rfl
theorem wf9_286 : (.fieldLink "SchemaReaderModel$Text" 286 "SchemaReaderModel$Text" "root" "I" : Cond) ∈ sr_G := sr_in (in_tables_1_5 _ (List.mem_of_getElem? (i := 47) rfl)) rfl
theorem wf20_1053 : (.fieldLink "java/lang/String" 1053 "jdk/internal/util/Preconditions" "SIOOBE_FORMATTER" "Ljava/util/function/BiFunction;" : Cond) ∈ sr_G := sr_in (in_tables_1_2 _ (List.mem_of_getElem? (i := 68) rfl)) rfl
theorem g20_335 (c0 : Cond) : GoodIn (c0 :: sr_G) (wsV RX20 335 RX20 yX20_coder wsX20_coder) := sr_V c0 (sr_ins (by decide +kernel))
theorem g20_1059 (c0 : Cond) : GoodIn (c0 :: sr_G) (va_wsS RX20 1059 yX22_ckQ wsX22_ckQ) := sr_S c0 (sr_ins (by decide +kernel))
theorem g21_9 (c0 : Cond) : GoodIn (c0 :: sr_G) (va_wsS RX21 9 yX20_checkIndex wsX20_checkIndex) := sr_S c0 (sr_ins (by decide +kernel))
theorem g20_492 (c0 : Cond) : GoodIn (c0 :: sr_G) (wsV RX20 492 RX20 yX20_isLatin1 wsX20_isLatin1) := sr_V c0 (sr_ins (by decide +kernel))
theorem g20_495 (c0 : Cond) : GoodIn (c0 :: sr_G) (va_wsS RX20 495 yX21_charAt wsX21_charAt) := sr_S c0 (sr_ins (by decide +kernel))
theorem g21_88 (c0 : Cond) : GoodIn (c0 :: sr_G) (va_wsS RX21 88 yX21_canEncode wsX21_canEncode) := sr_S c0 (sr_ins (by decide +kernel))
theorem g21_95 (c0 : Cond) : GoodIn (c0 :: sr_G) (va_wsS RX21 95 yX21_indexOfChar wsX21_indexOfChar) := sr_S c0 (sr_ins (by decide +kernel))
theorem g20_505 (c0 : Cond) : GoodIn (c0 :: sr_G) (wsV RX20 505 RX20 yX20_length wsX20_length) := sr_V c0 (sr_ins (by decide +kernel))
theorem g20_637 (c0 : Cond) : GoodIn (c0 :: sr_G) (va_wsS RX20 637 yX21_indexOf wsX21_indexOf) := sr_S c0 (sr_ins (by decide +kernel))
theorem g20_633 (c0 : Cond) : GoodIn (c0 :: sr_G) (wsV RX20 633 RX20 yX20_indexOf2 wsX20_indexOf2) := sr_V c0 (sr_ins (by decide +kernel))
theorem g9_101 (c0 : Cond) : GoodIn (c0 :: sr_G) (wsV RX9 101 RX9 yX9_look wsX9_look) := sr_V c0 (sr_ins (by decide +kernel))
theorem g9_155 (c0 : Cond) : GoodIn (c0 :: sr_G) (wsV RX9 155 RX9 yX9_same wsX9_same) := sr_V c0 (sr_ins (by decide +kernel))
theorem g9_91 (c0 : Cond) : GoodIn (c0 :: sr_G) (wsV RX9 91 RX9 yX9_fail wsX9_fail) := sr_V c0 (sr_ins (by decide +kernel))
theorem g9_105 (c0 : Cond) : GoodIn (c0 :: sr_G) (wsV RX9 105 RX9 yX9_need wsX9_need) := sr_V c0 (sr_ins (by decide +kernel))
theorem g9_127 (c0 : Cond) : GoodIn (c0 :: sr_G) (wsV RX9 127 RX9 yX9_node wsX9_node) := sr_V c0 (sr_ins (by decide +kernel))
theorem g9_137 (c0 : Cond) : GoodIn (c0 :: sr_G) (wsV RX9 137 RX20 yX20_length wsX20_length) := sr_V c0 (sr_ins (by decide +kernel))
theorem g9_141 (c0 : Cond) : GoodIn (c0 :: sr_G) (wsV RX9 141 RX20 yX20_charAt wsX20_charAt) := sr_V c0 (sr_ins (by decide +kernel))
theorem g9_177 (c0 : Cond) : GoodIn (c0 :: sr_G) (wsV RX9 177 RX9 yX9_is wsX9_is) := sr_V c0 (sr_ins (by decide +kernel))
theorem g9_297 (c0 : Cond) : GoodIn (c0 :: sr_G) (wsV RX9 297 RX9 yX9_put wsX9_put) := sr_V c0 (sr_ins (by decide +kernel))
theorem g9_145 (c0 : Cond) : GoodIn (c0 :: sr_G) (wsV RX9 145 RX9 yX9_take wsX9_take) := sr_V c0 (sr_ins (by decide +kernel))
theorem g9_164 (c0 : Cond) : GoodIn (c0 :: sr_G) (va_wsS RX9 164 yX9_hex wsX9_hex) := sr_S c0 (sr_ins (by decide +kernel))
theorem g9_161 (c0 : Cond) : GoodIn (c0 :: sr_G) (wsV RX9 161 RX20 yX20_indexOf wsX20_indexOf) := sr_V c0 (sr_ins (by decide +kernel))
theorem g9_170 (c0 : Cond) : GoodIn (c0 :: sr_G) (wsV RX9 170 RX9 yX9_escaped wsX9_escaped) := sr_V c0 (sr_ins (by decide +kernel))
theorem g9_149 (c0 : Cond) : GoodIn (c0 :: sr_G) (wsV RX9 149 RX9 yX9_blanks wsX9_blanks) := sr_V c0 (sr_ins (by decide +kernel))
theorem g9_152 (c0 : Cond) : GoodIn (c0 :: sr_G) (wsV RX9 152 RX9 yX9_value wsX9_value) := sr_V c0 (sr_ins (by decide +kernel))
theorem g9_121 (c0 : Cond) : GoodIn (c0 :: sr_G) (wsV RX9 121 RX9 yX9_string wsX9_string) := sr_V c0 (sr_ins (by decide +kernel))
theorem g9_118 (c0 : Cond) : GoodIn (c0 :: sr_G) (wsV RX9 118 RX9 yX9_list wsX9_list) := sr_V c0 (sr_ins (by decide +kernel))
theorem g9_115 (c0 : Cond) : GoodIn (c0 :: sr_G) (wsV RX9 115 RX9 yX9_object wsX9_object) := sr_V c0 (sr_ins (by decide +kernel))
theorem g9_124 (c0 : Cond) : GoodIn (c0 :: sr_G) (wsV RX9 124 RX9 yX9_number wsX9_number) := sr_V c0 (sr_ins (by decide +kernel))
theorem g9_210 (c0 : Cond) : GoodIn (c0 :: sr_G) (wsV RX9 210 RX9 yX9_member wsX9_member) := sr_V c0 (sr_ins (by decide +kernel))
theorem g9_266 (c0 : Cond) : GoodIn (c0 :: sr_G) (wsV RX9 266 RX9 yX9_symbol wsX9_symbol) := sr_V c0 (sr_ins (by decide +kernel))
theorem g9_248 (c0 : Cond) : GoodIn (c0 :: sr_G) (wsV RX9 248 RX9 yX9_isName wsX9_isName) := sr_V c0 (sr_ins (by decide +kernel))
theorem g9_225 (c0 : Cond) : GoodIn (c0 :: sr_G) (wsV RX9 225 RX9 yX9_addKid wsX9_addKid) := sr_V c0 (sr_ins (by decide +kernel))
theorem g9_222 (c0 : Cond) : GoodIn (c0 :: sr_G) (wsV RX9 222 RX9 yX9_shape wsX9_shape) := sr_V c0 (sr_ins (by decide +kernel))
theorem g9_229 (c0 : Cond) : GoodIn (c0 :: sr_G) (wsV RX9 229 RX9 yX9_schemaOf wsX9_schemaOf) := sr_V c0 (sr_ins (by decide +kernel))
theorem g9_242 (c0 : Cond) : GoodIn (c0 :: sr_G) (wsV RX9 242 RX9 yX9_alike wsX9_alike) := sr_V c0 (sr_ins (by decide +kernel))
theorem g9_259 (c0 : Cond) : GoodIn (c0 :: sr_G) (wsV RX9 259 RX9 yX9_fields wsX9_fields) := sr_V c0 (sr_ins (by decide +kernel))
theorem g9_256 (c0 : Cond) : GoodIn (c0 :: sr_G) (wsV RX9 256 RX9 yX9_symbols wsX9_symbols) := sr_V c0 (sr_ins (by decide +kernel))
theorem g9_198 (c0 : Cond) : GoodIn (c0 :: sr_G) (wsV RX9 198 RX9 yX9_word wsX9_word) := sr_V c0 (sr_ins (by decide +kernel))
theorem g9_201 (c0 : Cond) : GoodIn (c0 :: sr_G) (wsV RX9 201 RX9 yX9_defined wsX9_defined) := sr_V c0 (sr_ins (by decide +kernel))
theorem g9_238 (c0 : Cond) : GoodIn (c0 :: sr_G) (wsV RX9 238 RX9 yX9_named wsX9_named) := sr_V c0 (sr_ins (by decide +kernel))
theorem g9_204 (c0 : Cond) : GoodIn (c0 :: sr_G) (wsV RX9 204 RX9 yX9_union wsX9_union) := sr_V c0 (sr_ins (by decide +kernel))
theorem g9_274 (c0 : Cond) : GoodIn (c0 :: sr_G) (wsV RX9 274 RX9 yX9_fit wsX9_fit) := sr_V c0 (sr_ins (by decide +kernel))
theorem g9_277 (c0 : Cond) : GoodIn (c0 :: sr_G) (wsV RX9 277 RX9 yX9_memberLike wsX9_memberLike) := sr_V c0 (sr_ins (by decide +kernel))
theorem g9_317 (c0 : Cond) : GoodIn (c0 :: sr_G) (wsV RX9 317 RX9 yX9_putName wsX9_putName) := sr_V c0 (sr_ins (by decide +kernel))
theorem g9_289 (c0 : Cond) : GoodIn (c0 :: sr_G) (wsV RX9 289 RX9 yX9_write wsX9_write) := sr_V c0 (sr_ins (by decide +kernel))
theorem g9_324 (c0 : Cond) : GoodIn (c0 :: sr_G) (wsV RX9 324 RX9 yX9_figure wsX9_figure) := sr_V c0 (sr_ins (by decide +kernel))
theorem g9_314 (c0 : Cond) : GoodIn (c0 :: sr_G) (wsV RX9 314 RX9 yX9_writeNamed wsX9_writeNamed) := sr_V c0 (sr_ins (by decide +kernel))
theorem wm21_38 : ∀ w ∈ ([.methodLink RX21 38 Lib.Math.min.name, .static Lib.Math.min.name, .initialized "java/lang/Math", .code Lib.Math.min.name Lib.Math.min.code 2 (some .int)] : List Cond), w ∈ sr_G := sr_ins (by decide +kernel)
theorem wm21_92 : ∀ w ∈ ([.methodLink RX21 92 Lib.Math.max.name, .static Lib.Math.max.name, .initialized "java/lang/Math", .code Lib.Math.max.name Lib.Math.max.code 2 (some .int)] : List Cond), w ∈ sr_G := sr_ins (by decide +kernel)
