/-- the words that hold whatever the machine has linked since: one list for all methods -/
def sr_G : List Cond := lw_tbl.filter goodWord
theorem sr_in {w : Cond} (h : w ∈ lw_tbl) (hg : goodWord w = true) : w ∈ sr_G := List.mem_filter.mpr ⟨h, hg⟩
theorem sr_ins {ws : List Cond} (h : ws.all (fun w => decide (w ∈ lw_tbl) && goodWord w) = true) : ∀ w ∈ ws, w ∈ sr_G := fun w hw => by
  have h1 := List.all_eq_true.mp h w hw
  simp only [Bool.and_eq_true, decide_eq_true_eq] at h1
  exact sr_in h1.1 h1.2
theorem sr_good (c0 : Cond) : GoodIn (c0 :: sr_G) sr_G := fun w h => ⟨List.mem_cons_of_mem _ h, good_of_word (List.mem_filter.mp h).2⟩
theorem sr_V {own C : String} {ix : Nat} {y : MethodName} {k : Cond} (c0 : Cond) (h : ∀ w ∈ ([.methodLink own ix y, .instanceMethod y, .selects C y y, .initialized C, k] : List Cond), w ∈ sr_G) : GoodIn (c0 :: sr_G) (wsV own ix C y (k :: sr_G)) := by
  intro w hw
  have hm : w ∈ sr_G := by
    rcases List.mem_append.mp hw with h1 | h1
    · exact h w (by simp only [List.mem_cons, List.not_mem_nil, or_false] at h1 ⊢; rcases h1 with h1 | h1 | h1 | h1 <;> simp [h1])
    · rcases List.mem_cons.mp h1 with h1 | h1
      · exact h w (by simp [h1])
      · exact h1
  exact ⟨List.mem_cons_of_mem _ hm, good_of_word (List.mem_filter.mp hm).2⟩
theorem sr_S {own : String} {ix : Nat} {y : MethodName} {k : Cond} (c0 : Cond) (h : ∀ w ∈ ([.methodLink own ix y, .static y, .initialized y.cls, k] : List Cond), w ∈ sr_G) : GoodIn (c0 :: sr_G) (va_wsS own ix y (k :: sr_G)) := by
  intro w hw
  have hm : w ∈ sr_G := by
    rcases List.mem_append.mp hw with h1 | h1
    · exact h w (by simp only [List.mem_cons, List.not_mem_nil, or_false] at h1 ⊢; rcases h1 with h1 | h1 | h1 <;> simp [h1])
    · rcases List.mem_cons.mp h1 with h1 | h1
      · exact h w (by simp [h1])
      · exact h1
  exact ⟨List.mem_cons_of_mem _ hm, good_of_word (List.mem_filter.mp hm).2⟩
theorem in_tables_1_1 : ∀ w ∈ tables_1_1, w ∈ lw_tbl := fun w h => List.mem_append_right _ (show w ∈ tables_1 from (List.mem_append_left _ h))
theorem in_tables_1_2 : ∀ w ∈ tables_1_2, w ∈ lw_tbl := fun w h => List.mem_append_right _ (show w ∈ tables_1 from (List.mem_append_right _ (List.mem_append_left _ h)))
theorem in_tables_1_3 : ∀ w ∈ tables_1_3, w ∈ lw_tbl := fun w h => List.mem_append_right _ (show w ∈ tables_1 from (List.mem_append_right _ (List.mem_append_right _ (List.mem_append_left _ h))))
theorem in_tables_1_4 : ∀ w ∈ tables_1_4, w ∈ lw_tbl := fun w h => List.mem_append_right _ (show w ∈ tables_1 from (List.mem_append_right _ (List.mem_append_right _ (List.mem_append_right _ (List.mem_append_left _ h)))))
theorem in_tables_1_5 : ∀ w ∈ tables_1_5, w ∈ lw_tbl := fun w h => List.mem_append_right _ (show w ∈ tables_1 from (List.mem_append_right _ (List.mem_append_right _ (List.mem_append_right _ (List.mem_append_right _ (List.mem_append_left _ h))))))
theorem in_tables_1_6 : ∀ w ∈ tables_1_6, w ∈ lw_tbl := fun w h => List.mem_append_right _ (show w ∈ tables_1 from (List.mem_append_right _ (List.mem_append_right _ (List.mem_append_right _ (List.mem_append_right _ (List.mem_append_right _ (List.mem_append_left _ h)))))))
theorem in_tables_1_7 : ∀ w ∈ tables_1_7, w ∈ lw_tbl := fun w h => List.mem_append_right _ (show w ∈ tables_1 from (List.mem_append_right _ (List.mem_append_right _ (List.mem_append_right _ (List.mem_append_right _ (List.mem_append_right _ (List.mem_append_right _ h)))))))
def RX0 : String := "SchemaReader$Defaults"
def TX0 : u_T := fun k => match k with
  | 0 => ("SchemaReader$Defaults", "text", "LSchemaReader$Text;", true)
  | _ => ("SchemaReader$Defaults", "schema", "LSchemaReader$Schema;", true)
def tyX0 : Nat → FieldType := fun k => match k with
  | 0 => .object "SchemaReader$Text"
  | _ => .object "SchemaReader$Schema"
theorem nmX0 : ∀ a, a < 2 → ∀ b, b < 2 → a ≠ b → (TX0 a).2.1 ≠ (TX0 b).2.1 := by decide +kernel
theorem tyX0_ok : ∀ k, k < 2 → parseFieldDescriptor (TX0 k).2.2.1 = some (tyX0 k) := by decide +kernel
theorem inX0 (c0 : Cond) : ∀ w ∈ u_ws RX0 TX0 2, w ∈ c0 :: sr_G := fun w h => List.mem_cons_of_mem _ (sr_ins (by decide +kernel) w h)
def RX1 : String := "SchemaReader$Fault"
def TX1 : u_T := fun k => match k with
  | _ => ("", "", "", false)
def tyX1 : Nat → FieldType := fun k => match k with
  | _ => .int
def RX2 : String := "SchemaReader$Keys"
def TX2 : u_T := fun k => match k with
  | 0 => ("SchemaReader$Keys", "heads", "[I", true)
  | 1 => ("SchemaReader$Keys", "places", "[I", true)
  | 2 => ("SchemaReader$Keys", "owners", "[I", true)
  | 3 => ("SchemaReader$Keys", "nexts", "[I", true)
  | _ => ("SchemaReader$Keys", "count", "I", false)
def tyX2 : Nat → FieldType := fun k => match k with
  | 0 => .array .int
  | 1 => .array .int
  | 2 => .array .int
  | 3 => .array .int
  | _ => .int
theorem nmX2 : ∀ a, a < 5 → ∀ b, b < 5 → a ≠ b → (TX2 a).2.1 ≠ (TX2 b).2.1 := by decide +kernel
theorem tyX2_ok : ∀ k, k < 5 → parseFieldDescriptor (TX2 k).2.2.1 = some (tyX2 k) := by decide +kernel
theorem inX2 (c0 : Cond) : ∀ w ∈ u_ws RX2 TX2 5, w ∈ c0 :: sr_G := fun w h => List.mem_cons_of_mem _ (sr_ins (by decide +kernel) w h)
def RX3 : String := "SchemaReader$Kind"
def TX3 : u_T := fun k => match k with
  | _ => ("", "", "", false)
def tyX3 : Nat → FieldType := fun k => match k with
  | _ => .int
def RX4 : String := "SchemaReader$Looker"
def TX4 : u_T := fun k => match k with
  | 0 => ("SchemaReader$Looker", "text", "LSchemaReader$Text;", true)
  | 1 => ("SchemaReader$Looker", "schema", "LSchemaReader$Schema;", true)
  | 2 => ("SchemaReader$Looker", "dueSlots", "[I", true)
  | 3 => ("SchemaReader$Looker", "dueValues", "[I", true)
  | 4 => ("SchemaReader$Looker", "dueCount", "I", false)
  | 5 => ("SchemaReader$Looker", "fault", "I", false)
  | _ => ("SchemaReader$Looker", "faultPlace", "I", false)
def tyX4 : Nat → FieldType := fun k => match k with
  | 0 => .object "SchemaReader$Text"
  | 1 => .object "SchemaReader$Schema"
  | 2 => .array .int
  | 3 => .array .int
  | 4 => .int
  | 5 => .int
  | _ => .int
theorem nmX4 : ∀ a, a < 7 → ∀ b, b < 7 → a ≠ b → (TX4 a).2.1 ≠ (TX4 b).2.1 := by decide +kernel
theorem tyX4_ok : ∀ k, k < 7 → parseFieldDescriptor (TX4 k).2.2.1 = some (tyX4 k) := by decide +kernel
theorem inX4 (c0 : Cond) : ∀ w ∈ u_ws RX4 TX4 7, w ∈ c0 :: sr_G := fun w h => List.mem_cons_of_mem _ (sr_ins (by decide +kernel) w h)
def RX5 : String := "SchemaReader$Pair"
def TX5 : u_T := fun k => match k with
  | 0 => ("SchemaReader$Pair", "writer", "LSchemaReader$Schema;", true)
  | 1 => ("SchemaReader$Pair", "reader", "LSchemaReader$Schema;", true)
  | 2 => ("SchemaReader$Pair", "askedWriters", "[I", true)
  | 3 => ("SchemaReader$Pair", "askedReaders", "[I", true)
  | _ => ("SchemaReader$Pair", "askedCount", "I", false)
def tyX5 : Nat → FieldType := fun k => match k with
  | 0 => .object "SchemaReader$Schema"
  | 1 => .object "SchemaReader$Schema"
  | 2 => .array .int
  | 3 => .array .int
  | _ => .int
theorem nmX5 : ∀ a, a < 5 → ∀ b, b < 5 → a ≠ b → (TX5 a).2.1 ≠ (TX5 b).2.1 := by decide +kernel
theorem tyX5_ok : ∀ k, k < 5 → parseFieldDescriptor (TX5 k).2.2.1 = some (tyX5 k) := by decide +kernel
theorem inX5 (c0 : Cond) : ∀ w ∈ u_ws RX5 TX5 5, w ∈ c0 :: sr_G := fun w h => List.mem_cons_of_mem _ (sr_ins (by decide +kernel) w h)
def RX6 : String := "SchemaReader$Schema"
def TX6 : u_T := fun k => match k with
  | 0 => ("SchemaReader$Schema", "plain", "[B", true)
  | 1 => ("SchemaReader$Schema", "kinds", "[I", true)
  | 2 => ("SchemaReader$Schema", "meant", "[I", true)
  | 3 => ("SchemaReader$Schema", "firsts", "[I", true)
  | 4 => ("SchemaReader$Schema", "nexts", "[I", true)
  | 5 => ("SchemaReader$Schema", "names", "[I", true)
  | 6 => ("SchemaReader$Schema", "fieldNames", "[I", true)
  | 7 => ("SchemaReader$Schema", "amounts", "[I", true)
  | 8 => ("SchemaReader$Schema", "fieldDefaults", "[Z", true)
  | 9 => ("SchemaReader$Schema", "enumDefaults", "[Z", true)
  | 10 => ("SchemaReader$Schema", "letterCount", "I", false)
  | _ => ("SchemaReader$Schema", "slotCount", "I", false)
def tyX6 : Nat → FieldType := fun k => match k with
  | 0 => .array .byte
  | 1 => .array .int
  | 2 => .array .int
  | 3 => .array .int
  | 4 => .array .int
  | 5 => .array .int
  | 6 => .array .int
  | 7 => .array .int
  | 8 => .array .boolean
  | 9 => .array .boolean
  | 10 => .int
  | _ => .int
theorem nmX6 : ∀ a, a < 12 → ∀ b, b < 12 → a ≠ b → (TX6 a).2.1 ≠ (TX6 b).2.1 := by decide +kernel
theorem tyX6_ok : ∀ k, k < 12 → parseFieldDescriptor (TX6 k).2.2.1 = some (tyX6 k) := by decide +kernel
theorem inX6 (c0 : Cond) : ∀ w ∈ u_ws RX6 TX6 12, w ∈ c0 :: sr_G := fun w h => List.mem_cons_of_mem _ (sr_ins (by decide +kernel) w h)
def RX7 : String := "SchemaReader$Text"
def TX7 : u_T := fun k => match k with
  | 0 => ("SchemaReader$Text", "tape", "[B", true)
  | 1 => ("SchemaReader$Text", "said", "[B", true)
  | 2 => ("SchemaReader$Text", "inner", "[I", true)
  | 3 => ("SchemaReader$Text", "next", "[I", true)
  | 4 => ("SchemaReader$Text", "amount", "[I", true)
  | 5 => ("SchemaReader$Text", "keys", "LSchemaReader$Keys;", true)
  | 6 => ("SchemaReader$Text", "length", "I", false)
  | _ => ("SchemaReader$Text", "wrongPlace", "I", false)
def tyX7 : Nat → FieldType := fun k => match k with
  | 0 => .array .byte
  | 1 => .array .byte
  | 2 => .array .int
  | 3 => .array .int
  | 4 => .array .int
  | 5 => .object "SchemaReader$Keys"
  | 6 => .int
  | _ => .int
theorem nmX7 : ∀ a, a < 8 → ∀ b, b < 8 → a ≠ b → (TX7 a).2.1 ≠ (TX7 b).2.1 := by decide +kernel
theorem tyX7_ok : ∀ k, k < 8 → parseFieldDescriptor (TX7 k).2.2.1 = some (tyX7 k) := by decide +kernel
theorem inX7 (c0 : Cond) : ∀ w ∈ u_ws RX7 TX7 8, w ∈ c0 :: sr_G := fun w h => List.mem_cons_of_mem _ (sr_ins (by decide +kernel) w h)
def RX8 : String := "SchemaReader"
def TX8 : u_T := fun k => match k with
  | 0 => ("SchemaReader", "text", "LSchemaReader$Text;", true)
  | 1 => ("SchemaReader", "kept", "[LSchemaReader$Schema;", true)
  | 2 => ("SchemaReader", "printSteps", "[J", true)
  | 3 => ("SchemaReader", "latest", "LSchemaReader$Schema;", false)
  | 4 => ("SchemaReader", "hasLatest", "Z", false)
  | 5 => ("SchemaReader", "faultPlace", "I", false)
  | _ => ("SchemaReader", "keptCount", "I", false)
def tyX8 : Nat → FieldType := fun k => match k with
  | 0 => .object "SchemaReader$Text"
  | 1 => .array (.object "SchemaReader$Schema")
  | 2 => .array .long
  | 3 => .object "SchemaReader$Schema"
  | 4 => .boolean
  | 5 => .int
  | _ => .int
theorem nmX8 : ∀ a, a < 7 → ∀ b, b < 7 → a ≠ b → (TX8 a).2.1 ≠ (TX8 b).2.1 := by decide +kernel
theorem tyX8_ok : ∀ k, k < 7 → parseFieldDescriptor (TX8 k).2.2.1 = some (tyX8 k) := by decide +kernel
theorem inX8 (c0 : Cond) : ∀ w ∈ u_ws RX8 TX8 7, w ∈ c0 :: sr_G := fun w h => List.mem_cons_of_mem _ (sr_ins (by decide +kernel) w h)
def RX9 : String := "SchemaReaderModel$Text"
def TX9 : u_T := fun k => match k with
  | 0 => ("SchemaReaderModel$Text", "bytes", "[B", true)
  | 1 => ("SchemaReaderModel$Text", "length", "I", false)
  | 2 => ("SchemaReaderModel$Text", "at", "I", false)
  | 3 => ("SchemaReaderModel$Text", "deep", "I", false)
  | 4 => ("SchemaReaderModel$Text", "fault", "I", false)
  | 5 => ("SchemaReaderModel$Text", "place", "I", false)
  | 6 => ("SchemaReaderModel$Text", "end", "I", false)
  | 7 => ("SchemaReaderModel$Text", "nodes", "I", false)
  | 8 => ("SchemaReaderModel$Text", "kinds", "[I", true)
  | 9 => ("SchemaReaderModel$Text", "firsts", "[I", true)
  | 10 => ("SchemaReaderModel$Text", "numbers", "[J", true)
  | 11 => ("SchemaReaderModel$Text", "sizes", "[I", true)
  | 12 => ("SchemaReaderModel$Text", "inner", "[I", true)
  | 13 => ("SchemaReaderModel$Text", "nexts", "[I", true)
  | 14 => ("SchemaReaderModel$Text", "letters", "[B", true)
  | 15 => ("SchemaReaderModel$Text", "lettered", "I", false)
  | 16 => ("SchemaReaderModel$Text", "shapes", "I", false)
  | 17 => ("SchemaReaderModel$Text", "looked", "I", false)
  | 18 => ("SchemaReaderModel$Text", "sorts", "[I", true)
  | 19 => ("SchemaReaderModel$Text", "names", "[I", true)
  | 20 => ("SchemaReaderModel$Text", "wide", "[I", true)
  | 21 => ("SchemaReaderModel$Text", "kids", "[I", true)
  | 22 => ("SchemaReaderModel$Text", "many", "[I", true)
  | 23 => ("SchemaReaderModel$Text", "fallback", "[I", true)
  | 24 => ("SchemaReaderModel$Text", "kidCount", "I", false)
  | 25 => ("SchemaReaderModel$Text", "kidShape", "[I", true)
  | 26 => ("SchemaReaderModel$Text", "kidName", "[I", true)
  | 27 => ("SchemaReaderModel$Text", "kidDefault", "[I", true)
  | 28 => ("SchemaReaderModel$Text", "kidNext", "[I", true)
  | 29 => ("SchemaReaderModel$Text", "done", "I", false)
  | 30 => ("SchemaReaderModel$Text", "finished", "[I", true)
  | 31 => ("SchemaReaderModel$Text", "root", "I", false)
  | 32 => ("SchemaReaderModel$Text", "plain", "[B", true)
  | 33 => ("SchemaReaderModel$Text", "plainSize", "I", false)
  | _ => ("SchemaReaderModel$Text", "told", "[Z", true)
def tyX9 : Nat → FieldType := fun k => match k with
  | 0 => .array .byte
  | 1 => .int
  | 2 => .int
  | 3 => .int
  | 4 => .int
  | 5 => .int
  | 6 => .int
  | 7 => .int
  | 8 => .array .int
  | 9 => .array .int
  | 10 => .array .long
  | 11 => .array .int
  | 12 => .array .int
  | 13 => .array .int
  | 14 => .array .byte
  | 15 => .int
  | 16 => .int
  | 17 => .int
  | 18 => .array .int
  | 19 => .array .int
  | 20 => .array .int
  | 21 => .array .int
  | 22 => .array .int
  | 23 => .array .int
  | 24 => .int
  | 25 => .array .int
  | 26 => .array .int
  | 27 => .array .int
  | 28 => .array .int
  | 29 => .int
  | 30 => .array .int
  | 31 => .int
  | 32 => .array .byte
  | 33 => .int
  | _ => .array .boolean
theorem nmX9 : ∀ a, a < 35 → ∀ b, b < 35 → a ≠ b → (TX9 a).2.1 ≠ (TX9 b).2.1 := by decide +kernel
theorem tyX9_ok : ∀ k, k < 35 → parseFieldDescriptor (TX9 k).2.2.1 = some (tyX9 k) := by decide +kernel
theorem inX9 (c0 : Cond) : ∀ w ∈ u_ws RX9 TX9 35, w ∈ c0 :: sr_G := fun w h => List.mem_cons_of_mem _ (sr_ins (by decide +kernel) w h)
def RX10 : String := "SchemaReaderModel"
def TX10 : u_T := fun k => match k with
  | 0 => ("SchemaReaderModel", "thrown", "I", false)
  | 1 => ("SchemaReaderModel", "tape", "[B", true)
  | 2 => ("SchemaReaderModel", "taped", "I", false)
  | 3 => ("SchemaReaderModel", "typed", "LSchemaReaderModel$Text;", true)
  | 4 => ("SchemaReaderModel", "left", "LSchemaReaderModel$Text;", true)
  | 5 => ("SchemaReaderModel", "right", "LSchemaReaderModel$Text;", true)
  | 6 => ("SchemaReaderModel", "has", "Z", false)
  | 7 => ("SchemaReaderModel", "place", "I", false)
  | 8 => ("SchemaReaderModel", "kept", "[B", true)
  | 9 => ("SchemaReaderModel", "sizes", "[I", true)
  | 10 => ("SchemaReaderModel", "asked", "[Z", true)
  | 11 => ("SchemaReaderModel", "pairs", "[I", true)
  | _ => ("SchemaReaderModel", "many", "I", false)
def tyX10 : Nat → FieldType := fun k => match k with
  | 0 => .int
  | 1 => .array .byte
  | 2 => .int
  | 3 => .object "SchemaReaderModel$Text"
  | 4 => .object "SchemaReaderModel$Text"
  | 5 => .object "SchemaReaderModel$Text"
  | 6 => .boolean
  | 7 => .int
  | 8 => .array .byte
  | 9 => .array .int
  | 10 => .array .boolean
  | 11 => .array .int
  | _ => .int
theorem nmX10 : ∀ a, a < 13 → ∀ b, b < 13 → a ≠ b → (TX10 a).2.1 ≠ (TX10 b).2.1 := by decide +kernel
theorem tyX10_ok : ∀ k, k < 13 → parseFieldDescriptor (TX10 k).2.2.1 = some (tyX10 k) := by decide +kernel
theorem inX10 (c0 : Cond) : ∀ w ∈ u_ws RX10 TX10 13, w ∈ c0 :: sr_G := fun w h => List.mem_cons_of_mem _ (sr_ins (by decide +kernel) w h)
def RX20 : String := "java/lang/String"
def RX21 : String := "java/lang/StringLatin1"
def RX22 : String := "jdk/internal/util/Preconditions"
def RX23 : String := "java/lang/Math"
abbrev srCl : List vw_C := [(RX0, TX0, 2), (RX2, TX2, 5), (RX4, TX4, 7), (RX5, TX5, 5), (RX6, TX6, 12), (RX7, TX7, 8), (RX8, TX8, 7), (RX9, TX9, 35), (RX10, TX10, 13)]
abbrev cX20_coder : ByteArray := prog_20_method_152_code
def yX20_coder : MethodName := ⟨RX20, "coder", "()B"⟩
def wsX20_coder : List Cond := .code yX20_coder cX20_coder 1 (some .byte) :: sr_G
theorem dX20_coder_0 : decode cX20_coder 0 = .ok (.getstatic 38, 3) := by decide +kernel
theorem dX20_coder_3 : decode cX20_coder 3 = .ok (.ifCond .eq 10, 3) := by decide +kernel
theorem dX20_coder_6 : decode cX20_coder 6 = .ok (.aload_n 0, 1) := by decide +kernel
theorem dX20_coder_7 : decode cX20_coder 7 = .ok (.getfield 15, 3) := by decide +kernel
theorem dX20_coder_10 : decode cX20_coder 10 = .ok (.goto 4, 3) := by decide +kernel
theorem dX20_coder_13 : decode cX20_coder 13 = .ok (.iconst 1, 1) := by decide +kernel
theorem dX20_coder_14 : decode cX20_coder 14 = .ok (.ireturn, 1) := by decide +kernel
abbrev cX20_isLatin1 : ByteArray := prog_20_method_154_code
def yX20_isLatin1 : MethodName := ⟨RX20, "isLatin1", "()Z"⟩
def wsX20_isLatin1 : List Cond := .code yX20_isLatin1 cX20_isLatin1 1 (some .boolean) :: sr_G
theorem dX20_isLatin1_0 : decode cX20_isLatin1 0 = .ok (.getstatic 38, 3) := by decide +kernel
theorem dX20_isLatin1_3 : decode cX20_isLatin1 3 = .ok (.ifCond .eq 14, 3) := by decide +kernel
theorem dX20_isLatin1_6 : decode cX20_isLatin1 6 = .ok (.aload_n 0, 1) := by decide +kernel
theorem dX20_isLatin1_7 : decode cX20_isLatin1 7 = .ok (.getfield 15, 3) := by decide +kernel
theorem dX20_isLatin1_10 : decode cX20_isLatin1 10 = .ok (.ifCond .ne 7, 3) := by decide +kernel
theorem dX20_isLatin1_13 : decode cX20_isLatin1 13 = .ok (.iconst 1, 1) := by decide +kernel
theorem dX20_isLatin1_14 : decode cX20_isLatin1 14 = .ok (.goto 4, 3) := by decide +kernel
theorem dX20_isLatin1_17 : decode cX20_isLatin1 17 = .ok (.iconst 0, 1) := by decide +kernel
theorem dX20_isLatin1_18 : decode cX20_isLatin1 18 = .ok (.ireturn, 1) := by decide +kernel
abbrev cX20_length : ByteArray := prog_20_method_54_code
def yX20_length : MethodName := ⟨RX20, "length", "()I"⟩
def wsX20_length : List Cond := .code yX20_length cX20_length 1 (some .int) :: sr_G
theorem dX20_length_0 : decode cX20_length 0 = .ok (.aload_n 0, 1) := by decide +kernel
theorem dX20_length_1 : decode cX20_length 1 = .ok (.getfield 9, 3) := by decide +kernel
theorem dX20_length_4 : decode cX20_length 4 = .ok (.arraylength, 1) := by decide +kernel
theorem dX20_length_5 : decode cX20_length 5 = .ok (.aload_n 0, 1) := by decide +kernel
theorem dX20_length_6 : decode cX20_length 6 = .ok (.invokevirtual 335, 3) := by decide +kernel
theorem dX20_length_9 : decode cX20_length 9 = .ok (.ishr, 1) := by decide +kernel
theorem dX20_length_10 : decode cX20_length 10 = .ok (.ireturn, 1) := by decide +kernel
abbrev cX22_ck : ByteArray := prog_25_method_11_code
def yX22_ck : MethodName := ⟨RX22, "checkIndex", "(IILjava/util/function/BiFunction;)I"⟩
def wsX22_ck : List Cond := .code yX22_ck cX22_ck 3 (some .int) :: sr_G
theorem dX22_ck_0 : decode cX22_ck 0 = .ok (.iload_n 0, 1) := by decide +kernel
theorem dX22_ck_1 : decode cX22_ck 1 = .ok (.ifCond .lt 8, 3) := by decide +kernel
theorem dX22_ck_4 : decode cX22_ck 4 = .ok (.iload_n 0, 1) := by decide +kernel
theorem dX22_ck_5 : decode cX22_ck 5 = .ok (.iload_n 1, 1) := by decide +kernel
theorem dX22_ck_6 : decode cX22_ck 6 = .ok (.if_icmp .lt 10, 3) := by decide +kernel
theorem dX22_ck_9 : decode cX22_ck 9 = .ok (.aload_n 2, 1) := by decide +kernel
theorem dX22_ck_10 : decode cX22_ck 10 = .ok (.iload_n 0, 1) := by decide +kernel
theorem dX22_ck_11 : decode cX22_ck 11 = .ok (.iload_n 1, 1) := by decide +kernel
theorem dX22_ck_12 : decode cX22_ck 12 = .ok (.invokestatic 95, 3) := by decide +kernel
theorem dX22_ck_15 : decode cX22_ck 15 = .ok (.athrow, 1) := by decide +kernel
theorem dX22_ck_16 : decode cX22_ck 16 = .ok (.iload_n 0, 1) := by decide +kernel
theorem dX22_ck_17 : decode cX22_ck 17 = .ok (.ireturn, 1) := by decide +kernel
abbrev cX22_ckQ : ByteArray := prog_25_method_11_code
def yX22_ckQ : MethodName := ⟨RX22, "checkIndex", "(IILjava/util/function/BiFunction;)I"⟩
def wsX22_ckQ : List Cond := .code yX22_ckQ cX22_ckQ 3 (some .int) :: sr_G
theorem dX22_ckQ_0 : decode cX22_ckQ 0 = .ok (.iload_n 0, 1) := by decide +kernel
theorem dX22_ckQ_1 : decode cX22_ckQ 1 = .ok (.ifCond .lt 8, 3) := by decide +kernel
theorem dX22_ckQ_4 : decode cX22_ckQ 4 = .ok (.iload_n 0, 1) := by decide +kernel
theorem dX22_ckQ_5 : decode cX22_ckQ 5 = .ok (.iload_n 1, 1) := by decide +kernel
theorem dX22_ckQ_6 : decode cX22_ckQ 6 = .ok (.if_icmp .lt 10, 3) := by decide +kernel
theorem dX22_ckQ_9 : decode cX22_ckQ 9 = .ok (.aload_n 2, 1) := by decide +kernel
theorem dX22_ckQ_10 : decode cX22_ckQ 10 = .ok (.iload_n 0, 1) := by decide +kernel
theorem dX22_ckQ_11 : decode cX22_ckQ 11 = .ok (.iload_n 1, 1) := by decide +kernel
theorem dX22_ckQ_12 : decode cX22_ckQ 12 = .ok (.invokestatic 95, 3) := by decide +kernel
theorem dX22_ckQ_15 : decode cX22_ckQ 15 = .ok (.athrow, 1) := by decide +kernel
theorem dX22_ckQ_16 : decode cX22_ckQ 16 = .ok (.iload_n 0, 1) := by decide +kernel
theorem dX22_ckQ_17 : decode cX22_ckQ 17 = .ok (.ireturn, 1) := by decide +kernel
abbrev cX20_checkIndex : ByteArray := prog_20_method_155_code
def yX20_checkIndex : MethodName := ⟨RX20, "checkIndex", "(II)V"⟩
def wsX20_checkIndex : List Cond := .code yX20_checkIndex cX20_checkIndex 2 none :: sr_G
theorem dX20_checkIndex_0 : decode cX20_checkIndex 0 = .ok (.iload_n 0, 1) := by decide +kernel
theorem dX20_checkIndex_1 : decode cX20_checkIndex 1 = .ok (.iload_n 1, 1) := by decide +kernel
theorem dX20_checkIndex_2 : decode cX20_checkIndex 2 = .ok (.getstatic 1053, 3) := by decide +kernel
theorem dX20_checkIndex_5 : decode cX20_checkIndex 5 = .ok (.invokestatic 1059, 3) := by decide +kernel
theorem dX20_checkIndex_8 : decode cX20_checkIndex 8 = .ok (.pop, 1) := by decide +kernel
theorem dX20_checkIndex_9 : decode cX20_checkIndex 9 = .ok (.return_, 1) := by decide +kernel
abbrev cX21_charAt : ByteArray := prog_21_method_2_code
def yX21_charAt : MethodName := ⟨RX21, "charAt", "([BI)C"⟩
def wsX21_charAt : List Cond := .code yX21_charAt cX21_charAt 2 (some .char) :: sr_G
theorem dX21_charAt_0 : decode cX21_charAt 0 = .ok (.iload_n 1, 1) := by decide +kernel
theorem dX21_charAt_1 : decode cX21_charAt 1 = .ok (.aload_n 0, 1) := by decide +kernel
theorem dX21_charAt_2 : decode cX21_charAt 2 = .ok (.arraylength, 1) := by decide +kernel
theorem dX21_charAt_3 : decode cX21_charAt 3 = .ok (.invokestatic 9, 3) := by decide +kernel
theorem dX21_charAt_6 : decode cX21_charAt 6 = .ok (.aload_n 0, 1) := by decide +kernel
theorem dX21_charAt_7 : decode cX21_charAt 7 = .ok (.iload_n 1, 1) := by decide +kernel
theorem dX21_charAt_8 : decode cX21_charAt 8 = .ok (.baload, 1) := by decide +kernel
theorem dX21_charAt_9 : decode cX21_charAt 9 = .ok (.sipush 255, 3) := by decide +kernel
theorem dX21_charAt_12 : decode cX21_charAt 12 = .ok (.iand, 1) := by decide +kernel
theorem dX21_charAt_13 : decode cX21_charAt 13 = .ok (.i2c, 1) := by decide +kernel
theorem dX21_charAt_14 : decode cX21_charAt 14 = .ok (.ireturn, 1) := by decide +kernel
abbrev cX20_charAt : ByteArray := prog_20_method_56_code
def yX20_charAt : MethodName := ⟨RX20, "charAt", "(I)C"⟩
def wsX20_charAt : List Cond := .code yX20_charAt cX20_charAt 2 (some .char) :: sr_G
theorem dX20_charAt_0 : decode cX20_charAt 0 = .ok (.aload_n 0, 1) := by decide +kernel
theorem dX20_charAt_1 : decode cX20_charAt 1 = .ok (.invokevirtual 492, 3) := by decide +kernel
theorem dX20_charAt_4 : decode cX20_charAt 4 = .ok (.ifCond .eq 12, 3) := by decide +kernel
theorem dX20_charAt_7 : decode cX20_charAt 7 = .ok (.aload_n 0, 1) := by decide +kernel
theorem dX20_charAt_8 : decode cX20_charAt 8 = .ok (.getfield 9, 3) := by decide +kernel
theorem dX20_charAt_11 : decode cX20_charAt 11 = .ok (.iload_n 1, 1) := by decide +kernel
theorem dX20_charAt_12 : decode cX20_charAt 12 = .ok (.invokestatic 495, 3) := by decide +kernel
theorem dX20_charAt_15 : decode cX20_charAt 15 = .ok (.ireturn, 1) := by decide +kernel
theorem dX20_charAt_16 : decode cX20_charAt 16 = .ok (.aload_n 0, 1) := by decide +kernel
theorem dX20_charAt_17 : decode cX20_charAt 17 = .ok (.getfield 9, 3) := by decide +kernel
theorem dX20_charAt_20 : decode cX20_charAt 20 = .ok (.iload_n 1, 1) := by decide +kernel
theorem dX20_charAt_21 : decode cX20_charAt 21 = .ok (.invokestatic 498, 3) := by decide +kernel
theorem dX20_charAt_24 : decode cX20_charAt 24 = .ok (.ireturn, 1) := by decide +kernel
abbrev cX21_canEncode : ByteArray := prog_21_method_4_code
def yX21_canEncode : MethodName := ⟨RX21, "canEncode", "(I)Z"⟩
def wsX21_canEncode : List Cond := .code yX21_canEncode cX21_canEncode 1 (some .boolean) :: sr_G
theorem dX21_canEncode_0 : decode cX21_canEncode 0 = .ok (.iload_n 0, 1) := by decide +kernel
theorem dX21_canEncode_1 : decode cX21_canEncode 1 = .ok (.ifCond .lt 14, 3) := by decide +kernel
theorem dX21_canEncode_4 : decode cX21_canEncode 4 = .ok (.iload_n 0, 1) := by decide +kernel
theorem dX21_canEncode_5 : decode cX21_canEncode 5 = .ok (.sipush 255, 3) := by decide +kernel
theorem dX21_canEncode_8 : decode cX21_canEncode 8 = .ok (.if_icmp .gt 7, 3) := by decide +kernel
theorem dX21_canEncode_11 : decode cX21_canEncode 11 = .ok (.iconst 1, 1) := by decide +kernel
theorem dX21_canEncode_12 : decode cX21_canEncode 12 = .ok (.goto 4, 3) := by decide +kernel
theorem dX21_canEncode_15 : decode cX21_canEncode 15 = .ok (.iconst 0, 1) := by decide +kernel
theorem dX21_canEncode_16 : decode cX21_canEncode 16 = .ok (.ireturn, 1) := by decide +kernel
abbrev cX21_indexOfChar : ByteArray := prog_21_method_23_code
def yX21_indexOfChar : MethodName := ⟨RX21, "indexOfChar", "([BIII)I"⟩
def wsX21_indexOfChar : List Cond := .code yX21_indexOfChar cX21_indexOfChar 6 (some .int) :: sr_G
theorem dX21_indexOfChar_0 : decode cX21_indexOfChar 0 = .ok (.iload_n 1, 1) := by decide +kernel
theorem dX21_indexOfChar_1 : decode cX21_indexOfChar 1 = .ok (.i2b, 1) := by decide +kernel
theorem dX21_indexOfChar_2 : decode cX21_indexOfChar 2 = .ok (.istore 4, 2) := by decide +kernel
theorem dX21_indexOfChar_4 : decode cX21_indexOfChar 4 = .ok (.iload_n 2, 1) := by decide +kernel
theorem dX21_indexOfChar_5 : decode cX21_indexOfChar 5 = .ok (.istore 5, 2) := by decide +kernel
theorem dX21_indexOfChar_7 : decode cX21_indexOfChar 7 = .ok (.iload 5, 2) := by decide +kernel
theorem dX21_indexOfChar_9 : decode cX21_indexOfChar 9 = .ok (.iload_n 3, 1) := by decide +kernel
theorem dX21_indexOfChar_10 : decode cX21_indexOfChar 10 = .ok (.if_icmp .ge 21, 3) := by decide +kernel
theorem dX21_indexOfChar_13 : decode cX21_indexOfChar 13 = .ok (.aload_n 0, 1) := by decide +kernel
theorem dX21_indexOfChar_14 : decode cX21_indexOfChar 14 = .ok (.iload 5, 2) := by decide +kernel
theorem dX21_indexOfChar_16 : decode cX21_indexOfChar 16 = .ok (.baload, 1) := by decide +kernel
theorem dX21_indexOfChar_17 : decode cX21_indexOfChar 17 = .ok (.iload 4, 2) := by decide +kernel
theorem dX21_indexOfChar_19 : decode cX21_indexOfChar 19 = .ok (.if_icmp .ne 6, 3) := by decide +kernel
theorem dX21_indexOfChar_22 : decode cX21_indexOfChar 22 = .ok (.iload 5, 2) := by decide +kernel
theorem dX21_indexOfChar_24 : decode cX21_indexOfChar 24 = .ok (.ireturn, 1) := by decide +kernel
theorem dX21_indexOfChar_25 : decode cX21_indexOfChar 25 = .ok (.iinc 5 1, 3) := by decide +kernel
theorem dX21_indexOfChar_28 : decode cX21_indexOfChar 28 = .ok (.goto (-21), 3) := by decide +kernel
theorem dX21_indexOfChar_31 : decode cX21_indexOfChar 31 = .ok (.iconst (-1), 1) := by decide +kernel
theorem dX21_indexOfChar_32 : decode cX21_indexOfChar 32 = .ok (.ireturn, 1) := by decide +kernel
abbrev cX21_indexOf : ByteArray := prog_21_method_22_code
def yX21_indexOf : MethodName := ⟨RX21, "indexOf", "([BIII)I"⟩
def wsX21_indexOf : List Cond := .code yX21_indexOf cX21_indexOf 4 (some .int) :: sr_G
theorem dX21_indexOf_0 : decode cX21_indexOf 0 = .ok (.iload_n 1, 1) := by decide +kernel
theorem dX21_indexOf_1 : decode cX21_indexOf 1 = .ok (.invokestatic 88, 3) := by decide +kernel
theorem dX21_indexOf_4 : decode cX21_indexOf 4 = .ok (.ifCond .ne 5, 3) := by decide +kernel
theorem dX21_indexOf_7 : decode cX21_indexOf 7 = .ok (.iconst (-1), 1) := by decide +kernel
theorem dX21_indexOf_8 : decode cX21_indexOf 8 = .ok (.ireturn, 1) := by decide +kernel
theorem dX21_indexOf_9 : decode cX21_indexOf 9 = .ok (.iload_n 2, 1) := by decide +kernel
theorem dX21_indexOf_10 : decode cX21_indexOf 10 = .ok (.iconst 0, 1) := by decide +kernel
theorem dX21_indexOf_11 : decode cX21_indexOf 11 = .ok (.invokestatic 92, 3) := by decide +kernel
theorem dX21_indexOf_14 : decode cX21_indexOf 14 = .ok (.istore_n 2, 1) := by decide +kernel
theorem dX21_indexOf_15 : decode cX21_indexOf 15 = .ok (.iload_n 3, 1) := by decide +kernel
theorem dX21_indexOf_16 : decode cX21_indexOf 16 = .ok (.aload_n 0, 1) := by decide +kernel
theorem dX21_indexOf_17 : decode cX21_indexOf 17 = .ok (.arraylength, 1) := by decide +kernel
theorem dX21_indexOf_18 : decode cX21_indexOf 18 = .ok (.invokestatic 38, 3) := by decide +kernel
theorem dX21_indexOf_21 : decode cX21_indexOf 21 = .ok (.istore_n 3, 1) := by decide +kernel
theorem dX21_indexOf_22 : decode cX21_indexOf 22 = .ok (.iload_n 2, 1) := by decide +kernel
theorem dX21_indexOf_23 : decode cX21_indexOf 23 = .ok (.iload_n 3, 1) := by decide +kernel
theorem dX21_indexOf_24 : decode cX21_indexOf 24 = .ok (.if_icmp .lt 5, 3) := by decide +kernel
theorem dX21_indexOf_27 : decode cX21_indexOf 27 = .ok (.iconst (-1), 1) := by decide +kernel
theorem dX21_indexOf_28 : decode cX21_indexOf 28 = .ok (.ireturn, 1) := by decide +kernel
theorem dX21_indexOf_29 : decode cX21_indexOf 29 = .ok (.aload_n 0, 1) := by decide +kernel
theorem dX21_indexOf_30 : decode cX21_indexOf 30 = .ok (.iload_n 1, 1) := by decide +kernel
theorem dX21_indexOf_31 : decode cX21_indexOf 31 = .ok (.iload_n 2, 1) := by decide +kernel
theorem dX21_indexOf_32 : decode cX21_indexOf 32 = .ok (.iload_n 3, 1) := by decide +kernel
theorem dX21_indexOf_33 : decode cX21_indexOf 33 = .ok (.invokestatic 95, 3) := by decide +kernel
theorem dX21_indexOf_36 : decode cX21_indexOf 36 = .ok (.ireturn, 1) := by decide +kernel
abbrev cX20_indexOf2 : ByteArray := prog_20_method_80_code
def yX20_indexOf2 : MethodName := ⟨RX20, "indexOf", "(II)I"⟩
def wsX20_indexOf2 : List Cond := .code yX20_indexOf2 cX20_indexOf2 3 (some .int) :: sr_G
theorem dX20_indexOf2_0 : decode cX20_indexOf2 0 = .ok (.aload_n 0, 1) := by decide +kernel
theorem dX20_indexOf2_1 : decode cX20_indexOf2 1 = .ok (.invokevirtual 492, 3) := by decide +kernel
theorem dX20_indexOf2_4 : decode cX20_indexOf2 4 = .ok (.ifCond .eq 19, 3) := by decide +kernel
theorem dX20_indexOf2_7 : decode cX20_indexOf2 7 = .ok (.aload_n 0, 1) := by decide +kernel
theorem dX20_indexOf2_8 : decode cX20_indexOf2 8 = .ok (.getfield 9, 3) := by decide +kernel
theorem dX20_indexOf2_11 : decode cX20_indexOf2 11 = .ok (.iload_n 1, 1) := by decide +kernel
theorem dX20_indexOf2_12 : decode cX20_indexOf2 12 = .ok (.iload_n 2, 1) := by decide +kernel
theorem dX20_indexOf2_13 : decode cX20_indexOf2 13 = .ok (.aload_n 0, 1) := by decide +kernel
theorem dX20_indexOf2_14 : decode cX20_indexOf2 14 = .ok (.invokevirtual 505, 3) := by decide +kernel
theorem dX20_indexOf2_17 : decode cX20_indexOf2 17 = .ok (.invokestatic 637, 3) := by decide +kernel
theorem dX20_indexOf2_20 : decode cX20_indexOf2 20 = .ok (.goto 16, 3) := by decide +kernel
theorem dX20_indexOf2_23 : decode cX20_indexOf2 23 = .ok (.aload_n 0, 1) := by decide +kernel
theorem dX20_indexOf2_24 : decode cX20_indexOf2 24 = .ok (.getfield 9, 3) := by decide +kernel
theorem dX20_indexOf2_27 : decode cX20_indexOf2 27 = .ok (.iload_n 1, 1) := by decide +kernel
theorem dX20_indexOf2_28 : decode cX20_indexOf2 28 = .ok (.iload_n 2, 1) := by decide +kernel
theorem dX20_indexOf2_29 : decode cX20_indexOf2 29 = .ok (.aload_n 0, 1) := by decide +kernel
theorem dX20_indexOf2_30 : decode cX20_indexOf2 30 = .ok (.invokevirtual 505, 3) := by decide +kernel
theorem dX20_indexOf2_33 : decode cX20_indexOf2 33 = .ok (.invokestatic 640, 3) := by decide +kernel
theorem dX20_indexOf2_36 : decode cX20_indexOf2 36 = .ok (.ireturn, 1) := by decide +kernel
abbrev cX20_indexOf : ByteArray := prog_20_method_79_code
def yX20_indexOf : MethodName := ⟨RX20, "indexOf", "(I)I"⟩
def wsX20_indexOf : List Cond := .code yX20_indexOf cX20_indexOf 2 (some .int) :: sr_G
theorem dX20_indexOf_0 : decode cX20_indexOf 0 = .ok (.aload_n 0, 1) := by decide +kernel
theorem dX20_indexOf_1 : decode cX20_indexOf 1 = .ok (.iload_n 1, 1) := by decide +kernel
theorem dX20_indexOf_2 : decode cX20_indexOf 2 = .ok (.iconst 0, 1) := by decide +kernel
theorem dX20_indexOf_3 : decode cX20_indexOf 3 = .ok (.invokevirtual 633, 3) := by decide +kernel
theorem dX20_indexOf_6 : decode cX20_indexOf 6 = .ok (.ireturn, 1) := by decide +kernel
abbrev cX9_look : ByteArray := prog_12_method_4_code
def yX9_look : MethodName := ⟨RX9, "look", "()I"⟩
def wsX9_look : List Cond := .code yX9_look cX9_look 1 (some .int) :: sr_G
theorem dX9_look_0 : decode cX9_look 0 = .ok (.aload_n 0, 1) := by decide +kernel
theorem dX9_look_1 : decode cX9_look 1 = .ok (.getfield 95, 3) := by decide +kernel
theorem dX9_look_4 : decode cX9_look 4 = .ok (.aload_n 0, 1) := by decide +kernel
theorem dX9_look_5 : decode cX9_look 5 = .ok (.getfield 98, 3) := by decide +kernel
theorem dX9_look_8 : decode cX9_look 8 = .ok (.if_icmp .ge 15, 3) := by decide +kernel
theorem dX9_look_11 : decode cX9_look 11 = .ok (.aload_n 0, 1) := by decide +kernel
theorem dX9_look_12 : decode cX9_look 12 = .ok (.getfield 9, 3) := by decide +kernel
theorem dX9_look_15 : decode cX9_look 15 = .ok (.aload_n 0, 1) := by decide +kernel
theorem dX9_look_16 : decode cX9_look 16 = .ok (.getfield 95, 3) := by decide +kernel
theorem dX9_look_19 : decode cX9_look 19 = .ok (.baload, 1) := by decide +kernel
theorem dX9_look_20 : decode cX9_look 20 = .ok (.goto 4, 3) := by decide +kernel
theorem dX9_look_23 : decode cX9_look 23 = .ok (.iconst (-1), 1) := by decide +kernel
theorem dX9_look_24 : decode cX9_look 24 = .ok (.ireturn, 1) := by decide +kernel
abbrev cX9_blanks : ByteArray := prog_12_method_5_code
def yX9_blanks : MethodName := ⟨RX9, "blanks", "()V"⟩
def wsX9_blanks : List Cond := .code yX9_blanks cX9_blanks 1 none :: sr_G
theorem dX9_blanks_0 : decode cX9_blanks 0 = .ok (.aload_n 0, 1) := by decide +kernel
theorem dX9_blanks_1 : decode cX9_blanks 1 = .ok (.invokevirtual 101, 3) := by decide +kernel
theorem dX9_blanks_4 : decode cX9_blanks 4 = .ok (.bipush 32, 2) := by decide +kernel
theorem dX9_blanks_6 : decode cX9_blanks 6 = .ok (.if_icmp .eq 30, 3) := by decide +kernel
theorem dX9_blanks_9 : decode cX9_blanks 9 = .ok (.aload_n 0, 1) := by decide +kernel
theorem dX9_blanks_10 : decode cX9_blanks 10 = .ok (.invokevirtual 101, 3) := by decide +kernel
theorem dX9_blanks_13 : decode cX9_blanks 13 = .ok (.bipush 9, 2) := by decide +kernel
theorem dX9_blanks_15 : decode cX9_blanks 15 = .ok (.if_icmp .eq 21, 3) := by decide +kernel
theorem dX9_blanks_18 : decode cX9_blanks 18 = .ok (.aload_n 0, 1) := by decide +kernel
theorem dX9_blanks_19 : decode cX9_blanks 19 = .ok (.invokevirtual 101, 3) := by decide +kernel
theorem dX9_blanks_22 : decode cX9_blanks 22 = .ok (.bipush 10, 2) := by decide +kernel
theorem dX9_blanks_24 : decode cX9_blanks 24 = .ok (.if_icmp .eq 12, 3) := by decide +kernel
theorem dX9_blanks_27 : decode cX9_blanks 27 = .ok (.aload_n 0, 1) := by decide +kernel
theorem dX9_blanks_28 : decode cX9_blanks 28 = .ok (.invokevirtual 101, 3) := by decide +kernel
theorem dX9_blanks_31 : decode cX9_blanks 31 = .ok (.bipush 13, 2) := by decide +kernel
theorem dX9_blanks_33 : decode cX9_blanks 33 = .ok (.if_icmp .ne 16, 3) := by decide +kernel
theorem dX9_blanks_36 : decode cX9_blanks 36 = .ok (.aload_n 0, 1) := by decide +kernel
theorem dX9_blanks_37 : decode cX9_blanks 37 = .ok (.dup, 1) := by decide +kernel
theorem dX9_blanks_38 : decode cX9_blanks 38 = .ok (.getfield 95, 3) := by decide +kernel
theorem dX9_blanks_41 : decode cX9_blanks 41 = .ok (.iconst 1, 1) := by decide +kernel
theorem dX9_blanks_42 : decode cX9_blanks 42 = .ok (.iadd, 1) := by decide +kernel
theorem dX9_blanks_43 : decode cX9_blanks 43 = .ok (.putfield 95, 3) := by decide +kernel
theorem dX9_blanks_46 : decode cX9_blanks 46 = .ok (.goto (-46), 3) := by decide +kernel
theorem dX9_blanks_49 : decode cX9_blanks 49 = .ok (.return_, 1) := by decide +kernel
abbrev cX9_node : ByteArray := prog_12_method_7_code
def yX9_node : MethodName := ⟨RX9, "node", "(I)I"⟩
def wsX9_node : List Cond := .code yX9_node cX9_node 2 (some .int) :: sr_G
theorem dX9_node_0 : decode cX9_node 0 = .ok (.aload_n 0, 1) := by decide +kernel
theorem dX9_node_1 : decode cX9_node 1 = .ok (.getfield 15, 3) := by decide +kernel
theorem dX9_node_4 : decode cX9_node 4 = .ok (.aload_n 0, 1) := by decide +kernel
theorem dX9_node_5 : decode cX9_node 5 = .ok (.getfield 109, 3) := by decide +kernel
theorem dX9_node_8 : decode cX9_node 8 = .ok (.iload_n 1, 1) := by decide +kernel
theorem dX9_node_9 : decode cX9_node 9 = .ok (.iastore, 1) := by decide +kernel
theorem dX9_node_10 : decode cX9_node 10 = .ok (.aload_n 0, 1) := by decide +kernel
theorem dX9_node_11 : decode cX9_node 11 = .ok (.getfield 19, 3) := by decide +kernel
theorem dX9_node_14 : decode cX9_node 14 = .ok (.aload_n 0, 1) := by decide +kernel
theorem dX9_node_15 : decode cX9_node 15 = .ok (.getfield 109, 3) := by decide +kernel
theorem dX9_node_18 : decode cX9_node 18 = .ok (.aload_n 0, 1) := by decide +kernel
theorem dX9_node_19 : decode cX9_node 19 = .ok (.getfield 95, 3) := by decide +kernel
theorem dX9_node_22 : decode cX9_node 22 = .ok (.iastore, 1) := by decide +kernel
theorem dX9_node_23 : decode cX9_node 23 = .ok (.aload_n 0, 1) := by decide +kernel
theorem dX9_node_24 : decode cX9_node 24 = .ok (.getfield 22, 3) := by decide +kernel
theorem dX9_node_27 : decode cX9_node 27 = .ok (.aload_n 0, 1) := by decide +kernel
theorem dX9_node_28 : decode cX9_node 28 = .ok (.getfield 109, 3) := by decide +kernel
theorem dX9_node_31 : decode cX9_node 31 = .ok (.lconst 0, 1) := by decide +kernel
theorem dX9_node_32 : decode cX9_node 32 = .ok (.lastore, 1) := by decide +kernel
theorem dX9_node_33 : decode cX9_node 33 = .ok (.aload_n 0, 1) := by decide +kernel
theorem dX9_node_34 : decode cX9_node 34 = .ok (.getfield 26, 3) := by decide +kernel
theorem dX9_node_37 : decode cX9_node 37 = .ok (.aload_n 0, 1) := by decide +kernel
theorem dX9_node_38 : decode cX9_node 38 = .ok (.getfield 109, 3) := by decide +kernel
theorem dX9_node_41 : decode cX9_node 41 = .ok (.iconst 0, 1) := by decide +kernel
theorem dX9_node_42 : decode cX9_node 42 = .ok (.iastore, 1) := by decide +kernel
theorem dX9_node_43 : decode cX9_node 43 = .ok (.aload_n 0, 1) := by decide +kernel
theorem dX9_node_44 : decode cX9_node 44 = .ok (.getfield 29, 3) := by decide +kernel
theorem dX9_node_47 : decode cX9_node 47 = .ok (.aload_n 0, 1) := by decide +kernel
theorem dX9_node_48 : decode cX9_node 48 = .ok (.getfield 109, 3) := by decide +kernel
theorem dX9_node_51 : decode cX9_node 51 = .ok (.iconst (-1), 1) := by decide +kernel
theorem dX9_node_52 : decode cX9_node 52 = .ok (.iastore, 1) := by decide +kernel
theorem dX9_node_53 : decode cX9_node 53 = .ok (.aload_n 0, 1) := by decide +kernel
theorem dX9_node_54 : decode cX9_node 54 = .ok (.getfield 32, 3) := by decide +kernel
theorem dX9_node_57 : decode cX9_node 57 = .ok (.aload_n 0, 1) := by decide +kernel
theorem dX9_node_58 : decode cX9_node 58 = .ok (.getfield 109, 3) := by decide +kernel
theorem dX9_node_61 : decode cX9_node 61 = .ok (.iconst (-1), 1) := by decide +kernel
theorem dX9_node_62 : decode cX9_node 62 = .ok (.iastore, 1) := by decide +kernel
theorem dX9_node_63 : decode cX9_node 63 = .ok (.aload_n 0, 1) := by decide +kernel
theorem dX9_node_64 : decode cX9_node 64 = .ok (.dup, 1) := by decide +kernel
theorem dX9_node_65 : decode cX9_node 65 = .ok (.getfield 109, 3) := by decide +kernel
theorem dX9_node_68 : decode cX9_node 68 = .ok (.iconst 1, 1) := by decide +kernel
theorem dX9_node_69 : decode cX9_node 69 = .ok (.iadd, 1) := by decide +kernel
theorem dX9_node_70 : decode cX9_node 70 = .ok (.putfield 109, 3) := by decide +kernel
theorem dX9_node_73 : decode cX9_node 73 = .ok (.aload_n 0, 1) := by decide +kernel
theorem dX9_node_74 : decode cX9_node 74 = .ok (.getfield 109, 3) := by decide +kernel
theorem dX9_node_77 : decode cX9_node 77 = .ok (.iconst 1, 1) := by decide +kernel
theorem dX9_node_78 : decode cX9_node 78 = .ok (.isub, 1) := by decide +kernel
theorem dX9_node_79 : decode cX9_node 79 = .ok (.ireturn, 1) := by decide +kernel
abbrev cX9_hex : ByteArray := prog_12_method_11_code
def yX9_hex : MethodName := ⟨RX9, "hex", "(I)I"⟩
def wsX9_hex : List Cond := .code yX9_hex cX9_hex 1 (some .int) :: sr_G
theorem dX9_hex_0 : decode cX9_hex 0 = .ok (.iload_n 0, 1) := by decide +kernel
theorem dX9_hex_1 : decode cX9_hex 1 = .ok (.bipush 48, 2) := by decide +kernel
theorem dX9_hex_3 : decode cX9_hex 3 = .ok (.if_icmp .lt 16, 3) := by decide +kernel
theorem dX9_hex_6 : decode cX9_hex 6 = .ok (.iload_n 0, 1) := by decide +kernel
theorem dX9_hex_7 : decode cX9_hex 7 = .ok (.bipush 57, 2) := by decide +kernel
theorem dX9_hex_9 : decode cX9_hex 9 = .ok (.if_icmp .gt 10, 3) := by decide +kernel
theorem dX9_hex_12 : decode cX9_hex 12 = .ok (.iload_n 0, 1) := by decide +kernel
theorem dX9_hex_13 : decode cX9_hex 13 = .ok (.bipush 48, 2) := by decide +kernel
theorem dX9_hex_15 : decode cX9_hex 15 = .ok (.isub, 1) := by decide +kernel
theorem dX9_hex_16 : decode cX9_hex 16 = .ok (.goto 48, 3) := by decide +kernel
theorem dX9_hex_19 : decode cX9_hex 19 = .ok (.iload_n 0, 1) := by decide +kernel
theorem dX9_hex_20 : decode cX9_hex 20 = .ok (.bipush 97, 2) := by decide +kernel
theorem dX9_hex_22 : decode cX9_hex 22 = .ok (.if_icmp .lt 19, 3) := by decide +kernel
theorem dX9_hex_25 : decode cX9_hex 25 = .ok (.iload_n 0, 1) := by decide +kernel
theorem dX9_hex_26 : decode cX9_hex 26 = .ok (.bipush 102, 2) := by decide +kernel
theorem dX9_hex_28 : decode cX9_hex 28 = .ok (.if_icmp .gt 13, 3) := by decide +kernel
theorem dX9_hex_31 : decode cX9_hex 31 = .ok (.iload_n 0, 1) := by decide +kernel
theorem dX9_hex_32 : decode cX9_hex 32 = .ok (.bipush 97, 2) := by decide +kernel
theorem dX9_hex_34 : decode cX9_hex 34 = .ok (.isub, 1) := by decide +kernel
theorem dX9_hex_35 : decode cX9_hex 35 = .ok (.bipush 10, 2) := by decide +kernel
theorem dX9_hex_37 : decode cX9_hex 37 = .ok (.iadd, 1) := by decide +kernel
theorem dX9_hex_38 : decode cX9_hex 38 = .ok (.goto 26, 3) := by decide +kernel
theorem dX9_hex_41 : decode cX9_hex 41 = .ok (.iload_n 0, 1) := by decide +kernel
theorem dX9_hex_42 : decode cX9_hex 42 = .ok (.bipush 65, 2) := by decide +kernel
theorem dX9_hex_44 : decode cX9_hex 44 = .ok (.if_icmp .lt 19, 3) := by decide +kernel
theorem dX9_hex_47 : decode cX9_hex 47 = .ok (.iload_n 0, 1) := by decide +kernel
theorem dX9_hex_48 : decode cX9_hex 48 = .ok (.bipush 70, 2) := by decide +kernel
theorem dX9_hex_50 : decode cX9_hex 50 = .ok (.if_icmp .gt 13, 3) := by decide +kernel
theorem dX9_hex_53 : decode cX9_hex 53 = .ok (.iload_n 0, 1) := by decide +kernel
theorem dX9_hex_54 : decode cX9_hex 54 = .ok (.bipush 65, 2) := by decide +kernel
theorem dX9_hex_56 : decode cX9_hex 56 = .ok (.isub, 1) := by decide +kernel
theorem dX9_hex_57 : decode cX9_hex 57 = .ok (.bipush 10, 2) := by decide +kernel
theorem dX9_hex_59 : decode cX9_hex 59 = .ok (.iadd, 1) := by decide +kernel
theorem dX9_hex_60 : decode cX9_hex 60 = .ok (.goto 4, 3) := by decide +kernel
theorem dX9_hex_63 : decode cX9_hex 63 = .ok (.iconst (-1), 1) := by decide +kernel
theorem dX9_hex_64 : decode cX9_hex 64 = .ok (.ireturn, 1) := by decide +kernel
abbrev cX9_same : ByteArray := prog_12_method_15_code
def yX9_same : MethodName := ⟨RX9, "same", "(ILSchemaReaderModel$Text;I)Z"⟩
def wsX9_same : List Cond := .code yX9_same cX9_same 5 (some .boolean) :: sr_G
theorem dX9_same_0 : decode cX9_same 0 = .ok (.aload_n 0, 1) := by decide +kernel
theorem dX9_same_1 : decode cX9_same 1 = .ok (.getfield 26, 3) := by decide +kernel
theorem dX9_same_4 : decode cX9_same 4 = .ok (.iload_n 1, 1) := by decide +kernel
theorem dX9_same_5 : decode cX9_same 5 = .ok (.iaload, 1) := by decide +kernel
theorem dX9_same_6 : decode cX9_same 6 = .ok (.aload_n 2, 1) := by decide +kernel
theorem dX9_same_7 : decode cX9_same 7 = .ok (.getfield 26, 3) := by decide +kernel
theorem dX9_same_10 : decode cX9_same 10 = .ok (.iload_n 3, 1) := by decide +kernel
theorem dX9_same_11 : decode cX9_same 11 = .ok (.iaload, 1) := by decide +kernel
theorem dX9_same_12 : decode cX9_same 12 = .ok (.if_icmp .eq 5, 3) := by decide +kernel
theorem dX9_same_15 : decode cX9_same 15 = .ok (.iconst 0, 1) := by decide +kernel
theorem dX9_same_16 : decode cX9_same 16 = .ok (.ireturn, 1) := by decide +kernel
theorem dX9_same_17 : decode cX9_same 17 = .ok (.iconst 0, 1) := by decide +kernel
theorem dX9_same_18 : decode cX9_same 18 = .ok (.istore 4, 2) := by decide +kernel
theorem dX9_same_20 : decode cX9_same 20 = .ok (.iload 4, 2) := by decide +kernel
theorem dX9_same_22 : decode cX9_same 22 = .ok (.aload_n 0, 1) := by decide +kernel
theorem dX9_same_23 : decode cX9_same 23 = .ok (.getfield 26, 3) := by decide +kernel
theorem dX9_same_26 : decode cX9_same 26 = .ok (.iload_n 1, 1) := by decide +kernel
theorem dX9_same_27 : decode cX9_same 27 = .ok (.iaload, 1) := by decide +kernel
theorem dX9_same_28 : decode cX9_same 28 = .ok (.if_icmp .ge 44, 3) := by decide +kernel
theorem dX9_same_31 : decode cX9_same 31 = .ok (.aload_n 0, 1) := by decide +kernel
theorem dX9_same_32 : decode cX9_same 32 = .ok (.getfield 35, 3) := by decide +kernel
theorem dX9_same_35 : decode cX9_same 35 = .ok (.aload_n 0, 1) := by decide +kernel
theorem dX9_same_36 : decode cX9_same 36 = .ok (.getfield 22, 3) := by decide +kernel
theorem dX9_same_39 : decode cX9_same 39 = .ok (.iload_n 1, 1) := by decide +kernel
theorem dX9_same_40 : decode cX9_same 40 = .ok (.laload, 1) := by decide +kernel
theorem dX9_same_41 : decode cX9_same 41 = .ok (.l2i, 1) := by decide +kernel
theorem dX9_same_42 : decode cX9_same 42 = .ok (.iload 4, 2) := by decide +kernel
theorem dX9_same_44 : decode cX9_same 44 = .ok (.iadd, 1) := by decide +kernel
theorem dX9_same_45 : decode cX9_same 45 = .ok (.baload, 1) := by decide +kernel
theorem dX9_same_46 : decode cX9_same 46 = .ok (.aload_n 2, 1) := by decide +kernel
theorem dX9_same_47 : decode cX9_same 47 = .ok (.getfield 35, 3) := by decide +kernel
theorem dX9_same_50 : decode cX9_same 50 = .ok (.aload_n 2, 1) := by decide +kernel
theorem dX9_same_51 : decode cX9_same 51 = .ok (.getfield 22, 3) := by decide +kernel
theorem dX9_same_54 : decode cX9_same 54 = .ok (.iload_n 3, 1) := by decide +kernel
theorem dX9_same_55 : decode cX9_same 55 = .ok (.laload, 1) := by decide +kernel
theorem dX9_same_56 : decode cX9_same 56 = .ok (.l2i, 1) := by decide +kernel
theorem dX9_same_57 : decode cX9_same 57 = .ok (.iload 4, 2) := by decide +kernel
theorem dX9_same_59 : decode cX9_same 59 = .ok (.iadd, 1) := by decide +kernel
theorem dX9_same_60 : decode cX9_same 60 = .ok (.baload, 1) := by decide +kernel
theorem dX9_same_61 : decode cX9_same 61 = .ok (.if_icmp .eq 5, 3) := by decide +kernel
theorem dX9_same_64 : decode cX9_same 64 = .ok (.iconst 0, 1) := by decide +kernel
theorem dX9_same_65 : decode cX9_same 65 = .ok (.ireturn, 1) := by decide +kernel
theorem dX9_same_66 : decode cX9_same 66 = .ok (.iinc 4 1, 3) := by decide +kernel
theorem dX9_same_69 : decode cX9_same 69 = .ok (.goto (-49), 3) := by decide +kernel
theorem dX9_same_72 : decode cX9_same 72 = .ok (.iconst 1, 1) := by decide +kernel
theorem dX9_same_73 : decode cX9_same 73 = .ok (.ireturn, 1) := by decide +kernel
abbrev cX9_isName : ByteArray := prog_12_method_18_code
def yX9_isName : MethodName := ⟨RX9, "isName", "(I)Z"⟩
def wsX9_isName : List Cond := .code yX9_isName cX9_isName 6 (some .boolean) :: sr_G
theorem dX9_isName_0 : decode cX9_isName 0 = .ok (.aload_n 0, 1) := by decide +kernel
theorem dX9_isName_1 : decode cX9_isName 1 = .ok (.getfield 15, 3) := by decide +kernel
theorem dX9_isName_4 : decode cX9_isName 4 = .ok (.iload_n 1, 1) := by decide +kernel
theorem dX9_isName_5 : decode cX9_isName 5 = .ok (.iaload, 1) := by decide +kernel
theorem dX9_isName_6 : decode cX9_isName 6 = .ok (.iconst 2, 1) := by decide +kernel
theorem dX9_isName_7 : decode cX9_isName 7 = .ok (.if_icmp .ne 27, 3) := by decide +kernel
theorem dX9_isName_10 : decode cX9_isName 10 = .ok (.aload_n 0, 1) := by decide +kernel
theorem dX9_isName_11 : decode cX9_isName 11 = .ok (.getfield 26, 3) := by decide +kernel
theorem dX9_isName_14 : decode cX9_isName 14 = .ok (.iload_n 1, 1) := by decide +kernel
theorem dX9_isName_15 : decode cX9_isName 15 = .ok (.iaload, 1) := by decide +kernel
theorem dX9_isName_16 : decode cX9_isName 16 = .ok (.ifCond .le 18, 3) := by decide +kernel
theorem dX9_isName_19 : decode cX9_isName 19 = .ok (.aload_n 0, 1) := by decide +kernel
theorem dX9_isName_20 : decode cX9_isName 20 = .ok (.getfield 26, 3) := by decide +kernel
theorem dX9_isName_23 : decode cX9_isName 23 = .ok (.iload_n 1, 1) := by decide +kernel
theorem dX9_isName_24 : decode cX9_isName 24 = .ok (.iaload, 1) := by decide +kernel
theorem dX9_isName_25 : decode cX9_isName 25 = .ok (.bipush 33, 2) := by decide +kernel
theorem dX9_isName_27 : decode cX9_isName 27 = .ok (.if_icmp .ge 7, 3) := by decide +kernel
theorem dX9_isName_30 : decode cX9_isName 30 = .ok (.iconst 1, 1) := by decide +kernel
theorem dX9_isName_31 : decode cX9_isName 31 = .ok (.goto 4, 3) := by decide +kernel
theorem dX9_isName_34 : decode cX9_isName 34 = .ok (.iconst 0, 1) := by decide +kernel
theorem dX9_isName_35 : decode cX9_isName 35 = .ok (.istore_n 2, 1) := by decide +kernel
theorem dX9_isName_36 : decode cX9_isName 36 = .ok (.iconst 0, 1) := by decide +kernel
theorem dX9_isName_37 : decode cX9_isName 37 = .ok (.istore_n 3, 1) := by decide +kernel
theorem dX9_isName_38 : decode cX9_isName 38 = .ok (.iload_n 3, 1) := by decide +kernel
theorem dX9_isName_39 : decode cX9_isName 39 = .ok (.aload_n 0, 1) := by decide +kernel
theorem dX9_isName_40 : decode cX9_isName 40 = .ok (.getfield 26, 3) := by decide +kernel
theorem dX9_isName_43 : decode cX9_isName 43 = .ok (.iload_n 1, 1) := by decide +kernel
theorem dX9_isName_44 : decode cX9_isName 44 = .ok (.iaload, 1) := by decide +kernel
theorem dX9_isName_45 : decode cX9_isName 45 = .ok (.if_icmp .ge 100, 3) := by decide +kernel
theorem dX9_isName_48 : decode cX9_isName 48 = .ok (.iload_n 2, 1) := by decide +kernel
theorem dX9_isName_49 : decode cX9_isName 49 = .ok (.ifCond .eq 96, 3) := by decide +kernel
theorem dX9_isName_52 : decode cX9_isName 52 = .ok (.aload_n 0, 1) := by decide +kernel
theorem dX9_isName_53 : decode cX9_isName 53 = .ok (.getfield 35, 3) := by decide +kernel
theorem dX9_isName_56 : decode cX9_isName 56 = .ok (.aload_n 0, 1) := by decide +kernel
theorem dX9_isName_57 : decode cX9_isName 57 = .ok (.getfield 22, 3) := by decide +kernel
theorem dX9_isName_60 : decode cX9_isName 60 = .ok (.iload_n 1, 1) := by decide +kernel
theorem dX9_isName_61 : decode cX9_isName 61 = .ok (.laload, 1) := by decide +kernel
theorem dX9_isName_62 : decode cX9_isName 62 = .ok (.l2i, 1) := by decide +kernel
theorem dX9_isName_63 : decode cX9_isName 63 = .ok (.iload_n 3, 1) := by decide +kernel
theorem dX9_isName_64 : decode cX9_isName 64 = .ok (.iadd, 1) := by decide +kernel
theorem dX9_isName_65 : decode cX9_isName 65 = .ok (.baload, 1) := by decide +kernel
theorem dX9_isName_66 : decode cX9_isName 66 = .ok (.istore 4, 2) := by decide +kernel
theorem dX9_isName_68 : decode cX9_isName 68 = .ok (.iload 4, 2) := by decide +kernel
theorem dX9_isName_70 : decode cX9_isName 70 = .ok (.bipush 48, 2) := by decide +kernel
theorem dX9_isName_72 : decode cX9_isName 72 = .ok (.if_icmp .lt 14, 3) := by decide +kernel
theorem dX9_isName_75 : decode cX9_isName 75 = .ok (.iload 4, 2) := by decide +kernel
theorem dX9_isName_77 : decode cX9_isName 77 = .ok (.bipush 57, 2) := by decide +kernel
theorem dX9_isName_79 : decode cX9_isName 79 = .ok (.if_icmp .gt 7, 3) := by decide +kernel
theorem dX9_isName_82 : decode cX9_isName 82 = .ok (.iconst 1, 1) := by decide +kernel
theorem dX9_isName_83 : decode cX9_isName 83 = .ok (.goto 4, 3) := by decide +kernel
theorem dX9_isName_86 : decode cX9_isName 86 = .ok (.iconst 0, 1) := by decide +kernel
theorem dX9_isName_87 : decode cX9_isName 87 = .ok (.istore 5, 2) := by decide +kernel
theorem dX9_isName_89 : decode cX9_isName 89 = .ok (.iload 4, 2) := by decide +kernel
theorem dX9_isName_91 : decode cX9_isName 91 = .ok (.bipush 97, 2) := by decide +kernel
theorem dX9_isName_93 : decode cX9_isName 93 = .ok (.if_icmp .lt 10, 3) := by decide +kernel
theorem dX9_isName_96 : decode cX9_isName 96 = .ok (.iload 4, 2) := by decide +kernel
theorem dX9_isName_98 : decode cX9_isName 98 = .ok (.bipush 122, 2) := by decide +kernel
theorem dX9_isName_100 : decode cX9_isName 100 = .ok (.if_icmp .le 33, 3) := by decide +kernel
theorem dX9_isName_103 : decode cX9_isName 103 = .ok (.iload 4, 2) := by decide +kernel
theorem dX9_isName_105 : decode cX9_isName 105 = .ok (.bipush 65, 2) := by decide +kernel
theorem dX9_isName_107 : decode cX9_isName 107 = .ok (.if_icmp .lt 10, 3) := by decide +kernel
theorem dX9_isName_110 : decode cX9_isName 110 = .ok (.iload 4, 2) := by decide +kernel
theorem dX9_isName_112 : decode cX9_isName 112 = .ok (.bipush 90, 2) := by decide +kernel
theorem dX9_isName_114 : decode cX9_isName 114 = .ok (.if_icmp .le 19, 3) := by decide +kernel
theorem dX9_isName_117 : decode cX9_isName 117 = .ok (.iload 4, 2) := by decide +kernel
theorem dX9_isName_119 : decode cX9_isName 119 = .ok (.bipush 95, 2) := by decide +kernel
theorem dX9_isName_121 : decode cX9_isName 121 = .ok (.if_icmp .eq 12, 3) := by decide +kernel
theorem dX9_isName_124 : decode cX9_isName 124 = .ok (.iload 5, 2) := by decide +kernel
theorem dX9_isName_126 : decode cX9_isName 126 = .ok (.ifCond .eq 11, 3) := by decide +kernel
theorem dX9_isName_129 : decode cX9_isName 129 = .ok (.iload_n 3, 1) := by decide +kernel
theorem dX9_isName_130 : decode cX9_isName 130 = .ok (.ifCond .le 7, 3) := by decide +kernel
theorem dX9_isName_133 : decode cX9_isName 133 = .ok (.iconst 1, 1) := by decide +kernel
theorem dX9_isName_134 : decode cX9_isName 134 = .ok (.goto 4, 3) := by decide +kernel
theorem dX9_isName_137 : decode cX9_isName 137 = .ok (.iconst 0, 1) := by decide +kernel
theorem dX9_isName_138 : decode cX9_isName 138 = .ok (.istore_n 2, 1) := by decide +kernel
theorem dX9_isName_139 : decode cX9_isName 139 = .ok (.iinc 3 1, 3) := by decide +kernel
theorem dX9_isName_142 : decode cX9_isName 142 = .ok (.goto (-104), 3) := by decide +kernel
theorem dX9_isName_145 : decode cX9_isName 145 = .ok (.iload_n 2, 1) := by decide +kernel
theorem dX9_isName_146 : decode cX9_isName 146 = .ok (.ireturn, 1) := by decide +kernel
abbrev cX9_memberLike : ByteArray := prog_12_method_32_code
def yX9_memberLike : MethodName := ⟨RX9, "memberLike", "(II)I"⟩
def wsX9_memberLike : List Cond := .code yX9_memberLike cX9_memberLike 4 (some .int) :: sr_G
theorem dX9_memberLike_0 : decode cX9_memberLike 0 = .ok (.aload_n 0, 1) := by decide +kernel
theorem dX9_memberLike_1 : decode cX9_memberLike 1 = .ok (.getfield 29, 3) := by decide +kernel
theorem dX9_memberLike_4 : decode cX9_memberLike 4 = .ok (.iload_n 1, 1) := by decide +kernel
theorem dX9_memberLike_5 : decode cX9_memberLike 5 = .ok (.iaload, 1) := by decide +kernel
theorem dX9_memberLike_6 : decode cX9_memberLike 6 = .ok (.istore_n 3, 1) := by decide +kernel
theorem dX9_memberLike_7 : decode cX9_memberLike 7 = .ok (.iload_n 3, 1) := by decide +kernel
theorem dX9_memberLike_8 : decode cX9_memberLike 8 = .ok (.ifCond .lt 35, 3) := by decide +kernel
theorem dX9_memberLike_11 : decode cX9_memberLike 11 = .ok (.aload_n 0, 1) := by decide +kernel
theorem dX9_memberLike_12 : decode cX9_memberLike 12 = .ok (.iload_n 3, 1) := by decide +kernel
theorem dX9_memberLike_13 : decode cX9_memberLike 13 = .ok (.aload_n 0, 1) := by decide +kernel
theorem dX9_memberLike_14 : decode cX9_memberLike 14 = .ok (.iload_n 2, 1) := by decide +kernel
theorem dX9_memberLike_15 : decode cX9_memberLike 15 = .ok (.invokevirtual 155, 3) := by decide +kernel
theorem dX9_memberLike_18 : decode cX9_memberLike 18 = .ok (.ifCond .eq 10, 3) := by decide +kernel
theorem dX9_memberLike_21 : decode cX9_memberLike 21 = .ok (.aload_n 0, 1) := by decide +kernel
theorem dX9_memberLike_22 : decode cX9_memberLike 22 = .ok (.getfield 32, 3) := by decide +kernel
theorem dX9_memberLike_25 : decode cX9_memberLike 25 = .ok (.iload_n 3, 1) := by decide +kernel
theorem dX9_memberLike_26 : decode cX9_memberLike 26 = .ok (.iaload, 1) := by decide +kernel
theorem dX9_memberLike_27 : decode cX9_memberLike 27 = .ok (.ireturn, 1) := by decide +kernel
theorem dX9_memberLike_28 : decode cX9_memberLike 28 = .ok (.aload_n 0, 1) := by decide +kernel
theorem dX9_memberLike_29 : decode cX9_memberLike 29 = .ok (.getfield 32, 3) := by decide +kernel
theorem dX9_memberLike_32 : decode cX9_memberLike 32 = .ok (.aload_n 0, 1) := by decide +kernel
theorem dX9_memberLike_33 : decode cX9_memberLike 33 = .ok (.getfield 32, 3) := by decide +kernel
theorem dX9_memberLike_36 : decode cX9_memberLike 36 = .ok (.iload_n 3, 1) := by decide +kernel
theorem dX9_memberLike_37 : decode cX9_memberLike 37 = .ok (.iaload, 1) := by decide +kernel
theorem dX9_memberLike_38 : decode cX9_memberLike 38 = .ok (.iaload, 1) := by decide +kernel
theorem dX9_memberLike_39 : decode cX9_memberLike 39 = .ok (.istore_n 3, 1) := by decide +kernel
theorem dX9_memberLike_40 : decode cX9_memberLike 40 = .ok (.goto (-33), 3) := by decide +kernel
theorem dX9_memberLike_43 : decode cX9_memberLike 43 = .ok (.iconst (-1), 1) := by decide +kernel
theorem dX9_memberLike_44 : decode cX9_memberLike 44 = .ok (.ireturn, 1) := by decide +kernel
abbrev cX9_defined : ByteArray := prog_12_method_20_code
def yX9_defined : MethodName := ⟨RX9, "defined", "(I)I"⟩
def wsX9_defined : List Cond := .code yX9_defined cX9_defined 3 (some .int) :: sr_G
theorem dX9_defined_0 : decode cX9_defined 0 = .ok (.bipush 6, 2) := by decide +kernel
theorem dX9_defined_2 : decode cX9_defined 2 = .ok (.istore_n 2, 1) := by decide +kernel
theorem dX9_defined_3 : decode cX9_defined 3 = .ok (.iload_n 2, 1) := by decide +kernel
theorem dX9_defined_4 : decode cX9_defined 4 = .ok (.aload_n 0, 1) := by decide +kernel
theorem dX9_defined_5 : decode cX9_defined 5 = .ok (.getfield 189, 3) := by decide +kernel
theorem dX9_defined_8 : decode cX9_defined 8 = .ok (.if_icmp .ge 35, 3) := by decide +kernel
theorem dX9_defined_11 : decode cX9_defined 11 = .ok (.aload_n 0, 1) := by decide +kernel
theorem dX9_defined_12 : decode cX9_defined 12 = .ok (.getfield 41, 3) := by decide +kernel
theorem dX9_defined_15 : decode cX9_defined 15 = .ok (.iload_n 2, 1) := by decide +kernel
theorem dX9_defined_16 : decode cX9_defined 16 = .ok (.iaload, 1) := by decide +kernel
theorem dX9_defined_17 : decode cX9_defined 17 = .ok (.ifCond .lt 20, 3) := by decide +kernel
theorem dX9_defined_20 : decode cX9_defined 20 = .ok (.aload_n 0, 1) := by decide +kernel
theorem dX9_defined_21 : decode cX9_defined 21 = .ok (.aload_n 0, 1) := by decide +kernel
theorem dX9_defined_22 : decode cX9_defined 22 = .ok (.getfield 41, 3) := by decide +kernel
theorem dX9_defined_25 : decode cX9_defined 25 = .ok (.iload_n 2, 1) := by decide +kernel
theorem dX9_defined_26 : decode cX9_defined 26 = .ok (.iaload, 1) := by decide +kernel
theorem dX9_defined_27 : decode cX9_defined 27 = .ok (.aload_n 0, 1) := by decide +kernel
theorem dX9_defined_28 : decode cX9_defined 28 = .ok (.iload_n 1, 1) := by decide +kernel
theorem dX9_defined_29 : decode cX9_defined 29 = .ok (.invokevirtual 155, 3) := by decide +kernel
theorem dX9_defined_32 : decode cX9_defined 32 = .ok (.ifCond .eq 5, 3) := by decide +kernel
theorem dX9_defined_35 : decode cX9_defined 35 = .ok (.iload_n 2, 1) := by decide +kernel
theorem dX9_defined_36 : decode cX9_defined 36 = .ok (.ireturn, 1) := by decide +kernel
theorem dX9_defined_37 : decode cX9_defined 37 = .ok (.iinc 2 1, 3) := by decide +kernel
theorem dX9_defined_40 : decode cX9_defined 40 = .ok (.goto (-37), 3) := by decide +kernel
theorem dX9_defined_43 : decode cX9_defined 43 = .ok (.iconst (-1), 1) := by decide +kernel
theorem dX9_defined_44 : decode cX9_defined 44 = .ok (.ireturn, 1) := by decide +kernel
abbrev cX9_shape : ByteArray := prog_12_method_21_code
def yX9_shape : MethodName := ⟨RX9, "shape", "(I)I"⟩
def wsX9_shape : List Cond := .code yX9_shape cX9_shape 2 (some .int) :: sr_G
theorem dX9_shape_0 : decode cX9_shape 0 = .ok (.aload_n 0, 1) := by decide +kernel
theorem dX9_shape_1 : decode cX9_shape 1 = .ok (.getfield 38, 3) := by decide +kernel
theorem dX9_shape_4 : decode cX9_shape 4 = .ok (.aload_n 0, 1) := by decide +kernel
theorem dX9_shape_5 : decode cX9_shape 5 = .ok (.getfield 189, 3) := by decide +kernel
theorem dX9_shape_8 : decode cX9_shape 8 = .ok (.iload_n 1, 1) := by decide +kernel
theorem dX9_shape_9 : decode cX9_shape 9 = .ok (.iastore, 1) := by decide +kernel
theorem dX9_shape_10 : decode cX9_shape 10 = .ok (.aload_n 0, 1) := by decide +kernel
theorem dX9_shape_11 : decode cX9_shape 11 = .ok (.getfield 41, 3) := by decide +kernel
theorem dX9_shape_14 : decode cX9_shape 14 = .ok (.aload_n 0, 1) := by decide +kernel
theorem dX9_shape_15 : decode cX9_shape 15 = .ok (.getfield 189, 3) := by decide +kernel
theorem dX9_shape_18 : decode cX9_shape 18 = .ok (.iconst (-1), 1) := by decide +kernel
theorem dX9_shape_19 : decode cX9_shape 19 = .ok (.iastore, 1) := by decide +kernel
theorem dX9_shape_20 : decode cX9_shape 20 = .ok (.aload_n 0, 1) := by decide +kernel
theorem dX9_shape_21 : decode cX9_shape 21 = .ok (.getfield 44, 3) := by decide +kernel
theorem dX9_shape_24 : decode cX9_shape 24 = .ok (.aload_n 0, 1) := by decide +kernel
theorem dX9_shape_25 : decode cX9_shape 25 = .ok (.getfield 189, 3) := by decide +kernel
theorem dX9_shape_28 : decode cX9_shape 28 = .ok (.iconst 0, 1) := by decide +kernel
theorem dX9_shape_29 : decode cX9_shape 29 = .ok (.iastore, 1) := by decide +kernel
theorem dX9_shape_30 : decode cX9_shape 30 = .ok (.aload_n 0, 1) := by decide +kernel
theorem dX9_shape_31 : decode cX9_shape 31 = .ok (.getfield 47, 3) := by decide +kernel
theorem dX9_shape_34 : decode cX9_shape 34 = .ok (.aload_n 0, 1) := by decide +kernel
theorem dX9_shape_35 : decode cX9_shape 35 = .ok (.getfield 189, 3) := by decide +kernel
theorem dX9_shape_38 : decode cX9_shape 38 = .ok (.iconst (-1), 1) := by decide +kernel
theorem dX9_shape_39 : decode cX9_shape 39 = .ok (.iastore, 1) := by decide +kernel
theorem dX9_shape_40 : decode cX9_shape 40 = .ok (.aload_n 0, 1) := by decide +kernel
theorem dX9_shape_41 : decode cX9_shape 41 = .ok (.getfield 50, 3) := by decide +kernel
theorem dX9_shape_44 : decode cX9_shape 44 = .ok (.aload_n 0, 1) := by decide +kernel
theorem dX9_shape_45 : decode cX9_shape 45 = .ok (.getfield 189, 3) := by decide +kernel
theorem dX9_shape_48 : decode cX9_shape 48 = .ok (.iconst 0, 1) := by decide +kernel
theorem dX9_shape_49 : decode cX9_shape 49 = .ok (.iastore, 1) := by decide +kernel
theorem dX9_shape_50 : decode cX9_shape 50 = .ok (.aload_n 0, 1) := by decide +kernel
theorem dX9_shape_51 : decode cX9_shape 51 = .ok (.getfield 53, 3) := by decide +kernel
theorem dX9_shape_54 : decode cX9_shape 54 = .ok (.aload_n 0, 1) := by decide +kernel
theorem dX9_shape_55 : decode cX9_shape 55 = .ok (.getfield 189, 3) := by decide +kernel
theorem dX9_shape_58 : decode cX9_shape 58 = .ok (.iconst (-1), 1) := by decide +kernel
theorem dX9_shape_59 : decode cX9_shape 59 = .ok (.iastore, 1) := by decide +kernel
theorem dX9_shape_60 : decode cX9_shape 60 = .ok (.aload_n 0, 1) := by decide +kernel
theorem dX9_shape_61 : decode cX9_shape 61 = .ok (.dup, 1) := by decide +kernel
theorem dX9_shape_62 : decode cX9_shape 62 = .ok (.getfield 189, 3) := by decide +kernel
theorem dX9_shape_65 : decode cX9_shape 65 = .ok (.iconst 1, 1) := by decide +kernel
theorem dX9_shape_66 : decode cX9_shape 66 = .ok (.iadd, 1) := by decide +kernel
theorem dX9_shape_67 : decode cX9_shape 67 = .ok (.putfield 189, 3) := by decide +kernel
theorem dX9_shape_70 : decode cX9_shape 70 = .ok (.aload_n 0, 1) := by decide +kernel
theorem dX9_shape_71 : decode cX9_shape 71 = .ok (.getfield 189, 3) := by decide +kernel
theorem dX9_shape_74 : decode cX9_shape 74 = .ok (.iconst 1, 1) := by decide +kernel
theorem dX9_shape_75 : decode cX9_shape 75 = .ok (.isub, 1) := by decide +kernel
theorem dX9_shape_76 : decode cX9_shape 76 = .ok (.ireturn, 1) := by decide +kernel
abbrev cX9_addKid : ByteArray := prog_12_method_22_code
def yX9_addKid : MethodName := ⟨RX9, "addKid", "(II)I"⟩
def wsX9_addKid : List Cond := .code yX9_addKid cX9_addKid 4 (some .int) :: sr_G
theorem dX9_addKid_0 : decode cX9_addKid 0 = .ok (.aload_n 0, 1) := by decide +kernel
theorem dX9_addKid_1 : decode cX9_addKid 1 = .ok (.getfield 192, 3) := by decide +kernel
theorem dX9_addKid_4 : decode cX9_addKid 4 = .ok (.istore_n 3, 1) := by decide +kernel
theorem dX9_addKid_5 : decode cX9_addKid 5 = .ok (.aload_n 0, 1) := by decide +kernel
theorem dX9_addKid_6 : decode cX9_addKid 6 = .ok (.dup, 1) := by decide +kernel
theorem dX9_addKid_7 : decode cX9_addKid 7 = .ok (.getfield 192, 3) := by decide +kernel
theorem dX9_addKid_10 : decode cX9_addKid 10 = .ok (.iconst 1, 1) := by decide +kernel
theorem dX9_addKid_11 : decode cX9_addKid 11 = .ok (.iadd, 1) := by decide +kernel
theorem dX9_addKid_12 : decode cX9_addKid 12 = .ok (.putfield 192, 3) := by decide +kernel
theorem dX9_addKid_15 : decode cX9_addKid 15 = .ok (.aload_n 0, 1) := by decide +kernel
theorem dX9_addKid_16 : decode cX9_addKid 16 = .ok (.getfield 56, 3) := by decide +kernel
theorem dX9_addKid_19 : decode cX9_addKid 19 = .ok (.iload_n 3, 1) := by decide +kernel
theorem dX9_addKid_20 : decode cX9_addKid 20 = .ok (.iconst (-1), 1) := by decide +kernel
theorem dX9_addKid_21 : decode cX9_addKid 21 = .ok (.iastore, 1) := by decide +kernel
theorem dX9_addKid_22 : decode cX9_addKid 22 = .ok (.aload_n 0, 1) := by decide +kernel
theorem dX9_addKid_23 : decode cX9_addKid 23 = .ok (.getfield 59, 3) := by decide +kernel
theorem dX9_addKid_26 : decode cX9_addKid 26 = .ok (.iload_n 3, 1) := by decide +kernel
theorem dX9_addKid_27 : decode cX9_addKid 27 = .ok (.iconst (-1), 1) := by decide +kernel
theorem dX9_addKid_28 : decode cX9_addKid 28 = .ok (.iastore, 1) := by decide +kernel
theorem dX9_addKid_29 : decode cX9_addKid 29 = .ok (.aload_n 0, 1) := by decide +kernel
theorem dX9_addKid_30 : decode cX9_addKid 30 = .ok (.getfield 62, 3) := by decide +kernel
theorem dX9_addKid_33 : decode cX9_addKid 33 = .ok (.iload_n 3, 1) := by decide +kernel
theorem dX9_addKid_34 : decode cX9_addKid 34 = .ok (.iconst (-1), 1) := by decide +kernel
theorem dX9_addKid_35 : decode cX9_addKid 35 = .ok (.iastore, 1) := by decide +kernel
theorem dX9_addKid_36 : decode cX9_addKid 36 = .ok (.aload_n 0, 1) := by decide +kernel
theorem dX9_addKid_37 : decode cX9_addKid 37 = .ok (.getfield 65, 3) := by decide +kernel
theorem dX9_addKid_40 : decode cX9_addKid 40 = .ok (.iload_n 3, 1) := by decide +kernel
theorem dX9_addKid_41 : decode cX9_addKid 41 = .ok (.iconst (-1), 1) := by decide +kernel
theorem dX9_addKid_42 : decode cX9_addKid 42 = .ok (.iastore, 1) := by decide +kernel
theorem dX9_addKid_43 : decode cX9_addKid 43 = .ok (.iload_n 2, 1) := by decide +kernel
theorem dX9_addKid_44 : decode cX9_addKid 44 = .ok (.ifCond .ge 13, 3) := by decide +kernel
theorem dX9_addKid_47 : decode cX9_addKid 47 = .ok (.aload_n 0, 1) := by decide +kernel
theorem dX9_addKid_48 : decode cX9_addKid 48 = .ok (.getfield 47, 3) := by decide +kernel
theorem dX9_addKid_51 : decode cX9_addKid 51 = .ok (.iload_n 1, 1) := by decide +kernel
theorem dX9_addKid_52 : decode cX9_addKid 52 = .ok (.iload_n 3, 1) := by decide +kernel
theorem dX9_addKid_53 : decode cX9_addKid 53 = .ok (.iastore, 1) := by decide +kernel
theorem dX9_addKid_54 : decode cX9_addKid 54 = .ok (.goto 10, 3) := by decide +kernel
theorem dX9_addKid_57 : decode cX9_addKid 57 = .ok (.aload_n 0, 1) := by decide +kernel
theorem dX9_addKid_58 : decode cX9_addKid 58 = .ok (.getfield 65, 3) := by decide +kernel
theorem dX9_addKid_61 : decode cX9_addKid 61 = .ok (.iload_n 2, 1) := by decide +kernel
theorem dX9_addKid_62 : decode cX9_addKid 62 = .ok (.iload_n 3, 1) := by decide +kernel
theorem dX9_addKid_63 : decode cX9_addKid 63 = .ok (.iastore, 1) := by decide +kernel
theorem dX9_addKid_64 : decode cX9_addKid 64 = .ok (.aload_n 0, 1) := by decide +kernel
theorem dX9_addKid_65 : decode cX9_addKid 65 = .ok (.getfield 50, 3) := by decide +kernel
theorem dX9_addKid_68 : decode cX9_addKid 68 = .ok (.iload_n 1, 1) := by decide +kernel
theorem dX9_addKid_69 : decode cX9_addKid 69 = .ok (.dup2, 1) := by decide +kernel
theorem dX9_addKid_70 : decode cX9_addKid 70 = .ok (.iaload, 1) := by decide +kernel
theorem dX9_addKid_71 : decode cX9_addKid 71 = .ok (.iconst 1, 1) := by decide +kernel
theorem dX9_addKid_72 : decode cX9_addKid 72 = .ok (.iadd, 1) := by decide +kernel
theorem dX9_addKid_73 : decode cX9_addKid 73 = .ok (.iastore, 1) := by decide +kernel
theorem dX9_addKid_74 : decode cX9_addKid 74 = .ok (.iload_n 3, 1) := by decide +kernel
theorem dX9_addKid_75 : decode cX9_addKid 75 = .ok (.ireturn, 1) := by decide +kernel
abbrev cX9_alike : ByteArray := prog_12_method_24_code
def yX9_alike : MethodName := ⟨RX9, "alike", "(II)Z"⟩
def wsX9_alike : List Cond := .code yX9_alike cX9_alike 3 (some .boolean) :: sr_G
theorem dX9_alike_0 : decode cX9_alike 0 = .ok (.iload_n 1, 1) := by decide +kernel
theorem dX9_alike_1 : decode cX9_alike 1 = .ok (.iload_n 2, 1) := by decide +kernel
theorem dX9_alike_2 : decode cX9_alike 2 = .ok (.if_icmp .ne 5, 3) := by decide +kernel
theorem dX9_alike_5 : decode cX9_alike 5 = .ok (.iconst 1, 1) := by decide +kernel
theorem dX9_alike_6 : decode cX9_alike 6 = .ok (.ireturn, 1) := by decide +kernel
theorem dX9_alike_7 : decode cX9_alike 7 = .ok (.aload_n 0, 1) := by decide +kernel
theorem dX9_alike_8 : decode cX9_alike 8 = .ok (.getfield 38, 3) := by decide +kernel
theorem dX9_alike_11 : decode cX9_alike 11 = .ok (.iload_n 1, 1) := by decide +kernel
theorem dX9_alike_12 : decode cX9_alike 12 = .ok (.iaload, 1) := by decide +kernel
theorem dX9_alike_13 : decode cX9_alike 13 = .ok (.aload_n 0, 1) := by decide +kernel
theorem dX9_alike_14 : decode cX9_alike 14 = .ok (.getfield 38, 3) := by decide +kernel
theorem dX9_alike_17 : decode cX9_alike 17 = .ok (.iload_n 2, 1) := by decide +kernel
theorem dX9_alike_18 : decode cX9_alike 18 = .ok (.iaload, 1) := by decide +kernel
theorem dX9_alike_19 : decode cX9_alike 19 = .ok (.if_icmp .ne 29, 3) := by decide +kernel
theorem dX9_alike_22 : decode cX9_alike 22 = .ok (.aload_n 0, 1) := by decide +kernel
theorem dX9_alike_23 : decode cX9_alike 23 = .ok (.getfield 38, 3) := by decide +kernel
theorem dX9_alike_26 : decode cX9_alike 26 = .ok (.iload_n 1, 1) := by decide +kernel
theorem dX9_alike_27 : decode cX9_alike 27 = .ok (.iaload, 1) := by decide +kernel
theorem dX9_alike_28 : decode cX9_alike 28 = .ok (.bipush 6, 2) := by decide +kernel
theorem dX9_alike_30 : decode cX9_alike 30 = .ok (.if_icmp .eq 14, 3) := by decide +kernel
theorem dX9_alike_33 : decode cX9_alike 33 = .ok (.aload_n 0, 1) := by decide +kernel
theorem dX9_alike_34 : decode cX9_alike 34 = .ok (.getfield 38, 3) := by decide +kernel
theorem dX9_alike_37 : decode cX9_alike 37 = .ok (.iload_n 1, 1) := by decide +kernel
theorem dX9_alike_38 : decode cX9_alike 38 = .ok (.iaload, 1) := by decide +kernel
theorem dX9_alike_39 : decode cX9_alike 39 = .ok (.bipush 7, 2) := by decide +kernel
theorem dX9_alike_41 : decode cX9_alike 41 = .ok (.if_icmp .ne 7, 3) := by decide +kernel
theorem dX9_alike_44 : decode cX9_alike 44 = .ok (.iconst 1, 1) := by decide +kernel
theorem dX9_alike_45 : decode cX9_alike 45 = .ok (.goto 4, 3) := by decide +kernel
theorem dX9_alike_48 : decode cX9_alike 48 = .ok (.iconst 0, 1) := by decide +kernel
theorem dX9_alike_49 : decode cX9_alike 49 = .ok (.ireturn, 1) := by decide +kernel
abbrev cX9_symbol : ByteArray := prog_12_method_28_code
def yX9_symbol : MethodName := ⟨RX9, "symbol", "(ILSchemaReaderModel$Text;I)I"⟩
def wsX9_symbol : List Cond := .code yX9_symbol cX9_symbol 6 (some .int) :: sr_G
theorem dX9_symbol_0 : decode cX9_symbol 0 = .ok (.iconst 0, 1) := by decide +kernel
theorem dX9_symbol_1 : decode cX9_symbol 1 = .ok (.istore 4, 2) := by decide +kernel
theorem dX9_symbol_3 : decode cX9_symbol 3 = .ok (.aload_n 0, 1) := by decide +kernel
theorem dX9_symbol_4 : decode cX9_symbol 4 = .ok (.getfield 47, 3) := by decide +kernel
theorem dX9_symbol_7 : decode cX9_symbol 7 = .ok (.iload_n 1, 1) := by decide +kernel
theorem dX9_symbol_8 : decode cX9_symbol 8 = .ok (.iaload, 1) := by decide +kernel
theorem dX9_symbol_9 : decode cX9_symbol 9 = .ok (.istore 5, 2) := by decide +kernel
theorem dX9_symbol_11 : decode cX9_symbol 11 = .ok (.iload 5, 2) := by decide +kernel
theorem dX9_symbol_13 : decode cX9_symbol 13 = .ok (.ifCond .lt 37, 3) := by decide +kernel
theorem dX9_symbol_16 : decode cX9_symbol 16 = .ok (.aload_n 0, 1) := by decide +kernel
theorem dX9_symbol_17 : decode cX9_symbol 17 = .ok (.aload_n 0, 1) := by decide +kernel
theorem dX9_symbol_18 : decode cX9_symbol 18 = .ok (.getfield 59, 3) := by decide +kernel
theorem dX9_symbol_21 : decode cX9_symbol 21 = .ok (.iload 5, 2) := by decide +kernel
theorem dX9_symbol_23 : decode cX9_symbol 23 = .ok (.iaload, 1) := by decide +kernel
theorem dX9_symbol_24 : decode cX9_symbol 24 = .ok (.aload_n 2, 1) := by decide +kernel
theorem dX9_symbol_25 : decode cX9_symbol 25 = .ok (.iload_n 3, 1) := by decide +kernel
theorem dX9_symbol_26 : decode cX9_symbol 26 = .ok (.invokevirtual 155, 3) := by decide +kernel
theorem dX9_symbol_29 : decode cX9_symbol 29 = .ok (.ifCond .eq 6, 3) := by decide +kernel
theorem dX9_symbol_32 : decode cX9_symbol 32 = .ok (.iload 4, 2) := by decide +kernel
theorem dX9_symbol_34 : decode cX9_symbol 34 = .ok (.ireturn, 1) := by decide +kernel
theorem dX9_symbol_35 : decode cX9_symbol 35 = .ok (.iinc 4 1, 3) := by decide +kernel
theorem dX9_symbol_38 : decode cX9_symbol 38 = .ok (.aload_n 0, 1) := by decide +kernel
theorem dX9_symbol_39 : decode cX9_symbol 39 = .ok (.getfield 65, 3) := by decide +kernel
theorem dX9_symbol_42 : decode cX9_symbol 42 = .ok (.iload 5, 2) := by decide +kernel
theorem dX9_symbol_44 : decode cX9_symbol 44 = .ok (.iaload, 1) := by decide +kernel
theorem dX9_symbol_45 : decode cX9_symbol 45 = .ok (.istore 5, 2) := by decide +kernel
theorem dX9_symbol_47 : decode cX9_symbol 47 = .ok (.goto (-36), 3) := by decide +kernel
theorem dX9_symbol_50 : decode cX9_symbol 50 = .ok (.iconst (-1), 1) := by decide +kernel
theorem dX9_symbol_51 : decode cX9_symbol 51 = .ok (.ireturn, 1) := by decide +kernel
abbrev cX9_figure : ByteArray := prog_12_method_38_code
def yX9_figure : MethodName := ⟨RX9, "figure", "(I)V"⟩
def wsX9_figure : List Cond := .code yX9_figure cX9_figure 2 none :: sr_G
theorem dX9_figure_0 : decode cX9_figure 0 = .ok (.aload_n 0, 1) := by decide +kernel
theorem dX9_figure_1 : decode cX9_figure 1 = .ok (.getfield 71, 3) := by decide +kernel
theorem dX9_figure_4 : decode cX9_figure 4 = .ok (.aload_n 0, 1) := by decide +kernel
theorem dX9_figure_5 : decode cX9_figure 5 = .ok (.getfield 280, 3) := by decide +kernel
theorem dX9_figure_8 : decode cX9_figure 8 = .ok (.bipush 48, 2) := by decide +kernel
theorem dX9_figure_10 : decode cX9_figure 10 = .ok (.iload_n 1, 1) := by decide +kernel
theorem dX9_figure_11 : decode cX9_figure 11 = .ok (.iadd, 1) := by decide +kernel
theorem dX9_figure_12 : decode cX9_figure 12 = .ok (.i2b, 1) := by decide +kernel
theorem dX9_figure_13 : decode cX9_figure 13 = .ok (.bastore, 1) := by decide +kernel
theorem dX9_figure_14 : decode cX9_figure 14 = .ok (.aload_n 0, 1) := by decide +kernel
theorem dX9_figure_15 : decode cX9_figure 15 = .ok (.dup, 1) := by decide +kernel
theorem dX9_figure_16 : decode cX9_figure 16 = .ok (.getfield 280, 3) := by decide +kernel
theorem dX9_figure_19 : decode cX9_figure 19 = .ok (.iconst 1, 1) := by decide +kernel
theorem dX9_figure_20 : decode cX9_figure 20 = .ok (.iadd, 1) := by decide +kernel
theorem dX9_figure_21 : decode cX9_figure 21 = .ok (.putfield 280, 3) := by decide +kernel
theorem dX9_figure_24 : decode cX9_figure 24 = .ok (.return_, 1) := by decide +kernel
abbrev cX9_print : ByteArray := prog_12_method_40_code
def yX9_print : MethodName := ⟨RX9, "print", "()J"⟩
def wsX9_print : List Cond := .code yX9_print cX9_print 7 (some .long) :: sr_G
theorem dX9_print_0 : decode cX9_print 0 = .ok (.ldc2_w 335, 3) := by decide +kernel
theorem dX9_print_3 : decode cX9_print 3 = .ok (.lstore_n 1, 1) := by decide +kernel
theorem dX9_print_4 : decode cX9_print 4 = .ok (.iconst 0, 1) := by decide +kernel
theorem dX9_print_5 : decode cX9_print 5 = .ok (.istore_n 3, 1) := by decide +kernel
theorem dX9_print_6 : decode cX9_print 6 = .ok (.iload_n 3, 1) := by decide +kernel
theorem dX9_print_7 : decode cX9_print 7 = .ok (.aload_n 0, 1) := by decide +kernel
theorem dX9_print_8 : decode cX9_print 8 = .ok (.getfield 280, 3) := by decide +kernel
theorem dX9_print_11 : decode cX9_print 11 = .ok (.if_icmp .ge 71, 3) := by decide +kernel
theorem dX9_print_14 : decode cX9_print 14 = .ok (.lload_n 1, 1) := by decide +kernel
theorem dX9_print_15 : decode cX9_print 15 = .ok (.aload_n 0, 1) := by decide +kernel
theorem dX9_print_16 : decode cX9_print 16 = .ok (.getfield 71, 3) := by decide +kernel
theorem dX9_print_19 : decode cX9_print 19 = .ok (.iload_n 3, 1) := by decide +kernel
theorem dX9_print_20 : decode cX9_print 20 = .ok (.baload, 1) := by decide +kernel
theorem dX9_print_21 : decode cX9_print 21 = .ok (.i2l, 1) := by decide +kernel
theorem dX9_print_22 : decode cX9_print 22 = .ok (.lxor, 1) := by decide +kernel
theorem dX9_print_23 : decode cX9_print 23 = .ok (.ldc2_w 337, 3) := by decide +kernel
theorem dX9_print_26 : decode cX9_print 26 = .ok (.land, 1) := by decide +kernel
theorem dX9_print_27 : decode cX9_print 27 = .ok (.lstore 4, 2) := by decide +kernel
theorem dX9_print_29 : decode cX9_print 29 = .ok (.iconst 0, 1) := by decide +kernel
theorem dX9_print_30 : decode cX9_print 30 = .ok (.istore 6, 2) := by decide +kernel
theorem dX9_print_32 : decode cX9_print 32 = .ok (.iload 6, 2) := by decide +kernel
theorem dX9_print_34 : decode cX9_print 34 = .ok (.bipush 8, 2) := by decide +kernel
theorem dX9_print_36 : decode cX9_print 36 = .ok (.if_icmp .ge 32, 3) := by decide +kernel
theorem dX9_print_39 : decode cX9_print 39 = .ok (.lload 4, 2) := by decide +kernel
theorem dX9_print_41 : decode cX9_print 41 = .ok (.iconst 1, 1) := by decide +kernel
theorem dX9_print_42 : decode cX9_print 42 = .ok (.lushr, 1) := by decide +kernel
theorem dX9_print_43 : decode cX9_print 43 = .ok (.lload 4, 2) := by decide +kernel
theorem dX9_print_45 : decode cX9_print 45 = .ok (.lconst 1, 1) := by decide +kernel
theorem dX9_print_46 : decode cX9_print 46 = .ok (.land, 1) := by decide +kernel
theorem dX9_print_47 : decode cX9_print 47 = .ok (.lconst 1, 1) := by decide +kernel
theorem dX9_print_48 : decode cX9_print 48 = .ok (.lcmp, 1) := by decide +kernel
theorem dX9_print_49 : decode cX9_print 49 = .ok (.ifCond .ne 9, 3) := by decide +kernel
theorem dX9_print_52 : decode cX9_print 52 = .ok (.ldc2_w 335, 3) := by decide +kernel
theorem dX9_print_55 : decode cX9_print 55 = .ok (.goto 4, 3) := by decide +kernel
theorem dX9_print_58 : decode cX9_print 58 = .ok (.lconst 0, 1) := by decide +kernel
theorem dX9_print_59 : decode cX9_print 59 = .ok (.lxor, 1) := by decide +kernel
theorem dX9_print_60 : decode cX9_print 60 = .ok (.lstore 4, 2) := by decide +kernel
theorem dX9_print_62 : decode cX9_print 62 = .ok (.iinc 6 1, 3) := by decide +kernel
theorem dX9_print_65 : decode cX9_print 65 = .ok (.goto (-33), 3) := by decide +kernel
theorem dX9_print_68 : decode cX9_print 68 = .ok (.lload_n 1, 1) := by decide +kernel
theorem dX9_print_69 : decode cX9_print 69 = .ok (.bipush 8, 2) := by decide +kernel
theorem dX9_print_71 : decode cX9_print 71 = .ok (.lushr, 1) := by decide +kernel
theorem dX9_print_72 : decode cX9_print 72 = .ok (.lload 4, 2) := by decide +kernel
theorem dX9_print_74 : decode cX9_print 74 = .ok (.lxor, 1) := by decide +kernel
theorem dX9_print_75 : decode cX9_print 75 = .ok (.lstore_n 1, 1) := by decide +kernel
theorem dX9_print_76 : decode cX9_print 76 = .ok (.iinc 3 1, 3) := by decide +kernel
theorem dX9_print_79 : decode cX9_print 79 = .ok (.goto (-73), 3) := by decide +kernel
theorem dX9_print_82 : decode cX9_print 82 = .ok (.lload_n 1, 1) := by decide +kernel
theorem dX9_print_83 : decode cX9_print 83 = .ok (.lreturn, 1) := by decide +kernel
abbrev cX9_fail : ByteArray := prog_12_method_2_code
def yX9_fail : MethodName := ⟨RX9, "fail", "(II)V"⟩
def wsX9_fail : List Cond := .code yX9_fail cX9_fail 3 none :: sr_G
theorem dX9_fail_0 : decode cX9_fail 0 = .ok (.aload_n 0, 1) := by decide +kernel
theorem dX9_fail_1 : decode cX9_fail 1 = .ok (.iload_n 1, 1) := by decide +kernel
theorem dX9_fail_2 : decode cX9_fail 2 = .ok (.putfield 78, 3) := by decide +kernel
theorem dX9_fail_5 : decode cX9_fail 5 = .ok (.aload_n 0, 1) := by decide +kernel
theorem dX9_fail_6 : decode cX9_fail 6 = .ok (.iload_n 2, 1) := by decide +kernel
theorem dX9_fail_7 : decode cX9_fail 7 = .ok (.putfield 82, 3) := by decide +kernel
theorem dX9_fail_10 : decode cX9_fail 10 = .ok (.new 85, 3) := by decide +kernel
theorem dX9_fail_13 : decode cX9_fail 13 = .ok (.dup, 1) := by decide +kernel
theorem dX9_fail_14 : decode cX9_fail 14 = .ok (.ldc 87, 2) := by decide +kernel
theorem dX9_fail_16 : decode cX9_fail 16 = .ok (.invokespecial 88, 3) := by decide +kernel
theorem dX9_fail_19 : decode cX9_fail 19 = .ok (.athrow, 1) := by decide +kernel
abbrev cX9_need : ByteArray := prog_12_method_3_code
def yX9_need : MethodName := ⟨RX9, "need", "(ZII)V"⟩
def wsX9_need : List Cond := .code yX9_need cX9_need 4 none :: sr_G
theorem dX9_need_0 : decode cX9_need 0 = .ok (.iload_n 1, 1) := by decide +kernel
theorem dX9_need_1 : decode cX9_need 1 = .ok (.ifCond .ne 9, 3) := by decide +kernel
theorem dX9_need_4 : decode cX9_need 4 = .ok (.aload_n 0, 1) := by decide +kernel
theorem dX9_need_5 : decode cX9_need 5 = .ok (.iload_n 2, 1) := by decide +kernel
theorem dX9_need_6 : decode cX9_need 6 = .ok (.iload_n 3, 1) := by decide +kernel
theorem dX9_need_7 : decode cX9_need 7 = .ok (.invokevirtual 91, 3) := by decide +kernel
theorem dX9_need_10 : decode cX9_need 10 = .ok (.return_, 1) := by decide +kernel
abbrev cX9_take : ByteArray := prog_12_method_6_code
def yX9_take : MethodName := ⟨RX9, "take", "(I)V"⟩
def wsX9_take : List Cond := .code yX9_take cX9_take 2 none :: sr_G
theorem dX9_take_0 : decode cX9_take 0 = .ok (.aload_n 0, 1) := by decide +kernel
theorem dX9_take_1 : decode cX9_take 1 = .ok (.aload_n 0, 1) := by decide +kernel
theorem dX9_take_2 : decode cX9_take 2 = .ok (.invokevirtual 101, 3) := by decide +kernel
theorem dX9_take_5 : decode cX9_take 5 = .ok (.iload_n 1, 1) := by decide +kernel
theorem dX9_take_6 : decode cX9_take 6 = .ok (.if_icmp .ne 7, 3) := by decide +kernel
theorem dX9_take_9 : decode cX9_take 9 = .ok (.iconst 1, 1) := by decide +kernel
theorem dX9_take_10 : decode cX9_take 10 = .ok (.goto 4, 3) := by decide +kernel
theorem dX9_take_13 : decode cX9_take 13 = .ok (.iconst 0, 1) := by decide +kernel
theorem dX9_take_14 : decode cX9_take 14 = .ok (.iconst 1, 1) := by decide +kernel
theorem dX9_take_15 : decode cX9_take 15 = .ok (.aload_n 0, 1) := by decide +kernel
theorem dX9_take_16 : decode cX9_take 16 = .ok (.getfield 95, 3) := by decide +kernel
theorem dX9_take_19 : decode cX9_take 19 = .ok (.invokevirtual 105, 3) := by decide +kernel
theorem dX9_take_22 : decode cX9_take 22 = .ok (.aload_n 0, 1) := by decide +kernel
theorem dX9_take_23 : decode cX9_take 23 = .ok (.dup, 1) := by decide +kernel
theorem dX9_take_24 : decode cX9_take 24 = .ok (.getfield 95, 3) := by decide +kernel
theorem dX9_take_27 : decode cX9_take 27 = .ok (.iconst 1, 1) := by decide +kernel
theorem dX9_take_28 : decode cX9_take 28 = .ok (.iadd, 1) := by decide +kernel
theorem dX9_take_29 : decode cX9_take 29 = .ok (.putfield 95, 3) := by decide +kernel
theorem dX9_take_32 : decode cX9_take 32 = .ok (.return_, 1) := by decide +kernel
abbrev cX9_number : ByteArray := prog_12_method_14_code
def yX9_number : MethodName := ⟨RX9, "number", "()I"⟩
def wsX9_number : List Cond := .code yX9_number cX9_number 8 (some .int) :: sr_G
theorem dX9_number_0 : decode cX9_number 0 = .ok (.aload_n 0, 1) := by decide +kernel
theorem dX9_number_1 : decode cX9_number 1 = .ok (.iconst 3, 1) := by decide +kernel
theorem dX9_number_2 : decode cX9_number 2 = .ok (.invokevirtual 127, 3) := by decide +kernel
theorem dX9_number_5 : decode cX9_number 5 = .ok (.istore_n 1, 1) := by decide +kernel
theorem dX9_number_6 : decode cX9_number 6 = .ok (.aload_n 0, 1) := by decide +kernel
theorem dX9_number_7 : decode cX9_number 7 = .ok (.invokevirtual 101, 3) := by decide +kernel
theorem dX9_number_10 : decode cX9_number 10 = .ok (.bipush 45, 2) := by decide +kernel
theorem dX9_number_12 : decode cX9_number 12 = .ok (.if_icmp .ne 7, 3) := by decide +kernel
theorem dX9_number_15 : decode cX9_number 15 = .ok (.iconst 1, 1) := by decide +kernel
theorem dX9_number_16 : decode cX9_number 16 = .ok (.goto 4, 3) := by decide +kernel
theorem dX9_number_19 : decode cX9_number 19 = .ok (.iconst 0, 1) := by decide +kernel
theorem dX9_number_20 : decode cX9_number 20 = .ok (.istore_n 2, 1) := by decide +kernel
theorem dX9_number_21 : decode cX9_number 21 = .ok (.aload_n 0, 1) := by decide +kernel
theorem dX9_number_22 : decode cX9_number 22 = .ok (.iload_n 2, 1) := by decide +kernel
theorem dX9_number_23 : decode cX9_number 23 = .ok (.ifCond .eq 12, 3) := by decide +kernel
theorem dX9_number_26 : decode cX9_number 26 = .ok (.aload_n 0, 1) := by decide +kernel
theorem dX9_number_27 : decode cX9_number 27 = .ok (.getfield 95, 3) := by decide +kernel
theorem dX9_number_30 : decode cX9_number 30 = .ok (.iconst 1, 1) := by decide +kernel
theorem dX9_number_31 : decode cX9_number 31 = .ok (.iadd, 1) := by decide +kernel
theorem dX9_number_32 : decode cX9_number 32 = .ok (.goto 7, 3) := by decide +kernel
theorem dX9_number_35 : decode cX9_number 35 = .ok (.aload_n 0, 1) := by decide +kernel
theorem dX9_number_36 : decode cX9_number 36 = .ok (.getfield 95, 3) := by decide +kernel
theorem dX9_number_39 : decode cX9_number 39 = .ok (.putfield 95, 3) := by decide +kernel
theorem dX9_number_42 : decode cX9_number 42 = .ok (.aload_n 0, 1) := by decide +kernel
theorem dX9_number_43 : decode cX9_number 43 = .ok (.aload_n 0, 1) := by decide +kernel
theorem dX9_number_44 : decode cX9_number 44 = .ok (.invokevirtual 101, 3) := by decide +kernel
theorem dX9_number_47 : decode cX9_number 47 = .ok (.bipush 48, 2) := by decide +kernel
theorem dX9_number_49 : decode cX9_number 49 = .ok (.if_icmp .lt 16, 3) := by decide +kernel
theorem dX9_number_52 : decode cX9_number 52 = .ok (.aload_n 0, 1) := by decide +kernel
theorem dX9_number_53 : decode cX9_number 53 = .ok (.invokevirtual 101, 3) := by decide +kernel
theorem dX9_number_56 : decode cX9_number 56 = .ok (.bipush 57, 2) := by decide +kernel
theorem dX9_number_58 : decode cX9_number 58 = .ok (.if_icmp .gt 7, 3) := by decide +kernel
theorem dX9_number_61 : decode cX9_number 61 = .ok (.iconst 1, 1) := by decide +kernel
theorem dX9_number_62 : decode cX9_number 62 = .ok (.goto 4, 3) := by decide +kernel
theorem dX9_number_65 : decode cX9_number 65 = .ok (.iconst 0, 1) := by decide +kernel
theorem dX9_number_66 : decode cX9_number 66 = .ok (.iconst 1, 1) := by decide +kernel
theorem dX9_number_67 : decode cX9_number 67 = .ok (.aload_n 0, 1) := by decide +kernel
theorem dX9_number_68 : decode cX9_number 68 = .ok (.getfield 95, 3) := by decide +kernel
theorem dX9_number_71 : decode cX9_number 71 = .ok (.invokevirtual 105, 3) := by decide +kernel
theorem dX9_number_74 : decode cX9_number 74 = .ok (.aload_n 0, 1) := by decide +kernel
theorem dX9_number_75 : decode cX9_number 75 = .ok (.invokevirtual 101, 3) := by decide +kernel
theorem dX9_number_78 : decode cX9_number 78 = .ok (.bipush 48, 2) := by decide +kernel
theorem dX9_number_80 : decode cX9_number 80 = .ok (.if_icmp .ne 7, 3) := by decide +kernel
theorem dX9_number_83 : decode cX9_number 83 = .ok (.iconst 1, 1) := by decide +kernel
theorem dX9_number_84 : decode cX9_number 84 = .ok (.goto 4, 3) := by decide +kernel
theorem dX9_number_87 : decode cX9_number 87 = .ok (.iconst 0, 1) := by decide +kernel
theorem dX9_number_88 : decode cX9_number 88 = .ok (.istore_n 3, 1) := by decide +kernel
theorem dX9_number_89 : decode cX9_number 89 = .ok (.iconst 1, 1) := by decide +kernel
theorem dX9_number_90 : decode cX9_number 90 = .ok (.istore 4, 2) := by decide +kernel
theorem dX9_number_92 : decode cX9_number 92 = .ok (.lconst 0, 1) := by decide +kernel
theorem dX9_number_93 : decode cX9_number 93 = .ok (.lstore 5, 2) := by decide +kernel
theorem dX9_number_95 : decode cX9_number 95 = .ok (.aload_n 0, 1) := by decide +kernel
theorem dX9_number_96 : decode cX9_number 96 = .ok (.invokevirtual 101, 3) := by decide +kernel
theorem dX9_number_99 : decode cX9_number 99 = .ok (.bipush 48, 2) := by decide +kernel
theorem dX9_number_101 : decode cX9_number 101 = .ok (.if_icmp .lt 142, 3) := by decide +kernel
theorem dX9_number_104 : decode cX9_number 104 = .ok (.aload_n 0, 1) := by decide +kernel
theorem dX9_number_105 : decode cX9_number 105 = .ok (.invokevirtual 101, 3) := by decide +kernel
theorem dX9_number_108 : decode cX9_number 108 = .ok (.bipush 57, 2) := by decide +kernel
theorem dX9_number_110 : decode cX9_number 110 = .ok (.if_icmp .gt 133, 3) := by decide +kernel
theorem dX9_number_113 : decode cX9_number 113 = .ok (.iload_n 3, 1) := by decide +kernel
theorem dX9_number_114 : decode cX9_number 114 = .ok (.ifCond .eq 29, 3) := by decide +kernel
theorem dX9_number_117 : decode cX9_number 117 = .ok (.lload 5, 2) := by decide +kernel
theorem dX9_number_119 : decode cX9_number 119 = .ok (.lconst 0, 1) := by decide +kernel
theorem dX9_number_120 : decode cX9_number 120 = .ok (.lcmp, 1) := by decide +kernel
theorem dX9_number_121 : decode cX9_number 121 = .ok (.ifCond .ne 122, 3) := by decide +kernel
theorem dX9_number_124 : decode cX9_number 124 = .ok (.aload_n 0, 1) := by decide +kernel
theorem dX9_number_125 : decode cX9_number 125 = .ok (.getfield 15, 3) := by decide +kernel
theorem dX9_number_128 : decode cX9_number 128 = .ok (.iload_n 1, 1) := by decide +kernel
theorem dX9_number_129 : decode cX9_number 129 = .ok (.iaload, 1) := by decide +kernel
theorem dX9_number_130 : decode cX9_number 130 = .ok (.iconst 3, 1) := by decide +kernel
theorem dX9_number_131 : decode cX9_number 131 = .ok (.if_icmp .ne 112, 3) := by decide +kernel
theorem dX9_number_134 : decode cX9_number 134 = .ok (.aload_n 0, 1) := by decide +kernel
theorem dX9_number_135 : decode cX9_number 135 = .ok (.getfield 26, 3) := by decide +kernel
theorem dX9_number_138 : decode cX9_number 138 = .ok (.iload_n 1, 1) := by decide +kernel
theorem dX9_number_139 : decode cX9_number 139 = .ok (.iaload, 1) := by decide +kernel
theorem dX9_number_140 : decode cX9_number 140 = .ok (.ifCond .ne 103, 3) := by decide +kernel
theorem dX9_number_143 : decode cX9_number 143 = .ok (.aload_n 0, 1) := by decide +kernel
theorem dX9_number_144 : decode cX9_number 144 = .ok (.invokevirtual 101, 3) := by decide +kernel
theorem dX9_number_147 : decode cX9_number 147 = .ok (.bipush 48, 2) := by decide +kernel
theorem dX9_number_149 : decode cX9_number 149 = .ok (.isub, 1) := by decide +kernel
theorem dX9_number_150 : decode cX9_number 150 = .ok (.istore 7, 2) := by decide +kernel
theorem dX9_number_152 : decode cX9_number 152 = .ok (.iload 4, 2) := by decide +kernel
theorem dX9_number_154 : decode cX9_number 154 = .ok (.ifCond .eq 41, 3) := by decide +kernel
theorem dX9_number_157 : decode cX9_number 157 = .ok (.lload 5, 2) := by decide +kernel
theorem dX9_number_159 : decode cX9_number 159 = .ok (.ldc2_w 173, 3) := by decide +kernel
theorem dX9_number_162 : decode cX9_number 162 = .ok (.lcmp, 1) := by decide +kernel
theorem dX9_number_163 : decode cX9_number 163 = .ok (.ifCond .gt 28, 3) := by decide +kernel
theorem dX9_number_166 : decode cX9_number 166 = .ok (.lload 5, 2) := by decide +kernel
theorem dX9_number_168 : decode cX9_number 168 = .ok (.ldc2_w 173, 3) := by decide +kernel
theorem dX9_number_171 : decode cX9_number 171 = .ok (.lcmp, 1) := by decide +kernel
theorem dX9_number_172 : decode cX9_number 172 = .ok (.ifCond .ne 23, 3) := by decide +kernel
theorem dX9_number_175 : decode cX9_number 175 = .ok (.iload 7, 2) := by decide +kernel
theorem dX9_number_177 : decode cX9_number 177 = .ok (.iload_n 2, 1) := by decide +kernel
theorem dX9_number_178 : decode cX9_number 178 = .ok (.ifCond .eq 8, 3) := by decide +kernel
theorem dX9_number_181 : decode cX9_number 181 = .ok (.bipush 8, 2) := by decide +kernel
theorem dX9_number_183 : decode cX9_number 183 = .ok (.goto 5, 3) := by decide +kernel
theorem dX9_number_186 : decode cX9_number 186 = .ok (.bipush 7, 2) := by decide +kernel
theorem dX9_number_188 : decode cX9_number 188 = .ok (.if_icmp .gt 7, 3) := by decide +kernel
theorem dX9_number_191 : decode cX9_number 191 = .ok (.iconst 1, 1) := by decide +kernel
theorem dX9_number_192 : decode cX9_number 192 = .ok (.goto 4, 3) := by decide +kernel
theorem dX9_number_195 : decode cX9_number 195 = .ok (.iconst 0, 1) := by decide +kernel
theorem dX9_number_196 : decode cX9_number 196 = .ok (.istore 4, 2) := by decide +kernel
theorem dX9_number_198 : decode cX9_number 198 = .ok (.iload 4, 2) := by decide +kernel
theorem dX9_number_200 : decode cX9_number 200 = .ok (.ifCond .eq 16, 3) := by decide +kernel
theorem dX9_number_203 : decode cX9_number 203 = .ok (.ldc2_w 175, 3) := by decide +kernel
theorem dX9_number_206 : decode cX9_number 206 = .ok (.lload 5, 2) := by decide +kernel
theorem dX9_number_208 : decode cX9_number 208 = .ok (.lmul, 1) := by decide +kernel
theorem dX9_number_209 : decode cX9_number 209 = .ok (.iload 7, 2) := by decide +kernel
theorem dX9_number_211 : decode cX9_number 211 = .ok (.i2l, 1) := by decide +kernel
theorem dX9_number_212 : decode cX9_number 212 = .ok (.lsub, 1) := by decide +kernel
theorem dX9_number_213 : decode cX9_number 213 = .ok (.goto 5, 3) := by decide +kernel
theorem dX9_number_216 : decode cX9_number 216 = .ok (.lload 5, 2) := by decide +kernel
theorem dX9_number_218 : decode cX9_number 218 = .ok (.lstore 5, 2) := by decide +kernel
theorem dX9_number_220 : decode cX9_number 220 = .ok (.aload_n 0, 1) := by decide +kernel
theorem dX9_number_221 : decode cX9_number 221 = .ok (.getfield 26, 3) := by decide +kernel
theorem dX9_number_224 : decode cX9_number 224 = .ok (.iload_n 1, 1) := by decide +kernel
theorem dX9_number_225 : decode cX9_number 225 = .ok (.dup2, 1) := by decide +kernel
theorem dX9_number_226 : decode cX9_number 226 = .ok (.iaload, 1) := by decide +kernel
theorem dX9_number_227 : decode cX9_number 227 = .ok (.iconst 1, 1) := by decide +kernel
theorem dX9_number_228 : decode cX9_number 228 = .ok (.iadd, 1) := by decide +kernel
theorem dX9_number_229 : decode cX9_number 229 = .ok (.iastore, 1) := by decide +kernel
theorem dX9_number_230 : decode cX9_number 230 = .ok (.aload_n 0, 1) := by decide +kernel
theorem dX9_number_231 : decode cX9_number 231 = .ok (.dup, 1) := by decide +kernel
theorem dX9_number_232 : decode cX9_number 232 = .ok (.getfield 95, 3) := by decide +kernel
theorem dX9_number_235 : decode cX9_number 235 = .ok (.iconst 1, 1) := by decide +kernel
theorem dX9_number_236 : decode cX9_number 236 = .ok (.iadd, 1) := by decide +kernel
theorem dX9_number_237 : decode cX9_number 237 = .ok (.putfield 95, 3) := by decide +kernel
theorem dX9_number_240 : decode cX9_number 240 = .ok (.goto (-145), 3) := by decide +kernel
theorem dX9_number_243 : decode cX9_number 243 = .ok (.aload_n 0, 1) := by decide +kernel
theorem dX9_number_244 : decode cX9_number 244 = .ok (.iload 4, 2) := by decide +kernel
theorem dX9_number_246 : decode cX9_number 246 = .ok (.iconst 1, 1) := by decide +kernel
theorem dX9_number_247 : decode cX9_number 247 = .ok (.aload_n 0, 1) := by decide +kernel
theorem dX9_number_248 : decode cX9_number 248 = .ok (.getfield 19, 3) := by decide +kernel
theorem dX9_number_251 : decode cX9_number 251 = .ok (.iload_n 1, 1) := by decide +kernel
theorem dX9_number_252 : decode cX9_number 252 = .ok (.iaload, 1) := by decide +kernel
theorem dX9_number_253 : decode cX9_number 253 = .ok (.invokevirtual 105, 3) := by decide +kernel
theorem dX9_number_256 : decode cX9_number 256 = .ok (.aload_n 0, 1) := by decide +kernel
theorem dX9_number_257 : decode cX9_number 257 = .ok (.getfield 22, 3) := by decide +kernel
theorem dX9_number_260 : decode cX9_number 260 = .ok (.iload_n 1, 1) := by decide +kernel
theorem dX9_number_261 : decode cX9_number 261 = .ok (.iload_n 2, 1) := by decide +kernel
theorem dX9_number_262 : decode cX9_number 262 = .ok (.ifCond .eq 8, 3) := by decide +kernel
theorem dX9_number_265 : decode cX9_number 265 = .ok (.lload 5, 2) := by decide +kernel
theorem dX9_number_267 : decode cX9_number 267 = .ok (.goto 6, 3) := by decide +kernel
theorem dX9_number_270 : decode cX9_number 270 = .ok (.lload 5, 2) := by decide +kernel
theorem dX9_number_272 : decode cX9_number 272 = .ok (.lneg, 1) := by decide +kernel
theorem dX9_number_273 : decode cX9_number 273 = .ok (.lastore, 1) := by decide +kernel
theorem dX9_number_274 : decode cX9_number 274 = .ok (.iload_n 1, 1) := by decide +kernel
theorem dX9_number_275 : decode cX9_number 275 = .ok (.ireturn, 1) := by decide +kernel
theorem wf20_38 : (.fieldLink "java/lang/String" 38 "java/lang/String" "COMPACT_STRINGS" "Z" : Cond) ∈ sr_G := sr_in (in_tables_1_2 _ (List.mem_of_getElem? (i := 52) rfl)) rfl
theorem wf20_15 : (.fieldLink "java/lang/String" 15 "java/lang/String" "coder" "B" : Cond) ∈ sr_G := sr_in (in_tables_1_7 _ (List.mem_of_getElem? (i := 34) rfl)) rfl
theorem wf20_9 : (.fieldLink "java/lang/String" 9 "java/lang/String" "value" "[B" : Cond) ∈ sr_G := sr_in (in_tables_1_7 _ (List.mem_of_getElem? (i := 33) rfl)) rfl
theorem wf9_95 : (.fieldLink "SchemaReaderModel$Text" 95 "SchemaReaderModel$Text" "at" "I" : Cond) ∈ sr_G := sr_in (in_tables_1_5 _ (List.mem_of_getElem? (i := 7) rfl)) rfl
theorem wf9_98 : (.fieldLink "SchemaReaderModel$Text" 98 "SchemaReaderModel$Text" "length" "I" : Cond) ∈ sr_G := sr_in (in_tables_1_5 _ (List.mem_of_getElem? (i := 5) rfl)) rfl
theorem wf9_9 : (.fieldLink "SchemaReaderModel$Text" 9 "SchemaReaderModel$Text" "bytes" "[B" : Cond) ∈ sr_G := sr_in (in_tables_1_5 _ (List.mem_of_getElem? (i := 3) rfl)) rfl
theorem wf9_15 : (.fieldLink "SchemaReaderModel$Text" 15 "SchemaReaderModel$Text" "kinds" "[I" : Cond) ∈ sr_G := sr_in (in_tables_1_5 _ (List.mem_of_getElem? (i := 14) rfl)) rfl
theorem wf9_109 : (.fieldLink "SchemaReaderModel$Text" 109 "SchemaReaderModel$Text" "nodes" "I" : Cond) ∈ sr_G := sr_in (in_tables_1_5 _ (List.mem_of_getElem? (i := 13) rfl)) rfl
theorem wf9_19 : (.fieldLink "SchemaReaderModel$Text" 19 "SchemaReaderModel$Text" "firsts" "[I" : Cond) ∈ sr_G := sr_in (in_tables_1_5 _ (List.mem_of_getElem? (i := 15) rfl)) rfl
theorem wf9_22 : (.fieldLink "SchemaReaderModel$Text" 22 "SchemaReaderModel$Text" "numbers" "[J" : Cond) ∈ sr_G := sr_in (in_tables_1_5 _ (List.mem_of_getElem? (i := 16) rfl)) rfl
theorem wf9_26 : (.fieldLink "SchemaReaderModel$Text" 26 "SchemaReaderModel$Text" "sizes" "[I" : Cond) ∈ sr_G := sr_in (in_tables_1_5 _ (List.mem_of_getElem? (i := 17) rfl)) rfl
theorem wf9_29 : (.fieldLink "SchemaReaderModel$Text" 29 "SchemaReaderModel$Text" "inner" "[I" : Cond) ∈ sr_G := sr_in (in_tables_1_5 _ (List.mem_of_getElem? (i := 18) rfl)) rfl
theorem wf9_32 : (.fieldLink "SchemaReaderModel$Text" 32 "SchemaReaderModel$Text" "nexts" "[I" : Cond) ∈ sr_G := sr_in (in_tables_1_5 _ (List.mem_of_getElem? (i := 19) rfl)) rfl
theorem wf9_35 : (.fieldLink "SchemaReaderModel$Text" 35 "SchemaReaderModel$Text" "letters" "[B" : Cond) ∈ sr_G := sr_in (in_tables_1_5 _ (List.mem_of_getElem? (i := 20) rfl)) rfl
theorem wf9_189 : (.fieldLink "SchemaReaderModel$Text" 189 "SchemaReaderModel$Text" "shapes" "I" : Cond) ∈ sr_G := sr_in (in_tables_1_5 _ (List.mem_of_getElem? (i := 22) rfl)) rfl
theorem wf9_41 : (.fieldLink "SchemaReaderModel$Text" 41 "SchemaReaderModel$Text" "names" "[I" : Cond) ∈ sr_G := sr_in (in_tables_1_5 _ (List.mem_of_getElem? (i := 26) rfl)) rfl
theorem wf9_38 : (.fieldLink "SchemaReaderModel$Text" 38 "SchemaReaderModel$Text" "sorts" "[I" : Cond) ∈ sr_G := sr_in (in_tables_1_5 _ (List.mem_of_getElem? (i := 24) rfl)) rfl
theorem wf9_44 : (.fieldLink "SchemaReaderModel$Text" 44 "SchemaReaderModel$Text" "wide" "[I" : Cond) ∈ sr_G := sr_in (in_tables_1_5 _ (List.mem_of_getElem? (i := 28) rfl)) rfl
theorem wf9_47 : (.fieldLink "SchemaReaderModel$Text" 47 "SchemaReaderModel$Text" "kids" "[I" : Cond) ∈ sr_G := sr_in (in_tables_1_5 _ (List.mem_of_getElem? (i := 30) rfl)) rfl
theorem wf9_50 : (.fieldLink "SchemaReaderModel$Text" 50 "SchemaReaderModel$Text" "many" "[I" : Cond) ∈ sr_G := sr_in (in_tables_1_5 _ (List.mem_of_getElem? (i := 32) rfl)) rfl
theorem wf9_53 : (.fieldLink "SchemaReaderModel$Text" 53 "SchemaReaderModel$Text" "fallback" "[I" : Cond) ∈ sr_G := sr_in (in_tables_1_5 _ (List.mem_of_getElem? (i := 33) rfl)) rfl
theorem wf9_192 : (.fieldLink "SchemaReaderModel$Text" 192 "SchemaReaderModel$Text" "kidCount" "I" : Cond) ∈ sr_G := sr_in (in_tables_1_5 _ (List.mem_of_getElem? (i := 35) rfl)) rfl
theorem wf9_56 : (.fieldLink "SchemaReaderModel$Text" 56 "SchemaReaderModel$Text" "kidShape" "[I" : Cond) ∈ sr_G := sr_in (in_tables_1_5 _ (List.mem_of_getElem? (i := 36) rfl)) rfl
theorem wf9_59 : (.fieldLink "SchemaReaderModel$Text" 59 "SchemaReaderModel$Text" "kidName" "[I" : Cond) ∈ sr_G := sr_in (in_tables_1_5 _ (List.mem_of_getElem? (i := 38) rfl)) rfl
theorem wf9_62 : (.fieldLink "SchemaReaderModel$Text" 62 "SchemaReaderModel$Text" "kidDefault" "[I" : Cond) ∈ sr_G := sr_in (in_tables_1_5 _ (List.mem_of_getElem? (i := 40) rfl)) rfl
theorem wf9_65 : (.fieldLink "SchemaReaderModel$Text" 65 "SchemaReaderModel$Text" "kidNext" "[I" : Cond) ∈ sr_G := sr_in (in_tables_1_5 _ (List.mem_of_getElem? (i := 42) rfl)) rfl
theorem wf9_71 : (.fieldLink "SchemaReaderModel$Text" 71 "SchemaReaderModel$Text" "plain" "[B" : Cond) ∈ sr_G := sr_in (in_tables_1_5 _ (List.mem_of_getElem? (i := 48) rfl)) rfl
theorem wf9_280 : (.fieldLink "SchemaReaderModel$Text" 280 "SchemaReaderModel$Text" "plainSize" "I" : Cond) ∈ sr_G := sr_in (in_tables_1_5 _ (List.mem_of_getElem? (i := 51) rfl)) rfl
theorem wcl9_335 : (.constantLong "SchemaReaderModel$Text" 335 (-4513414715797952619) : Cond) ∈ sr_G := sr_in (in_tables_1_6 _ (List.mem_of_getElem? (i := 222) rfl)) rfl
theorem wcl9_337 : (.constantLong "SchemaReaderModel$Text" 337 (255) : Cond) ∈ sr_G := sr_in (in_tables_1_6 _ (List.mem_of_getElem? (i := 223) rfl)) rfl
theorem wf9_78 : (.fieldLink "SchemaReaderModel$Text" 78 "SchemaReaderModel$Text" "fault" "I" : Cond) ∈ sr_G := sr_in (in_tables_1_5 _ (List.mem_of_getElem? (i := 9) rfl)) rfl
theorem wf9_82 : (.fieldLink "SchemaReaderModel$Text" 82 "SchemaReaderModel$Text" "place" "I" : Cond) ∈ sr_G := sr_in (in_tables_1_5 _ (List.mem_of_getElem? (i := 10) rfl)) rfl
theorem wcl9_175 : (.constantLong "SchemaReaderModel$Text" 175 (10) : Cond) ∈ sr_G := sr_in (in_tables_1_6 _ (List.mem_of_getElem? (i := 79) rfl)) rfl
theorem wcl9_173 : (.constantLong "SchemaReaderModel$Text" 173 (-922337203685477580) : Cond) ∈ sr_G := sr_in (in_tables_1_6 _ (List.mem_of_getElem? (i := 78) rfl)) rfl
theorem wf20_1053 : (.fieldLink "java/lang/String" 1053 "jdk/internal/util/Preconditions" "SIOOBE_FORMATTER" "Ljava/util/function/BiFunction;" : Cond) ∈ sr_G := sr_in (in_tables_1_2 _ (List.mem_of_getElem? (i := 68) rfl)) rfl
theorem g20_335 (c0 : Cond) : GoodIn (c0 :: sr_G) (wsV RX20 335 RX20 yX20_coder wsX20_coder) := sr_V c0 (sr_ins (by decide +kernel))
theorem g20_1059 (c0 : Cond) : GoodIn (c0 :: sr_G) (va_wsS RX20 1059 yX22_ckQ wsX22_ckQ) := sr_S c0 (sr_ins (by decide +kernel))
theorem g21_9 (c0 : Cond) : GoodIn (c0 :: sr_G) (va_wsS RX21 9 yX20_checkIndex wsX20_checkIndex) := sr_S c0 (sr_ins (by decide +kernel))
theorem g20_492 (c0 : Cond) : GoodIn (c0 :: sr_G) (wsV RX20 492 RX20 yX20_isLatin1 wsX20_isLatin1) := sr_V c0 (sr_ins (by decide +kernel))
theorem g20_495 (c0 : Cond) : GoodIn (c0 :: sr_G) (va_wsS RX20 495 yX21_charAt wsX21_charAt) := sr_S c0 (sr_ins (by decide +kernel))
theorem g21_88 (c0 : Cond) : GoodIn (c0 :: sr_G) (va_wsS RX21 88 yX21_canEncode wsX21_canEncode) := sr_S c0 (sr_ins (by decide +kernel))
theorem g21_95 (c0 : Cond) : GoodIn (c0 :: sr_G) (va_wsS RX21 95 yX21_indexOfChar wsX21_indexOfChar) := sr_S c0 (sr_ins (by decide +kernel))
theorem g20_505 (c0 : Cond) : GoodIn (c0 :: sr_G) (wsV RX20 505 RX20 yX20_length wsX20_length) := sr_V c0 (sr_ins (by decide +kernel))
theorem g20_637 (c0 : Cond) : GoodIn (c0 :: sr_G) (va_wsS RX20 637 yX21_indexOf wsX21_indexOf) := sr_S c0 (sr_ins (by decide +kernel))
theorem g20_633 (c0 : Cond) : GoodIn (c0 :: sr_G) (wsV RX20 633 RX20 yX20_indexOf2 wsX20_indexOf2) := sr_V c0 (sr_ins (by decide +kernel))
theorem g9_101 (c0 : Cond) : GoodIn (c0 :: sr_G) (wsV RX9 101 RX9 yX9_look wsX9_look) := sr_V c0 (sr_ins (by decide +kernel))
theorem g9_155 (c0 : Cond) : GoodIn (c0 :: sr_G) (wsV RX9 155 RX9 yX9_same wsX9_same) := sr_V c0 (sr_ins (by decide +kernel))
theorem g9_91 (c0 : Cond) : GoodIn (c0 :: sr_G) (wsV RX9 91 RX9 yX9_fail wsX9_fail) := sr_V c0 (sr_ins (by decide +kernel))
theorem g9_105 (c0 : Cond) : GoodIn (c0 :: sr_G) (wsV RX9 105 RX9 yX9_need wsX9_need) := sr_V c0 (sr_ins (by decide +kernel))
theorem g9_127 (c0 : Cond) : GoodIn (c0 :: sr_G) (wsV RX9 127 RX9 yX9_node wsX9_node) := sr_V c0 (sr_ins (by decide +kernel))
theorem wm21_38 : ∀ w ∈ ([.methodLink RX21 38 Lib.Math.min.name, .static Lib.Math.min.name, .initialized "java/lang/Math", .code Lib.Math.min.name Lib.Math.min.code 2 (some .int)] : List Cond), w ∈ sr_G := sr_ins (by decide +kernel)
theorem wm21_92 : ∀ w ∈ ([.methodLink RX21 92 Lib.Math.max.name, .static Lib.Math.max.name, .initialized "java/lang/Math", .code Lib.Math.max.name Lib.Math.max.code 2 (some .int)] : List Cond), w ∈ sr_G := sr_ins (by decide +kernel)
