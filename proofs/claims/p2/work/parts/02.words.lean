/-- the words that hold whatever the machine has linked since: one list for all methods -/
def sr_G : List Cond := lw_tbl.filter goodWord
theorem sr_in {w : Cond} (h : w ∈ lw_tbl) (hg : goodWord w = true) : w ∈ sr_G := List.mem_filter.mpr ⟨h, hg⟩
theorem sr_ins {ws : List Cond} (h : ws.all (fun w => decide (w ∈ lw_tbl) && goodWord w) = true) : ∀ w ∈ ws, w ∈ sr_G := fun w hw => by
  have h1 := List.all_eq_true.mp h w hw
  simp only [Bool.and_eq_true, decide_eq_true_eq] at h1
  exact sr_in h1.1 h1.2
theorem sr_good (c0 : Cond) : GoodIn (c0 :: sr_G) sr_G := fun w h => ⟨List.mem_cons_of_mem _ h, good_of_word (List.mem_filter.mp h).2⟩
theorem sr_V {own C : String} {ix : Nat} {y : MethodName} {k : Cond} (c0 : Cond) (h : ∀ w ∈ ([.methodLink own ix y, .instanceMethod y, .selects C y y, .initialized C, k] : List Cond), w ∈ sr_G) : GoodIn (c0 :: sr_G) (wsV own ix C y (k :: sr_G)) := by
  intro w hw
  have hm : w ∈ sr_G := by
    rcases List.mem_append.mp hw with h1 | h1
    · exact h w (by simp only [List.mem_cons, List.not_mem_nil, or_false] at h1 ⊢; rcases h1 with h1 | h1 | h1 | h1 <;> simp [h1])
    · rcases List.mem_cons.mp h1 with h1 | h1
      · exact h w (by simp [h1])
      · exact h1
  exact ⟨List.mem_cons_of_mem _ hm, good_of_word (List.mem_filter.mp hm).2⟩
theorem sr_S {own : String} {ix : Nat} {y : MethodName} {k : Cond} (c0 : Cond) (h : ∀ w ∈ ([.methodLink own ix y, .static y, .initialized own, k] : List Cond), w ∈ sr_G) : GoodIn (c0 :: sr_G) (wsS own ix y (k :: sr_G)) := by
  intro w hw
  have hm : w ∈ sr_G := by
    rcases List.mem_append.mp hw with h1 | h1
    · exact h w (by simp only [List.mem_cons, List.not_mem_nil, or_false] at h1 ⊢; rcases h1 with h1 | h1 | h1 <;> simp [h1])
    · rcases List.mem_cons.mp h1 with h1 | h1
      · exact h w (by simp [h1])
      · exact h1
  exact ⟨List.mem_cons_of_mem _ hm, good_of_word (List.mem_filter.mp hm).2⟩
theorem in_tables_1_1 : ∀ w ∈ tables_1_1, w ∈ lw_tbl := fun w h => List.mem_append_right _ (show w ∈ tables_1 from (List.mem_append_left _ h))
theorem in_tables_1_2 : ∀ w ∈ tables_1_2, w ∈ lw_tbl := fun w h => List.mem_append_right _ (show w ∈ tables_1 from (List.mem_append_right _ (List.mem_append_left _ h)))
theorem in_tables_1_3 : ∀ w ∈ tables_1_3, w ∈ lw_tbl := fun w h => List.mem_append_right _ (show w ∈ tables_1 from (List.mem_append_right _ (List.mem_append_right _ (List.mem_append_left _ h))))
theorem in_tables_1_4 : ∀ w ∈ tables_1_4, w ∈ lw_tbl := fun w h => List.mem_append_right _ (show w ∈ tables_1 from (List.mem_append_right _ (List.mem_append_right _ (List.mem_append_right _ (List.mem_append_left _ h)))))
theorem in_tables_1_5 : ∀ w ∈ tables_1_5, w ∈ lw_tbl := fun w h => List.mem_append_right _ (show w ∈ tables_1 from (List.mem_append_right _ (List.mem_append_right _ (List.mem_append_right _ (List.mem_append_right _ (List.mem_append_left _ h))))))
theorem in_tables_1_6 : ∀ w ∈ tables_1_6, w ∈ lw_tbl := fun w h => List.mem_append_right _ (show w ∈ tables_1 from (List.mem_append_right _ (List.mem_append_right _ (List.mem_append_right _ (List.mem_append_right _ (List.mem_append_right _ (List.mem_append_left _ h)))))))
theorem in_tables_1_7 : ∀ w ∈ tables_1_7, w ∈ lw_tbl := fun w h => List.mem_append_right _ (show w ∈ tables_1 from (List.mem_append_right _ (List.mem_append_right _ (List.mem_append_right _ (List.mem_append_right _ (List.mem_append_right _ (List.mem_append_right _ h)))))))
def RX0 : String := "SchemaReader$Defaults"
def TX0 : u_T := fun k => match k with
  | 0 => ("SchemaReader$Defaults", "text", "LSchemaReader$Text;", true)
  | _ => ("SchemaReader$Defaults", "schema", "LSchemaReader$Schema;", true)
def tyX0 : Nat → FieldType := fun k => match k with
  | 0 => .object "SchemaReader$Text"
  | _ => .object "SchemaReader$Schema"
theorem nmX0 : ∀ a, a < 2 → ∀ b, b < 2 → a ≠ b → (TX0 a).2.1 ≠ (TX0 b).2.1 := by decide +kernel
theorem tyX0_ok : ∀ k, k < 2 → parseFieldDescriptor (TX0 k).2.2.1 = some (tyX0 k) := by decide +kernel
theorem inX0 (c0 : Cond) : ∀ w ∈ u_ws RX0 TX0 2, w ∈ c0 :: sr_G := fun w h => List.mem_cons_of_mem _ (sr_ins (by decide +kernel) w h)
def RX1 : String := "SchemaReader$Fault"
def TX1 : u_T := fun k => match k with
  | _ => ("", "", "", false)
def tyX1 : Nat → FieldType := fun k => match k with
  | _ => .int
def RX2 : String := "SchemaReader$Keys"
def TX2 : u_T := fun k => match k with
  | 0 => ("SchemaReader$Keys", "heads", "[I", true)
  | 1 => ("SchemaReader$Keys", "places", "[I", true)
  | 2 => ("SchemaReader$Keys", "owners", "[I", true)
  | 3 => ("SchemaReader$Keys", "nexts", "[I", true)
  | _ => ("SchemaReader$Keys", "count", "I", false)
def tyX2 : Nat → FieldType := fun k => match k with
  | 0 => .array .int
  | 1 => .array .int
  | 2 => .array .int
  | 3 => .array .int
  | _ => .int
theorem nmX2 : ∀ a, a < 5 → ∀ b, b < 5 → a ≠ b → (TX2 a).2.1 ≠ (TX2 b).2.1 := by decide +kernel
theorem tyX2_ok : ∀ k, k < 5 → parseFieldDescriptor (TX2 k).2.2.1 = some (tyX2 k) := by decide +kernel
theorem inX2 (c0 : Cond) : ∀ w ∈ u_ws RX2 TX2 5, w ∈ c0 :: sr_G := fun w h => List.mem_cons_of_mem _ (sr_ins (by decide +kernel) w h)
def RX3 : String := "SchemaReader$Kind"
def TX3 : u_T := fun k => match k with
  | _ => ("", "", "", false)
def tyX3 : Nat → FieldType := fun k => match k with
  | _ => .int
def RX4 : String := "SchemaReader$Looker"
def TX4 : u_T := fun k => match k with
  | 0 => ("SchemaReader$Looker", "text", "LSchemaReader$Text;", true)
  | 1 => ("SchemaReader$Looker", "schema", "LSchemaReader$Schema;", true)
  | 2 => ("SchemaReader$Looker", "dueSlots", "[I", true)
  | 3 => ("SchemaReader$Looker", "dueValues", "[I", true)
  | 4 => ("SchemaReader$Looker", "dueCount", "I", false)
  | 5 => ("SchemaReader$Looker", "fault", "I", false)
  | _ => ("SchemaReader$Looker", "faultPlace", "I", false)
def tyX4 : Nat → FieldType := fun k => match k with
  | 0 => .object "SchemaReader$Text"
  | 1 => .object "SchemaReader$Schema"
  | 2 => .array .int
  | 3 => .array .int
  | 4 => .int
  | 5 => .int
  | _ => .int
theorem nmX4 : ∀ a, a < 7 → ∀ b, b < 7 → a ≠ b → (TX4 a).2.1 ≠ (TX4 b).2.1 := by decide +kernel
theorem tyX4_ok : ∀ k, k < 7 → parseFieldDescriptor (TX4 k).2.2.1 = some (tyX4 k) := by decide +kernel
theorem inX4 (c0 : Cond) : ∀ w ∈ u_ws RX4 TX4 7, w ∈ c0 :: sr_G := fun w h => List.mem_cons_of_mem _ (sr_ins (by decide +kernel) w h)
def RX5 : String := "SchemaReader$Pair"
def TX5 : u_T := fun k => match k with
  | 0 => ("SchemaReader$Pair", "writer", "LSchemaReader$Schema;", true)
  | 1 => ("SchemaReader$Pair", "reader", "LSchemaReader$Schema;", true)
  | 2 => ("SchemaReader$Pair", "askedWriters", "[I", true)
  | 3 => ("SchemaReader$Pair", "askedReaders", "[I", true)
  | _ => ("SchemaReader$Pair", "askedCount", "I", false)
def tyX5 : Nat → FieldType := fun k => match k with
  | 0 => .object "SchemaReader$Schema"
  | 1 => .object "SchemaReader$Schema"
  | 2 => .array .int
  | 3 => .array .int
  | _ => .int
theorem nmX5 : ∀ a, a < 5 → ∀ b, b < 5 → a ≠ b → (TX5 a).2.1 ≠ (TX5 b).2.1 := by decide +kernel
theorem tyX5_ok : ∀ k, k < 5 → parseFieldDescriptor (TX5 k).2.2.1 = some (tyX5 k) := by decide +kernel
theorem inX5 (c0 : Cond) : ∀ w ∈ u_ws RX5 TX5 5, w ∈ c0 :: sr_G := fun w h => List.mem_cons_of_mem _ (sr_ins (by decide +kernel) w h)
def RX6 : String := "SchemaReader$Schema"
def TX6 : u_T := fun k => match k with
  | 0 => ("SchemaReader$Schema", "plain", "[B", true)
  | 1 => ("SchemaReader$Schema", "kinds", "[I", true)
  | 2 => ("SchemaReader$Schema", "meant", "[I", true)
  | 3 => ("SchemaReader$Schema", "firsts", "[I", true)
  | 4 => ("SchemaReader$Schema", "nexts", "[I", true)
  | 5 => ("SchemaReader$Schema", "names", "[I", true)
  | 6 => ("SchemaReader$Schema", "fieldNames", "[I", true)
  | 7 => ("SchemaReader$Schema", "amounts", "[I", true)
  | 8 => ("SchemaReader$Schema", "fieldDefaults", "[Z", true)
  | 9 => ("SchemaReader$Schema", "enumDefaults", "[Z", true)
  | 10 => ("SchemaReader$Schema", "letterCount", "I", false)
  | _ => ("SchemaReader$Schema", "slotCount", "I", false)
def tyX6 : Nat → FieldType := fun k => match k with
  | 0 => .array .byte
  | 1 => .array .int
  | 2 => .array .int
  | 3 => .array .int
  | 4 => .array .int
  | 5 => .array .int
  | 6 => .array .int
  | 7 => .array .int
  | 8 => .array .boolean
  | 9 => .array .boolean
  | 10 => .int
  | _ => .int
theorem nmX6 : ∀ a, a < 12 → ∀ b, b < 12 → a ≠ b → (TX6 a).2.1 ≠ (TX6 b).2.1 := by decide +kernel
theorem tyX6_ok : ∀ k, k < 12 → parseFieldDescriptor (TX6 k).2.2.1 = some (tyX6 k) := by decide +kernel
theorem inX6 (c0 : Cond) : ∀ w ∈ u_ws RX6 TX6 12, w ∈ c0 :: sr_G := fun w h => List.mem_cons_of_mem _ (sr_ins (by decide +kernel) w h)
def RX7 : String := "SchemaReader$Text"
def TX7 : u_T := fun k => match k with
  | 0 => ("SchemaReader$Text", "tape", "[B", true)
  | 1 => ("SchemaReader$Text", "said", "[B", true)
  | 2 => ("SchemaReader$Text", "inner", "[I", true)
  | 3 => ("SchemaReader$Text", "next", "[I", true)
  | 4 => ("SchemaReader$Text", "amount", "[I", true)
  | 5 => ("SchemaReader$Text", "keys", "LSchemaReader$Keys;", true)
  | 6 => ("SchemaReader$Text", "length", "I", false)
  | _ => ("SchemaReader$Text", "wrongPlace", "I", false)
def tyX7 : Nat → FieldType := fun k => match k with
  | 0 => .array .byte
  | 1 => .array .byte
  | 2 => .array .int
  | 3 => .array .int
  | 4 => .array .int
  | 5 => .object "SchemaReader$Keys"
  | 6 => .int
  | _ => .int
theorem nmX7 : ∀ a, a < 8 → ∀ b, b < 8 → a ≠ b → (TX7 a).2.1 ≠ (TX7 b).2.1 := by decide +kernel
theorem tyX7_ok : ∀ k, k < 8 → parseFieldDescriptor (TX7 k).2.2.1 = some (tyX7 k) := by decide +kernel
theorem inX7 (c0 : Cond) : ∀ w ∈ u_ws RX7 TX7 8, w ∈ c0 :: sr_G := fun w h => List.mem_cons_of_mem _ (sr_ins (by decide +kernel) w h)
def RX8 : String := "SchemaReader"
def TX8 : u_T := fun k => match k with
  | 0 => ("SchemaReader", "text", "LSchemaReader$Text;", true)
  | 1 => ("SchemaReader", "kept", "[LSchemaReader$Schema;", true)
  | 2 => ("SchemaReader", "printSteps", "[J", true)
  | 3 => ("SchemaReader", "latest", "LSchemaReader$Schema;", false)
  | 4 => ("SchemaReader", "hasLatest", "Z", false)
  | 5 => ("SchemaReader", "faultPlace", "I", false)
  | _ => ("SchemaReader", "keptCount", "I", false)
def tyX8 : Nat → FieldType := fun k => match k with
  | 0 => .object "SchemaReader$Text"
  | 1 => .array (.object "SchemaReader$Schema")
  | 2 => .array .long
  | 3 => .object "SchemaReader$Schema"
  | 4 => .boolean
  | 5 => .int
  | _ => .int
theorem nmX8 : ∀ a, a < 7 → ∀ b, b < 7 → a ≠ b → (TX8 a).2.1 ≠ (TX8 b).2.1 := by decide +kernel
theorem tyX8_ok : ∀ k, k < 7 → parseFieldDescriptor (TX8 k).2.2.1 = some (tyX8 k) := by decide +kernel
theorem inX8 (c0 : Cond) : ∀ w ∈ u_ws RX8 TX8 7, w ∈ c0 :: sr_G := fun w h => List.mem_cons_of_mem _ (sr_ins (by decide +kernel) w h)
def RX9 : String := "SchemaReaderModel$Text"
def TX9 : u_T := fun k => match k with
  | 0 => ("SchemaReaderModel$Text", "bytes", "[B", true)
  | 1 => ("SchemaReaderModel$Text", "length", "I", false)
  | 2 => ("SchemaReaderModel$Text", "at", "I", false)
  | 3 => ("SchemaReaderModel$Text", "deep", "I", false)
  | 4 => ("SchemaReaderModel$Text", "fault", "I", false)
  | 5 => ("SchemaReaderModel$Text", "place", "I", false)
  | 6 => ("SchemaReaderModel$Text", "end", "I", false)
  | 7 => ("SchemaReaderModel$Text", "nodes", "I", false)
  | 8 => ("SchemaReaderModel$Text", "kinds", "[I", true)
  | 9 => ("SchemaReaderModel$Text", "firsts", "[I", true)
  | 10 => ("SchemaReaderModel$Text", "numbers", "[J", true)
  | 11 => ("SchemaReaderModel$Text", "sizes", "[I", true)
  | 12 => ("SchemaReaderModel$Text", "inner", "[I", true)
  | 13 => ("SchemaReaderModel$Text", "nexts", "[I", true)
  | 14 => ("SchemaReaderModel$Text", "letters", "[B", true)
  | 15 => ("SchemaReaderModel$Text", "lettered", "I", false)
  | 16 => ("SchemaReaderModel$Text", "shapes", "I", false)
  | 17 => ("SchemaReaderModel$Text", "looked", "I", false)
  | 18 => ("SchemaReaderModel$Text", "sorts", "[I", true)
  | 19 => ("SchemaReaderModel$Text", "names", "[I", true)
  | 20 => ("SchemaReaderModel$Text", "wide", "[I", true)
  | 21 => ("SchemaReaderModel$Text", "kids", "[I", true)
  | 22 => ("SchemaReaderModel$Text", "many", "[I", true)
  | 23 => ("SchemaReaderModel$Text", "fallback", "[I", true)
  | 24 => ("SchemaReaderModel$Text", "kidCount", "I", false)
  | 25 => ("SchemaReaderModel$Text", "kidShape", "[I", true)
  | 26 => ("SchemaReaderModel$Text", "kidName", "[I", true)
  | 27 => ("SchemaReaderModel$Text", "kidDefault", "[I", true)
  | 28 => ("SchemaReaderModel$Text", "kidNext", "[I", true)
  | 29 => ("SchemaReaderModel$Text", "done", "I", false)
  | 30 => ("SchemaReaderModel$Text", "finished", "[I", true)
  | 31 => ("SchemaReaderModel$Text", "root", "I", false)
  | 32 => ("SchemaReaderModel$Text", "plain", "[B", true)
  | 33 => ("SchemaReaderModel$Text", "plainSize", "I", false)
  | _ => ("SchemaReaderModel$Text", "told", "[Z", true)
def tyX9 : Nat → FieldType := fun k => match k with
  | 0 => .array .byte
  | 1 => .int
  | 2 => .int
  | 3 => .int
  | 4 => .int
  | 5 => .int
  | 6 => .int
  | 7 => .int
  | 8 => .array .int
  | 9 => .array .int
  | 10 => .array .long
  | 11 => .array .int
  | 12 => .array .int
  | 13 => .array .int
  | 14 => .array .byte
  | 15 => .int
  | 16 => .int
  | 17 => .int
  | 18 => .array .int
  | 19 => .array .int
  | 20 => .array .int
  | 21 => .array .int
  | 22 => .array .int
  | 23 => .array .int
  | 24 => .int
  | 25 => .array .int
  | 26 => .array .int
  | 27 => .array .int
  | 28 => .array .int
  | 29 => .int
  | 30 => .array .int
  | 31 => .int
  | 32 => .array .byte
  | 33 => .int
  | _ => .array .boolean
theorem nmX9 : ∀ a, a < 35 → ∀ b, b < 35 → a ≠ b → (TX9 a).2.1 ≠ (TX9 b).2.1 := by decide +kernel
theorem tyX9_ok : ∀ k, k < 35 → parseFieldDescriptor (TX9 k).2.2.1 = some (tyX9 k) := by decide +kernel
theorem inX9 (c0 : Cond) : ∀ w ∈ u_ws RX9 TX9 35, w ∈ c0 :: sr_G := fun w h => List.mem_cons_of_mem _ (sr_ins (by decide +kernel) w h)
def RX10 : String := "SchemaReaderModel"
def TX10 : u_T := fun k => match k with
  | 0 => ("SchemaReaderModel", "thrown", "I", false)
  | 1 => ("SchemaReaderModel", "tape", "[B", true)
  | 2 => ("SchemaReaderModel", "taped", "I", false)
  | 3 => ("SchemaReaderModel", "typed", "LSchemaReaderModel$Text;", true)
  | 4 => ("SchemaReaderModel", "left", "LSchemaReaderModel$Text;", true)
  | 5 => ("SchemaReaderModel", "right", "LSchemaReaderModel$Text;", true)
  | 6 => ("SchemaReaderModel", "has", "Z", false)
  | 7 => ("SchemaReaderModel", "place", "I", false)
  | 8 => ("SchemaReaderModel", "kept", "[B", true)
  | 9 => ("SchemaReaderModel", "sizes", "[I", true)
  | 10 => ("SchemaReaderModel", "asked", "[Z", true)
  | 11 => ("SchemaReaderModel", "pairs", "[I", true)
  | _ => ("SchemaReaderModel", "many", "I", false)
def tyX10 : Nat → FieldType := fun k => match k with
  | 0 => .int
  | 1 => .array .byte
  | 2 => .int
  | 3 => .object "SchemaReaderModel$Text"
  | 4 => .object "SchemaReaderModel$Text"
  | 5 => .object "SchemaReaderModel$Text"
  | 6 => .boolean
  | 7 => .int
  | 8 => .array .byte
  | 9 => .array .int
  | 10 => .array .boolean
  | 11 => .array .int
  | _ => .int
theorem nmX10 : ∀ a, a < 13 → ∀ b, b < 13 → a ≠ b → (TX10 a).2.1 ≠ (TX10 b).2.1 := by decide +kernel
theorem tyX10_ok : ∀ k, k < 13 → parseFieldDescriptor (TX10 k).2.2.1 = some (tyX10 k) := by decide +kernel
theorem inX10 (c0 : Cond) : ∀ w ∈ u_ws RX10 TX10 13, w ∈ c0 :: sr_G := fun w h => List.mem_cons_of_mem _ (sr_ins (by decide +kernel) w h)
abbrev srCl : List vw_C := [(RX0, TX0, 2), (RX2, TX2, 5), (RX4, TX4, 7), (RX5, TX5, 5), (RX6, TX6, 12), (RX7, TX7, 8), (RX8, TX8, 7), (RX9, TX9, 35), (RX10, TX10, 13)]
abbrev cX9_look : ByteArray := prog_12_method_4_code
def yX9_look : MethodName := ⟨RX9, "look", "()I"⟩
def wsX9_look : List Cond := .code yX9_look cX9_look 1 (some .int) :: sr_G
theorem dX9_look_0 : decode cX9_look 0 = .ok (.aload_n 0, 1) := by decide +kernel
theorem dX9_look_1 : decode cX9_look 1 = .ok (.getfield 95, 3) := by decide +kernel
theorem dX9_look_4 : decode cX9_look 4 = .ok (.aload_n 0, 1) := by decide +kernel
theorem dX9_look_5 : decode cX9_look 5 = .ok (.getfield 98, 3) := by decide +kernel
theorem dX9_look_8 : decode cX9_look 8 = .ok (.if_icmp .ge 15, 3) := by decide +kernel
theorem dX9_look_11 : decode cX9_look 11 = .ok (.aload_n 0, 1) := by decide +kernel
theorem dX9_look_12 : decode cX9_look 12 = .ok (.getfield 9, 3) := by decide +kernel
theorem dX9_look_15 : decode cX9_look 15 = .ok (.aload_n 0, 1) := by decide +kernel
theorem dX9_look_16 : decode cX9_look 16 = .ok (.getfield 95, 3) := by decide +kernel
theorem dX9_look_19 : decode cX9_look 19 = .ok (.baload, 1) := by decide +kernel
theorem dX9_look_20 : decode cX9_look 20 = .ok (.goto 4, 3) := by decide +kernel
theorem dX9_look_23 : decode cX9_look 23 = .ok (.iconst (-1), 1) := by decide +kernel
theorem dX9_look_24 : decode cX9_look 24 = .ok (.ireturn, 1) := by decide +kernel
abbrev cX9_blanks : ByteArray := prog_12_method_5_code
def yX9_blanks : MethodName := ⟨RX9, "blanks", "()V"⟩
def wsX9_blanks : List Cond := .code yX9_blanks cX9_blanks 1 none :: sr_G
theorem dX9_blanks_0 : decode cX9_blanks 0 = .ok (.aload_n 0, 1) := by decide +kernel
theorem dX9_blanks_1 : decode cX9_blanks 1 = .ok (.invokevirtual 101, 3) := by decide +kernel
theorem dX9_blanks_4 : decode cX9_blanks 4 = .ok (.bipush 32, 2) := by decide +kernel
theorem dX9_blanks_6 : decode cX9_blanks 6 = .ok (.if_icmp .eq 30, 3) := by decide +kernel
theorem dX9_blanks_9 : decode cX9_blanks 9 = .ok (.aload_n 0, 1) := by decide +kernel
theorem dX9_blanks_10 : decode cX9_blanks 10 = .ok (.invokevirtual 101, 3) := by decide +kernel
theorem dX9_blanks_13 : decode cX9_blanks 13 = .ok (.bipush 9, 2) := by decide +kernel
theorem dX9_blanks_15 : decode cX9_blanks 15 = .ok (.if_icmp .eq 21, 3) := by decide +kernel
theorem dX9_blanks_18 : decode cX9_blanks 18 = .ok (.aload_n 0, 1) := by decide +kernel
theorem dX9_blanks_19 : decode cX9_blanks 19 = .ok (.invokevirtual 101, 3) := by decide +kernel
theorem dX9_blanks_22 : decode cX9_blanks 22 = .ok (.bipush 10, 2) := by decide +kernel
theorem dX9_blanks_24 : decode cX9_blanks 24 = .ok (.if_icmp .eq 12, 3) := by decide +kernel
theorem dX9_blanks_27 : decode cX9_blanks 27 = .ok (.aload_n 0, 1) := by decide +kernel
theorem dX9_blanks_28 : decode cX9_blanks 28 = .ok (.invokevirtual 101, 3) := by decide +kernel
theorem dX9_blanks_31 : decode cX9_blanks 31 = .ok (.bipush 13, 2) := by decide +kernel
theorem dX9_blanks_33 : decode cX9_blanks 33 = .ok (.if_icmp .ne 16, 3) := by decide +kernel
theorem dX9_blanks_36 : decode cX9_blanks 36 = .ok (.aload_n 0, 1) := by decide +kernel
theorem dX9_blanks_37 : decode cX9_blanks 37 = .ok (.dup, 1) := by decide +kernel
theorem dX9_blanks_38 : decode cX9_blanks 38 = .ok (.getfield 95, 3) := by decide +kernel
theorem dX9_blanks_41 : decode cX9_blanks 41 = .ok (.iconst 1, 1) := by decide +kernel
theorem dX9_blanks_42 : decode cX9_blanks 42 = .ok (.iadd, 1) := by decide +kernel
theorem dX9_blanks_43 : decode cX9_blanks 43 = .ok (.putfield 95, 3) := by decide +kernel
theorem dX9_blanks_46 : decode cX9_blanks 46 = .ok (.goto (-46), 3) := by decide +kernel
theorem dX9_blanks_49 : decode cX9_blanks 49 = .ok (.return_, 1) := by decide +kernel
abbrev cX9_node : ByteArray := prog_12_method_7_code
def yX9_node : MethodName := ⟨RX9, "node", "(I)I"⟩
def wsX9_node : List Cond := .code yX9_node cX9_node 2 (some .int) :: sr_G
theorem dX9_node_0 : decode cX9_node 0 = .ok (.aload_n 0, 1) := by decide +kernel
theorem dX9_node_1 : decode cX9_node 1 = .ok (.getfield 15, 3) := by decide +kernel
theorem dX9_node_4 : decode cX9_node 4 = .ok (.aload_n 0, 1) := by decide +kernel
theorem dX9_node_5 : decode cX9_node 5 = .ok (.getfield 109, 3) := by decide +kernel
theorem dX9_node_8 : decode cX9_node 8 = .ok (.iload_n 1, 1) := by decide +kernel
theorem dX9_node_9 : decode cX9_node 9 = .ok (.iastore, 1) := by decide +kernel
theorem dX9_node_10 : decode cX9_node 10 = .ok (.aload_n 0, 1) := by decide +kernel
theorem dX9_node_11 : decode cX9_node 11 = .ok (.getfield 19, 3) := by decide +kernel
theorem dX9_node_14 : decode cX9_node 14 = .ok (.aload_n 0, 1) := by decide +kernel
theorem dX9_node_15 : decode cX9_node 15 = .ok (.getfield 109, 3) := by decide +kernel
theorem dX9_node_18 : decode cX9_node 18 = .ok (.aload_n 0, 1) := by decide +kernel
theorem dX9_node_19 : decode cX9_node 19 = .ok (.getfield 95, 3) := by decide +kernel
theorem dX9_node_22 : decode cX9_node 22 = .ok (.iastore, 1) := by decide +kernel
theorem dX9_node_23 : decode cX9_node 23 = .ok (.aload_n 0, 1) := by decide +kernel
theorem dX9_node_24 : decode cX9_node 24 = .ok (.getfield 22, 3) := by decide +kernel
theorem dX9_node_27 : decode cX9_node 27 = .ok (.aload_n 0, 1) := by decide +kernel
theorem dX9_node_28 : decode cX9_node 28 = .ok (.getfield 109, 3) := by decide +kernel
theorem dX9_node_31 : decode cX9_node 31 = .ok (.lconst 0, 1) := by decide +kernel
theorem dX9_node_32 : decode cX9_node 32 = .ok (.lastore, 1) := by decide +kernel
theorem dX9_node_33 : decode cX9_node 33 = .ok (.aload_n 0, 1) := by decide +kernel
theorem dX9_node_34 : decode cX9_node 34 = .ok (.getfield 26, 3) := by decide +kernel
theorem dX9_node_37 : decode cX9_node 37 = .ok (.aload_n 0, 1) := by decide +kernel
theorem dX9_node_38 : decode cX9_node 38 = .ok (.getfield 109, 3) := by decide +kernel
theorem dX9_node_41 : decode cX9_node 41 = .ok (.iconst 0, 1) := by decide +kernel
theorem dX9_node_42 : decode cX9_node 42 = .ok (.iastore, 1) := by decide +kernel
theorem dX9_node_43 : decode cX9_node 43 = .ok (.aload_n 0, 1) := by decide +kernel
theorem dX9_node_44 : decode cX9_node 44 = .ok (.getfield 29, 3) := by decide +kernel
theorem dX9_node_47 : decode cX9_node 47 = .ok (.aload_n 0, 1) := by decide +kernel
theorem dX9_node_48 : decode cX9_node 48 = .ok (.getfield 109, 3) := by decide +kernel
theorem dX9_node_51 : decode cX9_node 51 = .ok (.iconst (-1), 1) := by decide +kernel
theorem dX9_node_52 : decode cX9_node 52 = .ok (.iastore, 1) := by decide +kernel
theorem dX9_node_53 : decode cX9_node 53 = .ok (.aload_n 0, 1) := by decide +kernel
theorem dX9_node_54 : decode cX9_node 54 = .ok (.getfield 32, 3) := by decide +kernel
theorem dX9_node_57 : decode cX9_node 57 = .ok (.aload_n 0, 1) := by decide +kernel
theorem dX9_node_58 : decode cX9_node 58 = .ok (.getfield 109, 3) := by decide +kernel
theorem dX9_node_61 : decode cX9_node 61 = .ok (.iconst (-1), 1) := by decide +kernel
theorem dX9_node_62 : decode cX9_node 62 = .ok (.iastore, 1) := by decide +kernel
theorem dX9_node_63 : decode cX9_node 63 = .ok (.aload_n 0, 1) := by decide +kernel
theorem dX9_node_64 : decode cX9_node 64 = .ok (.dup, 1) := by decide +kernel
theorem dX9_node_65 : decode cX9_node 65 = .ok (.getfield 109, 3) := by decide +kernel
theorem dX9_node_68 : decode cX9_node 68 = .ok (.iconst 1, 1) := by decide +kernel
theorem dX9_node_69 : decode cX9_node 69 = .ok (.iadd, 1) := by decide +kernel
theorem dX9_node_70 : decode cX9_node 70 = .ok (.putfield 109, 3) := by decide +kernel
theorem dX9_node_73 : decode cX9_node 73 = .ok (.aload_n 0, 1) := by decide +kernel
theorem dX9_node_74 : decode cX9_node 74 = .ok (.getfield 109, 3) := by decide +kernel
theorem dX9_node_77 : decode cX9_node 77 = .ok (.iconst 1, 1) := by decide +kernel
theorem dX9_node_78 : decode cX9_node 78 = .ok (.isub, 1) := by decide +kernel
theorem dX9_node_79 : decode cX9_node 79 = .ok (.ireturn, 1) := by decide +kernel
abbrev cX9_hex : ByteArray := prog_12_method_11_code
def yX9_hex : MethodName := ⟨RX9, "hex", "(I)I"⟩
def wsX9_hex : List Cond := .code yX9_hex cX9_hex 1 (some .int) :: sr_G
theorem dX9_hex_0 : decode cX9_hex 0 = .ok (.iload_n 0, 1) := by decide +kernel
theorem dX9_hex_1 : decode cX9_hex 1 = .ok (.bipush 48, 2) := by decide +kernel
theorem dX9_hex_3 : decode cX9_hex 3 = .ok (.if_icmp .lt 16, 3) := by decide +kernel
theorem dX9_hex_6 : decode cX9_hex 6 = .ok (.iload_n 0, 1) := by decide +kernel
theorem dX9_hex_7 : decode cX9_hex 7 = .ok (.bipush 57, 2) := by decide +kernel
theorem dX9_hex_9 : decode cX9_hex 9 = .ok (.if_icmp .gt 10, 3) := by decide +kernel
theorem dX9_hex_12 : decode cX9_hex 12 = .ok (.iload_n 0, 1) := by decide +kernel
theorem dX9_hex_13 : decode cX9_hex 13 = .ok (.bipush 48, 2) := by decide +kernel
theorem dX9_hex_15 : decode cX9_hex 15 = .ok (.isub, 1) := by decide +kernel
theorem dX9_hex_16 : decode cX9_hex 16 = .ok (.goto 48, 3) := by decide +kernel
theorem dX9_hex_19 : decode cX9_hex 19 = .ok (.iload_n 0, 1) := by decide +kernel
theorem dX9_hex_20 : decode cX9_hex 20 = .ok (.bipush 97, 2) := by decide +kernel
theorem dX9_hex_22 : decode cX9_hex 22 = .ok (.if_icmp .lt 19, 3) := by decide +kernel
theorem dX9_hex_25 : decode cX9_hex 25 = .ok (.iload_n 0, 1) := by decide +kernel
theorem dX9_hex_26 : decode cX9_hex 26 = .ok (.bipush 102, 2) := by decide +kernel
theorem dX9_hex_28 : decode cX9_hex 28 = .ok (.if_icmp .gt 13, 3) := by decide +kernel
theorem dX9_hex_31 : decode cX9_hex 31 = .ok (.iload_n 0, 1) := by decide +kernel
theorem dX9_hex_32 : decode cX9_hex 32 = .ok (.bipush 97, 2) := by decide +kernel
theorem dX9_hex_34 : decode cX9_hex 34 = .ok (.isub, 1) := by decide +kernel
theorem dX9_hex_35 : decode cX9_hex 35 = .ok (.bipush 10, 2) := by decide +kernel
theorem dX9_hex_37 : decode cX9_hex 37 = .ok (.iadd, 1) := by decide +kernel
theorem dX9_hex_38 : decode cX9_hex 38 = .ok (.goto 26, 3) := by decide +kernel
theorem dX9_hex_41 : decode cX9_hex 41 = .ok (.iload_n 0, 1) := by decide +kernel
theorem dX9_hex_42 : decode cX9_hex 42 = .ok (.bipush 65, 2) := by decide +kernel
theorem dX9_hex_44 : decode cX9_hex 44 = .ok (.if_icmp .lt 19, 3) := by decide +kernel
theorem dX9_hex_47 : decode cX9_hex 47 = .ok (.iload_n 0, 1) := by decide +kernel
theorem dX9_hex_48 : decode cX9_hex 48 = .ok (.bipush 70, 2) := by decide +kernel
theorem dX9_hex_50 : decode cX9_hex 50 = .ok (.if_icmp .gt 13, 3) := by decide +kernel
theorem dX9_hex_53 : decode cX9_hex 53 = .ok (.iload_n 0, 1) := by decide +kernel
theorem dX9_hex_54 : decode cX9_hex 54 = .ok (.bipush 65, 2) := by decide +kernel
theorem dX9_hex_56 : decode cX9_hex 56 = .ok (.isub, 1) := by decide +kernel
theorem dX9_hex_57 : decode cX9_hex 57 = .ok (.bipush 10, 2) := by decide +kernel
theorem dX9_hex_59 : decode cX9_hex 59 = .ok (.iadd, 1) := by decide +kernel
theorem dX9_hex_60 : decode cX9_hex 60 = .ok (.goto 4, 3) := by decide +kernel
theorem dX9_hex_63 : decode cX9_hex 63 = .ok (.iconst (-1), 1) := by decide +kernel
theorem dX9_hex_64 : decode cX9_hex 64 = .ok (.ireturn, 1) := by decide +kernel
abbrev cX9_same : ByteArray := prog_12_method_15_code
def yX9_same : MethodName := ⟨RX9, "same", "(ILSchemaReaderModel$Text;I)Z"⟩
def wsX9_same : List Cond := .code yX9_same cX9_same 5 (some .boolean) :: sr_G
theorem dX9_same_0 : decode cX9_same 0 = .ok (.aload_n 0, 1) := by decide +kernel
theorem dX9_same_1 : decode cX9_same 1 = .ok (.getfield 26, 3) := by decide +kernel
theorem dX9_same_4 : decode cX9_same 4 = .ok (.iload_n 1, 1) := by decide +kernel
theorem dX9_same_5 : decode cX9_same 5 = .ok (.iaload, 1) := by decide +kernel
theorem dX9_same_6 : decode cX9_same 6 = .ok (.aload_n 2, 1) := by decide +kernel
theorem dX9_same_7 : decode cX9_same 7 = .ok (.getfield 26, 3) := by decide +kernel
theorem dX9_same_10 : decode cX9_same 10 = .ok (.iload_n 3, 1) := by decide +kernel
theorem dX9_same_11 : decode cX9_same 11 = .ok (.iaload, 1) := by decide +kernel
theorem dX9_same_12 : decode cX9_same 12 = .ok (.if_icmp .eq 5, 3) := by decide +kernel
theorem dX9_same_15 : decode cX9_same 15 = .ok (.iconst 0, 1) := by decide +kernel
theorem dX9_same_16 : decode cX9_same 16 = .ok (.ireturn, 1) := by decide +kernel
theorem dX9_same_17 : decode cX9_same 17 = .ok (.iconst 0, 1) := by decide +kernel
theorem dX9_same_18 : decode cX9_same 18 = .ok (.istore 4, 2) := by decide +kernel
theorem dX9_same_20 : decode cX9_same 20 = .ok (.iload 4, 2) := by decide +kernel
theorem dX9_same_22 : decode cX9_same 22 = .ok (.aload_n 0, 1) := by decide +kernel
theorem dX9_same_23 : decode cX9_same 23 = .ok (.getfield 26, 3) := by decide +kernel
theorem dX9_same_26 : decode cX9_same 26 = .ok (.iload_n 1, 1) := by decide +kernel
theorem dX9_same_27 : decode cX9_same 27 = .ok (.iaload, 1) := by decide +kernel
theorem dX9_same_28 : decode cX9_same 28 = .ok (.if_icmp .ge 44, 3) := by decide +kernel
theorem dX9_same_31 : decode cX9_same 31 = .ok (.aload_n 0, 1) := by decide +kernel
theorem dX9_same_32 : decode cX9_same 32 = .ok (.getfield 35, 3) := by decide +kernel
theorem dX9_same_35 : decode cX9_same 35 = .ok (.aload_n 0, 1) := by decide +kernel
theorem dX9_same_36 : decode cX9_same 36 = .ok (.getfield 22, 3) := by decide +kernel
theorem dX9_same_39 : decode cX9_same 39 = .ok (.iload_n 1, 1) := by decide +kernel
theorem dX9_same_40 : decode cX9_same 40 = .ok (.laload, 1) := by decide +kernel
theorem dX9_same_41 : decode cX9_same 41 = .ok (.l2i, 1) := by decide +kernel
theorem dX9_same_42 : decode cX9_same 42 = .ok (.iload 4, 2) := by decide +kernel
theorem dX9_same_44 : decode cX9_same 44 = .ok (.iadd, 1) := by decide +kernel
theorem dX9_same_45 : decode cX9_same 45 = .ok (.baload, 1) := by decide +kernel
theorem dX9_same_46 : decode cX9_same 46 = .ok (.aload_n 2, 1) := by decide +kernel
theorem dX9_same_47 : decode cX9_same 47 = .ok (.getfield 35, 3) := by decide +kernel
theorem dX9_same_50 : decode cX9_same 50 = .ok (.aload_n 2, 1) := by decide +kernel
theorem dX9_same_51 : decode cX9_same 51 = .ok (.getfield 22, 3) := by decide +kernel
theorem dX9_same_54 : decode cX9_same 54 = .ok (.iload_n 3, 1) := by decide +kernel
theorem dX9_same_55 : decode cX9_same 55 = .ok (.laload, 1) := by decide +kernel
theorem dX9_same_56 : decode cX9_same 56 = .ok (.l2i, 1) := by decide +kernel
theorem dX9_same_57 : decode cX9_same 57 = .ok (.iload 4, 2) := by decide +kernel
theorem dX9_same_59 : decode cX9_same 59 = .ok (.iadd, 1) := by decide +kernel
theorem dX9_same_60 : decode cX9_same 60 = .ok (.baload, 1) := by decide +kernel
theorem dX9_same_61 : decode cX9_same 61 = .ok (.if_icmp .eq 5, 3) := by decide +kernel
theorem dX9_same_64 : decode cX9_same 64 = .ok (.iconst 0, 1) := by decide +kernel
theorem dX9_same_65 : decode cX9_same 65 = .ok (.ireturn, 1) := by decide +kernel
theorem dX9_same_66 : decode cX9_same 66 = .ok (.iinc 4 1, 3) := by decide +kernel
theorem dX9_same_69 : decode cX9_same 69 = .ok (.goto (-49), 3) := by decide +kernel
theorem dX9_same_72 : decode cX9_same 72 = .ok (.iconst 1, 1) := by decide +kernel
theorem dX9_same_73 : decode cX9_same 73 = .ok (.ireturn, 1) := by decide +kernel
abbrev cX9_isName : ByteArray := prog_12_method_18_code
def yX9_isName : MethodName := ⟨RX9, "isName", "(I)Z"⟩
def wsX9_isName : List Cond := .code yX9_isName cX9_isName 6 (some .boolean) :: sr_G
theorem dX9_isName_0 : decode cX9_isName 0 = .ok (.aload_n 0, 1) := by decide +kernel
theorem dX9_isName_1 : decode cX9_isName 1 = .ok (.getfield 15, 3) := by decide +kernel
theorem dX9_isName_4 : decode cX9_isName 4 = .ok (.iload_n 1, 1) := by decide +kernel
theorem dX9_isName_5 : decode cX9_isName 5 = .ok (.iaload, 1) := by decide +kernel
theorem dX9_isName_6 : decode cX9_isName 6 = .ok (.iconst 2, 1) := by decide +kernel
theorem dX9_isName_7 : decode cX9_isName 7 = .ok (.if_icmp .ne 27, 3) := by decide +kernel
theorem dX9_isName_10 : decode cX9_isName 10 = .ok (.aload_n 0, 1) := by decide +kernel
theorem dX9_isName_11 : decode cX9_isName 11 = .ok (.getfield 26, 3) := by decide +kernel
theorem dX9_isName_14 : decode cX9_isName 14 = .ok (.iload_n 1, 1) := by decide +kernel
theorem dX9_isName_15 : decode cX9_isName 15 = .ok (.iaload, 1) := by decide +kernel
theorem dX9_isName_16 : decode cX9_isName 16 = .ok (.ifCond .le 18, 3) := by decide +kernel
theorem dX9_isName_19 : decode cX9_isName 19 = .ok (.aload_n 0, 1) := by decide +kernel
theorem dX9_isName_20 : decode cX9_isName 20 = .ok (.getfield 26, 3) := by decide +kernel
theorem dX9_isName_23 : decode cX9_isName 23 = .ok (.iload_n 1, 1) := by decide +kernel
theorem dX9_isName_24 : decode cX9_isName 24 = .ok (.iaload, 1) := by decide +kernel
theorem dX9_isName_25 : decode cX9_isName 25 = .ok (.bipush 33, 2) := by decide +kernel
theorem dX9_isName_27 : decode cX9_isName 27 = .ok (.if_icmp .ge 7, 3) := by decide +kernel
theorem dX9_isName_30 : decode cX9_isName 30 = .ok (.iconst 1, 1) := by decide +kernel
theorem dX9_isName_31 : decode cX9_isName 31 = .ok (.goto 4, 3) := by decide +kernel
theorem dX9_isName_34 : decode cX9_isName 34 = .ok (.iconst 0, 1) := by decide +kernel
theorem dX9_isName_35 : decode cX9_isName 35 = .ok (.istore_n 2, 1) := by decide +kernel
theorem dX9_isName_36 : decode cX9_isName 36 = .ok (.iconst 0, 1) := by decide +kernel
theorem dX9_isName_37 : decode cX9_isName 37 = .ok (.istore_n 3, 1) := by decide +kernel
theorem dX9_isName_38 : decode cX9_isName 38 = .ok (.iload_n 3, 1) := by decide +kernel
theorem dX9_isName_39 : decode cX9_isName 39 = .ok (.aload_n 0, 1) := by decide +kernel
theorem dX9_isName_40 : decode cX9_isName 40 = .ok (.getfield 26, 3) := by decide +kernel
theorem dX9_isName_43 : decode cX9_isName 43 = .ok (.iload_n 1, 1) := by decide +kernel
theorem dX9_isName_44 : decode cX9_isName 44 = .ok (.iaload, 1) := by decide +kernel
theorem dX9_isName_45 : decode cX9_isName 45 = .ok (.if_icmp .ge 100, 3) := by decide +kernel
theorem dX9_isName_48 : decode cX9_isName 48 = .ok (.iload_n 2, 1) := by decide +kernel
theorem dX9_isName_49 : decode cX9_isName 49 = .ok (.ifCond .eq 96, 3) := by decide +kernel
theorem dX9_isName_52 : decode cX9_isName 52 = .ok (.aload_n 0, 1) := by decide +kernel
theorem dX9_isName_53 : decode cX9_isName 53 = .ok (.getfield 35, 3) := by decide +kernel
theorem dX9_isName_56 : decode cX9_isName 56 = .ok (.aload_n 0, 1) := by decide +kernel
theorem dX9_isName_57 : decode cX9_isName 57 = .ok (.getfield 22, 3) := by decide +kernel
theorem dX9_isName_60 : decode cX9_isName 60 = .ok (.iload_n 1, 1) := by decide +kernel
theorem dX9_isName_61 : decode cX9_isName 61 = .ok (.laload, 1) := by decide +kernel
theorem dX9_isName_62 : decode cX9_isName 62 = .ok (.l2i, 1) := by decide +kernel
theorem dX9_isName_63 : decode cX9_isName 63 = .ok (.iload_n 3, 1) := by decide +kernel
theorem dX9_isName_64 : decode cX9_isName 64 = .ok (.iadd, 1) := by decide +kernel
theorem dX9_isName_65 : decode cX9_isName 65 = .ok (.baload, 1) := by decide +kernel
theorem dX9_isName_66 : decode cX9_isName 66 = .ok (.istore 4, 2) := by decide +kernel
theorem dX9_isName_68 : decode cX9_isName 68 = .ok (.iload 4, 2) := by decide +kernel
theorem dX9_isName_70 : decode cX9_isName 70 = .ok (.bipush 48, 2) := by decide +kernel
theorem dX9_isName_72 : decode cX9_isName 72 = .ok (.if_icmp .lt 14, 3) := by decide +kernel
theorem dX9_isName_75 : decode cX9_isName 75 = .ok (.iload 4, 2) := by decide +kernel
theorem dX9_isName_77 : decode cX9_isName 77 = .ok (.bipush 57, 2) := by decide +kernel
theorem dX9_isName_79 : decode cX9_isName 79 = .ok (.if_icmp .gt 7, 3) := by decide +kernel
theorem dX9_isName_82 : decode cX9_isName 82 = .ok (.iconst 1, 1) := by decide +kernel
theorem dX9_isName_83 : decode cX9_isName 83 = .ok (.goto 4, 3) := by decide +kernel
theorem dX9_isName_86 : decode cX9_isName 86 = .ok (.iconst 0, 1) := by decide +kernel
theorem dX9_isName_87 : decode cX9_isName 87 = .ok (.istore 5, 2) := by decide +kernel
theorem dX9_isName_89 : decode cX9_isName 89 = .ok (.iload 4, 2) := by decide +kernel
theorem dX9_isName_91 : decode cX9_isName 91 = .ok (.bipush 97, 2) := by decide +kernel
theorem dX9_isName_93 : decode cX9_isName 93 = .ok (.if_icmp .lt 10, 3) := by decide +kernel
theorem dX9_isName_96 : decode cX9_isName 96 = .ok (.iload 4, 2) := by decide +kernel
theorem dX9_isName_98 : decode cX9_isName 98 = .ok (.bipush 122, 2) := by decide +kernel
theorem dX9_isName_100 : decode cX9_isName 100 = .ok (.if_icmp .le 33, 3) := by decide +kernel
theorem dX9_isName_103 : decode cX9_isName 103 = .ok (.iload 4, 2) := by decide +kernel
theorem dX9_isName_105 : decode cX9_isName 105 = .ok (.bipush 65, 2) := by decide +kernel
theorem dX9_isName_107 : decode cX9_isName 107 = .ok (.if_icmp .lt 10, 3) := by decide +kernel
theorem dX9_isName_110 : decode cX9_isName 110 = .ok (.iload 4, 2) := by decide +kernel
theorem dX9_isName_112 : decode cX9_isName 112 = .ok (.bipush 90, 2) := by decide +kernel
theorem dX9_isName_114 : decode cX9_isName 114 = .ok (.if_icmp .le 19, 3) := by decide +kernel
theorem dX9_isName_117 : decode cX9_isName 117 = .ok (.iload 4, 2) := by decide +kernel
theorem dX9_isName_119 : decode cX9_isName 119 = .ok (.bipush 95, 2) := by decide +kernel
theorem dX9_isName_121 : decode cX9_isName 121 = .ok (.if_icmp .eq 12, 3) := by decide +kernel
theorem dX9_isName_124 : decode cX9_isName 124 = .ok (.iload 5, 2) := by decide +kernel
theorem dX9_isName_126 : decode cX9_isName 126 = .ok (.ifCond .eq 11, 3) := by decide +kernel
theorem dX9_isName_129 : decode cX9_isName 129 = .ok (.iload_n 3, 1) := by decide +kernel
theorem dX9_isName_130 : decode cX9_isName 130 = .ok (.ifCond .le 7, 3) := by decide +kernel
theorem dX9_isName_133 : decode cX9_isName 133 = .ok (.iconst 1, 1) := by decide +kernel
theorem dX9_isName_134 : decode cX9_isName 134 = .ok (.goto 4, 3) := by decide +kernel
theorem dX9_isName_137 : decode cX9_isName 137 = .ok (.iconst 0, 1) := by decide +kernel
theorem dX9_isName_138 : decode cX9_isName 138 = .ok (.istore_n 2, 1) := by decide +kernel
theorem dX9_isName_139 : decode cX9_isName 139 = .ok (.iinc 3 1, 3) := by decide +kernel
theorem dX9_isName_142 : decode cX9_isName 142 = .ok (.goto (-104), 3) := by decide +kernel
theorem dX9_isName_145 : decode cX9_isName 145 = .ok (.iload_n 2, 1) := by decide +kernel
theorem dX9_isName_146 : decode cX9_isName 146 = .ok (.ireturn, 1) := by decide +kernel
theorem wf9_95 : (.fieldLink "SchemaReaderModel$Text" 95 "SchemaReaderModel$Text" "at" "I" : Cond) ∈ sr_G := sr_in (in_tables_1_5 _ (List.mem_of_getElem? (i := 7) rfl)) rfl
theorem wf9_98 : (.fieldLink "SchemaReaderModel$Text" 98 "SchemaReaderModel$Text" "length" "I" : Cond) ∈ sr_G := sr_in (in_tables_1_5 _ (List.mem_of_getElem? (i := 5) rfl)) rfl
theorem wf9_9 : (.fieldLink "SchemaReaderModel$Text" 9 "SchemaReaderModel$Text" "bytes" "[B" : Cond) ∈ sr_G := sr_in (in_tables_1_5 _ (List.mem_of_getElem? (i := 3) rfl)) rfl
theorem wf9_15 : (.fieldLink "SchemaReaderModel$Text" 15 "SchemaReaderModel$Text" "kinds" "[I" : Cond) ∈ sr_G := sr_in (in_tables_1_5 _ (List.mem_of_getElem? (i := 14) rfl)) rfl
theorem wf9_109 : (.fieldLink "SchemaReaderModel$Text" 109 "SchemaReaderModel$Text" "nodes" "I" : Cond) ∈ sr_G := sr_in (in_tables_1_5 _ (List.mem_of_getElem? (i := 13) rfl)) rfl
theorem wf9_19 : (.fieldLink "SchemaReaderModel$Text" 19 "SchemaReaderModel$Text" "firsts" "[I" : Cond) ∈ sr_G := sr_in (in_tables_1_5 _ (List.mem_of_getElem? (i := 15) rfl)) rfl
theorem wf9_22 : (.fieldLink "SchemaReaderModel$Text" 22 "SchemaReaderModel$Text" "numbers" "[J" : Cond) ∈ sr_G := sr_in (in_tables_1_5 _ (List.mem_of_getElem? (i := 16) rfl)) rfl
theorem wf9_26 : (.fieldLink "SchemaReaderModel$Text" 26 "SchemaReaderModel$Text" "sizes" "[I" : Cond) ∈ sr_G := sr_in (in_tables_1_5 _ (List.mem_of_getElem? (i := 17) rfl)) rfl
theorem wf9_29 : (.fieldLink "SchemaReaderModel$Text" 29 "SchemaReaderModel$Text" "inner" "[I" : Cond) ∈ sr_G := sr_in (in_tables_1_5 _ (List.mem_of_getElem? (i := 18) rfl)) rfl
theorem wf9_32 : (.fieldLink "SchemaReaderModel$Text" 32 "SchemaReaderModel$Text" "nexts" "[I" : Cond) ∈ sr_G := sr_in (in_tables_1_5 _ (List.mem_of_getElem? (i := 19) rfl)) rfl
theorem wf9_35 : (.fieldLink "SchemaReaderModel$Text" 35 "SchemaReaderModel$Text" "letters" "[B" : Cond) ∈ sr_G := sr_in (in_tables_1_5 _ (List.mem_of_getElem? (i := 20) rfl)) rfl
theorem g9_101 (c0 : Cond) : GoodIn (c0 :: sr_G) (wsV RX9 101 RX9 yX9_look wsX9_look) := sr_V c0 (sr_ins (by decide +kernel))
