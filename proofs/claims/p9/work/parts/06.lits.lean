abbrev nS : Nat := 75
def srL : List (String × Nat × String) := [("SchemaReader$Text", 106, "true"), ("SchemaReader$Text", 112, "false"), ("SchemaReader$Text", 114, "null"), ("SchemaReader$Kind", 11, "null"), ("SchemaReader$Kind", 13, "boolean"), ("SchemaReader$Kind", 15, "int"), ("SchemaReader$Kind", 17, "long"), ("SchemaReader$Kind", 19, "bytes"), ("SchemaReader$Kind", 21, "string"), ("SchemaReader$Kind", 23, "array"), ("SchemaReader$Kind", 25, "map"), ("SchemaReader$Kind", 27, "fixed"), ("SchemaReader$Kind", 29, "enum"), ("SchemaReader$Kind", 31, "record"), ("SchemaReader$Kind", 33, ""), ("SchemaReader$Looker", 148, "type"), ("SchemaReader$Looker", 154, "items"), ("SchemaReader$Looker", 177, "{\"type\":\"array\",\"items\":"), ("SchemaReader$Looker", 179, "{\"type\":\"map\",\"values\":"), ("SchemaReader$Looker", 160, "values"), ("SchemaReader$Looker", 185, "name"), ("SchemaReader$Looker", 190, "{\"name\":"), ("SchemaReader$Looker", 195, ",\"type\":\""), ("SchemaReader$Looker", 201, "size"), ("SchemaReader$Looker", 217, ",\"size\":"), ("SchemaReader$Looker", 222, "symbols"), ("SchemaReader$Looker", 224, ",\"symbols\":["), ("SchemaReader$Looker", 234, "]}"), ("SchemaReader$Looker", 236, "default"), ("SchemaReader$Looker", 244, "fields"), ("SchemaReader$Looker", 246, ",\"fields\":["), ("SchemaReader$Looker", 254, ",\"type\":"), ("SchemaReader", 62, "the tape has no room for twenty bytes"), ("SchemaReader", 73, "the tape cannot be cut there"), ("SchemaReader", 94, "the plain form has no such byte"), ("SchemaReader", 107, "there is no such place"), ("SchemaReader", 109, "there is no latest schema"), ("SchemaReader", 125, "a place keeps no schema"), ("SchemaReaderModel$Text", 87, "fault"), ("SchemaReaderModel$Text", 159, "\"\\/bfnrt"), ("SchemaReaderModel$Text", 131, "true"), ("SchemaReaderModel$Text", 133, "false"), ("SchemaReaderModel$Text", 135, "null"), ("SchemaReaderModel$Text", 181, "boolean"), ("SchemaReaderModel$Text", 183, "int"), ("SchemaReaderModel$Text", 185, "long"), ("SchemaReaderModel$Text", 187, "bytes"), ("SchemaReaderModel$Text", 188, "string"), ("SchemaReaderModel$Text", 208, "type"), ("SchemaReaderModel$Text", 214, "array"), ("SchemaReaderModel$Text", 216, "map"), ("SchemaReaderModel$Text", 218, "items"), ("SchemaReaderModel$Text", 220, "values"), ("SchemaReaderModel$Text", 232, "fixed"), ("SchemaReaderModel$Text", 234, "enum"), ("SchemaReaderModel$Text", 236, "record"), ("SchemaReaderModel$Text", 246, "name"), ("SchemaReaderModel$Text", 252, "size"), ("SchemaReaderModel$Text", 263, "symbols"), ("SchemaReaderModel$Text", 264, "default"), ("SchemaReaderModel$Text", 270, "fields"), ("SchemaReaderModel$Text", 300, "{\"type\":\"array\",\"items\":"), ("SchemaReaderModel$Text", 302, "{\"type\":\"map\",\"values\":"), ("SchemaReaderModel$Text", 304, "}"), ("SchemaReaderModel$Text", 306, "["), ("SchemaReaderModel$Text", 308, ","), ("SchemaReaderModel$Text", 310, ""), ("SchemaReaderModel$Text", 312, "]"), ("SchemaReaderModel$Text", 295, "\""), ("SchemaReaderModel$Text", 320, "{\"name\":"), ("SchemaReaderModel$Text", 322, ",\"type\":\"fixed\",\"size\":"), ("SchemaReaderModel$Text", 327, ",\"type\":\"enum\",\"symbols\":["), ("SchemaReaderModel$Text", 329, ",\"type\":\"record\",\"fields\":["), ("SchemaReaderModel$Text", 331, ",\"type\":"), ("SchemaReaderModel$Text", 333, "]}")]
def lenS : List Nat := [4, 5, 4, 4, 7, 3, 4, 5, 6, 5, 3, 5, 4, 6, 0, 4, 5, 24, 23, 6, 4, 8, 9, 4, 8, 7, 12, 2, 7, 6, 11, 8, 37, 28, 31, 22, 25, 23, 5, 8, 4, 5, 4, 7, 3, 4, 5, 6, 4, 5, 3, 5, 6, 5, 4, 6, 4, 4, 7, 7, 6, 24, 23, 1, 1, 1, 0, 1, 1, 8, 23, 26, 27, 8, 2]
def bytS : List (List Int32) := [[116, 114, 117, 101], [102, 97, 108, 115, 101], [110, 117, 108, 108], [110, 117, 108, 108], [98, 111, 111, 108, 101, 97, 110], [105, 110, 116], [108, 111, 110, 103], [98, 121, 116, 101, 115], [115, 116, 114, 105, 110, 103], [97, 114, 114, 97, 121], [109, 97, 112], [102, 105, 120, 101, 100], [101, 110, 117, 109], [114, 101, 99, 111, 114, 100], [], [116, 121, 112, 101], [105, 116, 101, 109, 115], [123, 34, 116, 121, 112, 101, 34, 58, 34, 97, 114, 114, 97, 121, 34, 44, 34, 105, 116, 101, 109, 115, 34, 58], [123, 34, 116, 121, 112, 101, 34, 58, 34, 109, 97, 112, 34, 44, 34, 118, 97, 108, 117, 101, 115, 34, 58], [118, 97, 108, 117, 101, 115], [110, 97, 109, 101], [123, 34, 110, 97, 109, 101, 34, 58], [44, 34, 116, 121, 112, 101, 34, 58, 34], [115, 105, 122, 101], [44, 34, 115, 105, 122, 101, 34, 58], [115, 121, 109, 98, 111, 108, 115], [44, 34, 115, 121, 109, 98, 111, 108, 115, 34, 58, 91], [93, 125], [100, 101, 102, 97, 117, 108, 116], [102, 105, 101, 108, 100, 115], [44, 34, 102, 105, 101, 108, 100, 115, 34, 58, 91], [44, 34, 116, 121, 112, 101, 34, 58], [116, 104, 101, 32, 116, 97, 112, 101, 32, 104, 97, 115, 32, 110, 111, 32, 114, 111, 111, 109, 32, 102, 111, 114, 32, 116, 119, 101, 110, 116, 121, 32, 98, 121, 116, 101, 115], [116, 104, 101, 32, 116, 97, 112, 101, 32, 99, 97, 110, 110, 111, 116, 32, 98, 101, 32, 99, 117, 116, 32, 116, 104, 101, 114, 101], [116, 104, 101, 32, 112, 108, 97, 105, 110, 32, 102, 111, 114, 109, 32, 104, 97, 115, 32, 110, 111, 32, 115, 117, 99, 104, 32, 98, 121, 116, 101], [116, 104, 101, 114, 101, 32, 105, 115, 32, 110, 111, 32, 115, 117, 99, 104, 32, 112, 108, 97, 99, 101], [116, 104, 101, 114, 101, 32, 105, 115, 32, 110, 111, 32, 108, 97, 116, 101, 115, 116, 32, 115, 99, 104, 101, 109, 97], [97, 32, 112, 108, 97, 99, 101, 32, 107, 101, 101, 112, 115, 32, 110, 111, 32, 115, 99, 104, 101, 109, 97], [102, 97, 117, 108, 116], [34, 92, 47, 98, 102, 110, 114, 116], [116, 114, 117, 101], [102, 97, 108, 115, 101], [110, 117, 108, 108], [98, 111, 111, 108, 101, 97, 110], [105, 110, 116], [108, 111, 110, 103], [98, 121, 116, 101, 115], [115, 116, 114, 105, 110, 103], [116, 121, 112, 101], [97, 114, 114, 97, 121], [109, 97, 112], [105, 116, 101, 109, 115], [118, 97, 108, 117, 101, 115], [102, 105, 120, 101, 100], [101, 110, 117, 109], [114, 101, 99, 111, 114, 100], [110, 97, 109, 101], [115, 105, 122, 101], [115, 121, 109, 98, 111, 108, 115], [100, 101, 102, 97, 117, 108, 116], [102, 105, 101, 108, 100, 115], [123, 34, 116, 121, 112, 101, 34, 58, 34, 97, 114, 114, 97, 121, 34, 44, 34, 105, 116, 101, 109, 115, 34, 58], [123, 34, 116, 121, 112, 101, 34, 58, 34, 109, 97, 112, 34, 44, 34, 118, 97, 108, 117, 101, 115, 34, 58], [125], [91], [44], [], [93], [34], [123, 34, 110, 97, 109, 101, 34, 58], [44, 34, 116, 121, 112, 101, 34, 58, 34, 102, 105, 120, 101, 100, 34, 44, 34, 115, 105, 122, 101, 34, 58], [44, 34, 116, 121, 112, 101, 34, 58, 34, 101, 110, 117, 109, 34, 44, 34, 115, 121, 109, 98, 111, 108, 115, 34, 58, 91], [44, 34, 116, 121, 112, 101, 34, 58, 34, 114, 101, 99, 111, 114, 100, 34, 44, 34, 102, 105, 101, 108, 100, 115, 34, 58, 91], [44, 34, 116, 121, 112, 101, 34, 58], [93, 125]]
/-- words of the tables that hold whatever is linked, but are none of goodWord -/
def sr_X : List Cond := [.declares ⟨"java/lang/RuntimeException", "<init>", "(Ljava/lang/String;)V"⟩, .declares ⟨"java/lang/Exception", "<init>", "(Ljava/lang/String;)V"⟩, .declares ⟨"java/lang/Throwable", "<init>", "(Ljava/lang/String;)V"⟩, .castable "java/lang/IllegalStateException" "java/lang/IllegalStateException", .castable "java/lang/IllegalArgumentException" "java/lang/IllegalArgumentException", .castable "java/lang/IndexOutOfBoundsException" "java/lang/IndexOutOfBoundsException"]
theorem sr_Xok : ∀ a ∈ sr_X, (a.onTables && a.keepsFace) = true := by
  intro a ha
  simp only [sr_X, List.mem_cons, List.not_mem_nil, or_false] at ha
  rcases ha with rfl | rfl | rfl | rfl | rfl | rfl <;> rfl
theorem sr_keep {a : Cond} (ha : (a.onTables && a.keepsFace) = true) {A A' : Array Value} {s U : State} (hW : s.WarmedH U.vm) (h : a.before A s = true) : a.before A' U = true := by
  simp only [Bool.and_eq_true] at ha
  have h1 := Cond.before_shiftedFace (State.Shifted.of_warmed hW) a ha.2 h
  have h2 := Cond.onTables_vm (A := A') (A' := A) (U := U) (U' := s) U.vm a ha.1
  rw [State.setVm_self] at h2
  rw [h2]
  exact h1
/-- a static of references: what it holds, and that it is laid; its holder is none of the cells that are written -/
def sr_LS (C n d : String) (A : Nat → Prop) (U : State) (H : Heap) : Prop := va_Zq C n d A U H ∧ (Cond.laysStatic C n d).before #[] ({ U with heap := H } : State) = true
theorem sr_LS.warm {C n d : String} {A : Nat → Prop} {s U : State} {H : Heap} (hW : s.WarmedH U.vm) (h : sr_LS C n d A s H) : sr_LS C n d A U H :=
  ⟨h.1.moved hW.alike, Cond.before_shiftedFace (s := ({ s with heap := H } : State)) (vm' := U.vm) (State.Shifted.of_warmed hW) (.laysStatic C n d) rfl h.2⟩
theorem sr_LS.narrow {C n d : String} {A B : Nat → Prop} {U : State} {H : Heap} (h : sr_LS C n d A U H) (hAB : ∀ q, B q → A q) : sr_LS C n d B U H := ⟨h.1.narrow hAB, h.2⟩
theorem sr_LS.kept {C n d : String} {A : Nat → Prop} {U : State} {H H1 : Heap} (h : sr_LS C n d A U H) (hq : ∀ a : Nat, a < H.size → ¬ A a → H1[a]? = H[a]?) : sr_LS C n d A U H1 := by
  refine ⟨h.1.kept hq, ?_⟩
  have hz : ∃ v, va_Z C n d v A U H := by
    rcases h.1 with h1 | ⟨t, h1⟩
    · exact ⟨_, h1⟩
    · exact ⟨_, h1⟩
  obtain ⟨v, cf, kf, fi, f, a, cell, h1, h2, h3, h4, h5, h6, h7, h8⟩ := hz
  have e : H1[a]? = H[a]? := hq a (Array.getElem?_eq_some_iff.mp h5).1 h8
  have hf : ∀ Hx : Heap, ({ U with heap := Hx } : State).fieldFound? C n d = some (cf, kf, fi, f) := fun _ => h1
  have hh := h.2
  simp only [Cond.before, Cond.holds, Cond.value, hf] at hh ⊢
  cases hc : U.vm.findClass C with
  | none => rw [hc] at hh; exact hh
  | some c0 =>
    rw [hc] at hh
    simp only [h4, Option.bind_some, e] at hh ⊢
    exact hh
theorem sr_LS.at {C n d : String} {A : Nat → Prop} {s U : State} {H : Heap} (h : sr_LS C n d A s H) (hW : s.WarmedH U.vm) (hU : U.heap = H) (args : Array Value) : (Cond.laysStatic C n d).before args U = true := by
  have h1 := (h.warm hW).2
  subst hU
  exact h1
/-- what a method may rest on beside its cells: the literals' objects, String.COMPACT_STRINGS, the two statics that a Throwable's making reads -/
def sr_Z (adK adV : Nat → Nat) (A : Nat → Prop) (U : State) (H : Heap) : Prop :=
  (∀ i : Nat, i < nS → (va_O "java/lang/String" (adK i) A U H ∧ va_OF "java/lang/String" "coder" "B" (.int 0) (adK i) A U H ∧ va_OF "java/lang/String" "value" "[B" (.ref (adV i)) (adK i) A U H ∧ va_T .byte (adV i) (lenS.getD i 0) (fun j => .int ((bytS.getD i []).getD j 0)) A U H) ∧
    vk_R (srL.getD i ("", 0, "")).1 (srL.getD i ("", 0, "")).2.1 (srL.getD i ("", 0, "")).2.2 (adK i) U) ∧
  va_Z "java/lang/String" "COMPACT_STRINGS" "Z" (.int 1) A U H ∧ sr_LS "java/lang/Throwable" "UNASSIGNED_STACK" "[Ljava/lang/StackTraceElement;" A U H ∧ sr_LS "java/lang/Throwable" "SUPPRESSED_SENTINEL" "Ljava/util/List;" A U H ∧ va_Zq "jdk/internal/util/Preconditions" "SIOOBE_FORMATTER" "Ljava/util/function/BiFunction;" A U H ∧ (∀ a ∈ sr_X, a.before #[] U = true) ∧ (∀ w ∈ sr_N, va_Nw w U) ∧ va_AO "SchemaReader$Schema" U
theorem sr_okZ (adK adV : Nat → Nat) : okZ (sr_Z adK adV) := by
  refine ⟨fun A s U H hW h => ?_, fun A s H H1 hq h => ?_, fun A B s H hAB h => ?_, fun A u U H hv h => ?_⟩
  · obtain ⟨h1, h2, h3, h4, h6, h5, h7, h8⟩ := h
    exact ⟨fun i hi => ⟨⟨(h1 i hi).1.1.moved hW.alike, (h1 i hi).1.2.1.moved hW.alike, (h1 i hi).1.2.2.1.moved hW.alike, (h1 i hi).1.2.2.2.moved hW.alike⟩, (h1 i hi).2.warm hW⟩, h2.moved hW.alike, h3.warm hW, h4.warm hW, h6.moved hW.alike, fun a ha => sr_keep (sr_Xok a ha) hW (h5 a ha), fun w hw => sr_Nwarm hw hW (h7 w hw), h8.moved hW.alike⟩
  · obtain ⟨h1, h2, h3, h4, h6, h5, h7, h8⟩ := h
    exact ⟨fun i hi => ⟨⟨(h1 i hi).1.1.kept hq, (h1 i hi).1.2.1.kept hq, (h1 i hi).1.2.2.1.kept hq, (h1 i hi).1.2.2.2.kept hq⟩, (h1 i hi).2⟩, h2.kept hq, h3.kept hq, h4.kept hq, h6.kept hq, h5, h7, h8⟩
  · obtain ⟨h1, h2, h3, h4, h6, h5, h7, h8⟩ := h
    exact ⟨fun i hi => ⟨⟨(h1 i hi).1.1.narrow hAB, (h1 i hi).1.2.1.narrow hAB, (h1 i hi).1.2.2.1.narrow hAB, (h1 i hi).1.2.2.2.narrow hAB⟩, (h1 i hi).2⟩, h2.narrow hAB, h3.narrow hAB, h4.narrow hAB, h6.narrow hAB, h5, h7, h8⟩
  · obtain ⟨h1, h2, h3, h4, h6, h5, h7, h8⟩ := h
    have ha : u.vm.Alike U.vm := by rw [hv]; exact Vm.Alike.refl u.vm
    have hw : u.WarmedH U.vm := by rw [hv]; exact State.WarmedH.refl u
    exact ⟨fun i hi => ⟨⟨(h1 i hi).1.1.moved ha, (h1 i hi).1.2.1.moved ha, (h1 i hi).1.2.2.1.moved ha, (h1 i hi).1.2.2.2.moved ha⟩, (h1 i hi).2.same hv⟩, h2.moved ha, h3.warm hw, h4.warm hw, h6.moved ha, fun a hx => sr_keep (sr_Xok a hx) hw (h5 a hx), fun w hz => sr_Nwarm hz hw (h7 w hz), h8.moved ha⟩
theorem sr_recv {X : String} {t : Nat} {A : Nat → Prop} {s : State} {H : Heap} {locs : List Loc} (h : va_O X t A s s.heap) (hS : va_S A s.heap H locs) : ∃ cell : Cell, H[t]? = some cell ∧ cell.vm.isStatics = false ∧ s.vm.findClass X = some cell.cls := by
  obtain ⟨cell, h1, h2, h3, -⟩ := h.kept hS.2.1
  exact ⟨cell, h1, h2, h3⟩
theorem sr_pay {c0 w : Cond} {args : Array Value} {s : State} (hts : ∀ w ∈ c0 :: sr_G, w.before args s = true) (hw : w ∈ sr_G) : ∀ (a' : Array Value) (U : State), s.WarmedH U.vm → w.before a' U = true :=
  fun _ _ hW => word_at hW (good_of_word (List.mem_filter.mp hw).2) (hts w (List.mem_cons_of_mem _ hw))
theorem mr_bs {α : Type} {i n : Nat} {a : Option α} {r : α} (h : (if n ≤ i then none else a) = some r) : i < n ∧ a = some r := by
  by_cases hc : n ≤ i
  · rw [if_pos hc] at h; cases h
  · rw [if_neg hc] at h; exact ⟨Nat.lt_of_not_le hc, h⟩
theorem mr_bb {α : Type} {v : Int32} {a : Option α} {r : α} (h : (if v.toInt8.toInt32 = v then a else none) = some r) : narrow .byte (.int v) = .int v ∧ a = some r := by
  by_cases hc : v.toInt8.toInt32 = v
  · rw [if_pos hc] at h; exact ⟨congrArg Value.int hc, h⟩
  · rw [if_neg hc] at h; cases h
theorem mr_bc {α : Type} {v : Int32} {a : Option α} {r : α} (h : (if v.toUInt32.toUInt16.toUInt32.toInt32 = v then a else none) = some r) : narrow .char (.int v) = .int v ∧ a = some r := by
  by_cases hc : v.toUInt32.toUInt16.toUInt32.toInt32 = v
  · rw [if_pos hc] at h; exact ⟨congrArg Value.int hc, h⟩
  · rw [if_neg hc] at h; cases h
def sr_Y : List Cond := [.laysStatic "java/lang/Throwable" "UNASSIGNED_STACK" "[Ljava/lang/StackTraceElement;", .laysStatic "java/lang/Throwable" "SUPPRESSED_SENTINEL" "Ljava/util/List;"]
theorem sr_lay {A : Nat → Prop} {s : State} {H : Heap} (h1 : sr_LS "java/lang/Throwable" "UNASSIGNED_STACK" "[Ljava/lang/StackTraceElement;" A s H) (h2 : sr_LS "java/lang/Throwable" "SUPPRESSED_SENTINEL" "Ljava/util/List;" A s H) : ∀ a ∈ sr_Y, ∀ (U : State), U.heap = H → s.WarmedH U.vm → ∀ args : Array Value, a.before args U = true := by
  intro a ha U hU hW args
  simp only [sr_Y, List.mem_cons, List.not_mem_nil, or_false] at ha
  rcases ha with rfl | rfl
  · exact h1.at hW hU args
  · exact h2.at hW hU args
def thr_up : List String := ["java/lang/RuntimeException", "java/lang/Exception"]
