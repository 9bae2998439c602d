-- the start: what all methods rest on
theorem lt_w1 : ∀ w ∈ ([.laysStatic "java/lang/String" "COMPACT_STRINGS" "Z", .initialized "java/lang/String", .laysStatic "java/lang/Throwable" "UNASSIGNED_STACK" "[Ljava/lang/StackTraceElement;", .laysStatic "java/lang/Throwable" "SUPPRESSED_SENTINEL" "Ljava/util/List;", .initialized "java/lang/Throwable", .laysStatic "jdk/internal/util/Preconditions" "SIOOBE_FORMATTER" "Ljava/util/function/BiFunction;", .initialized "jdk/internal/util/Preconditions", .arrayOver (.object "SchemaReader$Schema")] : List Cond), w ∈ tables_1 := by decide +kernel
theorem lt_w2 : ∀ w ∈ sr_X, w ∈ tables_1 := by decide +kernel
theorem lt_w3 : ∀ w ∈ ([.eq (.static "java/lang/String" "COMPACT_STRINGS" "Z") (.int 1), .isRef (.static "java/lang/Throwable" "UNASSIGNED_STACK" "[Ljava/lang/StackTraceElement;"), .isRef (.static "java/lang/Throwable" "SUPPRESSED_SENTINEL" "Ljava/util/List;"), .isRef (.static "jdk/internal/util/Preconditions" "SIOOBE_FORMATTER" "Ljava/util/function/BiFunction;"), .not (.castable "java/lang/IllegalStateException" "java/lang/IndexOutOfBoundsException")] : List Cond), w ∈ flatC narrow_1 := by decide +kernel
theorem lt_nest {w : Cond} (h : sr_nest w = true) : w.onTables = true := by
  cases w <;> first | rfl | exact absurd h Bool.false_ne_true
theorem lt_no {args : Array Value} {s : State} (h : (Cond.not (.castable "java/lang/IllegalStateException" "java/lang/IndexOutOfBoundsException")).before args s = true) : sr_no s := by
  intro k k' h1 h2
  cases hz : s.vm.assignable k k' with
  | false => rfl
  | true => simp [Cond.before, Cond.holds, Cond.value, h1, h2, hz] at h
theorem lt_Z {args : Array Value} {s : State} (hn : narrow_1.before args s = true) (hts : ∀ w ∈ lw_tbl, w.before args s = true) : ∃ adK adV : Nat → Nat, sr_Z2 adK adV (lw_A s) s s.heap := by
  have hA : ∀ a : Nat, a < s.heap.size → ¬ lw_A s a := fun a h q => Nat.not_lt.mpr q h
  obtain ⟨adK, adV, hl⟩ := lt_lits (A := lw_A s) hn hts hA
  have hf := flat_of_before _ hn
  have ht : ∀ w ∈ tables_1, w.before args s = true := fun w h => hts w (List.mem_append_right _ h)
  have w0 := ht _ (lt_w1 _ (List.mem_of_getElem? (i := 0) rfl))
  have w1 := ht _ (lt_w1 _ (List.mem_of_getElem? (i := 1) rfl))
  have w2 := ht _ (lt_w1 _ (List.mem_of_getElem? (i := 2) rfl))
  have w3 := ht _ (lt_w1 _ (List.mem_of_getElem? (i := 3) rfl))
  have w4 := ht _ (lt_w1 _ (List.mem_of_getElem? (i := 4) rfl))
  have w5 := ht _ (lt_w1 _ (List.mem_of_getElem? (i := 5) rfl))
  have w6 := ht _ (lt_w1 _ (List.mem_of_getElem? (i := 6) rfl))
  have w7 := ht _ (lt_w1 _ (List.mem_of_getElem? (i := 7) rfl))
  have n0 := hf _ (lt_w3 _ (List.mem_of_getElem? (i := 0) rfl))
  have n1 := hf _ (lt_w3 _ (List.mem_of_getElem? (i := 1) rfl))
  have n2 := hf _ (lt_w3 _ (List.mem_of_getElem? (i := 2) rfl))
  have n3 := hf _ (lt_w3 _ (List.mem_of_getElem? (i := 3) rfl))
  have n4 := hf _ (lt_w3 _ (List.mem_of_getElem? (i := 4) rfl))
  have hz0 : va_Z "java/lang/String" "COMPACT_STRINGS" "Z" (.int 1) (lw_A s) s s.heap := va_Zof w0 w1 (va_eqt n0) hA
  have hz1 : sr_LS "java/lang/Throwable" "UNASSIGNED_STACK" "[Ljava/lang/StackTraceElement;" (lw_A s) s s.heap := ⟨va_Zqof w2 w4 n1 hA, w2⟩
  have hz2 : sr_LS "java/lang/Throwable" "SUPPRESSED_SENTINEL" "Ljava/util/List;" (lw_A s) s s.heap := ⟨va_Zqof w3 w4 n2 hA, w3⟩
  have hz3 : va_Zq "jdk/internal/util/Preconditions" "SIOOBE_FORMATTER" "Ljava/util/function/BiFunction;" (lw_A s) s s.heap := va_Zqof w5 w6 n3 hA
  refine ⟨adK, adV, ⟨hl, hz0, hz1, hz2, hz3, fun a ha => ?_, fun w hw => ?_, va_AO.of w7⟩, lt_no n4⟩
  · have h1 := sr_Xok a ha
    rw [Bool.and_eq_true] at h1
    exact va_any h1.1 (ht _ (lt_w2 _ ha))
  · obtain ⟨h1, h2⟩ := List.mem_filter.mp hw
    exact va_any (lt_nest h2) (hts _ h1)
