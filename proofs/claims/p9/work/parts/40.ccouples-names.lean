abbrev cX11_clear : ByteArray := prog_2_method_2_code
def yX11_clear : MethodName := ⟨RX11, "clear", "()V"⟩
def wsX11_clear : List Cond := .code yX11_clear cX11_clear 1 none :: sr_G
theorem dX11_clear_0 : decode cX11_clear 0 = .ok (.aload_n 0, 1) := by decide +kernel
theorem dX11_clear_1 : decode cX11_clear 1 = .ok (.iconst 0, 1) := by decide +kernel
theorem dX11_clear_2 : decode cX11_clear 2 = .ok (.putfield 18, 3) := by decide +kernel
theorem dX11_clear_5 : decode cX11_clear 5 = .ok (.return_, 1) := by decide +kernel
def rmX11_clear (mc ms : Nat) : Room := { frames := 0, cells := mc, slots := ms, locals := 0 }
abbrev cX11_count : ByteArray := prog_2_method_3_code
def yX11_count : MethodName := ⟨RX11, "count", "()I"⟩
def wsX11_count : List Cond := .code yX11_count cX11_count 1 (some .int) :: sr_G
theorem dX11_count_0 : decode cX11_count 0 = .ok (.aload_n 0, 1) := by decide +kernel
theorem dX11_count_1 : decode cX11_count 1 = .ok (.getfield 18, 3) := by decide +kernel
theorem dX11_count_4 : decode cX11_count 4 = .ok (.ireturn, 1) := by decide +kernel
def rmX11_count (mc ms : Nat) : Room := { frames := 0, cells := mc, slots := ms, locals := 0 }
abbrev cX11_first : ByteArray := prog_2_method_4_code
def yX11_first : MethodName := ⟨RX11, "first", "(I)I"⟩
def wsX11_first : List Cond := .code yX11_first cX11_first 2 (some .int) :: sr_G
theorem dX11_first_0 : decode cX11_first 0 = .ok (.aload_n 0, 1) := by decide +kernel
theorem dX11_first_1 : decode cX11_first 1 = .ok (.getfield 9, 3) := by decide +kernel
theorem dX11_first_4 : decode cX11_first 4 = .ok (.iload_n 1, 1) := by decide +kernel
theorem dX11_first_5 : decode cX11_first 5 = .ok (.invokestatic 22, 3) := by decide +kernel
theorem dX11_first_8 : decode cX11_first 8 = .ok (.ireturn, 1) := by decide +kernel
def rmX11_first (mc ms : Nat) : Room := { frames := 1, cells := mc, slots := ms, locals := 21 }
abbrev cX11_second : ByteArray := prog_2_method_5_code
def yX11_second : MethodName := ⟨RX11, "second", "(I)I"⟩
def wsX11_second : List Cond := .code yX11_second cX11_second 2 (some .int) :: sr_G
theorem dX11_second_0 : decode cX11_second 0 = .ok (.aload_n 0, 1) := by decide +kernel
theorem dX11_second_1 : decode cX11_second 1 = .ok (.getfield 15, 3) := by decide +kernel
theorem dX11_second_4 : decode cX11_second 4 = .ok (.iload_n 1, 1) := by decide +kernel
theorem dX11_second_5 : decode cX11_second 5 = .ok (.invokestatic 22, 3) := by decide +kernel
theorem dX11_second_8 : decode cX11_second 8 = .ok (.ireturn, 1) := by decide +kernel
def rmX11_second (mc ms : Nat) : Room := { frames := 1, cells := mc, slots := ms, locals := 21 }
abbrev cX11_add : ByteArray := prog_2_method_6_code
def yX11_add : MethodName := ⟨RX11, "add", "(II)V"⟩
def wsX11_add : List Cond := .code yX11_add cX11_add 3 none :: sr_G
theorem dX11_add_0 : decode cX11_add 0 = .ok (.aload_n 0, 1) := by decide +kernel
theorem dX11_add_1 : decode cX11_add 1 = .ok (.getfield 18, 3) := by decide +kernel
theorem dX11_add_4 : decode cX11_add 4 = .ok (.sipush 128, 3) := by decide +kernel
theorem dX11_add_7 : decode cX11_add 7 = .ok (.if_icmp .ge 37, 3) := by decide +kernel
theorem dX11_add_10 : decode cX11_add 10 = .ok (.aload_n 0, 1) := by decide +kernel
theorem dX11_add_11 : decode cX11_add 11 = .ok (.getfield 9, 3) := by decide +kernel
theorem dX11_add_14 : decode cX11_add 14 = .ok (.aload_n 0, 1) := by decide +kernel
theorem dX11_add_15 : decode cX11_add 15 = .ok (.getfield 18, 3) := by decide +kernel
theorem dX11_add_18 : decode cX11_add 18 = .ok (.iload_n 1, 1) := by decide +kernel
theorem dX11_add_19 : decode cX11_add 19 = .ok (.invokestatic 28, 3) := by decide +kernel
theorem dX11_add_22 : decode cX11_add 22 = .ok (.aload_n 0, 1) := by decide +kernel
theorem dX11_add_23 : decode cX11_add 23 = .ok (.getfield 15, 3) := by decide +kernel
theorem dX11_add_26 : decode cX11_add 26 = .ok (.aload_n 0, 1) := by decide +kernel
theorem dX11_add_27 : decode cX11_add 27 = .ok (.getfield 18, 3) := by decide +kernel
theorem dX11_add_30 : decode cX11_add 30 = .ok (.iload_n 2, 1) := by decide +kernel
theorem dX11_add_31 : decode cX11_add 31 = .ok (.invokestatic 28, 3) := by decide +kernel
theorem dX11_add_34 : decode cX11_add 34 = .ok (.aload_n 0, 1) := by decide +kernel
theorem dX11_add_35 : decode cX11_add 35 = .ok (.dup, 1) := by decide +kernel
theorem dX11_add_36 : decode cX11_add 36 = .ok (.getfield 18, 3) := by decide +kernel
theorem dX11_add_39 : decode cX11_add 39 = .ok (.iconst 1, 1) := by decide +kernel
theorem dX11_add_40 : decode cX11_add 40 = .ok (.iadd, 1) := by decide +kernel
theorem dX11_add_41 : decode cX11_add 41 = .ok (.putfield 18, 3) := by decide +kernel
theorem dX11_add_44 : decode cX11_add 44 = .ok (.return_, 1) := by decide +kernel
def rmX11_add (mc ms : Nat) : Room := { frames := 1, cells := mc, slots := ms, locals := 22 }
abbrev cX11_has : ByteArray := prog_2_method_7_code
def yX11_has : MethodName := ⟨RX11, "has", "(II)Z"⟩
def wsX11_has : List Cond := .code yX11_has cX11_has 4 (some .boolean) :: sr_G
theorem dX11_has_0 : decode cX11_has 0 = .ok (.iconst 0, 1) := by decide +kernel
theorem dX11_has_1 : decode cX11_has 1 = .ok (.istore_n 3, 1) := by decide +kernel
theorem dX11_has_2 : decode cX11_has 2 = .ok (.iload_n 3, 1) := by decide +kernel
theorem dX11_has_3 : decode cX11_has 3 = .ok (.aload_n 0, 1) := by decide +kernel
theorem dX11_has_4 : decode cX11_has 4 = .ok (.getfield 18, 3) := by decide +kernel
theorem dX11_has_7 : decode cX11_has 7 = .ok (.if_icmp .ge 35, 3) := by decide +kernel
theorem dX11_has_10 : decode cX11_has 10 = .ok (.aload_n 0, 1) := by decide +kernel
theorem dX11_has_11 : decode cX11_has 11 = .ok (.getfield 9, 3) := by decide +kernel
theorem dX11_has_14 : decode cX11_has 14 = .ok (.iload_n 3, 1) := by decide +kernel
theorem dX11_has_15 : decode cX11_has 15 = .ok (.invokestatic 22, 3) := by decide +kernel
theorem dX11_has_18 : decode cX11_has 18 = .ok (.iload_n 1, 1) := by decide +kernel
theorem dX11_has_19 : decode cX11_has 19 = .ok (.if_icmp .ne 17, 3) := by decide +kernel
theorem dX11_has_22 : decode cX11_has 22 = .ok (.aload_n 0, 1) := by decide +kernel
theorem dX11_has_23 : decode cX11_has 23 = .ok (.getfield 15, 3) := by decide +kernel
theorem dX11_has_26 : decode cX11_has 26 = .ok (.iload_n 3, 1) := by decide +kernel
theorem dX11_has_27 : decode cX11_has 27 = .ok (.invokestatic 22, 3) := by decide +kernel
theorem dX11_has_30 : decode cX11_has 30 = .ok (.iload_n 2, 1) := by decide +kernel
theorem dX11_has_31 : decode cX11_has 31 = .ok (.if_icmp .ne 5, 3) := by decide +kernel
theorem dX11_has_34 : decode cX11_has 34 = .ok (.iconst 1, 1) := by decide +kernel
theorem dX11_has_35 : decode cX11_has 35 = .ok (.ireturn, 1) := by decide +kernel
theorem dX11_has_36 : decode cX11_has 36 = .ok (.iinc 3 1, 3) := by decide +kernel
theorem dX11_has_39 : decode cX11_has 39 = .ok (.goto (-37), 3) := by decide +kernel
theorem dX11_has_42 : decode cX11_has 42 = .ok (.iconst 0, 1) := by decide +kernel
theorem dX11_has_43 : decode cX11_has 43 = .ok (.ireturn, 1) := by decide +kernel
def rmX11_has (mc ms : Nat) : Room := { frames := 1, cells := mc, slots := ms, locals := 21 }
theorem gn11_22 : (∀ w ∈ ([.static yX8_entry, .initialized yX8_entry.cls, .code yX8_entry cX8_entry 2 (some .int)] : List Cond), w ∈ sr_G) ∧ (.methodLinkNest RX11 22 yX8_entry "SchemaReader" : Cond) ∈ sr_N := ⟨sr_ins (by decide +kernel), List.mem_filter.mpr ⟨in_tables_1_3 _ (List.mem_of_getElem? (i := 190) rfl), rfl⟩⟩
theorem gn11_28 : (∀ w ∈ ([.static yX8_enter, .initialized yX8_enter.cls, .code yX8_enter cX8_enter 3 none] : List Cond), w ∈ sr_G) ∧ (.methodLinkNest RX11 28 yX8_enter "SchemaReader" : Cond) ∈ sr_N := ⟨sr_ins (by decide +kernel), List.mem_filter.mpr ⟨in_tables_1_3 _ (List.mem_of_getElem? (i := 164) rfl), rfl⟩⟩
