abbrev cX8_entry : ByteArray := prog_1_method_15_code
def yX8_entry : MethodName := ⟨RX8, "entry", "([II)I"⟩
def wsX8_entry : List Cond := .code yX8_entry cX8_entry 2 (some .int) :: sr_G
theorem dX8_entry_0 : decode cX8_entry 0 = .ok (.iload_n 1, 1) := by decide +kernel
theorem dX8_entry_1 : decode cX8_entry 1 = .ok (.ifCond .lt 15, 3) := by decide +kernel
theorem dX8_entry_4 : decode cX8_entry 4 = .ok (.iload_n 1, 1) := by decide +kernel
theorem dX8_entry_5 : decode cX8_entry 5 = .ok (.aload_n 0, 1) := by decide +kernel
theorem dX8_entry_6 : decode cX8_entry 6 = .ok (.arraylength, 1) := by decide +kernel
theorem dX8_entry_7 : decode cX8_entry 7 = .ok (.if_icmp .ge 9, 3) := by decide +kernel
theorem dX8_entry_10 : decode cX8_entry 10 = .ok (.aload_n 0, 1) := by decide +kernel
theorem dX8_entry_11 : decode cX8_entry 11 = .ok (.iload_n 1, 1) := by decide +kernel
theorem dX8_entry_12 : decode cX8_entry 12 = .ok (.iaload, 1) := by decide +kernel
theorem dX8_entry_13 : decode cX8_entry 13 = .ok (.goto 4, 3) := by decide +kernel
theorem dX8_entry_16 : decode cX8_entry 16 = .ok (.iconst (-1), 1) := by decide +kernel
theorem dX8_entry_17 : decode cX8_entry 17 = .ok (.ireturn, 1) := by decide +kernel
def rmX8_entry (mc ms : Nat) : Room := { frames := 0, cells := mc, slots := ms, locals := 0 }
abbrev cX8_enter : ByteArray := prog_1_method_16_code
def yX8_enter : MethodName := ⟨RX8, "enter", "([III)V"⟩
def wsX8_enter : List Cond := .code yX8_enter cX8_enter 3 none :: sr_G
theorem dX8_enter_0 : decode cX8_enter 0 = .ok (.iload_n 1, 1) := by decide +kernel
theorem dX8_enter_1 : decode cX8_enter 1 = .ok (.ifCond .lt 13, 3) := by decide +kernel
theorem dX8_enter_4 : decode cX8_enter 4 = .ok (.iload_n 1, 1) := by decide +kernel
theorem dX8_enter_5 : decode cX8_enter 5 = .ok (.aload_n 0, 1) := by decide +kernel
theorem dX8_enter_6 : decode cX8_enter 6 = .ok (.arraylength, 1) := by decide +kernel
theorem dX8_enter_7 : decode cX8_enter 7 = .ok (.if_icmp .ge 7, 3) := by decide +kernel
theorem dX8_enter_10 : decode cX8_enter 10 = .ok (.aload_n 0, 1) := by decide +kernel
theorem dX8_enter_11 : decode cX8_enter 11 = .ok (.iload_n 1, 1) := by decide +kernel
theorem dX8_enter_12 : decode cX8_enter 12 = .ok (.iload_n 2, 1) := by decide +kernel
theorem dX8_enter_13 : decode cX8_enter 13 = .ok (.iastore, 1) := by decide +kernel
theorem dX8_enter_14 : decode cX8_enter 14 = .ok (.return_, 1) := by decide +kernel
def rmX8_enter (mc ms : Nat) : Room := { frames := 0, cells := mc, slots := ms, locals := 0 }
abbrev cX8_isDigit : ByteArray := prog_1_method_17_code
def yX8_isDigit : MethodName := ⟨RX8, "isDigit", "(I)Z"⟩
def wsX8_isDigit : List Cond := .code yX8_isDigit cX8_isDigit 1 (some .boolean) :: sr_G
theorem dX8_isDigit_0 : decode cX8_isDigit 0 = .ok (.iload_n 0, 1) := by decide +kernel
theorem dX8_isDigit_1 : decode cX8_isDigit 1 = .ok (.bipush 48, 2) := by decide +kernel
theorem dX8_isDigit_3 : decode cX8_isDigit 3 = .ok (.if_icmp .lt 13, 3) := by decide +kernel
theorem dX8_isDigit_6 : decode cX8_isDigit 6 = .ok (.iload_n 0, 1) := by decide +kernel
theorem dX8_isDigit_7 : decode cX8_isDigit 7 = .ok (.bipush 57, 2) := by decide +kernel
theorem dX8_isDigit_9 : decode cX8_isDigit 9 = .ok (.if_icmp .gt 7, 3) := by decide +kernel
theorem dX8_isDigit_12 : decode cX8_isDigit 12 = .ok (.iconst 1, 1) := by decide +kernel
theorem dX8_isDigit_13 : decode cX8_isDigit 13 = .ok (.goto 4, 3) := by decide +kernel
theorem dX8_isDigit_16 : decode cX8_isDigit 16 = .ok (.iconst 0, 1) := by decide +kernel
theorem dX8_isDigit_17 : decode cX8_isDigit 17 = .ok (.ireturn, 1) := by decide +kernel
def rmX8_isDigit (mc ms : Nat) : Room := { frames := 0, cells := mc, slots := ms, locals := 0 }
abbrev cX8_isLetter : ByteArray := prog_1_method_18_code
def yX8_isLetter : MethodName := ⟨RX8, "isLetter", "(I)Z"⟩
def wsX8_isLetter : List Cond := .code yX8_isLetter cX8_isLetter 1 (some .boolean) :: sr_G
theorem dX8_isLetter_0 : decode cX8_isLetter 0 = .ok (.iload_n 0, 1) := by decide +kernel
theorem dX8_isLetter_1 : decode cX8_isLetter 1 = .ok (.bipush 97, 2) := by decide +kernel
theorem dX8_isLetter_3 : decode cX8_isLetter 3 = .ok (.if_icmp .lt 9, 3) := by decide +kernel
theorem dX8_isLetter_6 : decode cX8_isLetter 6 = .ok (.iload_n 0, 1) := by decide +kernel
theorem dX8_isLetter_7 : decode cX8_isLetter 7 = .ok (.bipush 122, 2) := by decide +kernel
theorem dX8_isLetter_9 : decode cX8_isLetter 9 = .ok (.if_icmp .le 15, 3) := by decide +kernel
theorem dX8_isLetter_12 : decode cX8_isLetter 12 = .ok (.iload_n 0, 1) := by decide +kernel
theorem dX8_isLetter_13 : decode cX8_isLetter 13 = .ok (.bipush 65, 2) := by decide +kernel
theorem dX8_isLetter_15 : decode cX8_isLetter 15 = .ok (.if_icmp .lt 13, 3) := by decide +kernel
theorem dX8_isLetter_18 : decode cX8_isLetter 18 = .ok (.iload_n 0, 1) := by decide +kernel
theorem dX8_isLetter_19 : decode cX8_isLetter 19 = .ok (.bipush 90, 2) := by decide +kernel
theorem dX8_isLetter_21 : decode cX8_isLetter 21 = .ok (.if_icmp .gt 7, 3) := by decide +kernel
theorem dX8_isLetter_24 : decode cX8_isLetter 24 = .ok (.iconst 1, 1) := by decide +kernel
theorem dX8_isLetter_25 : decode cX8_isLetter 25 = .ok (.goto 4, 3) := by decide +kernel
theorem dX8_isLetter_28 : decode cX8_isLetter 28 = .ok (.iconst 0, 1) := by decide +kernel
theorem dX8_isLetter_29 : decode cX8_isLetter 29 = .ok (.ireturn, 1) := by decide +kernel
def rmX8_isLetter (mc ms : Nat) : Room := { frames := 0, cells := mc, slots := ms, locals := 0 }
abbrev cX8_isPlace : ByteArray := prog_1_method_13_code
def yX8_isPlace : MethodName := ⟨RX8, "isPlace", "(I)Z"⟩
def wsX8_isPlace : List Cond := .code yX8_isPlace cX8_isPlace 1 (some .boolean) :: sr_G
theorem dX8_isPlace_0 : decode cX8_isPlace 0 = .ok (.iload_n 0, 1) := by decide +kernel
theorem dX8_isPlace_1 : decode cX8_isPlace 1 = .ok (.ifCond .lt 13, 3) := by decide +kernel
theorem dX8_isPlace_4 : decode cX8_isPlace 4 = .ok (.iload_n 0, 1) := by decide +kernel
theorem dX8_isPlace_5 : decode cX8_isPlace 5 = .ok (.bipush 8, 2) := by decide +kernel
theorem dX8_isPlace_7 : decode cX8_isPlace 7 = .ok (.if_icmp .ge 7, 3) := by decide +kernel
theorem dX8_isPlace_10 : decode cX8_isPlace 10 = .ok (.iconst 1, 1) := by decide +kernel
theorem dX8_isPlace_11 : decode cX8_isPlace 11 = .ok (.goto 4, 3) := by decide +kernel
theorem dX8_isPlace_14 : decode cX8_isPlace 14 = .ok (.iconst 0, 1) := by decide +kernel
theorem dX8_isPlace_15 : decode cX8_isPlace 15 = .ok (.ireturn, 1) := by decide +kernel
def rmX8_isPlace (mc ms : Nat) : Room := { frames := 0, cells := mc, slots := ms, locals := 0 }
abbrev cX8_printStep : ByteArray := prog_1_method_14_code
def yX8_printStep : MethodName := ⟨RX8, "printStep", "(I)J"⟩
def wsX8_printStep : List Cond := .code yX8_printStep cX8_printStep 5 (some .long) :: sr_G
theorem dX8_printStep_0 : decode cX8_printStep 0 = .ok (.iload_n 0, 1) := by decide +kernel
theorem dX8_printStep_1 : decode cX8_printStep 1 = .ok (.i2l, 1) := by decide +kernel
theorem dX8_printStep_2 : decode cX8_printStep 2 = .ok (.lstore_n 1, 1) := by decide +kernel
theorem dX8_printStep_3 : decode cX8_printStep 3 = .ok (.iconst 0, 1) := by decide +kernel
theorem dX8_printStep_4 : decode cX8_printStep 4 = .ok (.istore_n 3, 1) := by decide +kernel
theorem dX8_printStep_5 : decode cX8_printStep 5 = .ok (.iload_n 3, 1) := by decide +kernel
theorem dX8_printStep_6 : decode cX8_printStep 6 = .ok (.bipush 8, 2) := by decide +kernel
theorem dX8_printStep_8 : decode cX8_printStep 8 = .ok (.if_icmp .ge 39, 3) := by decide +kernel
theorem dX8_printStep_11 : decode cX8_printStep 11 = .ok (.lload_n 1, 1) := by decide +kernel
theorem dX8_printStep_12 : decode cX8_printStep 12 = .ok (.lconst 1, 1) := by decide +kernel
theorem dX8_printStep_13 : decode cX8_printStep 13 = .ok (.land, 1) := by decide +kernel
theorem dX8_printStep_14 : decode cX8_printStep 14 = .ok (.lconst 1, 1) := by decide +kernel
theorem dX8_printStep_15 : decode cX8_printStep 15 = .ok (.lcmp, 1) := by decide +kernel
theorem dX8_printStep_16 : decode cX8_printStep 16 = .ok (.ifCond .ne 7, 3) := by decide +kernel
theorem dX8_printStep_19 : decode cX8_printStep 19 = .ok (.iconst 1, 1) := by decide +kernel
theorem dX8_printStep_20 : decode cX8_printStep 20 = .ok (.goto 4, 3) := by decide +kernel
theorem dX8_printStep_23 : decode cX8_printStep 23 = .ok (.iconst 0, 1) := by decide +kernel
theorem dX8_printStep_24 : decode cX8_printStep 24 = .ok (.istore 4, 2) := by decide +kernel
theorem dX8_printStep_26 : decode cX8_printStep 26 = .ok (.lload_n 1, 1) := by decide +kernel
theorem dX8_printStep_27 : decode cX8_printStep 27 = .ok (.iconst 1, 1) := by decide +kernel
theorem dX8_printStep_28 : decode cX8_printStep 28 = .ok (.lushr, 1) := by decide +kernel
theorem dX8_printStep_29 : decode cX8_printStep 29 = .ok (.lstore_n 1, 1) := by decide +kernel
theorem dX8_printStep_30 : decode cX8_printStep 30 = .ok (.iload 4, 2) := by decide +kernel
theorem dX8_printStep_32 : decode cX8_printStep 32 = .ok (.ifCond .eq 9, 3) := by decide +kernel
theorem dX8_printStep_35 : decode cX8_printStep 35 = .ok (.lload_n 1, 1) := by decide +kernel
theorem dX8_printStep_36 : decode cX8_printStep 36 = .ok (.ldc2_w 101, 3) := by decide +kernel
theorem dX8_printStep_39 : decode cX8_printStep 39 = .ok (.lxor, 1) := by decide +kernel
theorem dX8_printStep_40 : decode cX8_printStep 40 = .ok (.lstore_n 1, 1) := by decide +kernel
theorem dX8_printStep_41 : decode cX8_printStep 41 = .ok (.iinc 3 1, 3) := by decide +kernel
theorem dX8_printStep_44 : decode cX8_printStep 44 = .ok (.goto (-39), 3) := by decide +kernel
theorem dX8_printStep_47 : decode cX8_printStep 47 = .ok (.lload_n 1, 1) := by decide +kernel
theorem dX8_printStep_48 : decode cX8_printStep 48 = .ok (.lreturn, 1) := by decide +kernel
def rmX8_printStep (mc ms : Nat) : Room := { frames := 0, cells := mc, slots := ms, locals := 0 }
abbrev cX24_fill : ByteArray := prog_25_method_103_code
def yX24_fill : MethodName := ⟨RX24, "fill", "([II)V"⟩
def wsX24_fill : List Cond := .code yX24_fill cX24_fill 4 none :: sr_G
theorem dX24_fill_0 : decode cX24_fill 0 = .ok (.iconst 0, 1) := by decide +kernel
theorem dX24_fill_1 : decode cX24_fill 1 = .ok (.istore_n 2, 1) := by decide +kernel
theorem dX24_fill_2 : decode cX24_fill 2 = .ok (.aload_n 0, 1) := by decide +kernel
theorem dX24_fill_3 : decode cX24_fill 3 = .ok (.arraylength, 1) := by decide +kernel
theorem dX24_fill_4 : decode cX24_fill 4 = .ok (.istore_n 3, 1) := by decide +kernel
theorem dX24_fill_5 : decode cX24_fill 5 = .ok (.iload_n 2, 1) := by decide +kernel
theorem dX24_fill_6 : decode cX24_fill 6 = .ok (.iload_n 3, 1) := by decide +kernel
theorem dX24_fill_7 : decode cX24_fill 7 = .ok (.if_icmp .ge 13, 3) := by decide +kernel
theorem dX24_fill_10 : decode cX24_fill 10 = .ok (.aload_n 0, 1) := by decide +kernel
theorem dX24_fill_11 : decode cX24_fill 11 = .ok (.iload_n 2, 1) := by decide +kernel
theorem dX24_fill_12 : decode cX24_fill 12 = .ok (.iload_n 1, 1) := by decide +kernel
theorem dX24_fill_13 : decode cX24_fill 13 = .ok (.iastore, 1) := by decide +kernel
theorem dX24_fill_14 : decode cX24_fill 14 = .ok (.iinc 2 1, 3) := by decide +kernel
theorem dX24_fill_17 : decode cX24_fill 17 = .ok (.goto (-12), 3) := by decide +kernel
theorem dX24_fill_20 : decode cX24_fill 20 = .ok (.return_, 1) := by decide +kernel
def rmX24_fill (mc ms : Nat) : Room := { frames := 0, cells := mc, slots := ms, locals := 0 }
