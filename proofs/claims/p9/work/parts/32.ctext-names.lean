abbrev cX7_length : ByteArray := prog_10_method_2_code
def yX7_length : MethodName := ⟨RX7, "length", "()I"⟩
def wsX7_length : List Cond := .code yX7_length cX7_length 1 (some .int) :: sr_G
theorem dX7_length_0 : decode cX7_length 0 = .ok (.aload_n 0, 1) := by decide +kernel
theorem dX7_length_1 : decode cX7_length 1 = .ok (.getfield 35, 3) := by decide +kernel
theorem dX7_length_4 : decode cX7_length 4 = .ok (.ireturn, 1) := by decide +kernel
def rmX7_length (mc ms : Nat) : Room := { frames := 0, cells := mc, slots := ms, locals := 0 }
abbrev cX7_append : ByteArray := prog_10_method_3_code
def yX7_append : MethodName := ⟨RX7, "append", "(I)V"⟩
def wsX7_append : List Cond := .code yX7_append cX7_append 3 none :: sr_G
theorem dX7_append_0 : decode cX7_append 0 = .ok (.bipush 24, 2) := by decide +kernel
theorem dX7_append_2 : decode cX7_append 2 = .ok (.istore_n 2, 1) := by decide +kernel
theorem dX7_append_3 : decode cX7_append 3 = .ok (.iload_n 2, 1) := by decide +kernel
theorem dX7_append_4 : decode cX7_append 4 = .ok (.ifCond .lt 44, 3) := by decide +kernel
theorem dX7_append_7 : decode cX7_append 7 = .ok (.aload_n 0, 1) := by decide +kernel
theorem dX7_append_8 : decode cX7_append 8 = .ok (.getfield 35, 3) := by decide +kernel
theorem dX7_append_11 : decode cX7_append 11 = .ok (.aload_n 0, 1) := by decide +kernel
theorem dX7_append_12 : decode cX7_append 12 = .ok (.getfield 9, 3) := by decide +kernel
theorem dX7_append_15 : decode cX7_append 15 = .ok (.arraylength, 1) := by decide +kernel
theorem dX7_append_16 : decode cX7_append 16 = .ok (.if_icmp .ge 32, 3) := by decide +kernel
theorem dX7_append_19 : decode cX7_append 19 = .ok (.aload_n 0, 1) := by decide +kernel
theorem dX7_append_20 : decode cX7_append 20 = .ok (.getfield 9, 3) := by decide +kernel
theorem dX7_append_23 : decode cX7_append 23 = .ok (.aload_n 0, 1) := by decide +kernel
theorem dX7_append_24 : decode cX7_append 24 = .ok (.getfield 35, 3) := by decide +kernel
theorem dX7_append_27 : decode cX7_append 27 = .ok (.iload_n 1, 1) := by decide +kernel
theorem dX7_append_28 : decode cX7_append 28 = .ok (.iload_n 2, 1) := by decide +kernel
theorem dX7_append_29 : decode cX7_append 29 = .ok (.iushr, 1) := by decide +kernel
theorem dX7_append_30 : decode cX7_append 30 = .ok (.i2b, 1) := by decide +kernel
theorem dX7_append_31 : decode cX7_append 31 = .ok (.bastore, 1) := by decide +kernel
theorem dX7_append_32 : decode cX7_append 32 = .ok (.aload_n 0, 1) := by decide +kernel
theorem dX7_append_33 : decode cX7_append 33 = .ok (.dup, 1) := by decide +kernel
theorem dX7_append_34 : decode cX7_append 34 = .ok (.getfield 35, 3) := by decide +kernel
theorem dX7_append_37 : decode cX7_append 37 = .ok (.iconst 1, 1) := by decide +kernel
theorem dX7_append_38 : decode cX7_append 38 = .ok (.iadd, 1) := by decide +kernel
theorem dX7_append_39 : decode cX7_append 39 = .ok (.putfield 35, 3) := by decide +kernel
theorem dX7_append_42 : decode cX7_append 42 = .ok (.iinc 2 (-8), 3) := by decide +kernel
theorem dX7_append_45 : decode cX7_append 45 = .ok (.goto (-42), 3) := by decide +kernel
theorem dX7_append_48 : decode cX7_append 48 = .ok (.return_, 1) := by decide +kernel
def rmX7_append (mc ms : Nat) : Room := { frames := 0, cells := mc, slots := ms, locals := 0 }
abbrev cX7_cut : ByteArray := prog_10_method_4_code
def yX7_cut : MethodName := ⟨RX7, "cut", "(I)V"⟩
def wsX7_cut : List Cond := .code yX7_cut cX7_cut 2 none :: sr_G
theorem dX7_cut_0 : decode cX7_cut 0 = .ok (.iload_n 1, 1) := by decide +kernel
theorem dX7_cut_1 : decode cX7_cut 1 = .ok (.ifCond .lt 16, 3) := by decide +kernel
theorem dX7_cut_4 : decode cX7_cut 4 = .ok (.iload_n 1, 1) := by decide +kernel
theorem dX7_cut_5 : decode cX7_cut 5 = .ok (.aload_n 0, 1) := by decide +kernel
theorem dX7_cut_6 : decode cX7_cut 6 = .ok (.getfield 35, 3) := by decide +kernel
theorem dX7_cut_9 : decode cX7_cut 9 = .ok (.if_icmp .gt 8, 3) := by decide +kernel
theorem dX7_cut_12 : decode cX7_cut 12 = .ok (.aload_n 0, 1) := by decide +kernel
theorem dX7_cut_13 : decode cX7_cut 13 = .ok (.iload_n 1, 1) := by decide +kernel
theorem dX7_cut_14 : decode cX7_cut 14 = .ok (.putfield 35, 3) := by decide +kernel
theorem dX7_cut_17 : decode cX7_cut 17 = .ok (.return_, 1) := by decide +kernel
def rmX7_cut (mc ms : Nat) : Room := { frames := 0, cells := mc, slots := ms, locals := 0 }
abbrev cX7_wrongPlace : ByteArray := prog_10_method_5_code
def yX7_wrongPlace : MethodName := ⟨RX7, "wrongPlace", "()I"⟩
def wsX7_wrongPlace : List Cond := .code yX7_wrongPlace cX7_wrongPlace 1 (some .int) :: sr_G
theorem dX7_wrongPlace_0 : decode cX7_wrongPlace 0 = .ok (.aload_n 0, 1) := by decide +kernel
theorem dX7_wrongPlace_1 : decode cX7_wrongPlace 1 = .ok (.getfield 39, 3) := by decide +kernel
theorem dX7_wrongPlace_4 : decode cX7_wrongPlace 4 = .ok (.ireturn, 1) := by decide +kernel
def rmX7_wrongPlace (mc ms : Nat) : Room := { frames := 0, cells := mc, slots := ms, locals := 0 }
abbrev cX7_byteAt : ByteArray := prog_10_method_6_code
def yX7_byteAt : MethodName := ⟨RX7, "byteAt", "(I)I"⟩
def wsX7_byteAt : List Cond := .code yX7_byteAt cX7_byteAt 2 (some .int) :: sr_G
theorem dX7_byteAt_0 : decode cX7_byteAt 0 = .ok (.iload_n 1, 1) := by decide +kernel
theorem dX7_byteAt_1 : decode cX7_byteAt 1 = .ok (.ifCond .lt 24, 3) := by decide +kernel
theorem dX7_byteAt_4 : decode cX7_byteAt 4 = .ok (.iload_n 1, 1) := by decide +kernel
theorem dX7_byteAt_5 : decode cX7_byteAt 5 = .ok (.aload_n 0, 1) := by decide +kernel
theorem dX7_byteAt_6 : decode cX7_byteAt 6 = .ok (.getfield 35, 3) := by decide +kernel
theorem dX7_byteAt_9 : decode cX7_byteAt 9 = .ok (.if_icmp .ge 16, 3) := by decide +kernel
theorem dX7_byteAt_12 : decode cX7_byteAt 12 = .ok (.aload_n 0, 1) := by decide +kernel
theorem dX7_byteAt_13 : decode cX7_byteAt 13 = .ok (.getfield 9, 3) := by decide +kernel
theorem dX7_byteAt_16 : decode cX7_byteAt 16 = .ok (.iload_n 1, 1) := by decide +kernel
theorem dX7_byteAt_17 : decode cX7_byteAt 17 = .ok (.baload, 1) := by decide +kernel
theorem dX7_byteAt_18 : decode cX7_byteAt 18 = .ok (.sipush 255, 3) := by decide +kernel
theorem dX7_byteAt_21 : decode cX7_byteAt 21 = .ok (.iand, 1) := by decide +kernel
theorem dX7_byteAt_22 : decode cX7_byteAt 22 = .ok (.goto 4, 3) := by decide +kernel
theorem dX7_byteAt_25 : decode cX7_byteAt 25 = .ok (.iconst (-1), 1) := by decide +kernel
theorem dX7_byteAt_26 : decode cX7_byteAt 26 = .ok (.ireturn, 1) := by decide +kernel
def rmX7_byteAt (mc ms : Nat) : Room := { frames := 0, cells := mc, slots := ms, locals := 0 }
abbrev cX7_isString : ByteArray := prog_10_method_7_code
def yX7_isString : MethodName := ⟨RX7, "isString", "(I)Z"⟩
def wsX7_isString : List Cond := .code yX7_isString cX7_isString 2 (some .boolean) :: sr_G
theorem dX7_isString_0 : decode cX7_isString 0 = .ok (.aload_n 0, 1) := by decide +kernel
theorem dX7_isString_1 : decode cX7_isString 1 = .ok (.iload_n 1, 1) := by decide +kernel
theorem dX7_isString_2 : decode cX7_isString 2 = .ok (.invokevirtual 42, 3) := by decide +kernel
theorem dX7_isString_5 : decode cX7_isString 5 = .ok (.bipush 34, 2) := by decide +kernel
theorem dX7_isString_7 : decode cX7_isString 7 = .ok (.if_icmp .ne 7, 3) := by decide +kernel
theorem dX7_isString_10 : decode cX7_isString 10 = .ok (.iconst 1, 1) := by decide +kernel
theorem dX7_isString_11 : decode cX7_isString 11 = .ok (.goto 4, 3) := by decide +kernel
theorem dX7_isString_14 : decode cX7_isString 14 = .ok (.iconst 0, 1) := by decide +kernel
theorem dX7_isString_15 : decode cX7_isString 15 = .ok (.ireturn, 1) := by decide +kernel
def rmX7_isString (mc ms : Nat) : Room := { frames := 1, cells := mc, slots := ms, locals := 21 }
abbrev cX7_isList : ByteArray := prog_10_method_8_code
def yX7_isList : MethodName := ⟨RX7, "isList", "(I)Z"⟩
def wsX7_isList : List Cond := .code yX7_isList cX7_isList 2 (some .boolean) :: sr_G
theorem dX7_isList_0 : decode cX7_isList 0 = .ok (.aload_n 0, 1) := by decide +kernel
theorem dX7_isList_1 : decode cX7_isList 1 = .ok (.iload_n 1, 1) := by decide +kernel
theorem dX7_isList_2 : decode cX7_isList 2 = .ok (.invokevirtual 42, 3) := by decide +kernel
theorem dX7_isList_5 : decode cX7_isList 5 = .ok (.bipush 91, 2) := by decide +kernel
theorem dX7_isList_7 : decode cX7_isList 7 = .ok (.if_icmp .ne 7, 3) := by decide +kernel
theorem dX7_isList_10 : decode cX7_isList 10 = .ok (.iconst 1, 1) := by decide +kernel
theorem dX7_isList_11 : decode cX7_isList 11 = .ok (.goto 4, 3) := by decide +kernel
theorem dX7_isList_14 : decode cX7_isList 14 = .ok (.iconst 0, 1) := by decide +kernel
theorem dX7_isList_15 : decode cX7_isList 15 = .ok (.ireturn, 1) := by decide +kernel
def rmX7_isList (mc ms : Nat) : Room := { frames := 1, cells := mc, slots := ms, locals := 21 }
abbrev cX7_isObject : ByteArray := prog_10_method_9_code
def yX7_isObject : MethodName := ⟨RX7, "isObject", "(I)Z"⟩
def wsX7_isObject : List Cond := .code yX7_isObject cX7_isObject 2 (some .boolean) :: sr_G
theorem dX7_isObject_0 : decode cX7_isObject 0 = .ok (.aload_n 0, 1) := by decide +kernel
theorem dX7_isObject_1 : decode cX7_isObject 1 = .ok (.iload_n 1, 1) := by decide +kernel
theorem dX7_isObject_2 : decode cX7_isObject 2 = .ok (.invokevirtual 42, 3) := by decide +kernel
theorem dX7_isObject_5 : decode cX7_isObject 5 = .ok (.bipush 123, 2) := by decide +kernel
theorem dX7_isObject_7 : decode cX7_isObject 7 = .ok (.if_icmp .ne 7, 3) := by decide +kernel
theorem dX7_isObject_10 : decode cX7_isObject 10 = .ok (.iconst 1, 1) := by decide +kernel
theorem dX7_isObject_11 : decode cX7_isObject 11 = .ok (.goto 4, 3) := by decide +kernel
theorem dX7_isObject_14 : decode cX7_isObject 14 = .ok (.iconst 0, 1) := by decide +kernel
theorem dX7_isObject_15 : decode cX7_isObject 15 = .ok (.ireturn, 1) := by decide +kernel
def rmX7_isObject (mc ms : Nat) : Room := { frames := 1, cells := mc, slots := ms, locals := 21 }
abbrev cX7_isNumber : ByteArray := prog_10_method_10_code
def yX7_isNumber : MethodName := ⟨RX7, "isNumber", "(I)Z"⟩
def wsX7_isNumber : List Cond := .code yX7_isNumber cX7_isNumber 3 (some .boolean) :: sr_G
theorem dX7_isNumber_0 : decode cX7_isNumber 0 = .ok (.aload_n 0, 1) := by decide +kernel
theorem dX7_isNumber_1 : decode cX7_isNumber 1 = .ok (.iload_n 1, 1) := by decide +kernel
theorem dX7_isNumber_2 : decode cX7_isNumber 2 = .ok (.invokevirtual 42, 3) := by decide +kernel
theorem dX7_isNumber_5 : decode cX7_isNumber 5 = .ok (.istore_n 2, 1) := by decide +kernel
theorem dX7_isNumber_6 : decode cX7_isNumber 6 = .ok (.iload_n 2, 1) := by decide +kernel
theorem dX7_isNumber_7 : decode cX7_isNumber 7 = .ok (.bipush 45, 2) := by decide +kernel
theorem dX7_isNumber_9 : decode cX7_isNumber 9 = .ok (.if_icmp .eq 10, 3) := by decide +kernel
theorem dX7_isNumber_12 : decode cX7_isNumber 12 = .ok (.iload_n 2, 1) := by decide +kernel
theorem dX7_isNumber_13 : decode cX7_isNumber 13 = .ok (.invokestatic 46, 3) := by decide +kernel
theorem dX7_isNumber_16 : decode cX7_isNumber 16 = .ok (.ifCond .eq 7, 3) := by decide +kernel
theorem dX7_isNumber_19 : decode cX7_isNumber 19 = .ok (.iconst 1, 1) := by decide +kernel
theorem dX7_isNumber_20 : decode cX7_isNumber 20 = .ok (.goto 4, 3) := by decide +kernel
theorem dX7_isNumber_23 : decode cX7_isNumber 23 = .ok (.iconst 0, 1) := by decide +kernel
theorem dX7_isNumber_24 : decode cX7_isNumber 24 = .ok (.ireturn, 1) := by decide +kernel
def rmX7_isNumber (mc ms : Nat) : Room := { frames := 1, cells := mc, slots := ms, locals := 21 }
abbrev cX7_inner : ByteArray := prog_10_method_11_code
def yX7_inner : MethodName := ⟨RX7, "inner", "(I)I"⟩
def wsX7_inner : List Cond := .code yX7_inner cX7_inner 2 (some .int) :: sr_G
theorem dX7_inner_0 : decode cX7_inner 0 = .ok (.aload_n 0, 1) := by decide +kernel
theorem dX7_inner_1 : decode cX7_inner 1 = .ok (.getfield 18, 3) := by decide +kernel
theorem dX7_inner_4 : decode cX7_inner 4 = .ok (.iload_n 1, 1) := by decide +kernel
theorem dX7_inner_5 : decode cX7_inner 5 = .ok (.invokestatic 50, 3) := by decide +kernel
theorem dX7_inner_8 : decode cX7_inner 8 = .ok (.ireturn, 1) := by decide +kernel
def rmX7_inner (mc ms : Nat) : Room := { frames := 1, cells := mc, slots := ms, locals := 21 }
abbrev cX7_next : ByteArray := prog_10_method_12_code
def yX7_next : MethodName := ⟨RX7, "next", "(I)I"⟩
def wsX7_next : List Cond := .code yX7_next cX7_next 2 (some .int) :: sr_G
theorem dX7_next_0 : decode cX7_next 0 = .ok (.aload_n 0, 1) := by decide +kernel
theorem dX7_next_1 : decode cX7_next 1 = .ok (.getfield 22, 3) := by decide +kernel
theorem dX7_next_4 : decode cX7_next 4 = .ok (.iload_n 1, 1) := by decide +kernel
theorem dX7_next_5 : decode cX7_next 5 = .ok (.invokestatic 50, 3) := by decide +kernel
theorem dX7_next_8 : decode cX7_next 8 = .ok (.ireturn, 1) := by decide +kernel
def rmX7_next (mc ms : Nat) : Room := { frames := 1, cells := mc, slots := ms, locals := 21 }
abbrev cX7_amount : ByteArray := prog_10_method_13_code
def yX7_amount : MethodName := ⟨RX7, "amount", "(I)I"⟩
def wsX7_amount : List Cond := .code yX7_amount cX7_amount 2 (some .int) :: sr_G
theorem dX7_amount_0 : decode cX7_amount 0 = .ok (.aload_n 0, 1) := by decide +kernel
theorem dX7_amount_1 : decode cX7_amount 1 = .ok (.getfield 25, 3) := by decide +kernel
theorem dX7_amount_4 : decode cX7_amount 4 = .ok (.iload_n 1, 1) := by decide +kernel
theorem dX7_amount_5 : decode cX7_amount 5 = .ok (.invokestatic 50, 3) := by decide +kernel
theorem dX7_amount_8 : decode cX7_amount 8 = .ok (.ireturn, 1) := by decide +kernel
def rmX7_amount (mc ms : Nat) : Room := { frames := 1, cells := mc, slots := ms, locals := 21 }
abbrev cX7_saidAt : ByteArray := prog_10_method_14_code
def yX7_saidAt : MethodName := ⟨RX7, "saidAt", "(I)I"⟩
def wsX7_saidAt : List Cond := .code yX7_saidAt cX7_saidAt 2 (some .int) :: sr_G
theorem dX7_saidAt_0 : decode cX7_saidAt 0 = .ok (.iload_n 1, 1) := by decide +kernel
theorem dX7_saidAt_1 : decode cX7_saidAt 1 = .ok (.ifCond .lt 25, 3) := by decide +kernel
theorem dX7_saidAt_4 : decode cX7_saidAt 4 = .ok (.iload_n 1, 1) := by decide +kernel
theorem dX7_saidAt_5 : decode cX7_saidAt 5 = .ok (.aload_n 0, 1) := by decide +kernel
theorem dX7_saidAt_6 : decode cX7_saidAt 6 = .ok (.getfield 15, 3) := by decide +kernel
theorem dX7_saidAt_9 : decode cX7_saidAt 9 = .ok (.arraylength, 1) := by decide +kernel
theorem dX7_saidAt_10 : decode cX7_saidAt 10 = .ok (.if_icmp .ge 16, 3) := by decide +kernel
theorem dX7_saidAt_13 : decode cX7_saidAt 13 = .ok (.aload_n 0, 1) := by decide +kernel
theorem dX7_saidAt_14 : decode cX7_saidAt 14 = .ok (.getfield 15, 3) := by decide +kernel
theorem dX7_saidAt_17 : decode cX7_saidAt 17 = .ok (.iload_n 1, 1) := by decide +kernel
theorem dX7_saidAt_18 : decode cX7_saidAt 18 = .ok (.baload, 1) := by decide +kernel
theorem dX7_saidAt_19 : decode cX7_saidAt 19 = .ok (.sipush 255, 3) := by decide +kernel
theorem dX7_saidAt_22 : decode cX7_saidAt 22 = .ok (.iand, 1) := by decide +kernel
theorem dX7_saidAt_23 : decode cX7_saidAt 23 = .ok (.goto 4, 3) := by decide +kernel
theorem dX7_saidAt_26 : decode cX7_saidAt 26 = .ok (.iconst (-1), 1) := by decide +kernel
theorem dX7_saidAt_27 : decode cX7_saidAt 27 = .ok (.ireturn, 1) := by decide +kernel
def rmX7_saidAt (mc ms : Nat) : Room := { frames := 0, cells := mc, slots := ms, locals := 0 }
abbrev cX7_says : ByteArray := prog_10_method_15_code
def yX7_says : MethodName := ⟨RX7, "says", "(ILjava/lang/String;)Z"⟩
def wsX7_says : List Cond := .code yX7_says cX7_says 4 (some .boolean) :: sr_G
theorem dX7_says_0 : decode cX7_says 0 = .ok (.aload_n 0, 1) := by decide +kernel
theorem dX7_says_1 : decode cX7_says 1 = .ok (.iload_n 1, 1) := by decide +kernel
theorem dX7_says_2 : decode cX7_says 2 = .ok (.invokevirtual 42, 3) := by decide +kernel
theorem dX7_says_5 : decode cX7_says 5 = .ok (.bipush 34, 2) := by decide +kernel
theorem dX7_says_7 : decode cX7_says 7 = .ok (.if_icmp .ne 18, 3) := by decide +kernel
theorem dX7_says_10 : decode cX7_says 10 = .ok (.aload_n 0, 1) := by decide +kernel
theorem dX7_says_11 : decode cX7_says 11 = .ok (.getfield 25, 3) := by decide +kernel
theorem dX7_says_14 : decode cX7_says 14 = .ok (.iload_n 1, 1) := by decide +kernel
theorem dX7_says_15 : decode cX7_says 15 = .ok (.invokestatic 50, 3) := by decide +kernel
theorem dX7_says_18 : decode cX7_says 18 = .ok (.aload_n 2, 1) := by decide +kernel
theorem dX7_says_19 : decode cX7_says 19 = .ok (.invokevirtual 54, 3) := by decide +kernel
theorem dX7_says_22 : decode cX7_says 22 = .ok (.if_icmp .eq 5, 3) := by decide +kernel
theorem dX7_says_25 : decode cX7_says 25 = .ok (.iconst 0, 1) := by decide +kernel
theorem dX7_says_26 : decode cX7_says 26 = .ok (.ireturn, 1) := by decide +kernel
theorem dX7_says_27 : decode cX7_says 27 = .ok (.iconst 0, 1) := by decide +kernel
theorem dX7_says_28 : decode cX7_says 28 = .ok (.istore_n 3, 1) := by decide +kernel
theorem dX7_says_29 : decode cX7_says 29 = .ok (.iload_n 3, 1) := by decide +kernel
theorem dX7_says_30 : decode cX7_says 30 = .ok (.aload_n 2, 1) := by decide +kernel
theorem dX7_says_31 : decode cX7_says 31 = .ok (.invokevirtual 54, 3) := by decide +kernel
theorem dX7_says_34 : decode cX7_says 34 = .ok (.if_icmp .ge 26, 3) := by decide +kernel
theorem dX7_says_37 : decode cX7_says 37 = .ok (.aload_n 0, 1) := by decide +kernel
theorem dX7_says_38 : decode cX7_says 38 = .ok (.iload_n 1, 1) := by decide +kernel
theorem dX7_says_39 : decode cX7_says 39 = .ok (.iload_n 3, 1) := by decide +kernel
theorem dX7_says_40 : decode cX7_says 40 = .ok (.iadd, 1) := by decide +kernel
theorem dX7_says_41 : decode cX7_says 41 = .ok (.invokevirtual 59, 3) := by decide +kernel
theorem dX7_says_44 : decode cX7_says 44 = .ok (.aload_n 2, 1) := by decide +kernel
theorem dX7_says_45 : decode cX7_says 45 = .ok (.iload_n 3, 1) := by decide +kernel
theorem dX7_says_46 : decode cX7_says 46 = .ok (.invokevirtual 62, 3) := by decide +kernel
theorem dX7_says_49 : decode cX7_says 49 = .ok (.if_icmp .eq 5, 3) := by decide +kernel
theorem dX7_says_52 : decode cX7_says 52 = .ok (.iconst 0, 1) := by decide +kernel
theorem dX7_says_53 : decode cX7_says 53 = .ok (.ireturn, 1) := by decide +kernel
theorem dX7_says_54 : decode cX7_says 54 = .ok (.iinc 3 1, 3) := by decide +kernel
theorem dX7_says_57 : decode cX7_says 57 = .ok (.goto (-28), 3) := by decide +kernel
theorem dX7_says_60 : decode cX7_says 60 = .ok (.iconst 1, 1) := by decide +kernel
theorem dX7_says_61 : decode cX7_says 61 = .ok (.ireturn, 1) := by decide +kernel
def rmX7_says (mc ms : Nat) : Room := { frames := 4, cells := mc, slots := ms, locals := 85 }
abbrev cX7_saysSame : ByteArray := prog_10_method_16_code
def yX7_saysSame : MethodName := ⟨RX7, "saysSame", "(II)Z"⟩
def wsX7_saysSame : List Cond := .code yX7_saysSame cX7_saysSame 5 (some .boolean) :: sr_G
theorem dX7_saysSame_0 : decode cX7_saysSame 0 = .ok (.aload_n 0, 1) := by decide +kernel
theorem dX7_saysSame_1 : decode cX7_saysSame 1 = .ok (.getfield 25, 3) := by decide +kernel
theorem dX7_saysSame_4 : decode cX7_saysSame 4 = .ok (.iload_n 1, 1) := by decide +kernel
theorem dX7_saysSame_5 : decode cX7_saysSame 5 = .ok (.invokestatic 50, 3) := by decide +kernel
theorem dX7_saysSame_8 : decode cX7_saysSame 8 = .ok (.istore_n 3, 1) := by decide +kernel
theorem dX7_saysSame_9 : decode cX7_saysSame 9 = .ok (.iload_n 3, 1) := by decide +kernel
theorem dX7_saysSame_10 : decode cX7_saysSame 10 = .ok (.aload_n 0, 1) := by decide +kernel
theorem dX7_saysSame_11 : decode cX7_saysSame 11 = .ok (.getfield 25, 3) := by decide +kernel
theorem dX7_saysSame_14 : decode cX7_saysSame 14 = .ok (.iload_n 2, 1) := by decide +kernel
theorem dX7_saysSame_15 : decode cX7_saysSame 15 = .ok (.invokestatic 50, 3) := by decide +kernel
theorem dX7_saysSame_18 : decode cX7_saysSame 18 = .ok (.if_icmp .eq 5, 3) := by decide +kernel
theorem dX7_saysSame_21 : decode cX7_saysSame 21 = .ok (.iconst 0, 1) := by decide +kernel
theorem dX7_saysSame_22 : decode cX7_saysSame 22 = .ok (.ireturn, 1) := by decide +kernel
theorem dX7_saysSame_23 : decode cX7_saysSame 23 = .ok (.iconst 0, 1) := by decide +kernel
theorem dX7_saysSame_24 : decode cX7_saysSame 24 = .ok (.istore 4, 2) := by decide +kernel
theorem dX7_saysSame_26 : decode cX7_saysSame 26 = .ok (.iload 4, 2) := by decide +kernel
theorem dX7_saysSame_28 : decode cX7_saysSame 28 = .ok (.iload_n 3, 1) := by decide +kernel
theorem dX7_saysSame_29 : decode cX7_saysSame 29 = .ok (.if_icmp .ge 30, 3) := by decide +kernel
theorem dX7_saysSame_32 : decode cX7_saysSame 32 = .ok (.aload_n 0, 1) := by decide +kernel
theorem dX7_saysSame_33 : decode cX7_saysSame 33 = .ok (.iload_n 1, 1) := by decide +kernel
theorem dX7_saysSame_34 : decode cX7_saysSame 34 = .ok (.iload 4, 2) := by decide +kernel
theorem dX7_saysSame_36 : decode cX7_saysSame 36 = .ok (.iadd, 1) := by decide +kernel
theorem dX7_saysSame_37 : decode cX7_saysSame 37 = .ok (.invokevirtual 59, 3) := by decide +kernel
theorem dX7_saysSame_40 : decode cX7_saysSame 40 = .ok (.aload_n 0, 1) := by decide +kernel
theorem dX7_saysSame_41 : decode cX7_saysSame 41 = .ok (.iload_n 2, 1) := by decide +kernel
theorem dX7_saysSame_42 : decode cX7_saysSame 42 = .ok (.iload 4, 2) := by decide +kernel
theorem dX7_saysSame_44 : decode cX7_saysSame 44 = .ok (.iadd, 1) := by decide +kernel
theorem dX7_saysSame_45 : decode cX7_saysSame 45 = .ok (.invokevirtual 59, 3) := by decide +kernel
theorem dX7_saysSame_48 : decode cX7_saysSame 48 = .ok (.if_icmp .eq 5, 3) := by decide +kernel
theorem dX7_saysSame_51 : decode cX7_saysSame 51 = .ok (.iconst 0, 1) := by decide +kernel
theorem dX7_saysSame_52 : decode cX7_saysSame 52 = .ok (.ireturn, 1) := by decide +kernel
theorem dX7_saysSame_53 : decode cX7_saysSame 53 = .ok (.iinc 4 1, 3) := by decide +kernel
theorem dX7_saysSame_56 : decode cX7_saysSame 56 = .ok (.goto (-30), 3) := by decide +kernel
theorem dX7_saysSame_59 : decode cX7_saysSame 59 = .ok (.iconst 1, 1) := by decide +kernel
theorem dX7_saysSame_60 : decode cX7_saysSame 60 = .ok (.ireturn, 1) := by decide +kernel
def rmX7_saysSame (mc ms : Nat) : Room := { frames := 1, cells := mc, slots := ms, locals := 21 }
abbrev cX7_hash : ByteArray := prog_10_method_17_code
def yX7_hash : MethodName := ⟨RX7, "hash", "(I)I"⟩
def wsX7_hash : List Cond := .code yX7_hash cX7_hash 5 (some .int) :: sr_G
theorem dX7_hash_0 : decode cX7_hash 0 = .ok (.aload_n 0, 1) := by decide +kernel
theorem dX7_hash_1 : decode cX7_hash 1 = .ok (.getfield 25, 3) := by decide +kernel
theorem dX7_hash_4 : decode cX7_hash 4 = .ok (.iload_n 1, 1) := by decide +kernel
theorem dX7_hash_5 : decode cX7_hash 5 = .ok (.invokestatic 50, 3) := by decide +kernel
theorem dX7_hash_8 : decode cX7_hash 8 = .ok (.istore_n 2, 1) := by decide +kernel
theorem dX7_hash_9 : decode cX7_hash 9 = .ok (.iload_n 2, 1) := by decide +kernel
theorem dX7_hash_10 : decode cX7_hash 10 = .ok (.istore_n 3, 1) := by decide +kernel
theorem dX7_hash_11 : decode cX7_hash 11 = .ok (.iconst 0, 1) := by decide +kernel
theorem dX7_hash_12 : decode cX7_hash 12 = .ok (.istore 4, 2) := by decide +kernel
theorem dX7_hash_14 : decode cX7_hash 14 = .ok (.iload 4, 2) := by decide +kernel
theorem dX7_hash_16 : decode cX7_hash 16 = .ok (.iload_n 2, 1) := by decide +kernel
theorem dX7_hash_17 : decode cX7_hash 17 = .ok (.if_icmp .ge 23, 3) := by decide +kernel
theorem dX7_hash_20 : decode cX7_hash 20 = .ok (.iload_n 3, 1) := by decide +kernel
theorem dX7_hash_21 : decode cX7_hash 21 = .ok (.bipush 31, 2) := by decide +kernel
theorem dX7_hash_23 : decode cX7_hash 23 = .ok (.imul, 1) := by decide +kernel
theorem dX7_hash_24 : decode cX7_hash 24 = .ok (.aload_n 0, 1) := by decide +kernel
theorem dX7_hash_25 : decode cX7_hash 25 = .ok (.iload_n 1, 1) := by decide +kernel
theorem dX7_hash_26 : decode cX7_hash 26 = .ok (.iload 4, 2) := by decide +kernel
theorem dX7_hash_28 : decode cX7_hash 28 = .ok (.iadd, 1) := by decide +kernel
theorem dX7_hash_29 : decode cX7_hash 29 = .ok (.invokevirtual 59, 3) := by decide +kernel
theorem dX7_hash_32 : decode cX7_hash 32 = .ok (.iadd, 1) := by decide +kernel
theorem dX7_hash_33 : decode cX7_hash 33 = .ok (.istore_n 3, 1) := by decide +kernel
theorem dX7_hash_34 : decode cX7_hash 34 = .ok (.iinc 4 1, 3) := by decide +kernel
theorem dX7_hash_37 : decode cX7_hash 37 = .ok (.goto (-23), 3) := by decide +kernel
theorem dX7_hash_40 : decode cX7_hash 40 = .ok (.iload_n 3, 1) := by decide +kernel
theorem dX7_hash_41 : decode cX7_hash 41 = .ok (.ireturn, 1) := by decide +kernel
def rmX7_hash (mc ms : Nat) : Room := { frames := 1, cells := mc, slots := ms, locals := 21 }
abbrev cX7_saysName : ByteArray := prog_10_method_18_code
def yX7_saysName : MethodName := ⟨RX7, "saysName", "(I)Z"⟩
def wsX7_saysName : List Cond := .code yX7_saysName cX7_saysName 5 (some .boolean) :: sr_G
theorem dX7_saysName_0 : decode cX7_saysName 0 = .ok (.aload_n 0, 1) := by decide +kernel
theorem dX7_saysName_1 : decode cX7_saysName 1 = .ok (.iload_n 1, 1) := by decide +kernel
theorem dX7_saysName_2 : decode cX7_saysName 2 = .ok (.invokevirtual 66, 3) := by decide +kernel
theorem dX7_saysName_5 : decode cX7_saysName 5 = .ok (.istore_n 2, 1) := by decide +kernel
theorem dX7_saysName_6 : decode cX7_saysName 6 = .ok (.aload_n 0, 1) := by decide +kernel
theorem dX7_saysName_7 : decode cX7_saysName 7 = .ok (.iload_n 1, 1) := by decide +kernel
theorem dX7_saysName_8 : decode cX7_saysName 8 = .ok (.invokevirtual 68, 3) := by decide +kernel
theorem dX7_saysName_11 : decode cX7_saysName 11 = .ok (.ifCond .eq 25, 3) := by decide +kernel
theorem dX7_saysName_14 : decode cX7_saysName 14 = .ok (.iload_n 2, 1) := by decide +kernel
theorem dX7_saysName_15 : decode cX7_saysName 15 = .ok (.iconst 1, 1) := by decide +kernel
theorem dX7_saysName_16 : decode cX7_saysName 16 = .ok (.if_icmp .lt 20, 3) := by decide +kernel
theorem dX7_saysName_19 : decode cX7_saysName 19 = .ok (.iload_n 2, 1) := by decide +kernel
theorem dX7_saysName_20 : decode cX7_saysName 20 = .ok (.bipush 32, 2) := by decide +kernel
theorem dX7_saysName_22 : decode cX7_saysName 22 = .ok (.if_icmp .gt 14, 3) := by decide +kernel
theorem dX7_saysName_25 : decode cX7_saysName 25 = .ok (.aload_n 0, 1) := by decide +kernel
theorem dX7_saysName_26 : decode cX7_saysName 26 = .ok (.iload_n 1, 1) := by decide +kernel
theorem dX7_saysName_27 : decode cX7_saysName 27 = .ok (.invokevirtual 59, 3) := by decide +kernel
theorem dX7_saysName_30 : decode cX7_saysName 30 = .ok (.invokestatic 46, 3) := by decide +kernel
theorem dX7_saysName_33 : decode cX7_saysName 33 = .ok (.ifCond .eq 5, 3) := by decide +kernel
theorem dX7_saysName_36 : decode cX7_saysName 36 = .ok (.iconst 0, 1) := by decide +kernel
theorem dX7_saysName_37 : decode cX7_saysName 37 = .ok (.ireturn, 1) := by decide +kernel
theorem dX7_saysName_38 : decode cX7_saysName 38 = .ok (.iconst 0, 1) := by decide +kernel
theorem dX7_saysName_39 : decode cX7_saysName 39 = .ok (.istore_n 3, 1) := by decide +kernel
theorem dX7_saysName_40 : decode cX7_saysName 40 = .ok (.iload_n 3, 1) := by decide +kernel
theorem dX7_saysName_41 : decode cX7_saysName 41 = .ok (.iload_n 2, 1) := by decide +kernel
theorem dX7_saysName_42 : decode cX7_saysName 42 = .ok (.if_icmp .ge 43, 3) := by decide +kernel
theorem dX7_saysName_45 : decode cX7_saysName 45 = .ok (.aload_n 0, 1) := by decide +kernel
theorem dX7_saysName_46 : decode cX7_saysName 46 = .ok (.iload_n 1, 1) := by decide +kernel
theorem dX7_saysName_47 : decode cX7_saysName 47 = .ok (.iload_n 3, 1) := by decide +kernel
theorem dX7_saysName_48 : decode cX7_saysName 48 = .ok (.iadd, 1) := by decide +kernel
theorem dX7_saysName_49 : decode cX7_saysName 49 = .ok (.invokevirtual 59, 3) := by decide +kernel
theorem dX7_saysName_52 : decode cX7_saysName 52 = .ok (.istore 4, 2) := by decide +kernel
theorem dX7_saysName_54 : decode cX7_saysName 54 = .ok (.iload 4, 2) := by decide +kernel
theorem dX7_saysName_56 : decode cX7_saysName 56 = .ok (.invokestatic 71, 3) := by decide +kernel
theorem dX7_saysName_59 : decode cX7_saysName 59 = .ok (.ifCond .ne 20, 3) := by decide +kernel
theorem dX7_saysName_62 : decode cX7_saysName 62 = .ok (.iload 4, 2) := by decide +kernel
theorem dX7_saysName_64 : decode cX7_saysName 64 = .ok (.invokestatic 46, 3) := by decide +kernel
theorem dX7_saysName_67 : decode cX7_saysName 67 = .ok (.ifCond .ne 12, 3) := by decide +kernel
theorem dX7_saysName_70 : decode cX7_saysName 70 = .ok (.iload 4, 2) := by decide +kernel
theorem dX7_saysName_72 : decode cX7_saysName 72 = .ok (.bipush 95, 2) := by decide +kernel
theorem dX7_saysName_74 : decode cX7_saysName 74 = .ok (.if_icmp .eq 5, 3) := by decide +kernel
theorem dX7_saysName_77 : decode cX7_saysName 77 = .ok (.iconst 0, 1) := by decide +kernel
theorem dX7_saysName_78 : decode cX7_saysName 78 = .ok (.ireturn, 1) := by decide +kernel
theorem dX7_saysName_79 : decode cX7_saysName 79 = .ok (.iinc 3 1, 3) := by decide +kernel
theorem dX7_saysName_82 : decode cX7_saysName 82 = .ok (.goto (-42), 3) := by decide +kernel
theorem dX7_saysName_85 : decode cX7_saysName 85 = .ok (.iconst 1, 1) := by decide +kernel
theorem dX7_saysName_86 : decode cX7_saysName 86 = .ok (.ireturn, 1) := by decide +kernel
def rmX7_saysName (mc ms : Nat) : Room := { frames := 2, cells := mc, slots := ms, locals := 42 }
abbrev cX7_member : ByteArray := prog_10_method_19_code
def yX7_member : MethodName := ⟨RX7, "member", "(ILjava/lang/String;)I"⟩
def wsX7_member : List Cond := .code yX7_member cX7_member 5 (some .int) :: sr_G
theorem dX7_member_0 : decode cX7_member 0 = .ok (.aload_n 0, 1) := by decide +kernel
theorem dX7_member_1 : decode cX7_member 1 = .ok (.iload_n 1, 1) := by decide +kernel
theorem dX7_member_2 : decode cX7_member 2 = .ok (.invokevirtual 74, 3) := by decide +kernel
theorem dX7_member_5 : decode cX7_member 5 = .ok (.istore_n 3, 1) := by decide +kernel
theorem dX7_member_6 : decode cX7_member 6 = .ok (.iconst 0, 1) := by decide +kernel
theorem dX7_member_7 : decode cX7_member 7 = .ok (.istore 4, 2) := by decide +kernel
theorem dX7_member_9 : decode cX7_member 9 = .ok (.iload 4, 2) := by decide +kernel
theorem dX7_member_11 : decode cX7_member 11 = .ok (.aload_n 0, 1) := by decide +kernel
theorem dX7_member_12 : decode cX7_member 12 = .ok (.iload_n 1, 1) := by decide +kernel
theorem dX7_member_13 : decode cX7_member 13 = .ok (.invokevirtual 66, 3) := by decide +kernel
theorem dX7_member_16 : decode cX7_member 16 = .ok (.if_icmp .ge 30, 3) := by decide +kernel
theorem dX7_member_19 : decode cX7_member 19 = .ok (.aload_n 0, 1) := by decide +kernel
theorem dX7_member_20 : decode cX7_member 20 = .ok (.iload_n 3, 1) := by decide +kernel
theorem dX7_member_21 : decode cX7_member 21 = .ok (.aload_n 2, 1) := by decide +kernel
theorem dX7_member_22 : decode cX7_member 22 = .ok (.invokevirtual 76, 3) := by decide +kernel
theorem dX7_member_25 : decode cX7_member 25 = .ok (.ifCond .eq 9, 3) := by decide +kernel
theorem dX7_member_28 : decode cX7_member 28 = .ok (.aload_n 0, 1) := by decide +kernel
theorem dX7_member_29 : decode cX7_member 29 = .ok (.iload_n 3, 1) := by decide +kernel
theorem dX7_member_30 : decode cX7_member 30 = .ok (.invokevirtual 74, 3) := by decide +kernel
theorem dX7_member_33 : decode cX7_member 33 = .ok (.ireturn, 1) := by decide +kernel
theorem dX7_member_34 : decode cX7_member 34 = .ok (.aload_n 0, 1) := by decide +kernel
theorem dX7_member_35 : decode cX7_member 35 = .ok (.iload_n 3, 1) := by decide +kernel
theorem dX7_member_36 : decode cX7_member 36 = .ok (.invokevirtual 80, 3) := by decide +kernel
theorem dX7_member_39 : decode cX7_member 39 = .ok (.istore_n 3, 1) := by decide +kernel
theorem dX7_member_40 : decode cX7_member 40 = .ok (.iinc 4 1, 3) := by decide +kernel
theorem dX7_member_43 : decode cX7_member 43 = .ok (.goto (-34), 3) := by decide +kernel
theorem dX7_member_46 : decode cX7_member 46 = .ok (.iconst (-1), 1) := by decide +kernel
theorem dX7_member_47 : decode cX7_member 47 = .ok (.ireturn, 1) := by decide +kernel
def rmX7_member (mc ms : Nat) : Room := { frames := 5, cells := mc, slots := ms, locals := 108 }
abbrev cX7_numberAt : ByteArray := prog_10_method_20_code
def yX7_numberAt : MethodName := ⟨RX7, "numberAt", "(I)J"⟩
def wsX7_numberAt : List Cond := .code yX7_numberAt cX7_numberAt 6 (some .long) :: sr_G
theorem dX7_numberAt_0 : decode cX7_numberAt 0 = .ok (.aload_n 0, 1) := by decide +kernel
theorem dX7_numberAt_1 : decode cX7_numberAt 1 = .ok (.iload_n 1, 1) := by decide +kernel
theorem dX7_numberAt_2 : decode cX7_numberAt 2 = .ok (.invokevirtual 42, 3) := by decide +kernel
theorem dX7_numberAt_5 : decode cX7_numberAt 5 = .ok (.bipush 45, 2) := by decide +kernel
theorem dX7_numberAt_7 : decode cX7_numberAt 7 = .ok (.if_icmp .ne 7, 3) := by decide +kernel
theorem dX7_numberAt_10 : decode cX7_numberAt 10 = .ok (.iconst 1, 1) := by decide +kernel
theorem dX7_numberAt_11 : decode cX7_numberAt 11 = .ok (.goto 4, 3) := by decide +kernel
theorem dX7_numberAt_14 : decode cX7_numberAt 14 = .ok (.iconst 0, 1) := by decide +kernel
theorem dX7_numberAt_15 : decode cX7_numberAt 15 = .ok (.istore_n 2, 1) := by decide +kernel
theorem dX7_numberAt_16 : decode cX7_numberAt 16 = .ok (.lconst 0, 1) := by decide +kernel
theorem dX7_numberAt_17 : decode cX7_numberAt 17 = .ok (.lstore_n 3, 1) := by decide +kernel
theorem dX7_numberAt_18 : decode cX7_numberAt 18 = .ok (.iload_n 2, 1) := by decide +kernel
theorem dX7_numberAt_19 : decode cX7_numberAt 19 = .ok (.ifCond .eq 9, 3) := by decide +kernel
theorem dX7_numberAt_22 : decode cX7_numberAt 22 = .ok (.iload_n 1, 1) := by decide +kernel
theorem dX7_numberAt_23 : decode cX7_numberAt 23 = .ok (.iconst 1, 1) := by decide +kernel
theorem dX7_numberAt_24 : decode cX7_numberAt 24 = .ok (.iadd, 1) := by decide +kernel
theorem dX7_numberAt_25 : decode cX7_numberAt 25 = .ok (.goto 4, 3) := by decide +kernel
theorem dX7_numberAt_28 : decode cX7_numberAt 28 = .ok (.iload_n 1, 1) := by decide +kernel
theorem dX7_numberAt_29 : decode cX7_numberAt 29 = .ok (.istore 5, 2) := by decide +kernel
theorem dX7_numberAt_31 : decode cX7_numberAt 31 = .ok (.iload 5, 2) := by decide +kernel
theorem dX7_numberAt_33 : decode cX7_numberAt 33 = .ok (.aload_n 0, 1) := by decide +kernel
theorem dX7_numberAt_34 : decode cX7_numberAt 34 = .ok (.getfield 35, 3) := by decide +kernel
theorem dX7_numberAt_37 : decode cX7_numberAt 37 = .ok (.if_icmp .ge 38, 3) := by decide +kernel
theorem dX7_numberAt_40 : decode cX7_numberAt 40 = .ok (.aload_n 0, 1) := by decide +kernel
theorem dX7_numberAt_41 : decode cX7_numberAt 41 = .ok (.iload 5, 2) := by decide +kernel
theorem dX7_numberAt_43 : decode cX7_numberAt 43 = .ok (.invokevirtual 42, 3) := by decide +kernel
theorem dX7_numberAt_46 : decode cX7_numberAt 46 = .ok (.invokestatic 46, 3) := by decide +kernel
theorem dX7_numberAt_49 : decode cX7_numberAt 49 = .ok (.ifCond .eq 26, 3) := by decide +kernel
theorem dX7_numberAt_52 : decode cX7_numberAt 52 = .ok (.lload_n 3, 1) := by decide +kernel
theorem dX7_numberAt_53 : decode cX7_numberAt 53 = .ok (.ldc2_w 82, 3) := by decide +kernel
theorem dX7_numberAt_56 : decode cX7_numberAt 56 = .ok (.lmul, 1) := by decide +kernel
theorem dX7_numberAt_57 : decode cX7_numberAt 57 = .ok (.aload_n 0, 1) := by decide +kernel
theorem dX7_numberAt_58 : decode cX7_numberAt 58 = .ok (.iload 5, 2) := by decide +kernel
theorem dX7_numberAt_60 : decode cX7_numberAt 60 = .ok (.invokevirtual 42, 3) := by decide +kernel
theorem dX7_numberAt_63 : decode cX7_numberAt 63 = .ok (.bipush 48, 2) := by decide +kernel
theorem dX7_numberAt_65 : decode cX7_numberAt 65 = .ok (.isub, 1) := by decide +kernel
theorem dX7_numberAt_66 : decode cX7_numberAt 66 = .ok (.i2l, 1) := by decide +kernel
theorem dX7_numberAt_67 : decode cX7_numberAt 67 = .ok (.lsub, 1) := by decide +kernel
theorem dX7_numberAt_68 : decode cX7_numberAt 68 = .ok (.lstore_n 3, 1) := by decide +kernel
theorem dX7_numberAt_69 : decode cX7_numberAt 69 = .ok (.iinc 5 1, 3) := by decide +kernel
theorem dX7_numberAt_72 : decode cX7_numberAt 72 = .ok (.goto (-41), 3) := by decide +kernel
theorem dX7_numberAt_75 : decode cX7_numberAt 75 = .ok (.iload_n 2, 1) := by decide +kernel
theorem dX7_numberAt_76 : decode cX7_numberAt 76 = .ok (.ifCond .eq 7, 3) := by decide +kernel
theorem dX7_numberAt_79 : decode cX7_numberAt 79 = .ok (.lload_n 3, 1) := by decide +kernel
theorem dX7_numberAt_80 : decode cX7_numberAt 80 = .ok (.goto 5, 3) := by decide +kernel
theorem dX7_numberAt_83 : decode cX7_numberAt 83 = .ok (.lload_n 3, 1) := by decide +kernel
theorem dX7_numberAt_84 : decode cX7_numberAt 84 = .ok (.lneg, 1) := by decide +kernel
theorem dX7_numberAt_85 : decode cX7_numberAt 85 = .ok (.lreturn, 1) := by decide +kernel
def rmX7_numberAt (mc ms : Nat) : Room := { frames := 1, cells := mc, slots := ms, locals := 21 }
abbrev cX7_refuse : ByteArray := prog_10_method_22_code
def yX7_refuse : MethodName := ⟨RX7, "refuse", "(I)I"⟩
def wsX7_refuse : List Cond := .code yX7_refuse cX7_refuse 2 (some .int) :: sr_G
theorem dX7_refuse_0 : decode cX7_refuse 0 = .ok (.aload_n 0, 1) := by decide +kernel
theorem dX7_refuse_1 : decode cX7_refuse 1 = .ok (.iload_n 1, 1) := by decide +kernel
theorem dX7_refuse_2 : decode cX7_refuse 2 = .ok (.putfield 39, 3) := by decide +kernel
theorem dX7_refuse_5 : decode cX7_refuse 5 = .ok (.iconst (-1), 1) := by decide +kernel
theorem dX7_refuse_6 : decode cX7_refuse 6 = .ok (.ireturn, 1) := by decide +kernel
def rmX7_refuse (mc ms : Nat) : Room := { frames := 0, cells := mc, slots := ms, locals := 0 }
abbrev cX7_isBlank : ByteArray := prog_10_method_24_code
def yX7_isBlank : MethodName := ⟨RX7, "isBlank", "(I)Z"⟩
def wsX7_isBlank : List Cond := .code yX7_isBlank cX7_isBlank 1 (some .boolean) :: sr_G
theorem dX7_isBlank_0 : decode cX7_isBlank 0 = .ok (.iload_n 0, 1) := by decide +kernel
theorem dX7_isBlank_1 : decode cX7_isBlank 1 = .ok (.bipush 32, 2) := by decide +kernel
theorem dX7_isBlank_3 : decode cX7_isBlank 3 = .ok (.if_icmp .eq 21, 3) := by decide +kernel
theorem dX7_isBlank_6 : decode cX7_isBlank 6 = .ok (.iload_n 0, 1) := by decide +kernel
theorem dX7_isBlank_7 : decode cX7_isBlank 7 = .ok (.bipush 10, 2) := by decide +kernel
theorem dX7_isBlank_9 : decode cX7_isBlank 9 = .ok (.if_icmp .eq 15, 3) := by decide +kernel
theorem dX7_isBlank_12 : decode cX7_isBlank 12 = .ok (.iload_n 0, 1) := by decide +kernel
theorem dX7_isBlank_13 : decode cX7_isBlank 13 = .ok (.bipush 13, 2) := by decide +kernel
theorem dX7_isBlank_15 : decode cX7_isBlank 15 = .ok (.if_icmp .eq 9, 3) := by decide +kernel
theorem dX7_isBlank_18 : decode cX7_isBlank 18 = .ok (.iload_n 0, 1) := by decide +kernel
theorem dX7_isBlank_19 : decode cX7_isBlank 19 = .ok (.bipush 9, 2) := by decide +kernel
theorem dX7_isBlank_21 : decode cX7_isBlank 21 = .ok (.if_icmp .ne 7, 3) := by decide +kernel
theorem dX7_isBlank_24 : decode cX7_isBlank 24 = .ok (.iconst 1, 1) := by decide +kernel
theorem dX7_isBlank_25 : decode cX7_isBlank 25 = .ok (.goto 4, 3) := by decide +kernel
theorem dX7_isBlank_28 : decode cX7_isBlank 28 = .ok (.iconst 0, 1) := by decide +kernel
theorem dX7_isBlank_29 : decode cX7_isBlank 29 = .ok (.ireturn, 1) := by decide +kernel
def rmX7_isBlank (mc ms : Nat) : Room := { frames := 0, cells := mc, slots := ms, locals := 0 }
abbrev cX7_behindBlanks : ByteArray := prog_10_method_23_code
def yX7_behindBlanks : MethodName := ⟨RX7, "behindBlanks", "(I)I"⟩
def wsX7_behindBlanks : List Cond := .code yX7_behindBlanks cX7_behindBlanks 3 (some .int) :: sr_G
theorem dX7_behindBlanks_0 : decode cX7_behindBlanks 0 = .ok (.iload_n 1, 1) := by decide +kernel
theorem dX7_behindBlanks_1 : decode cX7_behindBlanks 1 = .ok (.istore_n 2, 1) := by decide +kernel
theorem dX7_behindBlanks_2 : decode cX7_behindBlanks 2 = .ok (.iload_n 2, 1) := by decide +kernel
theorem dX7_behindBlanks_3 : decode cX7_behindBlanks 3 = .ok (.aload_n 0, 1) := by decide +kernel
theorem dX7_behindBlanks_4 : decode cX7_behindBlanks 4 = .ok (.getfield 35, 3) := by decide +kernel
theorem dX7_behindBlanks_7 : decode cX7_behindBlanks 7 = .ok (.if_icmp .ge 20, 3) := by decide +kernel
theorem dX7_behindBlanks_10 : decode cX7_behindBlanks 10 = .ok (.aload_n 0, 1) := by decide +kernel
theorem dX7_behindBlanks_11 : decode cX7_behindBlanks 11 = .ok (.iload_n 2, 1) := by decide +kernel
theorem dX7_behindBlanks_12 : decode cX7_behindBlanks 12 = .ok (.invokevirtual 42, 3) := by decide +kernel
theorem dX7_behindBlanks_15 : decode cX7_behindBlanks 15 = .ok (.invokestatic 97, 3) := by decide +kernel
theorem dX7_behindBlanks_18 : decode cX7_behindBlanks 18 = .ok (.ifCond .eq 9, 3) := by decide +kernel
theorem dX7_behindBlanks_21 : decode cX7_behindBlanks 21 = .ok (.iinc 2 1, 3) := by decide +kernel
theorem dX7_behindBlanks_24 : decode cX7_behindBlanks 24 = .ok (.goto (-22), 3) := by decide +kernel
theorem dX7_behindBlanks_27 : decode cX7_behindBlanks 27 = .ok (.iload_n 2, 1) := by decide +kernel
theorem dX7_behindBlanks_28 : decode cX7_behindBlanks 28 = .ok (.ireturn, 1) := by decide +kernel
def rmX7_behindBlanks (mc ms : Nat) : Room := { frames := 1, cells := mc, slots := ms, locals := 21 }
theorem g7_42 (c0 : Cond) : GoodIn (c0 :: sr_G) (wsV RX7 42 RX7 yX7_byteAt wsX7_byteAt) := sr_V c0 (sr_ins (by decide +kernel))
theorem g7_54 (c0 : Cond) : GoodIn (c0 :: sr_G) (wsV RX7 54 RX20 yX20_length wsX20_length) := sr_V c0 (sr_ins (by decide +kernel))
theorem g7_59 (c0 : Cond) : GoodIn (c0 :: sr_G) (wsV RX7 59 RX7 yX7_saidAt wsX7_saidAt) := sr_V c0 (sr_ins (by decide +kernel))
theorem g7_62 (c0 : Cond) : GoodIn (c0 :: sr_G) (wsV RX7 62 RX20 yX20_charAt wsX20_charAt) := sr_V c0 (sr_ins (by decide +kernel))
theorem g7_66 (c0 : Cond) : GoodIn (c0 :: sr_G) (wsV RX7 66 RX7 yX7_amount wsX7_amount) := sr_V c0 (sr_ins (by decide +kernel))
theorem g7_68 (c0 : Cond) : GoodIn (c0 :: sr_G) (wsV RX7 68 RX7 yX7_isString wsX7_isString) := sr_V c0 (sr_ins (by decide +kernel))
theorem g7_74 (c0 : Cond) : GoodIn (c0 :: sr_G) (wsV RX7 74 RX7 yX7_inner wsX7_inner) := sr_V c0 (sr_ins (by decide +kernel))
theorem g7_76 (c0 : Cond) : GoodIn (c0 :: sr_G) (wsV RX7 76 RX7 yX7_says wsX7_says) := sr_V c0 (sr_ins (by decide +kernel))
theorem g7_80 (c0 : Cond) : GoodIn (c0 :: sr_G) (wsV RX7 80 RX7 yX7_next wsX7_next) := sr_V c0 (sr_ins (by decide +kernel))
theorem g7_97 (c0 : Cond) : GoodIn (c0 :: sr_G) (va_wsS RX7 97 yX7_isBlank wsX7_isBlank) := sr_S c0 (sr_ins (by decide +kernel))
theorem gn7_46 : (∀ w ∈ ([.static yX8_isDigit, .initialized yX8_isDigit.cls, .code yX8_isDigit cX8_isDigit 1 (some .boolean)] : List Cond), w ∈ sr_G) ∧ (.methodLinkNest RX7 46 yX8_isDigit "SchemaReader" : Cond) ∈ sr_N := ⟨sr_ins (by decide +kernel), List.mem_filter.mpr ⟨in_tables_1_2 _ (List.mem_of_getElem? (i := 126) rfl), rfl⟩⟩
theorem gn7_50 : (∀ w ∈ ([.static yX8_entry, .initialized yX8_entry.cls, .code yX8_entry cX8_entry 2 (some .int)] : List Cond), w ∈ sr_G) ∧ (.methodLinkNest RX7 50 yX8_entry "SchemaReader" : Cond) ∈ sr_N := ⟨sr_ins (by decide +kernel), List.mem_filter.mpr ⟨in_tables_1_2 _ (List.mem_of_getElem? (i := 52) rfl), rfl⟩⟩
theorem gn7_71 : (∀ w ∈ ([.static yX8_isLetter, .initialized yX8_isLetter.cls, .code yX8_isLetter cX8_isLetter 1 (some .boolean)] : List Cond), w ∈ sr_G) ∧ (.methodLinkNest RX7 71 yX8_isLetter "SchemaReader" : Cond) ∈ sr_N := ⟨sr_ins (by decide +kernel), List.mem_filter.mpr ⟨in_tables_1_3 _ (List.mem_of_getElem? (i := 70) rfl), rfl⟩⟩
