abbrev cX20_coder : ByteArray := prog_21_method_152_code
def yX20_coder : MethodName := ⟨RX20, "coder", "()B"⟩
def wsX20_coder : List Cond := .code yX20_coder cX20_coder 1 (some .byte) :: sr_G
theorem dX20_coder_0 : decode cX20_coder 0 = .ok (.getstatic 38, 3) := by decide +kernel
theorem dX20_coder_3 : decode cX20_coder 3 = .ok (.ifCond .eq 10, 3) := by decide +kernel
theorem dX20_coder_6 : decode cX20_coder 6 = .ok (.aload_n 0, 1) := by decide +kernel
theorem dX20_coder_7 : decode cX20_coder 7 = .ok (.getfield 15, 3) := by decide +kernel
theorem dX20_coder_10 : decode cX20_coder 10 = .ok (.goto 4, 3) := by decide +kernel
theorem dX20_coder_13 : decode cX20_coder 13 = .ok (.iconst 1, 1) := by decide +kernel
theorem dX20_coder_14 : decode cX20_coder 14 = .ok (.ireturn, 1) := by decide +kernel
def rmX20_coder (mc ms : Nat) : Room := { frames := 0, cells := mc, slots := ms, locals := 0 }
abbrev cX20_isLatin1 : ByteArray := prog_21_method_154_code
def yX20_isLatin1 : MethodName := ⟨RX20, "isLatin1", "()Z"⟩
def wsX20_isLatin1 : List Cond := .code yX20_isLatin1 cX20_isLatin1 1 (some .boolean) :: sr_G
theorem dX20_isLatin1_0 : decode cX20_isLatin1 0 = .ok (.getstatic 38, 3) := by decide +kernel
theorem dX20_isLatin1_3 : decode cX20_isLatin1 3 = .ok (.ifCond .eq 14, 3) := by decide +kernel
theorem dX20_isLatin1_6 : decode cX20_isLatin1 6 = .ok (.aload_n 0, 1) := by decide +kernel
theorem dX20_isLatin1_7 : decode cX20_isLatin1 7 = .ok (.getfield 15, 3) := by decide +kernel
theorem dX20_isLatin1_10 : decode cX20_isLatin1 10 = .ok (.ifCond .ne 7, 3) := by decide +kernel
theorem dX20_isLatin1_13 : decode cX20_isLatin1 13 = .ok (.iconst 1, 1) := by decide +kernel
theorem dX20_isLatin1_14 : decode cX20_isLatin1 14 = .ok (.goto 4, 3) := by decide +kernel
theorem dX20_isLatin1_17 : decode cX20_isLatin1 17 = .ok (.iconst 0, 1) := by decide +kernel
theorem dX20_isLatin1_18 : decode cX20_isLatin1 18 = .ok (.ireturn, 1) := by decide +kernel
def rmX20_isLatin1 (mc ms : Nat) : Room := { frames := 0, cells := mc, slots := ms, locals := 0 }
abbrev cX20_length : ByteArray := prog_21_method_54_code
def yX20_length : MethodName := ⟨RX20, "length", "()I"⟩
def wsX20_length : List Cond := .code yX20_length cX20_length 1 (some .int) :: sr_G
theorem dX20_length_0 : decode cX20_length 0 = .ok (.aload_n 0, 1) := by decide +kernel
theorem dX20_length_1 : decode cX20_length 1 = .ok (.getfield 9, 3) := by decide +kernel
theorem dX20_length_4 : decode cX20_length 4 = .ok (.arraylength, 1) := by decide +kernel
theorem dX20_length_5 : decode cX20_length 5 = .ok (.aload_n 0, 1) := by decide +kernel
theorem dX20_length_6 : decode cX20_length 6 = .ok (.invokevirtual 335, 3) := by decide +kernel
theorem dX20_length_9 : decode cX20_length 9 = .ok (.ishr, 1) := by decide +kernel
theorem dX20_length_10 : decode cX20_length 10 = .ok (.ireturn, 1) := by decide +kernel
def rmX20_length (mc ms : Nat) : Room := { frames := 1, cells := mc, slots := ms, locals := 20 }
abbrev cX22_ck : ByteArray := prog_26_method_11_code
def yX22_ck : MethodName := ⟨RX22, "checkIndex", "(IILjava/util/function/BiFunction;)I"⟩
def wsX22_ck : List Cond := .code yX22_ck cX22_ck 3 (some .int) :: sr_G
theorem dX22_ck_0 : decode cX22_ck 0 = .ok (.iload_n 0, 1) := by decide +kernel
theorem dX22_ck_1 : decode cX22_ck 1 = .ok (.ifCond .lt 8, 3) := by decide +kernel
theorem dX22_ck_4 : decode cX22_ck 4 = .ok (.iload_n 0, 1) := by decide +kernel
theorem dX22_ck_5 : decode cX22_ck 5 = .ok (.iload_n 1, 1) := by decide +kernel
theorem dX22_ck_6 : decode cX22_ck 6 = .ok (.if_icmp .lt 10, 3) := by decide +kernel
theorem dX22_ck_9 : decode cX22_ck 9 = .ok (.aload_n 2, 1) := by decide +kernel
theorem dX22_ck_10 : decode cX22_ck 10 = .ok (.iload_n 0, 1) := by decide +kernel
theorem dX22_ck_11 : decode cX22_ck 11 = .ok (.iload_n 1, 1) := by decide +kernel
theorem dX22_ck_12 : decode cX22_ck 12 = .ok (.invokestatic 95, 3) := by decide +kernel
theorem dX22_ck_15 : decode cX22_ck 15 = .ok (.athrow, 1) := by decide +kernel
theorem dX22_ck_16 : decode cX22_ck 16 = .ok (.iload_n 0, 1) := by decide +kernel
theorem dX22_ck_17 : decode cX22_ck 17 = .ok (.ireturn, 1) := by decide +kernel
def rmX22_ck (mc ms : Nat) : Room := { frames := 0, cells := mc, slots := ms, locals := 0 }
abbrev cX22_ckQ : ByteArray := prog_26_method_11_code
def yX22_ckQ : MethodName := ⟨RX22, "checkIndex", "(IILjava/util/function/BiFunction;)I"⟩
def wsX22_ckQ : List Cond := .code yX22_ckQ cX22_ckQ 3 (some .int) :: sr_G
theorem dX22_ckQ_0 : decode cX22_ckQ 0 = .ok (.iload_n 0, 1) := by decide +kernel
theorem dX22_ckQ_1 : decode cX22_ckQ 1 = .ok (.ifCond .lt 8, 3) := by decide +kernel
theorem dX22_ckQ_4 : decode cX22_ckQ 4 = .ok (.iload_n 0, 1) := by decide +kernel
theorem dX22_ckQ_5 : decode cX22_ckQ 5 = .ok (.iload_n 1, 1) := by decide +kernel
theorem dX22_ckQ_6 : decode cX22_ckQ 6 = .ok (.if_icmp .lt 10, 3) := by decide +kernel
theorem dX22_ckQ_9 : decode cX22_ckQ 9 = .ok (.aload_n 2, 1) := by decide +kernel
theorem dX22_ckQ_10 : decode cX22_ckQ 10 = .ok (.iload_n 0, 1) := by decide +kernel
theorem dX22_ckQ_11 : decode cX22_ckQ 11 = .ok (.iload_n 1, 1) := by decide +kernel
theorem dX22_ckQ_12 : decode cX22_ckQ 12 = .ok (.invokestatic 95, 3) := by decide +kernel
theorem dX22_ckQ_15 : decode cX22_ckQ 15 = .ok (.athrow, 1) := by decide +kernel
theorem dX22_ckQ_16 : decode cX22_ckQ 16 = .ok (.iload_n 0, 1) := by decide +kernel
theorem dX22_ckQ_17 : decode cX22_ckQ 17 = .ok (.ireturn, 1) := by decide +kernel
def rmX22_ckQ (mc ms : Nat) : Room := { frames := 0, cells := mc, slots := ms, locals := 0 }
abbrev cX20_checkIndex : ByteArray := prog_21_method_155_code
def yX20_checkIndex : MethodName := ⟨RX20, "checkIndex", "(II)V"⟩
def wsX20_checkIndex : List Cond := .code yX20_checkIndex cX20_checkIndex 2 none :: sr_G
theorem dX20_checkIndex_0 : decode cX20_checkIndex 0 = .ok (.iload_n 0, 1) := by decide +kernel
theorem dX20_checkIndex_1 : decode cX20_checkIndex 1 = .ok (.iload_n 1, 1) := by decide +kernel
theorem dX20_checkIndex_2 : decode cX20_checkIndex 2 = .ok (.getstatic 1053, 3) := by decide +kernel
theorem dX20_checkIndex_5 : decode cX20_checkIndex 5 = .ok (.invokestatic 1059, 3) := by decide +kernel
theorem dX20_checkIndex_8 : decode cX20_checkIndex 8 = .ok (.pop, 1) := by decide +kernel
theorem dX20_checkIndex_9 : decode cX20_checkIndex 9 = .ok (.return_, 1) := by decide +kernel
def rmX20_checkIndex (mc ms : Nat) : Room := { frames := 1, cells := mc, slots := ms, locals := 22 }
abbrev cX21_charAt : ByteArray := prog_22_method_2_code
def yX21_charAt : MethodName := ⟨RX21, "charAt", "([BI)C"⟩
def wsX21_charAt : List Cond := .code yX21_charAt cX21_charAt 2 (some .char) :: sr_G
theorem dX21_charAt_0 : decode cX21_charAt 0 = .ok (.iload_n 1, 1) := by decide +kernel
theorem dX21_charAt_1 : decode cX21_charAt 1 = .ok (.aload_n 0, 1) := by decide +kernel
theorem dX21_charAt_2 : decode cX21_charAt 2 = .ok (.arraylength, 1) := by decide +kernel
theorem dX21_charAt_3 : decode cX21_charAt 3 = .ok (.invokestatic 9, 3) := by decide +kernel
theorem dX21_charAt_6 : decode cX21_charAt 6 = .ok (.aload_n 0, 1) := by decide +kernel
theorem dX21_charAt_7 : decode cX21_charAt 7 = .ok (.iload_n 1, 1) := by decide +kernel
theorem dX21_charAt_8 : decode cX21_charAt 8 = .ok (.baload, 1) := by decide +kernel
theorem dX21_charAt_9 : decode cX21_charAt 9 = .ok (.sipush 255, 3) := by decide +kernel
theorem dX21_charAt_12 : decode cX21_charAt 12 = .ok (.iand, 1) := by decide +kernel
theorem dX21_charAt_13 : decode cX21_charAt 13 = .ok (.i2c, 1) := by decide +kernel
theorem dX21_charAt_14 : decode cX21_charAt 14 = .ok (.ireturn, 1) := by decide +kernel
def rmX21_charAt (mc ms : Nat) : Room := { frames := 2, cells := mc, slots := ms, locals := 43 }
abbrev cX20_charAt : ByteArray := prog_21_method_56_code
def yX20_charAt : MethodName := ⟨RX20, "charAt", "(I)C"⟩
def wsX20_charAt : List Cond := .code yX20_charAt cX20_charAt 2 (some .char) :: sr_G
theorem dX20_charAt_0 : decode cX20_charAt 0 = .ok (.aload_n 0, 1) := by decide +kernel
theorem dX20_charAt_1 : decode cX20_charAt 1 = .ok (.invokevirtual 492, 3) := by decide +kernel
theorem dX20_charAt_4 : decode cX20_charAt 4 = .ok (.ifCond .eq 12, 3) := by decide +kernel
theorem dX20_charAt_7 : decode cX20_charAt 7 = .ok (.aload_n 0, 1) := by decide +kernel
theorem dX20_charAt_8 : decode cX20_charAt 8 = .ok (.getfield 9, 3) := by decide +kernel
theorem dX20_charAt_11 : decode cX20_charAt 11 = .ok (.iload_n 1, 1) := by decide +kernel
theorem dX20_charAt_12 : decode cX20_charAt 12 = .ok (.invokestatic 495, 3) := by decide +kernel
theorem dX20_charAt_15 : decode cX20_charAt 15 = .ok (.ireturn, 1) := by decide +kernel
theorem dX20_charAt_16 : decode cX20_charAt 16 = .ok (.aload_n 0, 1) := by decide +kernel
theorem dX20_charAt_17 : decode cX20_charAt 17 = .ok (.getfield 9, 3) := by decide +kernel
theorem dX20_charAt_20 : decode cX20_charAt 20 = .ok (.iload_n 1, 1) := by decide +kernel
theorem dX20_charAt_21 : decode cX20_charAt 21 = .ok (.invokestatic 498, 3) := by decide +kernel
theorem dX20_charAt_24 : decode cX20_charAt 24 = .ok (.ireturn, 1) := by decide +kernel
def rmX20_charAt (mc ms : Nat) : Room := { frames := 3, cells := mc, slots := ms, locals := 64 }
abbrev cX21_canEncode : ByteArray := prog_22_method_4_code
def yX21_canEncode : MethodName := ⟨RX21, "canEncode", "(I)Z"⟩
def wsX21_canEncode : List Cond := .code yX21_canEncode cX21_canEncode 1 (some .boolean) :: sr_G
theorem dX21_canEncode_0 : decode cX21_canEncode 0 = .ok (.iload_n 0, 1) := by decide +kernel
theorem dX21_canEncode_1 : decode cX21_canEncode 1 = .ok (.ifCond .lt 14, 3) := by decide +kernel
theorem dX21_canEncode_4 : decode cX21_canEncode 4 = .ok (.iload_n 0, 1) := by decide +kernel
theorem dX21_canEncode_5 : decode cX21_canEncode 5 = .ok (.sipush 255, 3) := by decide +kernel
theorem dX21_canEncode_8 : decode cX21_canEncode 8 = .ok (.if_icmp .gt 7, 3) := by decide +kernel
theorem dX21_canEncode_11 : decode cX21_canEncode 11 = .ok (.iconst 1, 1) := by decide +kernel
theorem dX21_canEncode_12 : decode cX21_canEncode 12 = .ok (.goto 4, 3) := by decide +kernel
theorem dX21_canEncode_15 : decode cX21_canEncode 15 = .ok (.iconst 0, 1) := by decide +kernel
theorem dX21_canEncode_16 : decode cX21_canEncode 16 = .ok (.ireturn, 1) := by decide +kernel
def rmX21_canEncode (mc ms : Nat) : Room := { frames := 0, cells := mc, slots := ms, locals := 0 }
abbrev cX21_indexOfChar : ByteArray := prog_22_method_23_code
def yX21_indexOfChar : MethodName := ⟨RX21, "indexOfChar", "([BIII)I"⟩
def wsX21_indexOfChar : List Cond := .code yX21_indexOfChar cX21_indexOfChar 6 (some .int) :: sr_G
theorem dX21_indexOfChar_0 : decode cX21_indexOfChar 0 = .ok (.iload_n 1, 1) := by decide +kernel
theorem dX21_indexOfChar_1 : decode cX21_indexOfChar 1 = .ok (.i2b, 1) := by decide +kernel
theorem dX21_indexOfChar_2 : decode cX21_indexOfChar 2 = .ok (.istore 4, 2) := by decide +kernel
theorem dX21_indexOfChar_4 : decode cX21_indexOfChar 4 = .ok (.iload_n 2, 1) := by decide +kernel
theorem dX21_indexOfChar_5 : decode cX21_indexOfChar 5 = .ok (.istore 5, 2) := by decide +kernel
theorem dX21_indexOfChar_7 : decode cX21_indexOfChar 7 = .ok (.iload 5, 2) := by decide +kernel
theorem dX21_indexOfChar_9 : decode cX21_indexOfChar 9 = .ok (.iload_n 3, 1) := by decide +kernel
theorem dX21_indexOfChar_10 : decode cX21_indexOfChar 10 = .ok (.if_icmp .ge 21, 3) := by decide +kernel
theorem dX21_indexOfChar_13 : decode cX21_indexOfChar 13 = .ok (.aload_n 0, 1) := by decide +kernel
theorem dX21_indexOfChar_14 : decode cX21_indexOfChar 14 = .ok (.iload 5, 2) := by decide +kernel
theorem dX21_indexOfChar_16 : decode cX21_indexOfChar 16 = .ok (.baload, 1) := by decide +kernel
theorem dX21_indexOfChar_17 : decode cX21_indexOfChar 17 = .ok (.iload 4, 2) := by decide +kernel
theorem dX21_indexOfChar_19 : decode cX21_indexOfChar 19 = .ok (.if_icmp .ne 6, 3) := by decide +kernel
theorem dX21_indexOfChar_22 : decode cX21_indexOfChar 22 = .ok (.iload 5, 2) := by decide +kernel
theorem dX21_indexOfChar_24 : decode cX21_indexOfChar 24 = .ok (.ireturn, 1) := by decide +kernel
theorem dX21_indexOfChar_25 : decode cX21_indexOfChar 25 = .ok (.iinc 5 1, 3) := by decide +kernel
theorem dX21_indexOfChar_28 : decode cX21_indexOfChar 28 = .ok (.goto (-21), 3) := by decide +kernel
theorem dX21_indexOfChar_31 : decode cX21_indexOfChar 31 = .ok (.iconst (-1), 1) := by decide +kernel
theorem dX21_indexOfChar_32 : decode cX21_indexOfChar 32 = .ok (.ireturn, 1) := by decide +kernel
def rmX21_indexOfChar (mc ms : Nat) : Room := { frames := 0, cells := mc, slots := ms, locals := 0 }
abbrev cX21_indexOf : ByteArray := prog_22_method_22_code
def yX21_indexOf : MethodName := ⟨RX21, "indexOf", "([BIII)I"⟩
def wsX21_indexOf : List Cond := .code yX21_indexOf cX21_indexOf 4 (some .int) :: sr_G
theorem dX21_indexOf_0 : decode cX21_indexOf 0 = .ok (.iload_n 1, 1) := by decide +kernel
theorem dX21_indexOf_1 : decode cX21_indexOf 1 = .ok (.invokestatic 88, 3) := by decide +kernel
theorem dX21_indexOf_4 : decode cX21_indexOf 4 = .ok (.ifCond .ne 5, 3) := by decide +kernel
theorem dX21_indexOf_7 : decode cX21_indexOf 7 = .ok (.iconst (-1), 1) := by decide +kernel
theorem dX21_indexOf_8 : decode cX21_indexOf 8 = .ok (.ireturn, 1) := by decide +kernel
theorem dX21_indexOf_9 : decode cX21_indexOf 9 = .ok (.iload_n 2, 1) := by decide +kernel
theorem dX21_indexOf_10 : decode cX21_indexOf 10 = .ok (.iconst 0, 1) := by decide +kernel
theorem dX21_indexOf_11 : decode cX21_indexOf 11 = .ok (.invokestatic 92, 3) := by decide +kernel
theorem dX21_indexOf_14 : decode cX21_indexOf 14 = .ok (.istore_n 2, 1) := by decide +kernel
theorem dX21_indexOf_15 : decode cX21_indexOf 15 = .ok (.iload_n 3, 1) := by decide +kernel
theorem dX21_indexOf_16 : decode cX21_indexOf 16 = .ok (.aload_n 0, 1) := by decide +kernel
theorem dX21_indexOf_17 : decode cX21_indexOf 17 = .ok (.arraylength, 1) := by decide +kernel
theorem dX21_indexOf_18 : decode cX21_indexOf 18 = .ok (.invokestatic 38, 3) := by decide +kernel
theorem dX21_indexOf_21 : decode cX21_indexOf 21 = .ok (.istore_n 3, 1) := by decide +kernel
theorem dX21_indexOf_22 : decode cX21_indexOf 22 = .ok (.iload_n 2, 1) := by decide +kernel
theorem dX21_indexOf_23 : decode cX21_indexOf 23 = .ok (.iload_n 3, 1) := by decide +kernel
theorem dX21_indexOf_24 : decode cX21_indexOf 24 = .ok (.if_icmp .lt 5, 3) := by decide +kernel
theorem dX21_indexOf_27 : decode cX21_indexOf 27 = .ok (.iconst (-1), 1) := by decide +kernel
theorem dX21_indexOf_28 : decode cX21_indexOf 28 = .ok (.ireturn, 1) := by decide +kernel
theorem dX21_indexOf_29 : decode cX21_indexOf 29 = .ok (.aload_n 0, 1) := by decide +kernel
theorem dX21_indexOf_30 : decode cX21_indexOf 30 = .ok (.iload_n 1, 1) := by decide +kernel
theorem dX21_indexOf_31 : decode cX21_indexOf 31 = .ok (.iload_n 2, 1) := by decide +kernel
theorem dX21_indexOf_32 : decode cX21_indexOf 32 = .ok (.iload_n 3, 1) := by decide +kernel
theorem dX21_indexOf_33 : decode cX21_indexOf 33 = .ok (.invokestatic 95, 3) := by decide +kernel
theorem dX21_indexOf_36 : decode cX21_indexOf 36 = .ok (.ireturn, 1) := by decide +kernel
def rmX21_indexOf (mc ms : Nat) : Room := { frames := 1, cells := mc, slots := ms, locals := 25 }
abbrev cX20_indexOf2 : ByteArray := prog_21_method_80_code
def yX20_indexOf2 : MethodName := ⟨RX20, "indexOf", "(II)I"⟩
def wsX20_indexOf2 : List Cond := .code yX20_indexOf2 cX20_indexOf2 3 (some .int) :: sr_G
theorem dX20_indexOf2_0 : decode cX20_indexOf2 0 = .ok (.aload_n 0, 1) := by decide +kernel
theorem dX20_indexOf2_1 : decode cX20_indexOf2 1 = .ok (.invokevirtual 492, 3) := by decide +kernel
theorem dX20_indexOf2_4 : decode cX20_indexOf2 4 = .ok (.ifCond .eq 19, 3) := by decide +kernel
theorem dX20_indexOf2_7 : decode cX20_indexOf2 7 = .ok (.aload_n 0, 1) := by decide +kernel
theorem dX20_indexOf2_8 : decode cX20_indexOf2 8 = .ok (.getfield 9, 3) := by decide +kernel
theorem dX20_indexOf2_11 : decode cX20_indexOf2 11 = .ok (.iload_n 1, 1) := by decide +kernel
theorem dX20_indexOf2_12 : decode cX20_indexOf2 12 = .ok (.iload_n 2, 1) := by decide +kernel
theorem dX20_indexOf2_13 : decode cX20_indexOf2 13 = .ok (.aload_n 0, 1) := by decide +kernel
theorem dX20_indexOf2_14 : decode cX20_indexOf2 14 = .ok (.invokevirtual 505, 3) := by decide +kernel
theorem dX20_indexOf2_17 : decode cX20_indexOf2 17 = .ok (.invokestatic 637, 3) := by decide +kernel
theorem dX20_indexOf2_20 : decode cX20_indexOf2 20 = .ok (.goto 16, 3) := by decide +kernel
theorem dX20_indexOf2_23 : decode cX20_indexOf2 23 = .ok (.aload_n 0, 1) := by decide +kernel
theorem dX20_indexOf2_24 : decode cX20_indexOf2 24 = .ok (.getfield 9, 3) := by decide +kernel
theorem dX20_indexOf2_27 : decode cX20_indexOf2 27 = .ok (.iload_n 1, 1) := by decide +kernel
theorem dX20_indexOf2_28 : decode cX20_indexOf2 28 = .ok (.iload_n 2, 1) := by decide +kernel
theorem dX20_indexOf2_29 : decode cX20_indexOf2 29 = .ok (.aload_n 0, 1) := by decide +kernel
theorem dX20_indexOf2_30 : decode cX20_indexOf2 30 = .ok (.invokevirtual 505, 3) := by decide +kernel
theorem dX20_indexOf2_33 : decode cX20_indexOf2 33 = .ok (.invokestatic 640, 3) := by decide +kernel
theorem dX20_indexOf2_36 : decode cX20_indexOf2 36 = .ok (.ireturn, 1) := by decide +kernel
def rmX20_indexOf2 (mc ms : Nat) : Room := { frames := 2, cells := mc, slots := ms, locals := 48 }
abbrev cX20_indexOf : ByteArray := prog_21_method_79_code
def yX20_indexOf : MethodName := ⟨RX20, "indexOf", "(I)I"⟩
def wsX20_indexOf : List Cond := .code yX20_indexOf cX20_indexOf 2 (some .int) :: sr_G
theorem dX20_indexOf_0 : decode cX20_indexOf 0 = .ok (.aload_n 0, 1) := by decide +kernel
theorem dX20_indexOf_1 : decode cX20_indexOf 1 = .ok (.iload_n 1, 1) := by decide +kernel
theorem dX20_indexOf_2 : decode cX20_indexOf 2 = .ok (.iconst 0, 1) := by decide +kernel
theorem dX20_indexOf_3 : decode cX20_indexOf 3 = .ok (.invokevirtual 633, 3) := by decide +kernel
theorem dX20_indexOf_6 : decode cX20_indexOf 6 = .ok (.ireturn, 1) := by decide +kernel
def rmX20_indexOf (mc ms : Nat) : Room := { frames := 3, cells := mc, slots := ms, locals := 70 }
theorem wf20_38 : (.fieldLink "java/lang/String" 38 "java/lang/String" "COMPACT_STRINGS" "Z" : Cond) ∈ sr_G := sr_in (in_tables_1_2 _ (List.mem_of_getElem? (i := 80) rfl)) rfl
theorem wf20_15 : (.fieldLink "java/lang/String" 15 "java/lang/String" "coder" "B" : Cond) ∈ sr_G := sr_in (in_tables_1_7 _ (List.mem_of_getElem? (i := 79) rfl)) rfl
theorem wf20_9 : (.fieldLink "java/lang/String" 9 "java/lang/String" "value" "[B" : Cond) ∈ sr_G := sr_in (in_tables_1_7 _ (List.mem_of_getElem? (i := 78) rfl)) rfl
theorem wf9_95 : (.fieldLink "SchemaReaderModel$Text" 95 "SchemaReaderModel$Text" "at" "I" : Cond) ∈ sr_G := sr_in (in_tables_1_5 _ (List.mem_of_getElem? (i := 52) rfl)) rfl
theorem wf9_98 : (.fieldLink "SchemaReaderModel$Text" 98 "SchemaReaderModel$Text" "length" "I" : Cond) ∈ sr_G := sr_in (in_tables_1_5 _ (List.mem_of_getElem? (i := 50) rfl)) rfl
theorem wf9_9 : (.fieldLink "SchemaReaderModel$Text" 9 "SchemaReaderModel$Text" "bytes" "[B" : Cond) ∈ sr_G := sr_in (in_tables_1_5 _ (List.mem_of_getElem? (i := 48) rfl)) rfl
theorem wf9_15 : (.fieldLink "SchemaReaderModel$Text" 15 "SchemaReaderModel$Text" "kinds" "[I" : Cond) ∈ sr_G := sr_in (in_tables_1_5 _ (List.mem_of_getElem? (i := 59) rfl)) rfl
theorem wf9_109 : (.fieldLink "SchemaReaderModel$Text" 109 "SchemaReaderModel$Text" "nodes" "I" : Cond) ∈ sr_G := sr_in (in_tables_1_5 _ (List.mem_of_getElem? (i := 58) rfl)) rfl
theorem wf9_19 : (.fieldLink "SchemaReaderModel$Text" 19 "SchemaReaderModel$Text" "firsts" "[I" : Cond) ∈ sr_G := sr_in (in_tables_1_5 _ (List.mem_of_getElem? (i := 60) rfl)) rfl
theorem wf9_22 : (.fieldLink "SchemaReaderModel$Text" 22 "SchemaReaderModel$Text" "numbers" "[J" : Cond) ∈ sr_G := sr_in (in_tables_1_5 _ (List.mem_of_getElem? (i := 61) rfl)) rfl
theorem wf9_26 : (.fieldLink "SchemaReaderModel$Text" 26 "SchemaReaderModel$Text" "sizes" "[I" : Cond) ∈ sr_G := sr_in (in_tables_1_5 _ (List.mem_of_getElem? (i := 62) rfl)) rfl
theorem wf9_29 : (.fieldLink "SchemaReaderModel$Text" 29 "SchemaReaderModel$Text" "inner" "[I" : Cond) ∈ sr_G := sr_in (in_tables_1_5 _ (List.mem_of_getElem? (i := 63) rfl)) rfl
theorem wf9_32 : (.fieldLink "SchemaReaderModel$Text" 32 "SchemaReaderModel$Text" "nexts" "[I" : Cond) ∈ sr_G := sr_in (in_tables_1_5 _ (List.mem_of_getElem? (i := 64) rfl)) rfl
theorem wf9_35 : (.fieldLink "SchemaReaderModel$Text" 35 "SchemaReaderModel$Text" "letters" "[B" : Cond) ∈ sr_G := sr_in (in_tables_1_5 _ (List.mem_of_getElem? (i := 65) rfl)) rfl
theorem wf9_189 : (.fieldLink "SchemaReaderModel$Text" 189 "SchemaReaderModel$Text" "shapes" "I" : Cond) ∈ sr_G := sr_in (in_tables_1_5 _ (List.mem_of_getElem? (i := 67) rfl)) rfl
theorem wf9_41 : (.fieldLink "SchemaReaderModel$Text" 41 "SchemaReaderModel$Text" "names" "[I" : Cond) ∈ sr_G := sr_in (in_tables_1_5 _ (List.mem_of_getElem? (i := 71) rfl)) rfl
theorem wf9_38 : (.fieldLink "SchemaReaderModel$Text" 38 "SchemaReaderModel$Text" "sorts" "[I" : Cond) ∈ sr_G := sr_in (in_tables_1_5 _ (List.mem_of_getElem? (i := 69) rfl)) rfl
theorem wf9_44 : (.fieldLink "SchemaReaderModel$Text" 44 "SchemaReaderModel$Text" "wide" "[I" : Cond) ∈ sr_G := sr_in (in_tables_1_5 _ (List.mem_of_getElem? (i := 73) rfl)) rfl
theorem wf9_47 : (.fieldLink "SchemaReaderModel$Text" 47 "SchemaReaderModel$Text" "kids" "[I" : Cond) ∈ sr_G := sr_in (in_tables_1_5 _ (List.mem_of_getElem? (i := 75) rfl)) rfl
theorem wf9_50 : (.fieldLink "SchemaReaderModel$Text" 50 "SchemaReaderModel$Text" "many" "[I" : Cond) ∈ sr_G := sr_in (in_tables_1_5 _ (List.mem_of_getElem? (i := 77) rfl)) rfl
theorem wf9_53 : (.fieldLink "SchemaReaderModel$Text" 53 "SchemaReaderModel$Text" "fallback" "[I" : Cond) ∈ sr_G := sr_in (in_tables_1_5 _ (List.mem_of_getElem? (i := 78) rfl)) rfl
theorem wf9_192 : (.fieldLink "SchemaReaderModel$Text" 192 "SchemaReaderModel$Text" "kidCount" "I" : Cond) ∈ sr_G := sr_in (in_tables_1_5 _ (List.mem_of_getElem? (i := 80) rfl)) rfl
theorem wf9_56 : (.fieldLink "SchemaReaderModel$Text" 56 "SchemaReaderModel$Text" "kidShape" "[I" : Cond) ∈ sr_G := sr_in (in_tables_1_5 _ (List.mem_of_getElem? (i := 81) rfl)) rfl
theorem wf9_59 : (.fieldLink "SchemaReaderModel$Text" 59 "SchemaReaderModel$Text" "kidName" "[I" : Cond) ∈ sr_G := sr_in (in_tables_1_5 _ (List.mem_of_getElem? (i := 83) rfl)) rfl
theorem wf9_62 : (.fieldLink "SchemaReaderModel$Text" 62 "SchemaReaderModel$Text" "kidDefault" "[I" : Cond) ∈ sr_G := sr_in (in_tables_1_5 _ (List.mem_of_getElem? (i := 85) rfl)) rfl
theorem wf9_65 : (.fieldLink "SchemaReaderModel$Text" 65 "SchemaReaderModel$Text" "kidNext" "[I" : Cond) ∈ sr_G := sr_in (in_tables_1_5 _ (List.mem_of_getElem? (i := 87) rfl)) rfl
theorem wf9_71 : (.fieldLink "SchemaReaderModel$Text" 71 "SchemaReaderModel$Text" "plain" "[B" : Cond) ∈ sr_G := sr_in (in_tables_1_5 _ (List.mem_of_getElem? (i := 93) rfl)) rfl
theorem wf9_280 : (.fieldLink "SchemaReaderModel$Text" 280 "SchemaReaderModel$Text" "plainSize" "I" : Cond) ∈ sr_G := sr_in (in_tables_1_5 _ (List.mem_of_getElem? (i := 96) rfl)) rfl
theorem wcl9_335 : (.constantLong "SchemaReaderModel$Text" 335 (-4513414715797952619) : Cond) ∈ sr_G := sr_in (in_tables_1_7 _ (List.mem_of_getElem? (i := 27) rfl)) rfl
theorem wcl9_337 : (.constantLong "SchemaReaderModel$Text" 337 (255) : Cond) ∈ sr_G := sr_in (in_tables_1_7 _ (List.mem_of_getElem? (i := 28) rfl)) rfl
theorem wf9_78 : (.fieldLink "SchemaReaderModel$Text" 78 "SchemaReaderModel$Text" "fault" "I" : Cond) ∈ sr_G := sr_in (in_tables_1_5 _ (List.mem_of_getElem? (i := 54) rfl)) rfl
theorem wf9_82 : (.fieldLink "SchemaReaderModel$Text" 82 "SchemaReaderModel$Text" "place" "I" : Cond) ∈ sr_G := sr_in (in_tables_1_5 _ (List.mem_of_getElem? (i := 55) rfl)) rfl
theorem wcl9_175 : (.constantLong "SchemaReaderModel$Text" 175 (10) : Cond) ∈ sr_G := sr_in (in_tables_1_6 _ (List.mem_of_getElem? (i := 124) rfl)) rfl
theorem wcl9_173 : (.constantLong "SchemaReaderModel$Text" 173 (-922337203685477580) : Cond) ∈ sr_G := sr_in (in_tables_1_6 _ (List.mem_of_getElem? (i := 123) rfl)) rfl
theorem wf9_167 : (.fieldLink "SchemaReaderModel$Text" 167 "SchemaReaderModel$Text" "lettered" "I" : Cond) ∈ sr_G := sr_in (in_tables_1_5 _ (List.mem_of_getElem? (i := 66) rfl)) rfl
theorem wf9_112 : (.fieldLink "SchemaReaderModel$Text" 112 "SchemaReaderModel$Text" "deep" "I" : Cond) ∈ sr_G := sr_in (in_tables_1_5 _ (List.mem_of_getElem? (i := 53) rfl)) rfl
theorem wf9_195 : (.fieldLink "SchemaReaderModel$Text" 195 "SchemaReaderModel$Text" "looked" "I" : Cond) ∈ sr_G := sr_in (in_tables_1_5 _ (List.mem_of_getElem? (i := 68) rfl)) rfl
theorem wcl9_254 : (.constantLong "SchemaReaderModel$Text" 254 (64) : Cond) ∈ sr_G := sr_in (in_tables_1_6 _ (List.mem_of_getElem? (i := 189) rfl)) rfl
theorem wf9_68 : (.fieldLink "SchemaReaderModel$Text" 68 "SchemaReaderModel$Text" "finished" "[I" : Cond) ∈ sr_G := sr_in (in_tables_1_5 _ (List.mem_of_getElem? (i := 90) rfl)) rfl
theorem wf9_271 : (.fieldLink "SchemaReaderModel$Text" 271 "SchemaReaderModel$Text" "done" "I" : Cond) ∈ sr_G := sr_in (in_tables_1_5 _ (List.mem_of_getElem? (i := 89) rfl)) rfl
theorem wf9_74 : (.fieldLink "SchemaReaderModel$Text" 74 "SchemaReaderModel$Text" "told" "[Z" : Cond) ∈ sr_G := sr_in (in_tables_1_5 _ (List.mem_of_getElem? (i := 97) rfl)) rfl
theorem wf9_292 : (.fieldLink "SchemaReaderModel$Text" 292 "SchemaReaderModel$Text" "end" "I" : Cond) ∈ sr_G := sr_in (in_tables_1_5 _ (List.mem_of_getElem? (i := 57) rfl)) rfl
theorem wf9_286 : (.fieldLink "SchemaReaderModel$Text" 286 "SchemaReaderModel$Text" "root" "I" : Cond) ∈ sr_G := sr_in (in_tables_1_5 _ (List.mem_of_getElem? (i := 92) rfl)) rfl
theorem wf10_45 : (.fieldLink "SchemaReaderModel" 45 "SchemaReaderModel" "thrown" "I" : Cond) ∈ sr_G := sr_in (in_tables_1_5 _ (List.mem_of_getElem? (i := 170) rfl)) rfl
theorem wf10_7 : (.fieldLink "SchemaReaderModel" 7 "SchemaReaderModel" "tape" "[B" : Cond) ∈ sr_G := sr_in (in_tables_1_5 _ (List.mem_of_getElem? (i := 171) rfl)) rfl
theorem wf10_48 : (.fieldLink "SchemaReaderModel" 48 "SchemaReaderModel" "taped" "I" : Cond) ∈ sr_G := sr_in (in_tables_1_5 _ (List.mem_of_getElem? (i := 172) rfl)) rfl
theorem wf10_26 : (.fieldLink "SchemaReaderModel" 26 "SchemaReaderModel" "place" "I" : Cond) ∈ sr_G := sr_in (in_tables_1_5 _ (List.mem_of_getElem? (i := 177) rfl)) rfl
theorem wf10_67 : (.fieldLink "SchemaReaderModel" 67 "SchemaReaderModel" "has" "Z" : Cond) ∈ sr_G := sr_in (in_tables_1_5 _ (List.mem_of_getElem? (i := 176) rfl)) rfl
theorem wf10_16 : (.fieldLink "SchemaReaderModel" 16 "SchemaReaderModel" "typed" "LSchemaReaderModel$Text;" : Cond) ∈ sr_G := sr_in (in_tables_1_5 _ (List.mem_of_getElem? (i := 173) rfl)) rfl
theorem wf10_72 : (.fieldLinkNest "SchemaReaderModel" 72 "SchemaReaderModel$Text" "plainSize" "I" "SchemaReaderModel" : Cond) ∈ sr_N := List.mem_filter.mpr ⟨in_tables_1_5 _ (List.mem_of_getElem? (i := 95) rfl), rfl⟩
theorem wf10_75 : (.fieldLinkNest "SchemaReaderModel" 75 "SchemaReaderModel$Text" "plain" "[B" "SchemaReaderModel" : Cond) ∈ sr_N := List.mem_filter.mpr ⟨in_tables_1_5 _ (List.mem_of_getElem? (i := 94) rfl), rfl⟩
theorem wf10_34 : (.fieldLink "SchemaReaderModel" 34 "SchemaReaderModel" "sizes" "[I" : Cond) ∈ sr_G := sr_in (in_tables_1_5 _ (List.mem_of_getElem? (i := 179) rfl)) rfl
theorem wf10_86 : (.fieldLinkNest "SchemaReaderModel" 86 "SchemaReaderModel$Text" "length" "I" "SchemaReaderModel" : Cond) ∈ sr_N := List.mem_filter.mpr ⟨in_tables_1_5 _ (List.mem_of_getElem? (i := 51) rfl), rfl⟩
theorem wf10_31 : (.fieldLink "SchemaReaderModel" 31 "SchemaReaderModel" "kept" "[B" : Cond) ∈ sr_G := sr_in (in_tables_1_5 _ (List.mem_of_getElem? (i := 178) rfl)) rfl
theorem wf10_89 : (.fieldLinkNest "SchemaReaderModel" 89 "SchemaReaderModel$Text" "bytes" "[B" "SchemaReaderModel" : Cond) ∈ sr_N := List.mem_filter.mpr ⟨in_tables_1_5 _ (List.mem_of_getElem? (i := 49) rfl), rfl⟩
theorem wf10_105 : (.fieldLinkNest "SchemaReaderModel" 105 "SchemaReaderModel$Text" "kids" "[I" "SchemaReaderModel" : Cond) ∈ sr_N := List.mem_filter.mpr ⟨in_tables_1_5 _ (List.mem_of_getElem? (i := 76) rfl), rfl⟩
theorem wf10_142 : (.fieldLinkNest "SchemaReaderModel" 142 "SchemaReaderModel$Text" "kidName" "[I" "SchemaReaderModel" : Cond) ∈ sr_N := List.mem_filter.mpr ⟨in_tables_1_5 _ (List.mem_of_getElem? (i := 84) rfl), rfl⟩
theorem wf10_122 : (.fieldLinkNest "SchemaReaderModel" 122 "SchemaReaderModel$Text" "kidNext" "[I" "SchemaReaderModel" : Cond) ∈ sr_N := List.mem_filter.mpr ⟨in_tables_1_5 _ (List.mem_of_getElem? (i := 88) rfl), rfl⟩
theorem wf10_92 : (.fieldLinkNest "SchemaReaderModel" 92 "SchemaReaderModel$Text" "sorts" "[I" "SchemaReaderModel" : Cond) ∈ sr_N := List.mem_filter.mpr ⟨in_tables_1_5 _ (List.mem_of_getElem? (i := 70) rfl), rfl⟩
theorem wf10_102 : (.fieldLinkNest "SchemaReaderModel" 102 "SchemaReaderModel$Text" "kidShape" "[I" "SchemaReaderModel" : Cond) ∈ sr_N := List.mem_filter.mpr ⟨in_tables_1_5 _ (List.mem_of_getElem? (i := 82) rfl), rfl⟩
theorem wf10_112 : (.fieldLinkNest "SchemaReaderModel" 112 "SchemaReaderModel$Text" "names" "[I" "SchemaReaderModel" : Cond) ∈ sr_N := List.mem_filter.mpr ⟨in_tables_1_5 _ (List.mem_of_getElem? (i := 72) rfl), rfl⟩
theorem wf10_119 : (.fieldLinkNest "SchemaReaderModel" 119 "SchemaReaderModel$Text" "wide" "[I" "SchemaReaderModel" : Cond) ∈ sr_N := List.mem_filter.mpr ⟨in_tables_1_5 _ (List.mem_of_getElem? (i := 74) rfl), rfl⟩
theorem wf10_38 : (.fieldLink "SchemaReaderModel" 38 "SchemaReaderModel" "asked" "[Z" : Cond) ∈ sr_G := sr_in (in_tables_1_5 _ (List.mem_of_getElem? (i := 180) rfl)) rfl
theorem wf10_42 : (.fieldLink "SchemaReaderModel" 42 "SchemaReaderModel" "pairs" "[I" : Cond) ∈ sr_G := sr_in (in_tables_1_5 _ (List.mem_of_getElem? (i := 181) rfl)) rfl
theorem wf10_125 : (.fieldLink "SchemaReaderModel" 125 "SchemaReaderModel" "many" "I" : Cond) ∈ sr_G := sr_in (in_tables_1_5 _ (List.mem_of_getElem? (i := 182) rfl)) rfl
theorem wf10_155 : (.fieldLinkNest "SchemaReaderModel" 155 "SchemaReaderModel$Text" "kidDefault" "[I" "SchemaReaderModel" : Cond) ∈ sr_N := List.mem_filter.mpr ⟨in_tables_1_5 _ (List.mem_of_getElem? (i := 86) rfl), rfl⟩
theorem wf10_149 : (.fieldLinkNest "SchemaReaderModel" 149 "SchemaReaderModel$Text" "fallback" "[I" "SchemaReaderModel" : Cond) ∈ sr_N := List.mem_filter.mpr ⟨in_tables_1_5 _ (List.mem_of_getElem? (i := 79) rfl), rfl⟩
theorem wf10_128 : (.fieldLinkNest "SchemaReaderModel" 128 "SchemaReaderModel$Text" "root" "I" "SchemaReaderModel" : Cond) ∈ sr_N := List.mem_filter.mpr ⟨in_tables_1_5 _ (List.mem_of_getElem? (i := 91) rfl), rfl⟩
theorem wf10_71 : (.fieldLinkNest "SchemaReaderModel" 71 "SchemaReaderModel$Text" "place" "I" "SchemaReaderModel" : Cond) ∈ sr_N := List.mem_filter.mpr ⟨in_tables_1_5 _ (List.mem_of_getElem? (i := 56) rfl), rfl⟩
theorem wf10_20 : (.fieldLink "SchemaReaderModel" 20 "SchemaReaderModel" "left" "LSchemaReaderModel$Text;" : Cond) ∈ sr_G := sr_in (in_tables_1_5 _ (List.mem_of_getElem? (i := 174) rfl)) rfl
theorem wf10_23 : (.fieldLink "SchemaReaderModel" 23 "SchemaReaderModel" "right" "LSchemaReaderModel$Text;" : Cond) ∈ sr_G := sr_in (in_tables_1_5 _ (List.mem_of_getElem? (i := 175) rfl)) rfl
theorem wcl8_101 : (.constantLong "SchemaReader" 101 (-4513414715797952619) : Cond) ∈ sr_G := sr_in (in_tables_1_1 _ (List.mem_of_getElem? (i := 93) rfl)) rfl
theorem wf7_35 : (.fieldLink "SchemaReader$Text" 35 "SchemaReader$Text" "length" "I" : Cond) ∈ sr_G := sr_in (in_tables_1_1 _ (List.mem_of_getElem? (i := 69) rfl)) rfl
theorem wf7_9 : (.fieldLink "SchemaReader$Text" 9 "SchemaReader$Text" "tape" "[B" : Cond) ∈ sr_G := sr_in (in_tables_1_1 _ (List.mem_of_getElem? (i := 63) rfl)) rfl
theorem wf7_39 : (.fieldLink "SchemaReader$Text" 39 "SchemaReader$Text" "wrongPlace" "I" : Cond) ∈ sr_G := sr_in (in_tables_1_1 _ (List.mem_of_getElem? (i := 70) rfl)) rfl
theorem wf7_18 : (.fieldLink "SchemaReader$Text" 18 "SchemaReader$Text" "inner" "[I" : Cond) ∈ sr_G := sr_in (in_tables_1_1 _ (List.mem_of_getElem? (i := 65) rfl)) rfl
theorem wf7_22 : (.fieldLink "SchemaReader$Text" 22 "SchemaReader$Text" "next" "[I" : Cond) ∈ sr_G := sr_in (in_tables_1_1 _ (List.mem_of_getElem? (i := 66) rfl)) rfl
theorem wf7_25 : (.fieldLink "SchemaReader$Text" 25 "SchemaReader$Text" "amount" "[I" : Cond) ∈ sr_G := sr_in (in_tables_1_1 _ (List.mem_of_getElem? (i := 67) rfl)) rfl
theorem wf7_15 : (.fieldLink "SchemaReader$Text" 15 "SchemaReader$Text" "said" "[B" : Cond) ∈ sr_G := sr_in (in_tables_1_1 _ (List.mem_of_getElem? (i := 64) rfl)) rfl
theorem wcl7_82 : (.constantLong "SchemaReader$Text" 82 (10) : Cond) ∈ sr_G := sr_in (in_tables_1_2 _ (List.mem_of_getElem? (i := 138) rfl)) rfl
theorem wf2_11 : (.fieldLink "SchemaReader$Keys" 11 "SchemaReader$Keys" "heads" "[I" : Cond) ∈ sr_G := sr_in (in_tables_1_1 _ (List.mem_of_getElem? (i := 45) rfl)) rfl
theorem wf2_24 : (.fieldLink "SchemaReader$Keys" 24 "SchemaReader$Keys" "count" "I" : Cond) ∈ sr_G := sr_in (in_tables_1_1 _ (List.mem_of_getElem? (i := 49) rfl)) rfl
theorem wf2_15 : (.fieldLink "SchemaReader$Keys" 15 "SchemaReader$Keys" "places" "[I" : Cond) ∈ sr_G := sr_in (in_tables_1_1 _ (List.mem_of_getElem? (i := 46) rfl)) rfl
theorem wf2_18 : (.fieldLink "SchemaReader$Keys" 18 "SchemaReader$Keys" "owners" "[I" : Cond) ∈ sr_G := sr_in (in_tables_1_1 _ (List.mem_of_getElem? (i := 47) rfl)) rfl
theorem wf2_21 : (.fieldLink "SchemaReader$Keys" 21 "SchemaReader$Keys" "nexts" "[I" : Cond) ∈ sr_G := sr_in (in_tables_1_1 _ (List.mem_of_getElem? (i := 48) rfl)) rfl
theorem wcl7_154 : (.constantLong "SchemaReader$Text" 154 (-922337203685477580) : Cond) ∈ sr_G := sr_in (in_tables_1_2 _ (List.mem_of_getElem? (i := 137) rfl)) rfl
theorem wf7_31 : (.fieldLink "SchemaReader$Text" 31 "SchemaReader$Text" "keys" "LSchemaReader$Keys;" : Cond) ∈ sr_G := sr_in (in_tables_1_1 _ (List.mem_of_getElem? (i := 68) rfl)) rfl
theorem wf6_44 : (.fieldLink "SchemaReader$Schema" 44 "SchemaReader$Schema" "letterCount" "I" : Cond) ∈ sr_G := sr_in (in_tables_1_1 _ (List.mem_of_getElem? (i := 109) rfl)) rfl
theorem wf6_48 : (.fieldLink "SchemaReader$Schema" 48 "SchemaReader$Schema" "slotCount" "I" : Cond) ∈ sr_G := sr_in (in_tables_1_1 _ (List.mem_of_getElem? (i := 110) rfl)) rfl
theorem wf6_9 : (.fieldLink "SchemaReader$Schema" 9 "SchemaReader$Schema" "plain" "[B" : Cond) ∈ sr_G := sr_in (in_tables_1_1 _ (List.mem_of_getElem? (i := 99) rfl)) rfl
theorem wf6_15 : (.fieldLink "SchemaReader$Schema" 15 "SchemaReader$Schema" "kinds" "[I" : Cond) ∈ sr_G := sr_in (in_tables_1_1 _ (List.mem_of_getElem? (i := 100) rfl)) rfl
theorem wf6_19 : (.fieldLink "SchemaReader$Schema" 19 "SchemaReader$Schema" "meant" "[I" : Cond) ∈ sr_G := sr_in (in_tables_1_1 _ (List.mem_of_getElem? (i := 101) rfl)) rfl
theorem wf6_22 : (.fieldLink "SchemaReader$Schema" 22 "SchemaReader$Schema" "firsts" "[I" : Cond) ∈ sr_G := sr_in (in_tables_1_1 _ (List.mem_of_getElem? (i := 102) rfl)) rfl
theorem wf6_25 : (.fieldLink "SchemaReader$Schema" 25 "SchemaReader$Schema" "nexts" "[I" : Cond) ∈ sr_G := sr_in (in_tables_1_1 _ (List.mem_of_getElem? (i := 103) rfl)) rfl
theorem wf6_28 : (.fieldLink "SchemaReader$Schema" 28 "SchemaReader$Schema" "names" "[I" : Cond) ∈ sr_G := sr_in (in_tables_1_1 _ (List.mem_of_getElem? (i := 104) rfl)) rfl
theorem wf6_31 : (.fieldLink "SchemaReader$Schema" 31 "SchemaReader$Schema" "fieldNames" "[I" : Cond) ∈ sr_G := sr_in (in_tables_1_1 _ (List.mem_of_getElem? (i := 105) rfl)) rfl
theorem wf6_34 : (.fieldLink "SchemaReader$Schema" 34 "SchemaReader$Schema" "amounts" "[I" : Cond) ∈ sr_G := sr_in (in_tables_1_1 _ (List.mem_of_getElem? (i := 106) rfl)) rfl
theorem wf6_37 : (.fieldLink "SchemaReader$Schema" 37 "SchemaReader$Schema" "fieldDefaults" "[Z" : Cond) ∈ sr_G := sr_in (in_tables_1_1 _ (List.mem_of_getElem? (i := 107) rfl)) rfl
theorem wf6_41 : (.fieldLink "SchemaReader$Schema" 41 "SchemaReader$Schema" "enumDefaults" "[Z" : Cond) ∈ sr_G := sr_in (in_tables_1_1 _ (List.mem_of_getElem? (i := 108) rfl)) rfl
theorem wf11_18 : (.fieldLink "SchemaReader$Couples" 18 "SchemaReader$Couples" "count" "I" : Cond) ∈ sr_G := sr_in (in_tables_1_1 _ (List.mem_of_getElem? (i := 146) rfl)) rfl
theorem wf11_9 : (.fieldLink "SchemaReader$Couples" 9 "SchemaReader$Couples" "firsts" "[I" : Cond) ∈ sr_G := sr_in (in_tables_1_1 _ (List.mem_of_getElem? (i := 144) rfl)) rfl
theorem wf11_15 : (.fieldLink "SchemaReader$Couples" 15 "SchemaReader$Couples" "seconds" "[I" : Cond) ∈ sr_G := sr_in (in_tables_1_1 _ (List.mem_of_getElem? (i := 145) rfl)) rfl
theorem wf4_15 : (.fieldLink "SchemaReader$Looker" 15 "SchemaReader$Looker" "faultPlace" "I" : Cond) ∈ sr_G := sr_in (in_tables_1_1 _ (List.mem_of_getElem? (i := 196) rfl)) rfl
theorem wf4_9 : (.fieldLink "SchemaReader$Looker" 9 "SchemaReader$Looker" "fault" "I" : Cond) ∈ sr_G := sr_in (in_tables_1_1 _ (List.mem_of_getElem? (i := 195) rfl)) rfl
theorem wf4_18 : (.fieldLink "SchemaReader$Looker" 18 "SchemaReader$Looker" "text" "LSchemaReader$Text;" : Cond) ∈ sr_G := sr_in (in_tables_1_1 _ (List.mem_of_getElem? (i := 192) rfl)) rfl
theorem wf4_22 : (.fieldLink "SchemaReader$Looker" 22 "SchemaReader$Looker" "schema" "LSchemaReader$Schema;" : Cond) ∈ sr_G := sr_in (in_tables_1_1 _ (List.mem_of_getElem? (i := 193) rfl)) rfl
theorem wcl4_210 : (.constantLong "SchemaReader$Looker" 210 (-1) : Cond) ∈ sr_G := sr_in (in_tables_1_3 _ (List.mem_of_getElem? (i := 90) rfl)) rfl
theorem wcl4_212 : (.constantLong "SchemaReader$Looker" 212 (64) : Cond) ∈ sr_G := sr_in (in_tables_1_3 _ (List.mem_of_getElem? (i := 91) rfl)) rfl
theorem wf4_26 : (.fieldLink "SchemaReader$Looker" 26 "SchemaReader$Looker" "due" "LSchemaReader$Couples;" : Cond) ∈ sr_G := sr_in (in_tables_1_1 _ (List.mem_of_getElem? (i := 194) rfl)) rfl
theorem wf0_15 : (.fieldLink "SchemaReader$Defaults" 15 "SchemaReader$Defaults" "schema" "LSchemaReader$Schema;" : Cond) ∈ sr_G := sr_in (in_tables_1_3 _ (List.mem_of_getElem? (i := 176) rfl)) rfl
theorem wf0_9 : (.fieldLink "SchemaReader$Defaults" 9 "SchemaReader$Defaults" "text" "LSchemaReader$Text;" : Cond) ∈ sr_G := sr_in (in_tables_1_3 _ (List.mem_of_getElem? (i := 175) rfl)) rfl
theorem wf5_11 : (.fieldLink "SchemaReader$Pair" 11 "SchemaReader$Pair" "writer" "LSchemaReader$Schema;" : Cond) ∈ sr_G := sr_in (in_tables_1_4 _ (List.mem_of_getElem? (i := 182) rfl)) rfl
theorem wf5_17 : (.fieldLink "SchemaReader$Pair" 17 "SchemaReader$Pair" "reader" "LSchemaReader$Schema;" : Cond) ∈ sr_G := sr_in (in_tables_1_4 _ (List.mem_of_getElem? (i := 183) rfl)) rfl
theorem wf5_20 : (.fieldLink "SchemaReader$Pair" 20 "SchemaReader$Pair" "asked" "LSchemaReader$Couples;" : Cond) ∈ sr_G := sr_in (in_tables_1_4 _ (List.mem_of_getElem? (i := 184) rfl)) rfl
theorem wf8_49 : (.fieldLink "SchemaReader" 49 "SchemaReader" "faultPlace" "I" : Cond) ∈ sr_G := sr_in (in_tables_1_1 _ (List.mem_of_getElem? (i := 161) rfl)) rfl
theorem wf8_45 : (.fieldLink "SchemaReader" 45 "SchemaReader" "hasLatest" "Z" : Cond) ∈ sr_G := sr_in (in_tables_1_1 _ (List.mem_of_getElem? (i := 160) rfl)) rfl
theorem wf8_31 : (.fieldLink "SchemaReader" 31 "SchemaReader" "latest" "LSchemaReader$Schema;" : Cond) ∈ sr_G := sr_in (in_tables_1_1 _ (List.mem_of_getElem? (i := 159) rfl)) rfl
theorem wf8_22 : (.fieldLink "SchemaReader" 22 "SchemaReader" "printSteps" "[J" : Cond) ∈ sr_G := sr_in (in_tables_1_1 _ (List.mem_of_getElem? (i := 158) rfl)) rfl
theorem wf8_10 : (.fieldLink "SchemaReader" 10 "SchemaReader" "text" "LSchemaReader$Text;" : Cond) ∈ sr_G := sr_in (in_tables_1_1 _ (List.mem_of_getElem? (i := 154) rfl)) rfl
theorem wf8_38 : (.fieldLink "SchemaReader" 38 "SchemaReader" "dueDefaults" "LSchemaReader$Couples;" : Cond) ∈ sr_G := sr_in (in_tables_1_1 _ (List.mem_of_getElem? (i := 155) rfl)) rfl
theorem wf20_1053 : (.fieldLink "java/lang/String" 1053 "jdk/internal/util/Preconditions" "SIOOBE_FORMATTER" "Ljava/util/function/BiFunction;" : Cond) ∈ sr_G := sr_in (in_tables_1_2 _ (List.mem_of_getElem? (i := 96) rfl)) rfl
theorem g20_335 (c0 : Cond) : GoodIn (c0 :: sr_G) (wsV RX20 335 RX20 yX20_coder wsX20_coder) := sr_V c0 (sr_ins (by decide +kernel))
theorem g20_1059 (c0 : Cond) : GoodIn (c0 :: sr_G) (va_wsS RX20 1059 yX22_ckQ wsX22_ckQ) := sr_S c0 (sr_ins (by decide +kernel))
theorem g21_9 (c0 : Cond) : GoodIn (c0 :: sr_G) (va_wsS RX21 9 yX20_checkIndex wsX20_checkIndex) := sr_S c0 (sr_ins (by decide +kernel))
theorem g20_492 (c0 : Cond) : GoodIn (c0 :: sr_G) (wsV RX20 492 RX20 yX20_isLatin1 wsX20_isLatin1) := sr_V c0 (sr_ins (by decide +kernel))
theorem g20_495 (c0 : Cond) : GoodIn (c0 :: sr_G) (va_wsS RX20 495 yX21_charAt wsX21_charAt) := sr_S c0 (sr_ins (by decide +kernel))
theorem g21_88 (c0 : Cond) : GoodIn (c0 :: sr_G) (va_wsS RX21 88 yX21_canEncode wsX21_canEncode) := sr_S c0 (sr_ins (by decide +kernel))
theorem g21_95 (c0 : Cond) : GoodIn (c0 :: sr_G) (va_wsS RX21 95 yX21_indexOfChar wsX21_indexOfChar) := sr_S c0 (sr_ins (by decide +kernel))
theorem g20_505 (c0 : Cond) : GoodIn (c0 :: sr_G) (wsV RX20 505 RX20 yX20_length wsX20_length) := sr_V c0 (sr_ins (by decide +kernel))
theorem g20_637 (c0 : Cond) : GoodIn (c0 :: sr_G) (va_wsS RX20 637 yX21_indexOf wsX21_indexOf) := sr_S c0 (sr_ins (by decide +kernel))
theorem g20_633 (c0 : Cond) : GoodIn (c0 :: sr_G) (wsV RX20 633 RX20 yX20_indexOf2 wsX20_indexOf2) := sr_V c0 (sr_ins (by decide +kernel))
theorem wm21_38 : ∀ w ∈ ([.methodLink RX21 38 Lib.Math.min.name, .static Lib.Math.min.name, .initialized "java/lang/Math", .code Lib.Math.min.name Lib.Math.min.code 2 (some .int)] : List Cond), w ∈ sr_G := sr_ins (by decide +kernel)
theorem wm21_92 : ∀ w ∈ ([.methodLink RX21 92 Lib.Math.max.name, .static Lib.Math.max.name, .initialized "java/lang/Math", .code Lib.Math.max.name Lib.Math.max.code 2 (some .int)] : List Cond), w ∈ sr_G := sr_ins (by decide +kernel)
