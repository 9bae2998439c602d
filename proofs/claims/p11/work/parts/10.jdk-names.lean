section
abbrev cX20_coder : ByteArray := prog_21_method_152_code
def yX20_coder : MethodName := ⟨RX20, "coder", "()B"⟩
def wsX20_coder : List Cond := .code yX20_coder cX20_coder 1 (some .byte) :: sr_G
def nq_cX20_coder : Nat := 0xac040400a70f00b42a0a00992600b2
theorem kq_cX20_coder : qOk cX20_coder nq_cX20_coder 15 = true := by decide +kernel
theorem dX20_coder_0 : decode cX20_coder 0 = .ok (.getstatic 38, 3) := qd_178 kq_cX20_coder (by decide +kernel)
theorem dX20_coder_3 : decode cX20_coder 3 = .ok (.ifCond .eq 10, 3) := qd_153 kq_cX20_coder (by decide +kernel)
theorem dX20_coder_6 : decode cX20_coder 6 = .ok (.aload_n 0, 1) := qd_42 kq_cX20_coder (by decide +kernel)
theorem dX20_coder_7 : decode cX20_coder 7 = .ok (.getfield 15, 3) := qd_180 kq_cX20_coder (by decide +kernel)
theorem dX20_coder_10 : decode cX20_coder 10 = .ok (.goto 4, 3) := qd_167 kq_cX20_coder (by decide +kernel)
theorem dX20_coder_13 : decode cX20_coder 13 = .ok (.iconst 1, 1) := qd_4 kq_cX20_coder (by decide +kernel)
theorem dX20_coder_14 : decode cX20_coder 14 = .ok (.ireturn, 1) := qd_172 kq_cX20_coder (by decide +kernel)
def rmX20_coder (mc ms : Nat) : Room := { frames := 0, cells := mc, slots := ms, locals := 0 }
abbrev cX20_isLatin1 : ByteArray := prog_21_method_154_code
def yX20_isLatin1 : MethodName := ⟨RX20, "isLatin1", "()Z"⟩
def wsX20_isLatin1 : List Cond := .code yX20_isLatin1 cX20_isLatin1 1 (some .boolean) :: sr_G
def nq_cX20_isLatin1 : Nat := 0xac030400a70407009a0f00b42a0e00992600b2
theorem kq_cX20_isLatin1 : qOk cX20_isLatin1 nq_cX20_isLatin1 19 = true := by decide +kernel
theorem dX20_isLatin1_0 : decode cX20_isLatin1 0 = .ok (.getstatic 38, 3) := qd_178 kq_cX20_isLatin1 (by decide +kernel)
theorem dX20_isLatin1_3 : decode cX20_isLatin1 3 = .ok (.ifCond .eq 14, 3) := qd_153 kq_cX20_isLatin1 (by decide +kernel)
theorem dX20_isLatin1_6 : decode cX20_isLatin1 6 = .ok (.aload_n 0, 1) := qd_42 kq_cX20_isLatin1 (by decide +kernel)
theorem dX20_isLatin1_7 : decode cX20_isLatin1 7 = .ok (.getfield 15, 3) := qd_180 kq_cX20_isLatin1 (by decide +kernel)
theorem dX20_isLatin1_10 : decode cX20_isLatin1 10 = .ok (.ifCond .ne 7, 3) := qd_154 kq_cX20_isLatin1 (by decide +kernel)
theorem dX20_isLatin1_13 : decode cX20_isLatin1 13 = .ok (.iconst 1, 1) := qd_4 kq_cX20_isLatin1 (by decide +kernel)
theorem dX20_isLatin1_14 : decode cX20_isLatin1 14 = .ok (.goto 4, 3) := qd_167 kq_cX20_isLatin1 (by decide +kernel)
theorem dX20_isLatin1_17 : decode cX20_isLatin1 17 = .ok (.iconst 0, 1) := qd_3 kq_cX20_isLatin1 (by decide +kernel)
theorem dX20_isLatin1_18 : decode cX20_isLatin1 18 = .ok (.ireturn, 1) := qd_172 kq_cX20_isLatin1 (by decide +kernel)
def rmX20_isLatin1 (mc ms : Nat) : Room := { frames := 0, cells := mc, slots := ms, locals := 0 }
abbrev cX20_length : ByteArray := prog_21_method_54_code
def yX20_length : MethodName := ⟨RX20, "length", "()I"⟩
def wsX20_length : List Cond := .code yX20_length cX20_length 1 (some .int) :: sr_G
def nq_cX20_length : Nat := 0xac7a4f01b62abe0900b42a
theorem kq_cX20_length : qOk cX20_length nq_cX20_length 11 = true := by decide +kernel
theorem dX20_length_0 : decode cX20_length 0 = .ok (.aload_n 0, 1) := qd_42 kq_cX20_length (by decide +kernel)
theorem dX20_length_1 : decode cX20_length 1 = .ok (.getfield 9, 3) := qd_180 kq_cX20_length (by decide +kernel)
theorem dX20_length_4 : decode cX20_length 4 = .ok (.arraylength, 1) := qd_190 kq_cX20_length (by decide +kernel)
theorem dX20_length_5 : decode cX20_length 5 = .ok (.aload_n 0, 1) := qd_42 kq_cX20_length (by decide +kernel)
theorem dX20_length_6 : decode cX20_length 6 = .ok (.invokevirtual 335, 3) := qd_182 kq_cX20_length (by decide +kernel)
theorem dX20_length_9 : decode cX20_length 9 = .ok (.ishr, 1) := qd_122 kq_cX20_length (by decide +kernel)
theorem dX20_length_10 : decode cX20_length 10 = .ok (.ireturn, 1) := qd_172 kq_cX20_length (by decide +kernel)
def rmX20_length (mc ms : Nat) : Room := { frames := 1, cells := mc, slots := ms, locals := 20 }
abbrev cX22_ck : ByteArray := prog_26_method_11_code
def yX22_ck : MethodName := ⟨RX22, "checkIndex", "(IILjava/util/function/BiFunction;)I"⟩
def wsX22_ck : List Cond := .code yX22_ck cX22_ck 3 (some .int) :: sr_G
def nq_cX22_ck : Nat := 0xac1abf5f00b81b1a2c0a00a11b1a08009b1a
theorem kq_cX22_ck : qOk cX22_ck nq_cX22_ck 18 = true := by decide +kernel
theorem dX22_ck_0 : decode cX22_ck 0 = .ok (.iload_n 0, 1) := qd_26 kq_cX22_ck (by decide +kernel)
theorem dX22_ck_1 : decode cX22_ck 1 = .ok (.ifCond .lt 8, 3) := qd_155 kq_cX22_ck (by decide +kernel)
theorem dX22_ck_4 : decode cX22_ck 4 = .ok (.iload_n 0, 1) := qd_26 kq_cX22_ck (by decide +kernel)
theorem dX22_ck_5 : decode cX22_ck 5 = .ok (.iload_n 1, 1) := qd_27 kq_cX22_ck (by decide +kernel)
theorem dX22_ck_6 : decode cX22_ck 6 = .ok (.if_icmp .lt 10, 3) := qd_161 kq_cX22_ck (by decide +kernel)
theorem dX22_ck_9 : decode cX22_ck 9 = .ok (.aload_n 2, 1) := qd_44 kq_cX22_ck (by decide +kernel)
theorem dX22_ck_10 : decode cX22_ck 10 = .ok (.iload_n 0, 1) := qd_26 kq_cX22_ck (by decide +kernel)
theorem dX22_ck_11 : decode cX22_ck 11 = .ok (.iload_n 1, 1) := qd_27 kq_cX22_ck (by decide +kernel)
theorem dX22_ck_12 : decode cX22_ck 12 = .ok (.invokestatic 95, 3) := qd_184 kq_cX22_ck (by decide +kernel)
theorem dX22_ck_15 : decode cX22_ck 15 = .ok (.athrow, 1) := qd_191 kq_cX22_ck (by decide +kernel)
theorem dX22_ck_16 : decode cX22_ck 16 = .ok (.iload_n 0, 1) := qd_26 kq_cX22_ck (by decide +kernel)
theorem dX22_ck_17 : decode cX22_ck 17 = .ok (.ireturn, 1) := qd_172 kq_cX22_ck (by decide +kernel)
def rmX22_ck (mc ms : Nat) : Room := { frames := 0, cells := mc, slots := ms, locals := 0 }
abbrev cX22_ckQ : ByteArray := prog_26_method_11_code
def yX22_ckQ : MethodName := ⟨RX22, "checkIndex", "(IILjava/util/function/BiFunction;)I"⟩
def wsX22_ckQ : List Cond := .code yX22_ckQ cX22_ckQ 3 (some .int) :: sr_G
def nq_cX22_ckQ : Nat := 0xac1abf5f00b81b1a2c0a00a11b1a08009b1a
theorem kq_cX22_ckQ : qOk cX22_ckQ nq_cX22_ckQ 18 = true := by decide +kernel
theorem dX22_ckQ_0 : decode cX22_ckQ 0 = .ok (.iload_n 0, 1) := qd_26 kq_cX22_ckQ (by decide +kernel)
theorem dX22_ckQ_1 : decode cX22_ckQ 1 = .ok (.ifCond .lt 8, 3) := qd_155 kq_cX22_ckQ (by decide +kernel)
theorem dX22_ckQ_4 : decode cX22_ckQ 4 = .ok (.iload_n 0, 1) := qd_26 kq_cX22_ckQ (by decide +kernel)
theorem dX22_ckQ_5 : decode cX22_ckQ 5 = .ok (.iload_n 1, 1) := qd_27 kq_cX22_ckQ (by decide +kernel)
theorem dX22_ckQ_6 : decode cX22_ckQ 6 = .ok (.if_icmp .lt 10, 3) := qd_161 kq_cX22_ckQ (by decide +kernel)
theorem dX22_ckQ_9 : decode cX22_ckQ 9 = .ok (.aload_n 2, 1) := qd_44 kq_cX22_ckQ (by decide +kernel)
theorem dX22_ckQ_10 : decode cX22_ckQ 10 = .ok (.iload_n 0, 1) := qd_26 kq_cX22_ckQ (by decide +kernel)
theorem dX22_ckQ_11 : decode cX22_ckQ 11 = .ok (.iload_n 1, 1) := qd_27 kq_cX22_ckQ (by decide +kernel)
theorem dX22_ckQ_12 : decode cX22_ckQ 12 = .ok (.invokestatic 95, 3) := qd_184 kq_cX22_ckQ (by decide +kernel)
theorem dX22_ckQ_15 : decode cX22_ckQ 15 = .ok (.athrow, 1) := qd_191 kq_cX22_ckQ (by decide +kernel)
theorem dX22_ckQ_16 : decode cX22_ckQ 16 = .ok (.iload_n 0, 1) := qd_26 kq_cX22_ckQ (by decide +kernel)
theorem dX22_ckQ_17 : decode cX22_ckQ 17 = .ok (.ireturn, 1) := qd_172 kq_cX22_ckQ (by decide +kernel)
def rmX22_ckQ (mc ms : Nat) : Room := { frames := 0, cells := mc, slots := ms, locals := 0 }
abbrev cX20_checkIndex : ByteArray := prog_21_method_155_code
def yX20_checkIndex : MethodName := ⟨RX20, "checkIndex", "(II)V"⟩
def wsX20_checkIndex : List Cond := .code yX20_checkIndex cX20_checkIndex 2 none :: sr_G
def nq_cX20_checkIndex : Nat := 0xb1572304b81d04b21b1a
theorem kq_cX20_checkIndex : qOk cX20_checkIndex nq_cX20_checkIndex 10 = true := by decide +kernel
theorem dX20_checkIndex_0 : decode cX20_checkIndex 0 = .ok (.iload_n 0, 1) := qd_26 kq_cX20_checkIndex (by decide +kernel)
theorem dX20_checkIndex_1 : decode cX20_checkIndex 1 = .ok (.iload_n 1, 1) := qd_27 kq_cX20_checkIndex (by decide +kernel)
theorem dX20_checkIndex_2 : decode cX20_checkIndex 2 = .ok (.getstatic 1053, 3) := qd_178 kq_cX20_checkIndex (by decide +kernel)
theorem dX20_checkIndex_5 : decode cX20_checkIndex 5 = .ok (.invokestatic 1059, 3) := qd_184 kq_cX20_checkIndex (by decide +kernel)
theorem dX20_checkIndex_8 : decode cX20_checkIndex 8 = .ok (.pop, 1) := qd_87 kq_cX20_checkIndex (by decide +kernel)
theorem dX20_checkIndex_9 : decode cX20_checkIndex 9 = .ok (.return_, 1) := qd_177 kq_cX20_checkIndex (by decide +kernel)
def rmX20_checkIndex (mc ms : Nat) : Room := { frames := 1, cells := mc, slots := ms, locals := 22 }
abbrev cX21_charAt : ByteArray := prog_22_method_2_code
def yX21_charAt : MethodName := ⟨RX21, "charAt", "([BI)C"⟩
def wsX21_charAt : List Cond := .code yX21_charAt cX21_charAt 2 (some .char) :: sr_G
def nq_cX21_charAt : Nat := 0xac927eff0011331b2a0900b8be2a1b
theorem kq_cX21_charAt : qOk cX21_charAt nq_cX21_charAt 15 = true := by decide +kernel
theorem dX21_charAt_0 : decode cX21_charAt 0 = .ok (.iload_n 1, 1) := qd_27 kq_cX21_charAt (by decide +kernel)
theorem dX21_charAt_1 : decode cX21_charAt 1 = .ok (.aload_n 0, 1) := qd_42 kq_cX21_charAt (by decide +kernel)
theorem dX21_charAt_2 : decode cX21_charAt 2 = .ok (.arraylength, 1) := qd_190 kq_cX21_charAt (by decide +kernel)
theorem dX21_charAt_3 : decode cX21_charAt 3 = .ok (.invokestatic 9, 3) := qd_184 kq_cX21_charAt (by decide +kernel)
theorem dX21_charAt_6 : decode cX21_charAt 6 = .ok (.aload_n 0, 1) := qd_42 kq_cX21_charAt (by decide +kernel)
theorem dX21_charAt_7 : decode cX21_charAt 7 = .ok (.iload_n 1, 1) := qd_27 kq_cX21_charAt (by decide +kernel)
theorem dX21_charAt_8 : decode cX21_charAt 8 = .ok (.baload, 1) := qd_51 kq_cX21_charAt (by decide +kernel)
theorem dX21_charAt_9 : decode cX21_charAt 9 = .ok (.sipush 255, 3) := qd_17 kq_cX21_charAt (by decide +kernel)
theorem dX21_charAt_12 : decode cX21_charAt 12 = .ok (.iand, 1) := qd_126 kq_cX21_charAt (by decide +kernel)
theorem dX21_charAt_13 : decode cX21_charAt 13 = .ok (.i2c, 1) := qd_146 kq_cX21_charAt (by decide +kernel)
theorem dX21_charAt_14 : decode cX21_charAt 14 = .ok (.ireturn, 1) := qd_172 kq_cX21_charAt (by decide +kernel)
def rmX21_charAt (mc ms : Nat) : Room := { frames := 2, cells := mc, slots := ms, locals := 43 }
abbrev cX20_charAt : ByteArray := prog_21_method_56_code
def yX20_charAt : MethodName := ⟨RX20, "charAt", "(I)C"⟩
def wsX20_charAt : List Cond := .code yX20_charAt cX20_charAt 2 (some .char) :: sr_G
def nq_cX20_charAt : Nat := 0xacf201b81b0900b42aacef01b81b0900b42a0c0099ec01b62a
theorem kq_cX20_charAt : qOk cX20_charAt nq_cX20_charAt 25 = true := by decide +kernel
theorem dX20_charAt_0 : decode cX20_charAt 0 = .ok (.aload_n 0, 1) := qd_42 kq_cX20_charAt (by decide +kernel)
theorem dX20_charAt_1 : decode cX20_charAt 1 = .ok (.invokevirtual 492, 3) := qd_182 kq_cX20_charAt (by decide +kernel)
theorem dX20_charAt_4 : decode cX20_charAt 4 = .ok (.ifCond .eq 12, 3) := qd_153 kq_cX20_charAt (by decide +kernel)
theorem dX20_charAt_7 : decode cX20_charAt 7 = .ok (.aload_n 0, 1) := qd_42 kq_cX20_charAt (by decide +kernel)
theorem dX20_charAt_8 : decode cX20_charAt 8 = .ok (.getfield 9, 3) := qd_180 kq_cX20_charAt (by decide +kernel)
theorem dX20_charAt_11 : decode cX20_charAt 11 = .ok (.iload_n 1, 1) := qd_27 kq_cX20_charAt (by decide +kernel)
theorem dX20_charAt_12 : decode cX20_charAt 12 = .ok (.invokestatic 495, 3) := qd_184 kq_cX20_charAt (by decide +kernel)
theorem dX20_charAt_15 : decode cX20_charAt 15 = .ok (.ireturn, 1) := qd_172 kq_cX20_charAt (by decide +kernel)
theorem dX20_charAt_16 : decode cX20_charAt 16 = .ok (.aload_n 0, 1) := qd_42 kq_cX20_charAt (by decide +kernel)
theorem dX20_charAt_17 : decode cX20_charAt 17 = .ok (.getfield 9, 3) := qd_180 kq_cX20_charAt (by decide +kernel)
theorem dX20_charAt_20 : decode cX20_charAt 20 = .ok (.iload_n 1, 1) := qd_27 kq_cX20_charAt (by decide +kernel)
theorem dX20_charAt_21 : decode cX20_charAt 21 = .ok (.invokestatic 498, 3) := qd_184 kq_cX20_charAt (by decide +kernel)
theorem dX20_charAt_24 : decode cX20_charAt 24 = .ok (.ireturn, 1) := qd_172 kq_cX20_charAt (by decide +kernel)
def rmX20_charAt (mc ms : Nat) : Room := { frames := 3, cells := mc, slots := ms, locals := 64 }
abbrev cX21_canEncode : ByteArray := prog_22_method_4_code
def yX21_canEncode : MethodName := ⟨RX21, "canEncode", "(I)Z"⟩
def wsX21_canEncode : List Cond := .code yX21_canEncode cX21_canEncode 1 (some .boolean) :: sr_G
def nq_cX21_canEncode : Nat := 0xac030400a7040700a3ff00111a0e009b1a
theorem kq_cX21_canEncode : qOk cX21_canEncode nq_cX21_canEncode 17 = true := by decide +kernel
theorem dX21_canEncode_0 : decode cX21_canEncode 0 = .ok (.iload_n 0, 1) := qd_26 kq_cX21_canEncode (by decide +kernel)
theorem dX21_canEncode_1 : decode cX21_canEncode 1 = .ok (.ifCond .lt 14, 3) := qd_155 kq_cX21_canEncode (by decide +kernel)
theorem dX21_canEncode_4 : decode cX21_canEncode 4 = .ok (.iload_n 0, 1) := qd_26 kq_cX21_canEncode (by decide +kernel)
theorem dX21_canEncode_5 : decode cX21_canEncode 5 = .ok (.sipush 255, 3) := qd_17 kq_cX21_canEncode (by decide +kernel)
theorem dX21_canEncode_8 : decode cX21_canEncode 8 = .ok (.if_icmp .gt 7, 3) := qd_163 kq_cX21_canEncode (by decide +kernel)
theorem dX21_canEncode_11 : decode cX21_canEncode 11 = .ok (.iconst 1, 1) := qd_4 kq_cX21_canEncode (by decide +kernel)
theorem dX21_canEncode_12 : decode cX21_canEncode 12 = .ok (.goto 4, 3) := qd_167 kq_cX21_canEncode (by decide +kernel)
theorem dX21_canEncode_15 : decode cX21_canEncode 15 = .ok (.iconst 0, 1) := qd_3 kq_cX21_canEncode (by decide +kernel)
theorem dX21_canEncode_16 : decode cX21_canEncode 16 = .ok (.ireturn, 1) := qd_172 kq_cX21_canEncode (by decide +kernel)
def rmX21_canEncode (mc ms : Nat) : Room := { frames := 0, cells := mc, slots := ms, locals := 0 }
abbrev cX21_indexOfChar : ByteArray := prog_22_method_23_code
def yX21_indexOfChar : MethodName := ⟨RX21, "indexOfChar", "([BIII)I"⟩
def wsX21_indexOfChar : List Cond := .code yX21_indexOfChar cX21_indexOfChar 6 (some .int) :: sr_G
def nq_cX21_indexOfChar : Nat := 0xac02ebffa7010584ac05150600a004153305152a1500a21d051505361c0436911b
theorem kq_cX21_indexOfChar : qOk cX21_indexOfChar nq_cX21_indexOfChar 33 = true := by decide +kernel
theorem dX21_indexOfChar_0 : decode cX21_indexOfChar 0 = .ok (.iload_n 1, 1) := qd_27 kq_cX21_indexOfChar (by decide +kernel)
theorem dX21_indexOfChar_1 : decode cX21_indexOfChar 1 = .ok (.i2b, 1) := qd_145 kq_cX21_indexOfChar (by decide +kernel)
theorem dX21_indexOfChar_2 : decode cX21_indexOfChar 2 = .ok (.istore 4, 2) := qd_54 kq_cX21_indexOfChar (by decide +kernel)
theorem dX21_indexOfChar_4 : decode cX21_indexOfChar 4 = .ok (.iload_n 2, 1) := qd_28 kq_cX21_indexOfChar (by decide +kernel)
theorem dX21_indexOfChar_5 : decode cX21_indexOfChar 5 = .ok (.istore 5, 2) := qd_54 kq_cX21_indexOfChar (by decide +kernel)
theorem dX21_indexOfChar_7 : decode cX21_indexOfChar 7 = .ok (.iload 5, 2) := qd_21 kq_cX21_indexOfChar (by decide +kernel)
theorem dX21_indexOfChar_9 : decode cX21_indexOfChar 9 = .ok (.iload_n 3, 1) := qd_29 kq_cX21_indexOfChar (by decide +kernel)
theorem dX21_indexOfChar_10 : decode cX21_indexOfChar 10 = .ok (.if_icmp .ge 21, 3) := qd_162 kq_cX21_indexOfChar (by decide +kernel)
theorem dX21_indexOfChar_13 : decode cX21_indexOfChar 13 = .ok (.aload_n 0, 1) := qd_42 kq_cX21_indexOfChar (by decide +kernel)
theorem dX21_indexOfChar_14 : decode cX21_indexOfChar 14 = .ok (.iload 5, 2) := qd_21 kq_cX21_indexOfChar (by decide +kernel)
theorem dX21_indexOfChar_16 : decode cX21_indexOfChar 16 = .ok (.baload, 1) := qd_51 kq_cX21_indexOfChar (by decide +kernel)
theorem dX21_indexOfChar_17 : decode cX21_indexOfChar 17 = .ok (.iload 4, 2) := qd_21 kq_cX21_indexOfChar (by decide +kernel)
theorem dX21_indexOfChar_19 : decode cX21_indexOfChar 19 = .ok (.if_icmp .ne 6, 3) := qd_160 kq_cX21_indexOfChar (by decide +kernel)
theorem dX21_indexOfChar_22 : decode cX21_indexOfChar 22 = .ok (.iload 5, 2) := qd_21 kq_cX21_indexOfChar (by decide +kernel)
theorem dX21_indexOfChar_24 : decode cX21_indexOfChar 24 = .ok (.ireturn, 1) := qd_172 kq_cX21_indexOfChar (by decide +kernel)
theorem dX21_indexOfChar_25 : decode cX21_indexOfChar 25 = .ok (.iinc 5 1, 3) := qd_132 kq_cX21_indexOfChar (by decide +kernel)
theorem dX21_indexOfChar_28 : decode cX21_indexOfChar 28 = .ok (.goto (-21), 3) := qd_167 kq_cX21_indexOfChar (by decide +kernel)
theorem dX21_indexOfChar_31 : decode cX21_indexOfChar 31 = .ok (.iconst (-1), 1) := qd_2 kq_cX21_indexOfChar (by decide +kernel)
theorem dX21_indexOfChar_32 : decode cX21_indexOfChar 32 = .ok (.ireturn, 1) := qd_172 kq_cX21_indexOfChar (by decide +kernel)
def rmX21_indexOfChar (mc ms : Nat) : Room := { frames := 0, cells := mc, slots := ms, locals := 0 }
abbrev cX21_indexOf : ByteArray := prog_22_method_22_code
def yX21_indexOf : MethodName := ⟨RX21, "indexOf", "([BIII)I"⟩
def wsX21_indexOf : List Cond := .code yX21_indexOf cX21_indexOf 4 (some .int) :: sr_G
def nq_cX21_indexOf : Nat := 0xac5f00b81d1c1b2aac020500a11d1c3e2600b8be2a1d3d5c00b8031cac0205009a5800b81b
theorem kq_cX21_indexOf : qOk cX21_indexOf nq_cX21_indexOf 37 = true := by decide +kernel
theorem dX21_indexOf_0 : decode cX21_indexOf 0 = .ok (.iload_n 1, 1) := qd_27 kq_cX21_indexOf (by decide +kernel)
theorem dX21_indexOf_1 : decode cX21_indexOf 1 = .ok (.invokestatic 88, 3) := qd_184 kq_cX21_indexOf (by decide +kernel)
theorem dX21_indexOf_4 : decode cX21_indexOf 4 = .ok (.ifCond .ne 5, 3) := qd_154 kq_cX21_indexOf (by decide +kernel)
theorem dX21_indexOf_7 : decode cX21_indexOf 7 = .ok (.iconst (-1), 1) := qd_2 kq_cX21_indexOf (by decide +kernel)
theorem dX21_indexOf_8 : decode cX21_indexOf 8 = .ok (.ireturn, 1) := qd_172 kq_cX21_indexOf (by decide +kernel)
theorem dX21_indexOf_9 : decode cX21_indexOf 9 = .ok (.iload_n 2, 1) := qd_28 kq_cX21_indexOf (by decide +kernel)
theorem dX21_indexOf_10 : decode cX21_indexOf 10 = .ok (.iconst 0, 1) := qd_3 kq_cX21_indexOf (by decide +kernel)
theorem dX21_indexOf_11 : decode cX21_indexOf 11 = .ok (.invokestatic 92, 3) := qd_184 kq_cX21_indexOf (by decide +kernel)
theorem dX21_indexOf_14 : decode cX21_indexOf 14 = .ok (.istore_n 2, 1) := qd_61 kq_cX21_indexOf (by decide +kernel)
theorem dX21_indexOf_15 : decode cX21_indexOf 15 = .ok (.iload_n 3, 1) := qd_29 kq_cX21_indexOf (by decide +kernel)
theorem dX21_indexOf_16 : decode cX21_indexOf 16 = .ok (.aload_n 0, 1) := qd_42 kq_cX21_indexOf (by decide +kernel)
theorem dX21_indexOf_17 : decode cX21_indexOf 17 = .ok (.arraylength, 1) := qd_190 kq_cX21_indexOf (by decide +kernel)
theorem dX21_indexOf_18 : decode cX21_indexOf 18 = .ok (.invokestatic 38, 3) := qd_184 kq_cX21_indexOf (by decide +kernel)
theorem dX21_indexOf_21 : decode cX21_indexOf 21 = .ok (.istore_n 3, 1) := qd_62 kq_cX21_indexOf (by decide +kernel)
theorem dX21_indexOf_22 : decode cX21_indexOf 22 = .ok (.iload_n 2, 1) := qd_28 kq_cX21_indexOf (by decide +kernel)
theorem dX21_indexOf_23 : decode cX21_indexOf 23 = .ok (.iload_n 3, 1) := qd_29 kq_cX21_indexOf (by decide +kernel)
theorem dX21_indexOf_24 : decode cX21_indexOf 24 = .ok (.if_icmp .lt 5, 3) := qd_161 kq_cX21_indexOf (by decide +kernel)
theorem dX21_indexOf_27 : decode cX21_indexOf 27 = .ok (.iconst (-1), 1) := qd_2 kq_cX21_indexOf (by decide +kernel)
theorem dX21_indexOf_28 : decode cX21_indexOf 28 = .ok (.ireturn, 1) := qd_172 kq_cX21_indexOf (by decide +kernel)
theorem dX21_indexOf_29 : decode cX21_indexOf 29 = .ok (.aload_n 0, 1) := qd_42 kq_cX21_indexOf (by decide +kernel)
theorem dX21_indexOf_30 : decode cX21_indexOf 30 = .ok (.iload_n 1, 1) := qd_27 kq_cX21_indexOf (by decide +kernel)
theorem dX21_indexOf_31 : decode cX21_indexOf 31 = .ok (.iload_n 2, 1) := qd_28 kq_cX21_indexOf (by decide +kernel)
theorem dX21_indexOf_32 : decode cX21_indexOf 32 = .ok (.iload_n 3, 1) := qd_29 kq_cX21_indexOf (by decide +kernel)
theorem dX21_indexOf_33 : decode cX21_indexOf 33 = .ok (.invokestatic 95, 3) := qd_184 kq_cX21_indexOf (by decide +kernel)
theorem dX21_indexOf_36 : decode cX21_indexOf 36 = .ok (.ireturn, 1) := qd_172 kq_cX21_indexOf (by decide +kernel)
def rmX21_indexOf (mc ms : Nat) : Room := { frames := 1, cells := mc, slots := ms, locals := 25 }
abbrev cX20_indexOf2 : ByteArray := prog_21_method_80_code
def yX20_indexOf2 : MethodName := ⟨RX20, "indexOf", "(II)I"⟩
def wsX20_indexOf2 : List Cond := .code yX20_indexOf2 cX20_indexOf2 3 (some .int) :: sr_G
def nq_cX20_indexOf2 : Nat := 0xac8002b8f901b62a1c1b0900b42a1000a77d02b8f901b62a1c1b0900b42a130099ec01b62a
theorem kq_cX20_indexOf2 : qOk cX20_indexOf2 nq_cX20_indexOf2 37 = true := by decide +kernel
theorem dX20_indexOf2_0 : decode cX20_indexOf2 0 = .ok (.aload_n 0, 1) := qd_42 kq_cX20_indexOf2 (by decide +kernel)
theorem dX20_indexOf2_1 : decode cX20_indexOf2 1 = .ok (.invokevirtual 492, 3) := qd_182 kq_cX20_indexOf2 (by decide +kernel)
theorem dX20_indexOf2_4 : decode cX20_indexOf2 4 = .ok (.ifCond .eq 19, 3) := qd_153 kq_cX20_indexOf2 (by decide +kernel)
theorem dX20_indexOf2_7 : decode cX20_indexOf2 7 = .ok (.aload_n 0, 1) := qd_42 kq_cX20_indexOf2 (by decide +kernel)
theorem dX20_indexOf2_8 : decode cX20_indexOf2 8 = .ok (.getfield 9, 3) := qd_180 kq_cX20_indexOf2 (by decide +kernel)
theorem dX20_indexOf2_11 : decode cX20_indexOf2 11 = .ok (.iload_n 1, 1) := qd_27 kq_cX20_indexOf2 (by decide +kernel)
theorem dX20_indexOf2_12 : decode cX20_indexOf2 12 = .ok (.iload_n 2, 1) := qd_28 kq_cX20_indexOf2 (by decide +kernel)
theorem dX20_indexOf2_13 : decode cX20_indexOf2 13 = .ok (.aload_n 0, 1) := qd_42 kq_cX20_indexOf2 (by decide +kernel)
theorem dX20_indexOf2_14 : decode cX20_indexOf2 14 = .ok (.invokevirtual 505, 3) := qd_182 kq_cX20_indexOf2 (by decide +kernel)
theorem dX20_indexOf2_17 : decode cX20_indexOf2 17 = .ok (.invokestatic 637, 3) := qd_184 kq_cX20_indexOf2 (by decide +kernel)
theorem dX20_indexOf2_20 : decode cX20_indexOf2 20 = .ok (.goto 16, 3) := qd_167 kq_cX20_indexOf2 (by decide +kernel)
theorem dX20_indexOf2_23 : decode cX20_indexOf2 23 = .ok (.aload_n 0, 1) := qd_42 kq_cX20_indexOf2 (by decide +kernel)
theorem dX20_indexOf2_24 : decode cX20_indexOf2 24 = .ok (.getfield 9, 3) := qd_180 kq_cX20_indexOf2 (by decide +kernel)
theorem dX20_indexOf2_27 : decode cX20_indexOf2 27 = .ok (.iload_n 1, 1) := qd_27 kq_cX20_indexOf2 (by decide +kernel)
theorem dX20_indexOf2_28 : decode cX20_indexOf2 28 = .ok (.iload_n 2, 1) := qd_28 kq_cX20_indexOf2 (by decide +kernel)
theorem dX20_indexOf2_29 : decode cX20_indexOf2 29 = .ok (.aload_n 0, 1) := qd_42 kq_cX20_indexOf2 (by decide +kernel)
theorem dX20_indexOf2_30 : decode cX20_indexOf2 30 = .ok (.invokevirtual 505, 3) := qd_182 kq_cX20_indexOf2 (by decide +kernel)
theorem dX20_indexOf2_33 : decode cX20_indexOf2 33 = .ok (.invokestatic 640, 3) := qd_184 kq_cX20_indexOf2 (by decide +kernel)
theorem dX20_indexOf2_36 : decode cX20_indexOf2 36 = .ok (.ireturn, 1) := qd_172 kq_cX20_indexOf2 (by decide +kernel)
def rmX20_indexOf2 (mc ms : Nat) : Room := { frames := 2, cells := mc, slots := ms, locals := 48 }
abbrev cX20_indexOf : ByteArray := prog_21_method_79_code
def yX20_indexOf : MethodName := ⟨RX20, "indexOf", "(I)I"⟩
def wsX20_indexOf : List Cond := .code yX20_indexOf cX20_indexOf 2 (some .int) :: sr_G
def nq_cX20_indexOf : Nat := 0xac7902b6031b2a
theorem kq_cX20_indexOf : qOk cX20_indexOf nq_cX20_indexOf 7 = true := by decide +kernel
theorem dX20_indexOf_0 : decode cX20_indexOf 0 = .ok (.aload_n 0, 1) := qd_42 kq_cX20_indexOf (by decide +kernel)
theorem dX20_indexOf_1 : decode cX20_indexOf 1 = .ok (.iload_n 1, 1) := qd_27 kq_cX20_indexOf (by decide +kernel)
theorem dX20_indexOf_2 : decode cX20_indexOf 2 = .ok (.iconst 0, 1) := qd_3 kq_cX20_indexOf (by decide +kernel)
theorem dX20_indexOf_3 : decode cX20_indexOf 3 = .ok (.invokevirtual 633, 3) := qd_182 kq_cX20_indexOf (by decide +kernel)
theorem dX20_indexOf_6 : decode cX20_indexOf 6 = .ok (.ireturn, 1) := qd_172 kq_cX20_indexOf (by decide +kernel)
def rmX20_indexOf (mc ms : Nat) : Room := { frames := 3, cells := mc, slots := ms, locals := 70 }
theorem wf20_38 : (.fieldLink "java/lang/String" 38 "java/lang/String" "COMPACT_STRINGS" "Z" : Cond) ∈ sr_G := sr_in (in_tables_1_2 _ (List.mem_of_getElem? (i := 80) rfl)) rfl
theorem wf20_15 : (.fieldLink "java/lang/String" 15 "java/lang/String" "coder" "B" : Cond) ∈ sr_G := sr_in (in_tables_1_7 _ (List.mem_of_getElem? (i := 79) rfl)) rfl
theorem wf20_9 : (.fieldLink "java/lang/String" 9 "java/lang/String" "value" "[B" : Cond) ∈ sr_G := sr_in (in_tables_1_7 _ (List.mem_of_getElem? (i := 78) rfl)) rfl
theorem wf9_95 : (.fieldLink "SchemaReaderModel$Text" 95 "SchemaReaderModel$Text" "at" "I" : Cond) ∈ sr_G := sr_in (in_tables_1_5 _ (List.mem_of_getElem? (i := 52) rfl)) rfl
theorem wf9_98 : (.fieldLink "SchemaReaderModel$Text" 98 "SchemaReaderModel$Text" "length" "I" : Cond) ∈ sr_G := sr_in (in_tables_1_5 _ (List.mem_of_getElem? (i := 50) rfl)) rfl
theorem wf9_9 : (.fieldLink "SchemaReaderModel$Text" 9 "SchemaReaderModel$Text" "bytes" "[B" : Cond) ∈ sr_G := sr_in (in_tables_1_5 _ (List.mem_of_getElem? (i := 48) rfl)) rfl
theorem wf9_15 : (.fieldLink "SchemaReaderModel$Text" 15 "SchemaReaderModel$Text" "kinds" "[I" : Cond) ∈ sr_G := sr_in (in_tables_1_5 _ (List.mem_of_getElem? (i := 59) rfl)) rfl
theorem wf9_109 : (.fieldLink "SchemaReaderModel$Text" 109 "SchemaReaderModel$Text" "nodes" "I" : Cond) ∈ sr_G := sr_in (in_tables_1_5 _ (List.mem_of_getElem? (i := 58) rfl)) rfl
theorem wf9_19 : (.fieldLink "SchemaReaderModel$Text" 19 "SchemaReaderModel$Text" "firsts" "[I" : Cond) ∈ sr_G := sr_in (in_tables_1_5 _ (List.mem_of_getElem? (i := 60) rfl)) rfl
theorem wf9_22 : (.fieldLink "SchemaReaderModel$Text" 22 "SchemaReaderModel$Text" "numbers" "[J" : Cond) ∈ sr_G := sr_in (in_tables_1_5 _ (List.mem_of_getElem? (i := 61) rfl)) rfl
theorem wf9_26 : (.fieldLink "SchemaReaderModel$Text" 26 "SchemaReaderModel$Text" "sizes" "[I" : Cond) ∈ sr_G := sr_in (in_tables_1_5 _ (List.mem_of_getElem? (i := 62) rfl)) rfl
theorem wf9_29 : (.fieldLink "SchemaReaderModel$Text" 29 "SchemaReaderModel$Text" "inner" "[I" : Cond) ∈ sr_G := sr_in (in_tables_1_5 _ (List.mem_of_getElem? (i := 63) rfl)) rfl
theorem wf9_32 : (.fieldLink "SchemaReaderModel$Text" 32 "SchemaReaderModel$Text" "nexts" "[I" : Cond) ∈ sr_G := sr_in (in_tables_1_5 _ (List.mem_of_getElem? (i := 64) rfl)) rfl
theorem wf9_35 : (.fieldLink "SchemaReaderModel$Text" 35 "SchemaReaderModel$Text" "letters" "[B" : Cond) ∈ sr_G := sr_in (in_tables_1_5 _ (List.mem_of_getElem? (i := 65) rfl)) rfl
theorem wf9_189 : (.fieldLink "SchemaReaderModel$Text" 189 "SchemaReaderModel$Text" "shapes" "I" : Cond) ∈ sr_G := sr_in (in_tables_1_5 _ (List.mem_of_getElem? (i := 67) rfl)) rfl
theorem wf9_41 : (.fieldLink "SchemaReaderModel$Text" 41 "SchemaReaderModel$Text" "names" "[I" : Cond) ∈ sr_G := sr_in (in_tables_1_5 _ (List.mem_of_getElem? (i := 71) rfl)) rfl
theorem wf9_38 : (.fieldLink "SchemaReaderModel$Text" 38 "SchemaReaderModel$Text" "sorts" "[I" : Cond) ∈ sr_G := sr_in (in_tables_1_5 _ (List.mem_of_getElem? (i := 69) rfl)) rfl
theorem wf9_44 : (.fieldLink "SchemaReaderModel$Text" 44 "SchemaReaderModel$Text" "wide" "[I" : Cond) ∈ sr_G := sr_in (in_tables_1_5 _ (List.mem_of_getElem? (i := 73) rfl)) rfl
theorem wf9_47 : (.fieldLink "SchemaReaderModel$Text" 47 "SchemaReaderModel$Text" "kids" "[I" : Cond) ∈ sr_G := sr_in (in_tables_1_5 _ (List.mem_of_getElem? (i := 75) rfl)) rfl
theorem wf9_50 : (.fieldLink "SchemaReaderModel$Text" 50 "SchemaReaderModel$Text" "many" "[I" : Cond) ∈ sr_G := sr_in (in_tables_1_5 _ (List.mem_of_getElem? (i := 77) rfl)) rfl
theorem wf9_53 : (.fieldLink "SchemaReaderModel$Text" 53 "SchemaReaderModel$Text" "fallback" "[I" : Cond) ∈ sr_G := sr_in (in_tables_1_5 _ (List.mem_of_getElem? (i := 78) rfl)) rfl
theorem wf9_192 : (.fieldLink "SchemaReaderModel$Text" 192 "SchemaReaderModel$Text" "kidCount" "I" : Cond) ∈ sr_G := sr_in (in_tables_1_5 _ (List.mem_of_getElem? (i := 80) rfl)) rfl
theorem wf9_56 : (.fieldLink "SchemaReaderModel$Text" 56 "SchemaReaderModel$Text" "kidShape" "[I" : Cond) ∈ sr_G := sr_in (in_tables_1_5 _ (List.mem_of_getElem? (i := 81) rfl)) rfl
theorem wf9_59 : (.fieldLink "SchemaReaderModel$Text" 59 "SchemaReaderModel$Text" "kidName" "[I" : Cond) ∈ sr_G := sr_in (in_tables_1_5 _ (List.mem_of_getElem? (i := 83) rfl)) rfl
theorem wf9_62 : (.fieldLink "SchemaReaderModel$Text" 62 "SchemaReaderModel$Text" "kidDefault" "[I" : Cond) ∈ sr_G := sr_in (in_tables_1_5 _ (List.mem_of_getElem? (i := 85) rfl)) rfl
theorem wf9_65 : (.fieldLink "SchemaReaderModel$Text" 65 "SchemaReaderModel$Text" "kidNext" "[I" : Cond) ∈ sr_G := sr_in (in_tables_1_5 _ (List.mem_of_getElem? (i := 87) rfl)) rfl
theorem wf9_71 : (.fieldLink "SchemaReaderModel$Text" 71 "SchemaReaderModel$Text" "plain" "[B" : Cond) ∈ sr_G := sr_in (in_tables_1_5 _ (List.mem_of_getElem? (i := 93) rfl)) rfl
theorem wf9_280 : (.fieldLink "SchemaReaderModel$Text" 280 "SchemaReaderModel$Text" "plainSize" "I" : Cond) ∈ sr_G := sr_in (in_tables_1_5 _ (List.mem_of_getElem? (i := 96) rfl)) rfl
theorem wcl9_335 : (.constantLong "SchemaReaderModel$Text" 335 (-4513414715797952619) : Cond) ∈ sr_G := sr_in (in_tables_1_7 _ (List.mem_of_getElem? (i := 27) rfl)) rfl
theorem wcl9_337 : (.constantLong "SchemaReaderModel$Text" 337 (255) : Cond) ∈ sr_G := sr_in (in_tables_1_7 _ (List.mem_of_getElem? (i := 28) rfl)) rfl
theorem wf9_78 : (.fieldLink "SchemaReaderModel$Text" 78 "SchemaReaderModel$Text" "fault" "I" : Cond) ∈ sr_G := sr_in (in_tables_1_5 _ (List.mem_of_getElem? (i := 54) rfl)) rfl
theorem wf9_82 : (.fieldLink "SchemaReaderModel$Text" 82 "SchemaReaderModel$Text" "place" "I" : Cond) ∈ sr_G := sr_in (in_tables_1_5 _ (List.mem_of_getElem? (i := 55) rfl)) rfl
theorem wcl9_175 : (.constantLong "SchemaReaderModel$Text" 175 (10) : Cond) ∈ sr_G := sr_in (in_tables_1_6 _ (List.mem_of_getElem? (i := 124) rfl)) rfl
theorem wcl9_173 : (.constantLong "SchemaReaderModel$Text" 173 (-922337203685477580) : Cond) ∈ sr_G := sr_in (in_tables_1_6 _ (List.mem_of_getElem? (i := 123) rfl)) rfl
theorem wf9_167 : (.fieldLink "SchemaReaderModel$Text" 167 "SchemaReaderModel$Text" "lettered" "I" : Cond) ∈ sr_G := sr_in (in_tables_1_5 _ (List.mem_of_getElem? (i := 66) rfl)) rfl
theorem wf9_112 : (.fieldLink "SchemaReaderModel$Text" 112 "SchemaReaderModel$Text" "deep" "I" : Cond) ∈ sr_G := sr_in (in_tables_1_5 _ (List.mem_of_getElem? (i := 53) rfl)) rfl
theorem wf9_195 : (.fieldLink "SchemaReaderModel$Text" 195 "SchemaReaderModel$Text" "looked" "I" : Cond) ∈ sr_G := sr_in (in_tables_1_5 _ (List.mem_of_getElem? (i := 68) rfl)) rfl
theorem wcl9_254 : (.constantLong "SchemaReaderModel$Text" 254 (64) : Cond) ∈ sr_G := sr_in (in_tables_1_6 _ (List.mem_of_getElem? (i := 189) rfl)) rfl
theorem wf9_68 : (.fieldLink "SchemaReaderModel$Text" 68 "SchemaReaderModel$Text" "finished" "[I" : Cond) ∈ sr_G := sr_in (in_tables_1_5 _ (List.mem_of_getElem? (i := 90) rfl)) rfl
theorem wf9_271 : (.fieldLink "SchemaReaderModel$Text" 271 "SchemaReaderModel$Text" "done" "I" : Cond) ∈ sr_G := sr_in (in_tables_1_5 _ (List.mem_of_getElem? (i := 89) rfl)) rfl
theorem wf9_74 : (.fieldLink "SchemaReaderModel$Text" 74 "SchemaReaderModel$Text" "told" "[Z" : Cond) ∈ sr_G := sr_in (in_tables_1_5 _ (List.mem_of_getElem? (i := 97) rfl)) rfl
theorem wf9_292 : (.fieldLink "SchemaReaderModel$Text" 292 "SchemaReaderModel$Text" "end" "I" : Cond) ∈ sr_G := sr_in (in_tables_1_5 _ (List.mem_of_getElem? (i := 57) rfl)) rfl
theorem wf9_286 : (.fieldLink "SchemaReaderModel$Text" 286 "SchemaReaderModel$Text" "root" "I" : Cond) ∈ sr_G := sr_in (in_tables_1_5 _ (List.mem_of_getElem? (i := 92) rfl)) rfl
theorem wf10_45 : (.fieldLink "SchemaReaderModel" 45 "SchemaReaderModel" "thrown" "I" : Cond) ∈ sr_G := sr_in (in_tables_1_5 _ (List.mem_of_getElem? (i := 170) rfl)) rfl
theorem wf10_7 : (.fieldLink "SchemaReaderModel" 7 "SchemaReaderModel" "tape" "[B" : Cond) ∈ sr_G := sr_in (in_tables_1_5 _ (List.mem_of_getElem? (i := 171) rfl)) rfl
theorem wf10_48 : (.fieldLink "SchemaReaderModel" 48 "SchemaReaderModel" "taped" "I" : Cond) ∈ sr_G := sr_in (in_tables_1_5 _ (List.mem_of_getElem? (i := 172) rfl)) rfl
theorem wf10_26 : (.fieldLink "SchemaReaderModel" 26 "SchemaReaderModel" "place" "I" : Cond) ∈ sr_G := sr_in (in_tables_1_5 _ (List.mem_of_getElem? (i := 177) rfl)) rfl
theorem wf10_67 : (.fieldLink "SchemaReaderModel" 67 "SchemaReaderModel" "has" "Z" : Cond) ∈ sr_G := sr_in (in_tables_1_5 _ (List.mem_of_getElem? (i := 176) rfl)) rfl
theorem wf10_16 : (.fieldLink "SchemaReaderModel" 16 "SchemaReaderModel" "typed" "LSchemaReaderModel$Text;" : Cond) ∈ sr_G := sr_in (in_tables_1_5 _ (List.mem_of_getElem? (i := 173) rfl)) rfl
theorem wf10_72 : (.fieldLinkNest "SchemaReaderModel" 72 "SchemaReaderModel$Text" "plainSize" "I" "SchemaReaderModel" : Cond) ∈ sr_N := List.mem_filter.mpr ⟨in_tables_1_5 _ (List.mem_of_getElem? (i := 95) rfl), rfl⟩
theorem wf10_75 : (.fieldLinkNest "SchemaReaderModel" 75 "SchemaReaderModel$Text" "plain" "[B" "SchemaReaderModel" : Cond) ∈ sr_N := List.mem_filter.mpr ⟨in_tables_1_5 _ (List.mem_of_getElem? (i := 94) rfl), rfl⟩
theorem wf10_34 : (.fieldLink "SchemaReaderModel" 34 "SchemaReaderModel" "sizes" "[I" : Cond) ∈ sr_G := sr_in (in_tables_1_5 _ (List.mem_of_getElem? (i := 179) rfl)) rfl
theorem wf10_86 : (.fieldLinkNest "SchemaReaderModel" 86 "SchemaReaderModel$Text" "length" "I" "SchemaReaderModel" : Cond) ∈ sr_N := List.mem_filter.mpr ⟨in_tables_1_5 _ (List.mem_of_getElem? (i := 51) rfl), rfl⟩
theorem wf10_31 : (.fieldLink "SchemaReaderModel" 31 "SchemaReaderModel" "kept" "[B" : Cond) ∈ sr_G := sr_in (in_tables_1_5 _ (List.mem_of_getElem? (i := 178) rfl)) rfl
theorem wf10_89 : (.fieldLinkNest "SchemaReaderModel" 89 "SchemaReaderModel$Text" "bytes" "[B" "SchemaReaderModel" : Cond) ∈ sr_N := List.mem_filter.mpr ⟨in_tables_1_5 _ (List.mem_of_getElem? (i := 49) rfl), rfl⟩
theorem wf10_105 : (.fieldLinkNest "SchemaReaderModel" 105 "SchemaReaderModel$Text" "kids" "[I" "SchemaReaderModel" : Cond) ∈ sr_N := List.mem_filter.mpr ⟨in_tables_1_5 _ (List.mem_of_getElem? (i := 76) rfl), rfl⟩
theorem wf10_142 : (.fieldLinkNest "SchemaReaderModel" 142 "SchemaReaderModel$Text" "kidName" "[I" "SchemaReaderModel" : Cond) ∈ sr_N := List.mem_filter.mpr ⟨in_tables_1_5 _ (List.mem_of_getElem? (i := 84) rfl), rfl⟩
theorem wf10_122 : (.fieldLinkNest "SchemaReaderModel" 122 "SchemaReaderModel$Text" "kidNext" "[I" "SchemaReaderModel" : Cond) ∈ sr_N := List.mem_filter.mpr ⟨in_tables_1_5 _ (List.mem_of_getElem? (i := 88) rfl), rfl⟩
theorem wf10_92 : (.fieldLinkNest "SchemaReaderModel" 92 "SchemaReaderModel$Text" "sorts" "[I" "SchemaReaderModel" : Cond) ∈ sr_N := List.mem_filter.mpr ⟨in_tables_1_5 _ (List.mem_of_getElem? (i := 70) rfl), rfl⟩
theorem wf10_102 : (.fieldLinkNest "SchemaReaderModel" 102 "SchemaReaderModel$Text" "kidShape" "[I" "SchemaReaderModel" : Cond) ∈ sr_N := List.mem_filter.mpr ⟨in_tables_1_5 _ (List.mem_of_getElem? (i := 82) rfl), rfl⟩
theorem wf10_112 : (.fieldLinkNest "SchemaReaderModel" 112 "SchemaReaderModel$Text" "names" "[I" "SchemaReaderModel" : Cond) ∈ sr_N := List.mem_filter.mpr ⟨in_tables_1_5 _ (List.mem_of_getElem? (i := 72) rfl), rfl⟩
theorem wf10_119 : (.fieldLinkNest "SchemaReaderModel" 119 "SchemaReaderModel$Text" "wide" "[I" "SchemaReaderModel" : Cond) ∈ sr_N := List.mem_filter.mpr ⟨in_tables_1_5 _ (List.mem_of_getElem? (i := 74) rfl), rfl⟩
theorem wf10_38 : (.fieldLink "SchemaReaderModel" 38 "SchemaReaderModel" "asked" "[Z" : Cond) ∈ sr_G := sr_in (in_tables_1_5 _ (List.mem_of_getElem? (i := 180) rfl)) rfl
theorem wf10_42 : (.fieldLink "SchemaReaderModel" 42 "SchemaReaderModel" "pairs" "[I" : Cond) ∈ sr_G := sr_in (in_tables_1_5 _ (List.mem_of_getElem? (i := 181) rfl)) rfl
theorem wf10_125 : (.fieldLink "SchemaReaderModel" 125 "SchemaReaderModel" "many" "I" : Cond) ∈ sr_G := sr_in (in_tables_1_5 _ (List.mem_of_getElem? (i := 182) rfl)) rfl
theorem wf10_155 : (.fieldLinkNest "SchemaReaderModel" 155 "SchemaReaderModel$Text" "kidDefault" "[I" "SchemaReaderModel" : Cond) ∈ sr_N := List.mem_filter.mpr ⟨in_tables_1_5 _ (List.mem_of_getElem? (i := 86) rfl), rfl⟩
theorem wf10_149 : (.fieldLinkNest "SchemaReaderModel" 149 "SchemaReaderModel$Text" "fallback" "[I" "SchemaReaderModel" : Cond) ∈ sr_N := List.mem_filter.mpr ⟨in_tables_1_5 _ (List.mem_of_getElem? (i := 79) rfl), rfl⟩
theorem wf10_128 : (.fieldLinkNest "SchemaReaderModel" 128 "SchemaReaderModel$Text" "root" "I" "SchemaReaderModel" : Cond) ∈ sr_N := List.mem_filter.mpr ⟨in_tables_1_5 _ (List.mem_of_getElem? (i := 91) rfl), rfl⟩
theorem wf10_71 : (.fieldLinkNest "SchemaReaderModel" 71 "SchemaReaderModel$Text" "place" "I" "SchemaReaderModel" : Cond) ∈ sr_N := List.mem_filter.mpr ⟨in_tables_1_5 _ (List.mem_of_getElem? (i := 56) rfl), rfl⟩
theorem wf10_20 : (.fieldLink "SchemaReaderModel" 20 "SchemaReaderModel" "left" "LSchemaReaderModel$Text;" : Cond) ∈ sr_G := sr_in (in_tables_1_5 _ (List.mem_of_getElem? (i := 174) rfl)) rfl
theorem wf10_23 : (.fieldLink "SchemaReaderModel" 23 "SchemaReaderModel" "right" "LSchemaReaderModel$Text;" : Cond) ∈ sr_G := sr_in (in_tables_1_5 _ (List.mem_of_getElem? (i := 175) rfl)) rfl
theorem wcl8_101 : (.constantLong "SchemaReader" 101 (-4513414715797952619) : Cond) ∈ sr_G := sr_in (in_tables_1_1 _ (List.mem_of_getElem? (i := 93) rfl)) rfl
theorem wf7_35 : (.fieldLink "SchemaReader$Text" 35 "SchemaReader$Text" "length" "I" : Cond) ∈ sr_G := sr_in (in_tables_1_1 _ (List.mem_of_getElem? (i := 69) rfl)) rfl
theorem wf7_9 : (.fieldLink "SchemaReader$Text" 9 "SchemaReader$Text" "tape" "[B" : Cond) ∈ sr_G := sr_in (in_tables_1_1 _ (List.mem_of_getElem? (i := 63) rfl)) rfl
theorem wf7_39 : (.fieldLink "SchemaReader$Text" 39 "SchemaReader$Text" "wrongPlace" "I" : Cond) ∈ sr_G := sr_in (in_tables_1_1 _ (List.mem_of_getElem? (i := 70) rfl)) rfl
theorem wf7_18 : (.fieldLink "SchemaReader$Text" 18 "SchemaReader$Text" "inner" "[I" : Cond) ∈ sr_G := sr_in (in_tables_1_1 _ (List.mem_of_getElem? (i := 65) rfl)) rfl
theorem wf7_22 : (.fieldLink "SchemaReader$Text" 22 "SchemaReader$Text" "next" "[I" : Cond) ∈ sr_G := sr_in (in_tables_1_1 _ (List.mem_of_getElem? (i := 66) rfl)) rfl
theorem wf7_25 : (.fieldLink "SchemaReader$Text" 25 "SchemaReader$Text" "amount" "[I" : Cond) ∈ sr_G := sr_in (in_tables_1_1 _ (List.mem_of_getElem? (i := 67) rfl)) rfl
theorem wf7_15 : (.fieldLink "SchemaReader$Text" 15 "SchemaReader$Text" "said" "[B" : Cond) ∈ sr_G := sr_in (in_tables_1_1 _ (List.mem_of_getElem? (i := 64) rfl)) rfl
theorem wcl7_82 : (.constantLong "SchemaReader$Text" 82 (10) : Cond) ∈ sr_G := sr_in (in_tables_1_2 _ (List.mem_of_getElem? (i := 138) rfl)) rfl
theorem wf2_11 : (.fieldLink "SchemaReader$Keys" 11 "SchemaReader$Keys" "heads" "[I" : Cond) ∈ sr_G := sr_in (in_tables_1_1 _ (List.mem_of_getElem? (i := 45) rfl)) rfl
theorem wf2_24 : (.fieldLink "SchemaReader$Keys" 24 "SchemaReader$Keys" "count" "I" : Cond) ∈ sr_G := sr_in (in_tables_1_1 _ (List.mem_of_getElem? (i := 49) rfl)) rfl
theorem wf2_15 : (.fieldLink "SchemaReader$Keys" 15 "SchemaReader$Keys" "places" "[I" : Cond) ∈ sr_G := sr_in (in_tables_1_1 _ (List.mem_of_getElem? (i := 46) rfl)) rfl
theorem wf2_18 : (.fieldLink "SchemaReader$Keys" 18 "SchemaReader$Keys" "owners" "[I" : Cond) ∈ sr_G := sr_in (in_tables_1_1 _ (List.mem_of_getElem? (i := 47) rfl)) rfl
theorem wf2_21 : (.fieldLink "SchemaReader$Keys" 21 "SchemaReader$Keys" "nexts" "[I" : Cond) ∈ sr_G := sr_in (in_tables_1_1 _ (List.mem_of_getElem? (i := 48) rfl)) rfl
theorem wcl7_154 : (.constantLong "SchemaReader$Text" 154 (-922337203685477580) : Cond) ∈ sr_G := sr_in (in_tables_1_2 _ (List.mem_of_getElem? (i := 137) rfl)) rfl
theorem wf7_31 : (.fieldLink "SchemaReader$Text" 31 "SchemaReader$Text" "keys" "LSchemaReader$Keys;" : Cond) ∈ sr_G := sr_in (in_tables_1_1 _ (List.mem_of_getElem? (i := 68) rfl)) rfl
theorem wf6_44 : (.fieldLink "SchemaReader$Schema" 44 "SchemaReader$Schema" "letterCount" "I" : Cond) ∈ sr_G := sr_in (in_tables_1_1 _ (List.mem_of_getElem? (i := 109) rfl)) rfl
theorem wf6_48 : (.fieldLink "SchemaReader$Schema" 48 "SchemaReader$Schema" "slotCount" "I" : Cond) ∈ sr_G := sr_in (in_tables_1_1 _ (List.mem_of_getElem? (i := 110) rfl)) rfl
theorem wf6_9 : (.fieldLink "SchemaReader$Schema" 9 "SchemaReader$Schema" "plain" "[B" : Cond) ∈ sr_G := sr_in (in_tables_1_1 _ (List.mem_of_getElem? (i := 99) rfl)) rfl
theorem wf6_15 : (.fieldLink "SchemaReader$Schema" 15 "SchemaReader$Schema" "kinds" "[I" : Cond) ∈ sr_G := sr_in (in_tables_1_1 _ (List.mem_of_getElem? (i := 100) rfl)) rfl
theorem wf6_19 : (.fieldLink "SchemaReader$Schema" 19 "SchemaReader$Schema" "meant" "[I" : Cond) ∈ sr_G := sr_in (in_tables_1_1 _ (List.mem_of_getElem? (i := 101) rfl)) rfl
theorem wf6_22 : (.fieldLink "SchemaReader$Schema" 22 "SchemaReader$Schema" "firsts" "[I" : Cond) ∈ sr_G := sr_in (in_tables_1_1 _ (List.mem_of_getElem? (i := 102) rfl)) rfl
theorem wf6_25 : (.fieldLink "SchemaReader$Schema" 25 "SchemaReader$Schema" "nexts" "[I" : Cond) ∈ sr_G := sr_in (in_tables_1_1 _ (List.mem_of_getElem? (i := 103) rfl)) rfl
theorem wf6_28 : (.fieldLink "SchemaReader$Schema" 28 "SchemaReader$Schema" "names" "[I" : Cond) ∈ sr_G := sr_in (in_tables_1_1 _ (List.mem_of_getElem? (i := 104) rfl)) rfl
theorem wf6_31 : (.fieldLink "SchemaReader$Schema" 31 "SchemaReader$Schema" "fieldNames" "[I" : Cond) ∈ sr_G := sr_in (in_tables_1_1 _ (List.mem_of_getElem? (i := 105) rfl)) rfl
theorem wf6_34 : (.fieldLink "SchemaReader$Schema" 34 "SchemaReader$Schema" "amounts" "[I" : Cond) ∈ sr_G := sr_in (in_tables_1_1 _ (List.mem_of_getElem? (i := 106) rfl)) rfl
theorem wf6_37 : (.fieldLink "SchemaReader$Schema" 37 "SchemaReader$Schema" "fieldDefaults" "[Z" : Cond) ∈ sr_G := sr_in (in_tables_1_1 _ (List.mem_of_getElem? (i := 107) rfl)) rfl
theorem wf6_41 : (.fieldLink "SchemaReader$Schema" 41 "SchemaReader$Schema" "enumDefaults" "[Z" : Cond) ∈ sr_G := sr_in (in_tables_1_1 _ (List.mem_of_getElem? (i := 108) rfl)) rfl
theorem wf11_18 : (.fieldLink "SchemaReader$Couples" 18 "SchemaReader$Couples" "count" "I" : Cond) ∈ sr_G := sr_in (in_tables_1_1 _ (List.mem_of_getElem? (i := 146) rfl)) rfl
theorem wf11_9 : (.fieldLink "SchemaReader$Couples" 9 "SchemaReader$Couples" "firsts" "[I" : Cond) ∈ sr_G := sr_in (in_tables_1_1 _ (List.mem_of_getElem? (i := 144) rfl)) rfl
theorem wf11_15 : (.fieldLink "SchemaReader$Couples" 15 "SchemaReader$Couples" "seconds" "[I" : Cond) ∈ sr_G := sr_in (in_tables_1_1 _ (List.mem_of_getElem? (i := 145) rfl)) rfl
theorem wf4_15 : (.fieldLink "SchemaReader$Looker" 15 "SchemaReader$Looker" "faultPlace" "I" : Cond) ∈ sr_G := sr_in (in_tables_1_1 _ (List.mem_of_getElem? (i := 196) rfl)) rfl
theorem wf4_9 : (.fieldLink "SchemaReader$Looker" 9 "SchemaReader$Looker" "fault" "I" : Cond) ∈ sr_G := sr_in (in_tables_1_1 _ (List.mem_of_getElem? (i := 195) rfl)) rfl
theorem wf4_18 : (.fieldLink "SchemaReader$Looker" 18 "SchemaReader$Looker" "text" "LSchemaReader$Text;" : Cond) ∈ sr_G := sr_in (in_tables_1_1 _ (List.mem_of_getElem? (i := 192) rfl)) rfl
theorem wf4_22 : (.fieldLink "SchemaReader$Looker" 22 "SchemaReader$Looker" "schema" "LSchemaReader$Schema;" : Cond) ∈ sr_G := sr_in (in_tables_1_1 _ (List.mem_of_getElem? (i := 193) rfl)) rfl
theorem wcl4_210 : (.constantLong "SchemaReader$Looker" 210 (-1) : Cond) ∈ sr_G := sr_in (in_tables_1_3 _ (List.mem_of_getElem? (i := 90) rfl)) rfl
theorem wcl4_212 : (.constantLong "SchemaReader$Looker" 212 (64) : Cond) ∈ sr_G := sr_in (in_tables_1_3 _ (List.mem_of_getElem? (i := 91) rfl)) rfl
theorem wf4_26 : (.fieldLink "SchemaReader$Looker" 26 "SchemaReader$Looker" "due" "LSchemaReader$Couples;" : Cond) ∈ sr_G := sr_in (in_tables_1_1 _ (List.mem_of_getElem? (i := 194) rfl)) rfl
theorem wf0_15 : (.fieldLink "SchemaReader$Defaults" 15 "SchemaReader$Defaults" "schema" "LSchemaReader$Schema;" : Cond) ∈ sr_G := sr_in (in_tables_1_3 _ (List.mem_of_getElem? (i := 176) rfl)) rfl
theorem wf0_9 : (.fieldLink "SchemaReader$Defaults" 9 "SchemaReader$Defaults" "text" "LSchemaReader$Text;" : Cond) ∈ sr_G := sr_in (in_tables_1_3 _ (List.mem_of_getElem? (i := 175) rfl)) rfl
theorem wf5_11 : (.fieldLink "SchemaReader$Pair" 11 "SchemaReader$Pair" "writer" "LSchemaReader$Schema;" : Cond) ∈ sr_G := sr_in (in_tables_1_4 _ (List.mem_of_getElem? (i := 182) rfl)) rfl
theorem wf5_17 : (.fieldLink "SchemaReader$Pair" 17 "SchemaReader$Pair" "reader" "LSchemaReader$Schema;" : Cond) ∈ sr_G := sr_in (in_tables_1_4 _ (List.mem_of_getElem? (i := 183) rfl)) rfl
theorem wf5_20 : (.fieldLink "SchemaReader$Pair" 20 "SchemaReader$Pair" "asked" "LSchemaReader$Couples;" : Cond) ∈ sr_G := sr_in (in_tables_1_4 _ (List.mem_of_getElem? (i := 184) rfl)) rfl
theorem wf8_49 : (.fieldLink "SchemaReader" 49 "SchemaReader" "faultPlace" "I" : Cond) ∈ sr_G := sr_in (in_tables_1_1 _ (List.mem_of_getElem? (i := 161) rfl)) rfl
theorem wf8_45 : (.fieldLink "SchemaReader" 45 "SchemaReader" "hasLatest" "Z" : Cond) ∈ sr_G := sr_in (in_tables_1_1 _ (List.mem_of_getElem? (i := 160) rfl)) rfl
theorem wf8_31 : (.fieldLink "SchemaReader" 31 "SchemaReader" "latest" "LSchemaReader$Schema;" : Cond) ∈ sr_G := sr_in (in_tables_1_1 _ (List.mem_of_getElem? (i := 159) rfl)) rfl
theorem wf8_22 : (.fieldLink "SchemaReader" 22 "SchemaReader" "printSteps" "[J" : Cond) ∈ sr_G := sr_in (in_tables_1_1 _ (List.mem_of_getElem? (i := 158) rfl)) rfl
theorem wf8_10 : (.fieldLink "SchemaReader" 10 "SchemaReader" "text" "LSchemaReader$Text;" : Cond) ∈ sr_G := sr_in (in_tables_1_1 _ (List.mem_of_getElem? (i := 154) rfl)) rfl
theorem wf8_38 : (.fieldLink "SchemaReader" 38 "SchemaReader" "dueDefaults" "LSchemaReader$Couples;" : Cond) ∈ sr_G := sr_in (in_tables_1_1 _ (List.mem_of_getElem? (i := 155) rfl)) rfl
theorem wf20_1053 : (.fieldLink "java/lang/String" 1053 "jdk/internal/util/Preconditions" "SIOOBE_FORMATTER" "Ljava/util/function/BiFunction;" : Cond) ∈ sr_G := sr_in (in_tables_1_2 _ (List.mem_of_getElem? (i := 96) rfl)) rfl
theorem g20_335 (c0 : Cond) : GoodIn (c0 :: sr_G) (wsV RX20 335 RX20 yX20_coder wsX20_coder) := sr_V c0 (sr_insI [(2, 76), (2, 77), (2, 78), (1, 15), (2, 79)] (by decide +kernel))
theorem g20_1059 (c0 : Cond) : GoodIn (c0 :: sr_G) (va_wsS RX20 1059 yX22_ckQ wsX22_ckQ) := sr_S c0 (sr_insI [(2, 98), (2, 99), (1, 17), (2, 100)] (by decide +kernel))
theorem g21_9 (c0 : Cond) : GoodIn (c0 :: sr_G) (va_wsS RX21 9 yX20_checkIndex wsX20_checkIndex) := sr_S c0 (sr_insI [(2, 93), (2, 94), (1, 15), (2, 95)] (by decide +kernel))
theorem g20_492 (c0 : Cond) : GoodIn (c0 :: sr_G) (wsV RX20 492 RX20 yX20_isLatin1 wsX20_isLatin1) := sr_V c0 (sr_insI [(2, 86), (2, 87), (2, 88), (1, 15), (2, 89)] (by decide +kernel))
theorem g20_495 (c0 : Cond) : GoodIn (c0 :: sr_G) (va_wsS RX20 495 yX21_charAt wsX21_charAt) := sr_S c0 (sr_insI [(2, 90), (2, 91), (1, 16), (2, 92)] (by decide +kernel))
theorem g21_88 (c0 : Cond) : GoodIn (c0 :: sr_G) (va_wsS RX21 88 yX21_canEncode wsX21_canEncode) := sr_S c0 (sr_insI [(6, 57), (6, 58), (1, 16), (6, 59)] (by decide +kernel))
theorem g21_95 (c0 : Cond) : GoodIn (c0 :: sr_G) (va_wsS RX21 95 yX21_indexOfChar wsX21_indexOfChar) := sr_S c0 (sr_insI [(6, 66), (6, 67), (1, 16), (6, 68)] (by decide +kernel))
theorem g20_505 (c0 : Cond) : GoodIn (c0 :: sr_G) (wsV RX20 505 RX20 yX20_length wsX20_length) := sr_V c0 (sr_insI [(6, 53), (2, 73), (2, 74), (1, 15), (2, 75)] (by decide +kernel))
theorem g20_637 (c0 : Cond) : GoodIn (c0 :: sr_G) (va_wsS RX20 637 yX21_indexOf wsX21_indexOf) := sr_S c0 (sr_insI [(6, 54), (6, 55), (1, 16), (6, 56)] (by decide +kernel))
theorem g20_633 (c0 : Cond) : GoodIn (c0 :: sr_G) (wsV RX20 633 RX20 yX20_indexOf2 wsX20_indexOf2) := sr_V c0 (sr_insI [(6, 49), (6, 50), (6, 51), (1, 15), (6, 52)] (by decide +kernel))
theorem wm21_38 : ∀ w ∈ ([.methodLink RX21 38 Lib.Math.min.name, .static Lib.Math.min.name, .initialized "java/lang/Math", .code Lib.Math.min.name Lib.Math.min.code 2 (some .int)] : List Cond), w ∈ sr_G := sr_ins (by decide +kernel)
theorem wm21_92 : ∀ w ∈ ([.methodLink RX21 92 Lib.Math.max.name, .static Lib.Math.max.name, .initialized "java/lang/Math", .code Lib.Math.max.name Lib.Math.max.code 2 (some .int)] : List Cond), w ∈ sr_G := sr_ins (by decide +kernel)
end
section
set_option maxHeartbeats 4000000 in
set_option maxRecDepth 100000 in
theorem kX20_coder (l : Launch) (htr : l.stackTraces = false) (dC : Nat → ClassId) (dI : Nat → Nat → Nat) (adK adV : Nat → Nat) (cI cB cJ cZ cQ : ClassId) (as : Nat) (res : Int32) (hm : m_X20_coder as = some res) : Met l yX20_coder wsX20_coder (rmX20_coder 0 0) (pcR (sr_Z adK adV) (dC, dI) srCl [(cI, .int), (cB, .byte), (cJ, .long), (cZ, .boolean), (cQ, .object "SchemaReader$Schema")] [.ref (adK as)] []) (k2_QcV (.int res)) 0 0 (fun _ => False) := by
  refine Met.ofW (cc := cX20_coder) (maxL := 1) (ret := (some .byte)) (by decide) rfl ?_
  intro p e s m args below meth c s₁ B hml hv
  obtain ⟨rfl, hP, hK, hz0⟩ := hv
  have hx := B.exec
  have hb := B.bytes
  have hr := B.returns
  have hts := atoms_spec (ws := wsX20_coder) B.pre
  have hown : s.vm.findClass RX20 = some m.cls := findClass_of_methodNamed B.named
  have hlocks := B.notSynchronized
  have hS : va_S (fun _ => False) s.heap s.heap [] := va_S.rf
  generalize hQ0 : MQ below (k2_QcV (.int res)) [.ref (adK as)].toArray s 0 0 (fun _ => False) = Q0
  have hl := lv_entry [.ref (adK as)] (n := 1) (Nat.le_of_ble_eq_true rfl)
  rw [lg_entry_eq]
  generalize (lg_sl [.ref (adK as)] ++ List.replicate (1 - (lg_sl [.ref (adK as)]).length) Slot.unset).toArray = ls at hl ⊢
  have hl : lv_has ls 1 [(0, .ref (adK as))] := hl
  unfold m_X20_coder at hm
  refine va_gets hx hb hz0.2.1 hS hown (hts _ (List.mem_cons_of_mem _ wf20_38)) (fun _ h9 => h9) dX20_coder_0 ?_
  refine lv_if_eq (tgt := 13) hx hb dX20_coder_3 (by decide) (fun c1 => ?_) (fun c1 => ?_)
  · have hm := mr_if c1 hm
    refine lv_iconst (v := 1) hx hb dX20_coder_13 (by decide) ?_
    obtain rfl := Option.some.inj hm
    subst hQ0
    exact W.zret (v := 1) hx hb hr rfl (fun t ht hW => ⟨rfl, ht⟩) (fun q h => by cases h) dX20_coder_14
  · have hm := mr_un c1 hm
    refine lv_aload_n hx hb dX20_coder_6 rfl (lv_at hl 0 rfl) ?_
    obtain ⟨h2, hm⟩ := mr_bs hm
    refine vk_getf hx hb (hz0.1 as h2).1.2.1 hS hown (hts _ (List.mem_cons_of_mem _ wf20_15)) (fun _ h9 => h9) dX20_coder_7 ?_
    refine lv_goto (tgt := 14) hx hb dX20_coder_10 (by decide) ?_
    obtain rfl := Option.some.inj hm
    subst hQ0
    exact W.zret (v := 0) hx hb hr rfl (fun t ht hW => ⟨rfl, ht⟩) (fun q h => by cases h) dX20_coder_14
set_option maxHeartbeats 4000000 in
set_option maxRecDepth 100000 in
theorem kX20_isLatin1 (l : Launch) (htr : l.stackTraces = false) (dC : Nat → ClassId) (dI : Nat → Nat → Nat) (adK adV : Nat → Nat) (cI cB cJ cZ cQ : ClassId) (as : Nat) (res : Int32) (hm : m_X20_isLatin1 as = some res) : Met l yX20_isLatin1 wsX20_isLatin1 (rmX20_isLatin1 0 0) (pcR (sr_Z adK adV) (dC, dI) srCl [(cI, .int), (cB, .byte), (cJ, .long), (cZ, .boolean), (cQ, .object "SchemaReader$Schema")] [.ref (adK as)] []) (k2_QcV (.int res)) 0 0 (fun _ => False) := by
  refine Met.ofW (cc := cX20_isLatin1) (maxL := 1) (ret := (some .boolean)) (by decide) rfl ?_
  intro p e s m args below meth c s₁ B hml hv
  obtain ⟨rfl, hP, hK, hz0⟩ := hv
  have hx := B.exec
  have hb := B.bytes
  have hr := B.returns
  have hts := atoms_spec (ws := wsX20_isLatin1) B.pre
  have hown : s.vm.findClass RX20 = some m.cls := findClass_of_methodNamed B.named
  have hlocks := B.notSynchronized
  have hS : va_S (fun _ => False) s.heap s.heap [] := va_S.rf
  generalize hQ0 : MQ below (k2_QcV (.int res)) [.ref (adK as)].toArray s 0 0 (fun _ => False) = Q0
  have hl := lv_entry [.ref (adK as)] (n := 1) (Nat.le_of_ble_eq_true rfl)
  rw [lg_entry_eq]
  generalize (lg_sl [.ref (adK as)] ++ List.replicate (1 - (lg_sl [.ref (adK as)]).length) Slot.unset).toArray = ls at hl ⊢
  have hl : lv_has ls 1 [(0, .ref (adK as))] := hl
  unfold m_X20_isLatin1 at hm
  refine va_gets hx hb hz0.2.1 hS hown (hts _ (List.mem_cons_of_mem _ wf20_38)) (fun _ h9 => h9) dX20_isLatin1_0 ?_
  refine lv_if_eq (tgt := 17) hx hb dX20_isLatin1_3 (by decide) (fun c1 => ?_) (fun c1 => ?_)
  · have hm := mr_if c1 hm
    refine lv_iconst (v := 0) hx hb dX20_isLatin1_17 (by decide) ?_
    obtain rfl := Option.some.inj hm
    subst hQ0
    exact W.zret (v := 0) hx hb hr rfl (fun t ht hW => ⟨rfl, ht⟩) (fun q h => by cases h) dX20_isLatin1_18
  · have hm := mr_un c1 hm
    refine lv_aload_n hx hb dX20_isLatin1_6 rfl (lv_at hl 0 rfl) ?_
    obtain ⟨h2, hm⟩ := mr_bs hm
    refine vk_getf hx hb (hz0.1 as h2).1.2.1 hS hown (hts _ (List.mem_cons_of_mem _ wf20_15)) (fun _ h9 => h9) dX20_isLatin1_7 ?_
    refine lv_if_ne (tgt := 17) hx hb dX20_isLatin1_10 (by decide) (fun c3 => ?_) (fun c3 => ?_)
    · have hm := mr_un c3 hm
      refine lv_iconst (v := 0) hx hb dX20_isLatin1_17 (by decide) ?_
      obtain rfl := Option.some.inj hm
      subst hQ0
      exact W.zret (v := 0) hx hb hr rfl (fun t ht hW => ⟨rfl, ht⟩) (fun q h => by cases h) dX20_isLatin1_18
    · have hm := mr_if c3 hm
      refine lv_iconst (v := 1) hx hb dX20_isLatin1_13 (by decide) ?_
      refine lv_goto (tgt := 18) hx hb dX20_isLatin1_14 (by decide) ?_
      obtain rfl := Option.some.inj hm
      subst hQ0
      exact W.zret (v := 1) hx hb hr rfl (fun t ht hW => ⟨rfl, ht⟩) (fun q h => by cases h) dX20_isLatin1_18
set_option maxHeartbeats 4000000 in
set_option maxRecDepth 100000 in
theorem kX20_length (l : Launch) (htr : l.stackTraces = false) (dC : Nat → ClassId) (dI : Nat → Nat → Nat) (adK adV : Nat → Nat) (cI cB cJ cZ cQ : ClassId) (as : Nat) (res : Int32) (hm : m_X20_length as = some res) : Met l yX20_length wsX20_length (rmX20_length 0 0) (pcR (sr_Z adK adV) (dC, dI) srCl [(cI, .int), (cB, .byte), (cJ, .long), (cZ, .boolean), (cQ, .object "SchemaReader$Schema")] [.ref (adK as)] []) (k2_QcV (.int res)) 0 0 (fun _ => False) := by
  refine Met.ofW (cc := cX20_length) (maxL := 1) (ret := (some .int)) (by decide) rfl ?_
  intro p e s m args below meth c s₁ B hml hv
  obtain ⟨rfl, hP, hK, hz0⟩ := hv
  have hx := B.exec
  have hb := B.bytes
  have hr := B.returns
  have hts := atoms_spec (ws := wsX20_length) B.pre
  have hown : s.vm.findClass RX20 = some m.cls := findClass_of_methodNamed B.named
  have hlocks := B.notSynchronized
  have hS : va_S (fun _ => False) s.heap s.heap [] := va_S.rf
  generalize hQ0 : MQ below (k2_QcV (.int res)) [.ref (adK as)].toArray s 0 0 (fun _ => False) = Q0
  have hl := lv_entry [.ref (adK as)] (n := 1) (Nat.le_of_ble_eq_true rfl)
  rw [lg_entry_eq]
  generalize (lg_sl [.ref (adK as)] ++ List.replicate (1 - (lg_sl [.ref (adK as)]).length) Slot.unset).toArray = ls at hl ⊢
  have hl : lv_has ls 1 [(0, .ref (adK as))] := hl
  unfold m_X20_length at hm
  refine lv_aload_n hx hb dX20_length_0 rfl (lv_at hl 0 rfl) ?_
  obtain ⟨h1, hm⟩ := mr_bs hm
  refine vk_getf hx hb (hz0.1 as h1).1.2.2.1 hS hown (hts _ (List.mem_cons_of_mem _ wf20_9)) (fun _ h9 => h9) dX20_length_1 ?_
  obtain ⟨h2, hm⟩ := mr_bs hm
  refine va_tlen hx hb (hz0.1 as h2).1.2.2.2 hS rfl dX20_length_4 ?_
  refine lv_aload_n hx hb dX20_length_5 rfl (lv_at hl 0 rfl) ?_
  obtain ⟨h4, hm⟩ := mr_bs hm
  obtain ⟨r3, hz3, hm⟩ := mr_bind hm
  refine mr_pV (As := []) (rest := [.int (Int32.ofNat (lenS.getD as 0))]) (sr_okZ adK adV) ⟨hx, hb, hml, hown, hts⟩ (kX20_coder l htr dC dI adK adV cI cB cJ cZ cQ  as r3 hz3) (cwV 0 hts (g20_335 _) rfl rfl rfl (by decide +kernel) ⟨(by show 0 + 1 ≤ 1; omega), (by show 8 + (1 + 11) + (0) ≤ 20; omega)⟩) hS hP hK hz0 [] rfl (sr_recv (hz0.1 as h4).1.1 hS) rfl rfl hl.1 (Nat.le_of_ble_eq_true rfl) dX20_length_6 ⟨Nat.zero_le _, Nat.zero_le _⟩ ?_
  refine lv_ishr hx hb dX20_length_9 ?_
  obtain rfl := Option.some.inj hm
  subst hQ0
  exact W.iret (v := ((Int32.ofNat (lenS.getD as 0)) >>> (r3 &&& 31))) hx hb hr (fun t ht hW => ⟨rfl, ht⟩) (fun q h => by cases h) dX20_length_10
set_option maxHeartbeats 4000000 in
set_option maxRecDepth 100000 in
theorem kX22_ck (l : Launch) (htr : l.stackTraces = false) (dC : Nat → ClassId) (dI : Nat → Nat → Nat) (adK adV : Nat → Nat) (cI cB cJ cZ cQ : ClassId) (a0 : Int32) (a1 : Int32) (res : Int32) (hm : m_X22_ck a0 a1 = some res) : Met l yX22_ck wsX22_ck (rmX22_ck 0 0) (pcR (sr_Z adK adV) (dC, dI) srCl [(cI, .int), (cB, .byte), (cJ, .long), (cZ, .boolean), (cQ, .object "SchemaReader$Schema")] [.int a0, .int a1, .null] []) (k2_QcV (.int res)) 0 0 (fun _ => False) := by
  refine Met.ofW (cc := cX22_ck) (maxL := 3) (ret := (some .int)) (by decide) rfl ?_
  intro p e s m args below meth c s₁ B hml hv
  obtain ⟨rfl, hP, hK, hz0⟩ := hv
  have hx := B.exec
  have hb := B.bytes
  have hr := B.returns
  have hts := atoms_spec (ws := wsX22_ck) B.pre
  have hown : s.vm.findClass RX22 = some m.cls := findClass_of_methodNamed B.named
  have hlocks := B.notSynchronized
  have hS : va_S (fun _ => False) s.heap s.heap [] := va_S.rf
  generalize hQ0 : MQ below (k2_QcV (.int res)) [.int a0, .int a1, .null].toArray s 0 0 (fun _ => False) = Q0
  have hl := lv_entry [.int a0, .int a1, .null] (n := 3) (Nat.le_of_ble_eq_true rfl)
  rw [lg_entry_eq]
  generalize (lg_sl [.int a0, .int a1, .null] ++ List.replicate (3 - (lg_sl [.int a0, .int a1, .null]).length) Slot.unset).toArray = ls at hl ⊢
  have hl : lv_has ls 3 [(0, .int a0), (1, .int a1), (2, .null)] := hl
  unfold m_X22_ck at hm
  refine lv_iload_n hx hb dX22_ck_0 rfl (lv_at hl 0 rfl) ?_
  refine lv_if_lt (tgt := 9) hx hb dX22_ck_1 (by decide) (fun c1 => ?_) (fun c1 => ?_)
  · have hm := mr_if c1 hm
    exact nomatch (show (none : Option _) = some res from hm)
  · have hm := mr_un c1 hm
    refine lv_iload_n hx hb dX22_ck_4 rfl (lv_at hl 0 rfl) ?_
    refine lv_iload_n hx hb dX22_ck_5 rfl (lv_at hl 1 rfl) ?_
    refine lv_icmp_lt (tgt := 16) hx hb dX22_ck_6 (by decide) (fun c2 => ?_) (fun c2 => ?_)
    · have hm := mr_if c2 hm
      refine lv_iload_n hx hb dX22_ck_16 rfl (lv_at hl 0 rfl) ?_
      obtain rfl := Option.some.inj hm
      subst hQ0
      exact W.iret (v := a0) hx hb hr (fun t ht hW => ⟨rfl, ht⟩) (fun q h => by cases h) dX22_ck_17
    · have hm := mr_un c2 hm
      exact nomatch (show (none : Option _) = some res from hm)
set_option maxHeartbeats 4000000 in
set_option maxRecDepth 100000 in
theorem kX22_ckQ (l : Launch) (htr : l.stackTraces = false) (dC : Nat → ClassId) (dI : Nat → Nat → Nat) (adK adV : Nat → Nat) (cI cB cJ cZ cQ : ClassId) (a0 : Int32) (a1 : Int32) (a2 : Nat) (res : Int32) (hm : m_X22_ck a0 a1 = some res) : Met l yX22_ckQ wsX22_ckQ (rmX22_ckQ 0 0) (pcR (sr_Z adK adV) (dC, dI) srCl [(cI, .int), (cB, .byte), (cJ, .long), (cZ, .boolean), (cQ, .object "SchemaReader$Schema")] [.int a0, .int a1, .ref a2] []) (k2_QcV (.int res)) 0 0 (fun _ => False) := by
  refine Met.ofW (cc := cX22_ckQ) (maxL := 3) (ret := (some .int)) (by decide) rfl ?_
  intro p e s m args below meth c s₁ B hml hv
  obtain ⟨rfl, hP, hK, hz0⟩ := hv
  have hx := B.exec
  have hb := B.bytes
  have hr := B.returns
  have hts := atoms_spec (ws := wsX22_ckQ) B.pre
  have hown : s.vm.findClass RX22 = some m.cls := findClass_of_methodNamed B.named
  have hlocks := B.notSynchronized
  have hS : va_S (fun _ => False) s.heap s.heap [] := va_S.rf
  generalize hQ0 : MQ below (k2_QcV (.int res)) [.int a0, .int a1, .ref a2].toArray s 0 0 (fun _ => False) = Q0
  have hl := lv_entry [.int a0, .int a1, .ref a2] (n := 3) (Nat.le_of_ble_eq_true rfl)
  rw [lg_entry_eq]
  generalize (lg_sl [.int a0, .int a1, .ref a2] ++ List.replicate (3 - (lg_sl [.int a0, .int a1, .ref a2]).length) Slot.unset).toArray = ls at hl ⊢
  have hl : lv_has ls 3 [(0, .int a0), (1, .int a1), (2, .ref a2)] := hl
  unfold m_X22_ck at hm
  refine lv_iload_n hx hb dX22_ckQ_0 rfl (lv_at hl 0 rfl) ?_
  refine lv_if_lt (tgt := 9) hx hb dX22_ckQ_1 (by decide) (fun c1 => ?_) (fun c1 => ?_)
  · have hm := mr_if c1 hm
    exact nomatch (show (none : Option _) = some res from hm)
  · have hm := mr_un c1 hm
    refine lv_iload_n hx hb dX22_ckQ_4 rfl (lv_at hl 0 rfl) ?_
    refine lv_iload_n hx hb dX22_ckQ_5 rfl (lv_at hl 1 rfl) ?_
    refine lv_icmp_lt (tgt := 16) hx hb dX22_ckQ_6 (by decide) (fun c2 => ?_) (fun c2 => ?_)
    · have hm := mr_if c2 hm
      refine lv_iload_n hx hb dX22_ckQ_16 rfl (lv_at hl 0 rfl) ?_
      obtain rfl := Option.some.inj hm
      subst hQ0
      exact W.iret (v := a0) hx hb hr (fun t ht hW => ⟨rfl, ht⟩) (fun q h => by cases h) dX22_ckQ_17
    · have hm := mr_un c2 hm
      exact nomatch (show (none : Option _) = some res from hm)
set_option maxHeartbeats 4000000 in
set_option maxRecDepth 100000 in
theorem kX20_checkIndex (l : Launch) (htr : l.stackTraces = false) (dC : Nat → ClassId) (dI : Nat → Nat → Nat) (adK adV : Nat → Nat) (cI cB cJ cZ cQ : ClassId) (a0 : Int32) (a1 : Int32) (res : Unit) (hm : m_X20_checkIndex a0 a1 = some res) : Met l yX20_checkIndex wsX20_checkIndex (rmX20_checkIndex 0 0) (pcR (sr_Z adK adV) (dC, dI) srCl [(cI, .int), (cB, .byte), (cJ, .long), (cZ, .boolean), (cQ, .object "SchemaReader$Schema")] [.int a0, .int a1] []) k0_Q 0 0 (fun _ => False) := by
  refine Met.ofW (cc := cX20_checkIndex) (maxL := 2) (ret := none) (by decide) rfl ?_
  intro p e s m args below meth c s₁ B hml hv
  obtain ⟨rfl, hP, hK, hz0⟩ := hv
  have hx := B.exec
  have hb := B.bytes
  have hr := B.returns
  have hts := atoms_spec (ws := wsX20_checkIndex) B.pre
  have hown : s.vm.findClass RX20 = some m.cls := findClass_of_methodNamed B.named
  have hlocks := B.notSynchronized
  have hS : va_S (fun _ => False) s.heap s.heap [] := va_S.rf
  generalize hQ0 : MQ below (k0_Q) [.int a0, .int a1].toArray s 0 0 (fun _ => False) = Q0
  have hl := lv_entry [.int a0, .int a1] (n := 2) (Nat.le_of_ble_eq_true rfl)
  rw [lg_entry_eq]
  generalize (lg_sl [.int a0, .int a1] ++ List.replicate (2 - (lg_sl [.int a0, .int a1]).length) Slot.unset).toArray = ls at hl ⊢
  have hl : lv_has ls 2 [(0, .int a0), (1, .int a1)] := hl
  unfold m_X20_checkIndex at hm
  refine lv_iload_n hx hb dX20_checkIndex_0 rfl (lv_at hl 0 rfl) ?_
  refine lv_iload_n hx hb dX20_checkIndex_1 rfl (lv_at hl 1 rfl) ?_
  rcases hz0.2.2.2.2.1 with hq1 | ⟨q2, hq1⟩
  · refine va_gets hx hb hq1 hS hown (hts _ (List.mem_cons_of_mem _ wf20_1053)) (fun _ h9 => h9) dX20_checkIndex_2 ?_
    obtain ⟨r3, hz3, hm⟩ := mr_bind hm
    refine mr_pS (As := [.int a0, .int a1, .null]) (rest := []) (sr_okZ adK adV) ⟨hx, hb, hml, hown, hts⟩ (kX22_ck l htr dC dI adK adV cI cB cJ cZ cQ  a0 a1 r3 hz3) (va_cwS 3 hts (g20_1059 _) rfl rfl rfl (by decide +kernel) ⟨(by show 0 + 1 ≤ 1; omega), (by show 8 + (3 + 11) + (0) ≤ 22; omega)⟩) hS hP hK hz0 [] rfl rfl rfl hl.1 (Nat.le_of_ble_eq_true rfl) dX20_checkIndex_5 ⟨Nat.zero_le _, Nat.zero_le _⟩ ?_
    refine lv_pop hx hb dX20_checkIndex_8 rfl ?_
    obtain rfl := Option.some.inj hm
    subst hQ0
    exact W.vret hx hb hr (fun t ht hW => ⟨rfl, ht⟩) (fun q h => by cases h) dX20_checkIndex_9
  · refine va_gets hx hb hq1 hS hown (hts _ (List.mem_cons_of_mem _ wf20_1053)) (fun _ h9 => h9) dX20_checkIndex_2 ?_
    obtain ⟨r3, hz3, hm⟩ := mr_bind hm
    refine mr_pS (As := [.int a0, .int a1, .ref q2]) (rest := []) (sr_okZ adK adV) ⟨hx, hb, hml, hown, hts⟩ (kX22_ckQ l htr dC dI adK adV cI cB cJ cZ cQ  a0 a1 q2 r3 hz3) (va_cwS 3 hts (g20_1059 _) rfl rfl rfl (by decide +kernel) ⟨(by show 0 + 1 ≤ 1; omega), (by show 8 + (3 + 11) + (0) ≤ 22; omega)⟩) hS hP hK hz0 [] rfl rfl rfl hl.1 (Nat.le_of_ble_eq_true rfl) dX20_checkIndex_5 ⟨Nat.zero_le _, Nat.zero_le _⟩ ?_
    refine lv_pop hx hb dX20_checkIndex_8 rfl ?_
    obtain rfl := Option.some.inj hm
    subst hQ0
    exact W.vret hx hb hr (fun t ht hW => ⟨rfl, ht⟩) (fun q h => by cases h) dX20_checkIndex_9
set_option maxHeartbeats 4000000 in
set_option maxRecDepth 100000 in
theorem kX21_charAt (l : Launch) (htr : l.stackTraces = false) (dC : Nat → ClassId) (dI : Nat → Nat → Nat) (adK adV : Nat → Nat) (cI cB cJ cZ cQ : ClassId) (a0 : Nat) (a1 : Int32) (res : Int32) (hm : m_X21_charAt a0 a1 = some res) : Met l yX21_charAt wsX21_charAt (rmX21_charAt 0 0) (pcR (sr_Z adK adV) (dC, dI) srCl [(cI, .int), (cB, .byte), (cJ, .long), (cZ, .boolean), (cQ, .object "SchemaReader$Schema")] [.ref (adV a0), .int a1] []) (k2_QcV (.int res)) 0 0 (fun _ => False) := by
  refine Met.ofW (cc := cX21_charAt) (maxL := 2) (ret := (some .char)) (by decide) rfl ?_
  intro p e s m args below meth c s₁ B hml hv
  obtain ⟨rfl, hP, hK, hz0⟩ := hv
  have hx := B.exec
  have hb := B.bytes
  have hr := B.returns
  have hts := atoms_spec (ws := wsX21_charAt) B.pre
  have hown : s.vm.findClass RX21 = some m.cls := findClass_of_methodNamed B.named
  have hlocks := B.notSynchronized
  have hS : va_S (fun _ => False) s.heap s.heap [] := va_S.rf
  generalize hQ0 : MQ below (k2_QcV (.int res)) [.ref (adV a0), .int a1].toArray s 0 0 (fun _ => False) = Q0
  have hl := lv_entry [.ref (adV a0), .int a1] (n := 2) (Nat.le_of_ble_eq_true rfl)
  rw [lg_entry_eq]
  generalize (lg_sl [.ref (adV a0), .int a1] ++ List.replicate (2 - (lg_sl [.ref (adV a0), .int a1]).length) Slot.unset).toArray = ls at hl ⊢
  have hl : lv_has ls 2 [(0, .ref (adV a0)), (1, .int a1)] := hl
  unfold m_X21_charAt at hm
  refine lv_iload_n hx hb dX21_charAt_0 rfl (lv_at hl 1 rfl) ?_
  refine lv_aload_n hx hb dX21_charAt_1 rfl (lv_at hl 0 rfl) ?_
  obtain ⟨h1, hm⟩ := mr_bs hm
  refine va_tlen hx hb (hz0.1 a0 h1).1.2.2.2 hS rfl dX21_charAt_2 ?_
  obtain ⟨r2, hz2, hm⟩ := mr_bind hm
  refine mr_pSv (As := [.int a1, .int (Int32.ofNat (lenS.getD a0 0))]) (rest := []) (sr_okZ adK adV) ⟨hx, hb, hml, hown, hts⟩ (kX20_checkIndex l htr dC dI adK adV cI cB cJ cZ cQ  a1 (Int32.ofNat (lenS.getD a0 0)) r2 hz2) (va_cwS 2 hts (g21_9 _) rfl rfl rfl (by decide +kernel) ⟨(by show 1 + 1 ≤ 2; omega), (by show 8 + (2 + 11) + (22) ≤ 43; omega)⟩) hS hP hK hz0 [] rfl rfl rfl hl.1 (Nat.le_of_ble_eq_true rfl) dX21_charAt_3 ⟨Nat.zero_le _, Nat.zero_le _⟩ ?_
  refine lv_aload_n hx hb dX21_charAt_6 rfl (lv_at hl 0 rfl) ?_
  refine lv_iload_n hx hb dX21_charAt_7 rfl (lv_at hl 1 rfl) ?_
  obtain ⟨h3, hm⟩ := mr_bs hm
  obtain ⟨h4, hm⟩ := mr_bd hm
  refine va_tb hx hb (hz0.1 a0 h3).1.2.2.2 hS h4 rfl dX21_charAt_8 ?_
  refine lv_sipush (v := 255) hx hb dX21_charAt_9 (by decide) ?_
  refine lv_iand hx hb dX21_charAt_12 ?_
  refine lv_i2c hx hb dX21_charAt_13 rfl ?_
  obtain ⟨h5, hm⟩ := mr_bc hm
  obtain rfl := Option.some.inj hm
  subst hQ0
  exact W.zret (v := (((((((bytS.getD a0 []).getD (a1 : Int32).toNatClampNeg 0) &&& 255) : Int32).toUInt32 % 65536).toInt32))) hx hb hr h5 (fun t ht hW => ⟨rfl, ht⟩) (fun q h => by cases h) dX21_charAt_14
set_option maxHeartbeats 4000000 in
set_option maxRecDepth 100000 in
theorem kX20_charAt (l : Launch) (htr : l.stackTraces = false) (dC : Nat → ClassId) (dI : Nat → Nat → Nat) (adK adV : Nat → Nat) (cI cB cJ cZ cQ : ClassId) (as : Nat) (a0 : Int32) (res : Int32) (hm : m_X20_charAt as a0 = some res) : Met l yX20_charAt wsX20_charAt (rmX20_charAt 0 0) (pcR (sr_Z adK adV) (dC, dI) srCl [(cI, .int), (cB, .byte), (cJ, .long), (cZ, .boolean), (cQ, .object "SchemaReader$Schema")] [.ref (adK as), .int a0] []) (k2_QcV (.int res)) 0 0 (fun _ => False) := by
  refine Met.ofW (cc := cX20_charAt) (maxL := 2) (ret := (some .char)) (by decide) rfl ?_
  intro p e s m args below meth c s₁ B hml hv
  obtain ⟨rfl, hP, hK, hz0⟩ := hv
  have hx := B.exec
  have hb := B.bytes
  have hr := B.returns
  have hts := atoms_spec (ws := wsX20_charAt) B.pre
  have hown : s.vm.findClass RX20 = some m.cls := findClass_of_methodNamed B.named
  have hlocks := B.notSynchronized
  have hS : va_S (fun _ => False) s.heap s.heap [] := va_S.rf
  generalize hQ0 : MQ below (k2_QcV (.int res)) [.ref (adK as), .int a0].toArray s 0 0 (fun _ => False) = Q0
  have hl := lv_entry [.ref (adK as), .int a0] (n := 2) (Nat.le_of_ble_eq_true rfl)
  rw [lg_entry_eq]
  generalize (lg_sl [.ref (adK as), .int a0] ++ List.replicate (2 - (lg_sl [.ref (adK as), .int a0]).length) Slot.unset).toArray = ls at hl ⊢
  have hl : lv_has ls 2 [(0, .ref (adK as)), (1, .int a0)] := hl
  unfold m_X20_charAt at hm
  refine lv_aload_n hx hb dX20_charAt_0 rfl (lv_at hl 0 rfl) ?_
  obtain ⟨h2, hm⟩ := mr_bs hm
  obtain ⟨r1, hz1, hm⟩ := mr_bind hm
  refine mr_pV (As := []) (rest := []) (sr_okZ adK adV) ⟨hx, hb, hml, hown, hts⟩ (kX20_isLatin1 l htr dC dI adK adV cI cB cJ cZ cQ  as r1 hz1) (cwV 0 hts (g20_492 _) rfl rfl rfl (by decide +kernel) ⟨(by show 0 + 1 ≤ 3; omega), (by show 8 + (1 + 11) + (0) ≤ 64; omega)⟩) hS hP hK hz0 [] rfl (sr_recv (hz0.1 as h2).1.1 hS) rfl rfl hl.1 (Nat.le_of_ble_eq_true rfl) dX20_charAt_1 ⟨Nat.zero_le _, Nat.zero_le _⟩ ?_
  refine lv_if_eq (tgt := 16) hx hb dX20_charAt_4 (by decide) (fun c3 => ?_) (fun c3 => ?_)
  · have hm := mr_if c3 hm
    refine lv_aload_n hx hb dX20_charAt_16 rfl (lv_at hl 0 rfl) ?_
    obtain ⟨h4, hm⟩ := mr_bs hm
    refine vk_getf hx hb (hz0.1 as h4).1.2.2.1 hS hown (hts _ (List.mem_cons_of_mem _ wf20_9)) (fun _ h9 => h9) dX20_charAt_17 ?_
    refine lv_iload_n hx hb dX20_charAt_20 rfl (lv_at hl 1 rfl) ?_
    exact nomatch (show (none : Option _) = some res from hm)
  · have hm := mr_un c3 hm
    refine lv_aload_n hx hb dX20_charAt_7 rfl (lv_at hl 0 rfl) ?_
    obtain ⟨h5, hm⟩ := mr_bs hm
    refine vk_getf hx hb (hz0.1 as h5).1.2.2.1 hS hown (hts _ (List.mem_cons_of_mem _ wf20_9)) (fun _ h9 => h9) dX20_charAt_8 ?_
    refine lv_iload_n hx hb dX20_charAt_11 rfl (lv_at hl 1 rfl) ?_
    obtain ⟨r6, hz6, hm⟩ := mr_bind hm
    refine mr_pS (As := [.ref (adV as), .int a0]) (rest := []) (sr_okZ adK adV) ⟨hx, hb, hml, hown, hts⟩ (kX21_charAt l htr dC dI adK adV cI cB cJ cZ cQ  as a0 r6 hz6) (va_cwS 2 hts (g20_495 _) rfl rfl rfl (by decide +kernel) ⟨(by show 2 + 1 ≤ 3; omega), (by show 8 + (2 + 11) + (43) ≤ 64; omega)⟩) hS hP hK hz0 [] rfl rfl rfl hl.1 (Nat.le_of_ble_eq_true rfl) dX20_charAt_12 ⟨Nat.zero_le _, Nat.zero_le _⟩ ?_
    obtain ⟨h7, hm⟩ := mr_bc hm
    obtain rfl := Option.some.inj hm
    subst hQ0
    exact W.zret (v := r6) hx hb hr h7 (fun t ht hW => ⟨rfl, ht⟩) (fun q h => by cases h) dX20_charAt_15
set_option maxHeartbeats 4000000 in
set_option maxRecDepth 100000 in
theorem kX21_canEncode (l : Launch) (htr : l.stackTraces = false) (dC : Nat → ClassId) (dI : Nat → Nat → Nat) (adK adV : Nat → Nat) (cI cB cJ cZ cQ : ClassId) (a0 : Int32) (res : Int32) (hm : m_X21_canEncode a0 = some res) : Met l yX21_canEncode wsX21_canEncode (rmX21_canEncode 0 0) (pcR (sr_Z adK adV) (dC, dI) srCl [(cI, .int), (cB, .byte), (cJ, .long), (cZ, .boolean), (cQ, .object "SchemaReader$Schema")] [.int a0] []) (k2_QcV (.int res)) 0 0 (fun _ => False) := by
  refine Met.ofW (cc := cX21_canEncode) (maxL := 1) (ret := (some .boolean)) (by decide) rfl ?_
  intro p e s m args below meth c s₁ B hml hv
  obtain ⟨rfl, hP, hK, hz0⟩ := hv
  have hx := B.exec
  have hb := B.bytes
  have hr := B.returns
  have hts := atoms_spec (ws := wsX21_canEncode) B.pre
  have hown : s.vm.findClass RX21 = some m.cls := findClass_of_methodNamed B.named
  have hlocks := B.notSynchronized
  have hS : va_S (fun _ => False) s.heap s.heap [] := va_S.rf
  generalize hQ0 : MQ below (k2_QcV (.int res)) [.int a0].toArray s 0 0 (fun _ => False) = Q0
  have hl := lv_entry [.int a0] (n := 1) (Nat.le_of_ble_eq_true rfl)
  rw [lg_entry_eq]
  generalize (lg_sl [.int a0] ++ List.replicate (1 - (lg_sl [.int a0]).length) Slot.unset).toArray = ls at hl ⊢
  have hl : lv_has ls 1 [(0, .int a0)] := hl
  unfold m_X21_canEncode at hm
  refine lv_iload_n hx hb dX21_canEncode_0 rfl (lv_at hl 0 rfl) ?_
  refine lv_if_lt (tgt := 15) hx hb dX21_canEncode_1 (by decide) (fun c1 => ?_) (fun c1 => ?_)
  · have hm := mr_if c1 hm
    refine lv_iconst (v := 0) hx hb dX21_canEncode_15 (by decide) ?_
    obtain rfl := Option.some.inj hm
    subst hQ0
    exact W.zret (v := 0) hx hb hr rfl (fun t ht hW => ⟨rfl, ht⟩) (fun q h => by cases h) dX21_canEncode_16
  · have hm := mr_un c1 hm
    refine lv_iload_n hx hb dX21_canEncode_4 rfl (lv_at hl 0 rfl) ?_
    refine lv_sipush (v := 255) hx hb dX21_canEncode_5 (by decide) ?_
    refine lv_icmp_gt (tgt := 15) hx hb dX21_canEncode_8 (by decide) (fun c2 => ?_) (fun c2 => ?_)
    · have hm := mr_if c2 hm
      refine lv_iconst (v := 0) hx hb dX21_canEncode_15 (by decide) ?_
      obtain rfl := Option.some.inj hm
      subst hQ0
      exact W.zret (v := 0) hx hb hr rfl (fun t ht hW => ⟨rfl, ht⟩) (fun q h => by cases h) dX21_canEncode_16
    · have hm := mr_un c2 hm
      refine lv_iconst (v := 1) hx hb dX21_canEncode_11 (by decide) ?_
      refine lv_goto (tgt := 16) hx hb dX21_canEncode_12 (by decide) ?_
      obtain rfl := Option.some.inj hm
      subst hQ0
      exact W.zret (v := 1) hx hb hr rfl (fun t ht hW => ⟨rfl, ht⟩) (fun q h => by cases h) dX21_canEncode_16
set_option maxHeartbeats 4000000 in
set_option maxRecDepth 100000 in
theorem kX21_indexOfChar (l : Launch) (htr : l.stackTraces = false) (dC : Nat → ClassId) (dI : Nat → Nat → Nat) (adK adV : Nat → Nat) (cI cB cJ cZ cQ : ClassId) (a0 : Nat) (a1 : Int32) (a2 : Int32) (a3 : Int32) (res : Int32) (hm : m_X21_indexOfChar a0 a1 a2 a3 = some res) : Met l yX21_indexOfChar wsX21_indexOfChar (rmX21_indexOfChar 0 0) (pcR (sr_Z adK adV) (dC, dI) srCl [(cI, .int), (cB, .byte), (cJ, .long), (cZ, .boolean), (cQ, .object "SchemaReader$Schema")] [.ref (adV a0), .int a1, .int a2, .int a3] []) (k2_QcV (.int res)) 0 0 (fun _ => False) := by
  refine Met.ofW (cc := cX21_indexOfChar) (maxL := 6) (ret := (some .int)) (by decide) rfl ?_
  intro p e s m args below meth c s₁ B hml hv
  obtain ⟨rfl, hP, hK, hz0⟩ := hv
  have hx := B.exec
  have hb := B.bytes
  have hr := B.returns
  have hts := atoms_spec (ws := wsX21_indexOfChar) B.pre
  have hown : s.vm.findClass RX21 = some m.cls := findClass_of_methodNamed B.named
  have hlocks := B.notSynchronized
  have hS : va_S (fun _ => False) s.heap s.heap [] := va_S.rf
  generalize hQ0 : MQ below (k2_QcV (.int res)) [.ref (adV a0), .int a1, .int a2, .int a3].toArray s 0 0 (fun _ => False) = Q0
  have hl := lv_entry [.ref (adV a0), .int a1, .int a2, .int a3] (n := 6) (Nat.le_of_ble_eq_true rfl)
  rw [lg_entry_eq]
  generalize (lg_sl [.ref (adV a0), .int a1, .int a2, .int a3] ++ List.replicate (6 - (lg_sl [.ref (adV a0), .int a1, .int a2, .int a3]).length) Slot.unset).toArray = ls at hl ⊢
  have hl : lv_has ls 6 [(0, .ref (adV a0)), (1, .int a1), (2, .int a2), (3, .int a3)] := hl
  unfold m_X21_indexOfChar at hm
  refine lv_iload_n hx hb dX21_indexOfChar_0 rfl (lv_at hl 1 rfl) ?_
  refine lv_i2b hx hb dX21_indexOfChar_1 rfl ?_
  refine lv_istore (lv' := [(4, .int ((a1 : Int32).toInt8.toInt32)), (0, .ref (adV a0)), (1, .int a1), (2, .int a2), (3, .int a3)]) hx hb dX21_indexOfChar_2 hl (by decide) rfl (fun ls hl => ?_)
  refine lv_iload_n hx hb dX21_indexOfChar_4 rfl (lv_at hl 3 rfl) ?_
  have j7 : ∀ (n7 : Nat) (x0 : Nat) (x3 : Int32) (x4 : Int32) (x5 : Int32) (ls : Array Slot), lv_has ls 6 [(0, .ref (adV x0)), (3, .int x3), (4, .int x4), (5, .int x5)] → m_X21_indexOfChar_7 n7 x0 x3 x4 x5 = some res → W p l e (headSpec wsX21_indexOfChar (rmX21_indexOfChar 0 0)).room s m [.ref (adV a0), .int a1, .int a2, .int a3].toArray below meth c s.heap [] 0 0 Q0 (F0 m 7 ls []) := by
    intro n7
    induction n7 with
    | zero => intro x0 x3 x4 x5 ls hl hm; exact nomatch (show (none : Option _) = some res from hm)
    | succ n7 ih7 =>
      intro x0 x3 x4 x5 ls hl hm
      rw [m_X21_indexOfChar_7] at hm
      refine lv_iload hx hb dX21_indexOfChar_7 (lv_at hl 3 rfl) ?_
      refine lv_iload_n hx hb dX21_indexOfChar_9 rfl (lv_at hl 1 rfl) ?_
      refine lv_icmp_ge (tgt := 31) hx hb dX21_indexOfChar_10 (by decide) (fun c1 => ?_) (fun c1 => ?_)
      · have hm := mr_if c1 hm
        refine lv_iconst (v := -1) hx hb dX21_indexOfChar_31 (by decide) ?_
        obtain rfl := Option.some.inj hm
        subst hQ0
        exact W.iret (v := (-1)) hx hb hr (fun t ht hW => ⟨rfl, ht⟩) (fun q h => by cases h) dX21_indexOfChar_32
      · have hm := mr_un c1 hm
        refine lv_aload_n hx hb dX21_indexOfChar_13 rfl (lv_at hl 0 rfl) ?_
        refine lv_iload hx hb dX21_indexOfChar_14 (lv_at hl 3 rfl) ?_
        obtain ⟨h2, hm⟩ := mr_bs hm
        obtain ⟨h3, hm⟩ := mr_bd hm
        refine va_tb hx hb (hz0.1 x0 h2).1.2.2.2 hS h3 rfl dX21_indexOfChar_16 ?_
        refine lv_iload hx hb dX21_indexOfChar_17 (lv_at hl 2 rfl) ?_
        refine lv_icmp_ne (tgt := 25) hx hb dX21_indexOfChar_19 (by decide) (fun c4 => ?_) (fun c4 => ?_)
        · have hm := mr_un c4 hm
          refine lv_iinc (v := x5 + 1) (lv' := [(5, .int (x5 + 1)), (0, .ref (adV x0)), (3, .int x3), (4, .int x4)]) hx hb dX21_indexOfChar_25 hl (k := 3) rfl rfl (by decide) rfl (fun ls hl => ?_)
          refine lv_goto (tgt := 7) hx hb dX21_indexOfChar_28 (by decide) ?_
          exact ih7 x0 x3 x4 (x5 + 1) ls (lv_sub hl [1, 2, 3, 0] rfl) hm
        · have hm := mr_if c4 hm
          refine lv_iload hx hb dX21_indexOfChar_22 (lv_at hl 3 rfl) ?_
          obtain rfl := Option.some.inj hm
          subst hQ0
          exact W.iret (v := x5) hx hb hr (fun t ht hW => ⟨rfl, ht⟩) (fun q h => by cases h) dX21_indexOfChar_24
  refine lv_istore (lv' := [(5, .int a2), (4, .int ((a1 : Int32).toInt8.toInt32)), (0, .ref (adV a0)), (1, .int a1), (2, .int a2), (3, .int a3)]) hx hb dX21_indexOfChar_5 hl (by decide) rfl (fun ls hl => ?_)
  exact j7 sr_fuel a0 a3 ((a1 : Int32).toInt8.toInt32) a2 ls (lv_sub hl [2, 5, 1, 0] rfl) hm
set_option maxHeartbeats 4000000 in
set_option maxRecDepth 100000 in
theorem kX21_indexOf (l : Launch) (htr : l.stackTraces = false) (dC : Nat → ClassId) (dI : Nat → Nat → Nat) (adK adV : Nat → Nat) (cI cB cJ cZ cQ : ClassId) (a0 : Nat) (a1 : Int32) (a2 : Int32) (a3 : Int32) (res : Int32) (hm : m_X21_indexOf a0 a1 a2 a3 = some res) : Met l yX21_indexOf wsX21_indexOf (rmX21_indexOf 0 0) (pcR (sr_Z adK adV) (dC, dI) srCl [(cI, .int), (cB, .byte), (cJ, .long), (cZ, .boolean), (cQ, .object "SchemaReader$Schema")] [.ref (adV a0), .int a1, .int a2, .int a3] []) (k2_QcV (.int res)) 0 0 (fun _ => False) := by
  refine Met.ofW (cc := cX21_indexOf) (maxL := 4) (ret := (some .int)) (by decide) rfl ?_
  intro p e s m args below meth c s₁ B hml hv
  obtain ⟨rfl, hP, hK, hz0⟩ := hv
  have hx := B.exec
  have hb := B.bytes
  have hr := B.returns
  have hts := atoms_spec (ws := wsX21_indexOf) B.pre
  have hown : s.vm.findClass RX21 = some m.cls := findClass_of_methodNamed B.named
  have hlocks := B.notSynchronized
  have hS : va_S (fun _ => False) s.heap s.heap [] := va_S.rf
  generalize hQ0 : MQ below (k2_QcV (.int res)) [.ref (adV a0), .int a1, .int a2, .int a3].toArray s 0 0 (fun _ => False) = Q0
  have hl := lv_entry [.ref (adV a0), .int a1, .int a2, .int a3] (n := 4) (Nat.le_of_ble_eq_true rfl)
  rw [lg_entry_eq]
  generalize (lg_sl [.ref (adV a0), .int a1, .int a2, .int a3] ++ List.replicate (4 - (lg_sl [.ref (adV a0), .int a1, .int a2, .int a3]).length) Slot.unset).toArray = ls at hl ⊢
  have hl : lv_has ls 4 [(0, .ref (adV a0)), (1, .int a1), (2, .int a2), (3, .int a3)] := hl
  unfold m_X21_indexOf at hm
  refine lv_iload_n hx hb dX21_indexOf_0 rfl (lv_at hl 1 rfl) ?_
  obtain ⟨r1, hz1, hm⟩ := mr_bind hm
  refine mr_pS (As := [.int a1]) (rest := []) (sr_okZ adK adV) ⟨hx, hb, hml, hown, hts⟩ (kX21_canEncode l htr dC dI adK adV cI cB cJ cZ cQ  a1 r1 hz1) (va_cwS 1 hts (g21_88 _) rfl rfl rfl (by decide +kernel) ⟨(by show 0 + 1 ≤ 1; omega), (by show 8 + (1 + 11) + (0) ≤ 25; omega)⟩) hS hP hK hz0 [] rfl rfl rfl hl.1 (Nat.le_of_ble_eq_true rfl) dX21_indexOf_1 ⟨Nat.zero_le _, Nat.zero_le _⟩ ?_
  refine lv_if_ne (tgt := 9) hx hb dX21_indexOf_4 (by decide) (fun c2 => ?_) (fun c2 => ?_)
  · have hm := mr_un c2 hm
    refine lv_iload_n hx hb dX21_indexOf_9 rfl (lv_at hl 2 rfl) ?_
    refine lv_iconst (v := 0) hx hb dX21_indexOf_10 (by decide) ?_
    refine va_mmax hx hb (hml.trans hl.1.symm) hown (hts _ (List.mem_cons_of_mem _ (wm21_92 _ (List.mem_of_getElem? (i := 0) rfl)))) (hts _ (List.mem_cons_of_mem _ (wm21_92 _ (List.mem_of_getElem? (i := 1) rfl)))) (hts _ (List.mem_cons_of_mem _ (wm21_92 _ (List.mem_of_getElem? (i := 2) rfl)))) (hts _ (List.mem_cons_of_mem _ (wm21_92 _ (List.mem_of_getElem? (i := 3) rfl)))) (Nat.le_of_ble_eq_true rfl) (Nat.le_of_ble_eq_true rfl) (Nat.zero_le _) (Nat.zero_le _) dX21_indexOf_11 ?_
    refine lv_istore_n (lv' := [(2, .int (if a2 < 0 then 0 else a2)), (0, .ref (adV a0)), (1, .int a1), (3, .int a3)]) hx hb dX21_indexOf_14 rfl hl (by decide) rfl (fun ls hl => ?_)
    refine lv_iload_n hx hb dX21_indexOf_15 rfl (lv_at hl 3 rfl) ?_
    refine lv_aload_n hx hb dX21_indexOf_16 rfl (lv_at hl 1 rfl) ?_
    obtain ⟨h3, hm⟩ := mr_bs hm
    refine va_tlen hx hb (hz0.1 a0 h3).1.2.2.2 hS rfl dX21_indexOf_17 ?_
    refine va_mmin hx hb (hml.trans hl.1.symm) hown (hts _ (List.mem_cons_of_mem _ (wm21_38 _ (List.mem_of_getElem? (i := 0) rfl)))) (hts _ (List.mem_cons_of_mem _ (wm21_38 _ (List.mem_of_getElem? (i := 1) rfl)))) (hts _ (List.mem_cons_of_mem _ (wm21_38 _ (List.mem_of_getElem? (i := 2) rfl)))) (hts _ (List.mem_cons_of_mem _ (wm21_38 _ (List.mem_of_getElem? (i := 3) rfl)))) (Nat.le_of_ble_eq_true rfl) (Nat.le_of_ble_eq_true rfl) (Nat.zero_le _) (Nat.zero_le _) dX21_indexOf_18 ?_
    refine lv_istore_n (lv' := [(3, .int (if (Int32.ofNat (lenS.getD a0 0)) < a3 then (Int32.ofNat (lenS.getD a0 0)) else a3)), (2, .int (if a2 < 0 then 0 else a2)), (0, .ref (adV a0)), (1, .int a1)]) hx hb dX21_indexOf_21 rfl hl (by decide) rfl (fun ls hl => ?_)
    refine lv_iload_n hx hb dX21_indexOf_22 rfl (lv_at hl 1 rfl) ?_
    refine lv_iload_n hx hb dX21_indexOf_23 rfl (lv_at hl 0 rfl) ?_
    refine lv_icmp_lt (tgt := 29) hx hb dX21_indexOf_24 (by decide) (fun c4 => ?_) (fun c4 => ?_)
    · have hm := mr_if c4 hm
      refine lv_aload_n hx hb dX21_indexOf_29 rfl (lv_at hl 2 rfl) ?_
      refine lv_iload_n hx hb dX21_indexOf_30 rfl (lv_at hl 3 rfl) ?_
      refine lv_iload_n hx hb dX21_indexOf_31 rfl (lv_at hl 1 rfl) ?_
      refine lv_iload_n hx hb dX21_indexOf_32 rfl (lv_at hl 0 rfl) ?_
      obtain ⟨r5, hz5, hm⟩ := mr_bind hm
      refine mr_pS (As := [.ref (adV a0), .int a1, .int (if a2 < 0 then 0 else a2), .int (if (Int32.ofNat (lenS.getD a0 0)) < a3 then (Int32.ofNat (lenS.getD a0 0)) else a3)]) (rest := []) (sr_okZ adK adV) ⟨hx, hb, hml, hown, hts⟩ (kX21_indexOfChar l htr dC dI adK adV cI cB cJ cZ cQ  a0 a1 (if a2 < 0 then 0 else a2) (if (Int32.ofNat (lenS.getD a0 0)) < a3 then (Int32.ofNat (lenS.getD a0 0)) else a3) r5 hz5) (va_cwS 4 hts (g21_95 _) rfl rfl rfl (by decide +kernel) ⟨(by show 0 + 1 ≤ 1; omega), (by show 8 + (6 + 11) + (0) ≤ 25; omega)⟩) hS hP hK hz0 [] rfl rfl rfl hl.1 (Nat.le_of_ble_eq_true rfl) dX21_indexOf_33 ⟨Nat.zero_le _, Nat.zero_le _⟩ ?_
      obtain rfl := Option.some.inj hm
      subst hQ0
      exact W.iret (v := r5) hx hb hr (fun t ht hW => ⟨rfl, ht⟩) (fun q h => by cases h) dX21_indexOf_36
    · have hm := mr_un c4 hm
      refine lv_iconst (v := -1) hx hb dX21_indexOf_27 (by decide) ?_
      obtain rfl := Option.some.inj hm
      subst hQ0
      exact W.iret (v := (-1)) hx hb hr (fun t ht hW => ⟨rfl, ht⟩) (fun q h => by cases h) dX21_indexOf_28
  · have hm := mr_if c2 hm
    refine lv_iconst (v := -1) hx hb dX21_indexOf_7 (by decide) ?_
    obtain rfl := Option.some.inj hm
    subst hQ0
    exact W.iret (v := (-1)) hx hb hr (fun t ht hW => ⟨rfl, ht⟩) (fun q h => by cases h) dX21_indexOf_8
set_option maxHeartbeats 4000000 in
set_option maxRecDepth 100000 in
theorem kX20_indexOf2 (l : Launch) (htr : l.stackTraces = false) (dC : Nat → ClassId) (dI : Nat → Nat → Nat) (adK adV : Nat → Nat) (cI cB cJ cZ cQ : ClassId) (as : Nat) (a0 : Int32) (a1 : Int32) (res : Int32) (hm : m_X20_indexOf2 as a0 a1 = some res) : Met l yX20_indexOf2 wsX20_indexOf2 (rmX20_indexOf2 0 0) (pcR (sr_Z adK adV) (dC, dI) srCl [(cI, .int), (cB, .byte), (cJ, .long), (cZ, .boolean), (cQ, .object "SchemaReader$Schema")] [.ref (adK as), .int a0, .int a1] []) (k2_QcV (.int res)) 0 0 (fun _ => False) := by
  refine Met.ofW (cc := cX20_indexOf2) (maxL := 3) (ret := (some .int)) (by decide) rfl ?_
  intro p e s m args below meth c s₁ B hml hv
  obtain ⟨rfl, hP, hK, hz0⟩ := hv
  have hx := B.exec
  have hb := B.bytes
  have hr := B.returns
  have hts := atoms_spec (ws := wsX20_indexOf2) B.pre
  have hown : s.vm.findClass RX20 = some m.cls := findClass_of_methodNamed B.named
  have hlocks := B.notSynchronized
  have hS : va_S (fun _ => False) s.heap s.heap [] := va_S.rf
  generalize hQ0 : MQ below (k2_QcV (.int res)) [.ref (adK as), .int a0, .int a1].toArray s 0 0 (fun _ => False) = Q0
  have hl := lv_entry [.ref (adK as), .int a0, .int a1] (n := 3) (Nat.le_of_ble_eq_true rfl)
  rw [lg_entry_eq]
  generalize (lg_sl [.ref (adK as), .int a0, .int a1] ++ List.replicate (3 - (lg_sl [.ref (adK as), .int a0, .int a1]).length) Slot.unset).toArray = ls at hl ⊢
  have hl : lv_has ls 3 [(0, .ref (adK as)), (1, .int a0), (2, .int a1)] := hl
  unfold m_X20_indexOf2 at hm
  refine lv_aload_n hx hb dX20_indexOf2_0 rfl (lv_at hl 0 rfl) ?_
  obtain ⟨h2, hm⟩ := mr_bs hm
  obtain ⟨r1, hz1, hm⟩ := mr_bind hm
  refine mr_pV (As := []) (rest := []) (sr_okZ adK adV) ⟨hx, hb, hml, hown, hts⟩ (kX20_isLatin1 l htr dC dI adK adV cI cB cJ cZ cQ  as r1 hz1) (cwV 0 hts (g20_492 _) rfl rfl rfl (by decide +kernel) ⟨(by show 0 + 1 ≤ 2; omega), (by show 8 + (1 + 11) + (0) ≤ 48; omega)⟩) hS hP hK hz0 [] rfl (sr_recv (hz0.1 as h2).1.1 hS) rfl rfl hl.1 (Nat.le_of_ble_eq_true rfl) dX20_indexOf2_1 ⟨Nat.zero_le _, Nat.zero_le _⟩ ?_
  refine lv_if_eq (tgt := 23) hx hb dX20_indexOf2_4 (by decide) (fun c3 => ?_) (fun c3 => ?_)
  · have hm := mr_if c3 hm
    refine lv_aload_n hx hb dX20_indexOf2_23 rfl (lv_at hl 0 rfl) ?_
    obtain ⟨h4, hm⟩ := mr_bs hm
    refine vk_getf hx hb (hz0.1 as h4).1.2.2.1 hS hown (hts _ (List.mem_cons_of_mem _ wf20_9)) (fun _ h9 => h9) dX20_indexOf2_24 ?_
    refine lv_iload_n hx hb dX20_indexOf2_27 rfl (lv_at hl 1 rfl) ?_
    refine lv_iload_n hx hb dX20_indexOf2_28 rfl (lv_at hl 2 rfl) ?_
    refine lv_aload_n hx hb dX20_indexOf2_29 rfl (lv_at hl 0 rfl) ?_
    obtain ⟨h6, hm⟩ := mr_bs hm
    obtain ⟨r5, hz5, hm⟩ := mr_bind hm
    refine mr_pV (As := []) (rest := [.int a1, .int a0, .ref (adV as)]) (sr_okZ adK adV) ⟨hx, hb, hml, hown, hts⟩ (kX20_length l htr dC dI adK adV cI cB cJ cZ cQ  as r5 hz5) (cwV 0 hts (g20_505 _) rfl rfl rfl (by decide +kernel) ⟨(by show 1 + 1 ≤ 2; omega), (by show 8 + (1 + 11) + (20) ≤ 48; omega)⟩) hS hP hK hz0 [] rfl (sr_recv (hz0.1 as h6).1.1 hS) rfl rfl hl.1 (Nat.le_of_ble_eq_true rfl) dX20_indexOf2_30 ⟨Nat.zero_le _, Nat.zero_le _⟩ ?_
    exact nomatch (show (none : Option _) = some res from hm)
  · have hm := mr_un c3 hm
    refine lv_aload_n hx hb dX20_indexOf2_7 rfl (lv_at hl 0 rfl) ?_
    obtain ⟨h7, hm⟩ := mr_bs hm
    refine vk_getf hx hb (hz0.1 as h7).1.2.2.1 hS hown (hts _ (List.mem_cons_of_mem _ wf20_9)) (fun _ h9 => h9) dX20_indexOf2_8 ?_
    refine lv_iload_n hx hb dX20_indexOf2_11 rfl (lv_at hl 1 rfl) ?_
    refine lv_iload_n hx hb dX20_indexOf2_12 rfl (lv_at hl 2 rfl) ?_
    refine lv_aload_n hx hb dX20_indexOf2_13 rfl (lv_at hl 0 rfl) ?_
    obtain ⟨h9, hm⟩ := mr_bs hm
    obtain ⟨r8, hz8, hm⟩ := mr_bind hm
    refine mr_pV (As := []) (rest := [.int a1, .int a0, .ref (adV as)]) (sr_okZ adK adV) ⟨hx, hb, hml, hown, hts⟩ (kX20_length l htr dC dI adK adV cI cB cJ cZ cQ  as r8 hz8) (cwV 0 hts (g20_505 _) rfl rfl rfl (by decide +kernel) ⟨(by show 1 + 1 ≤ 2; omega), (by show 8 + (1 + 11) + (20) ≤ 48; omega)⟩) hS hP hK hz0 [] rfl (sr_recv (hz0.1 as h9).1.1 hS) rfl rfl hl.1 (Nat.le_of_ble_eq_true rfl) dX20_indexOf2_14 ⟨Nat.zero_le _, Nat.zero_le _⟩ ?_
    obtain ⟨r10, hz10, hm⟩ := mr_bind hm
    refine mr_pS (As := [.ref (adV as), .int a0, .int a1, .int r8]) (rest := []) (sr_okZ adK adV) ⟨hx, hb, hml, hown, hts⟩ (kX21_indexOf l htr dC dI adK adV cI cB cJ cZ cQ  as a0 a1 r8 r10 hz10) (va_cwS 4 hts (g20_637 _) rfl rfl rfl (by decide +kernel) ⟨(by show 1 + 1 ≤ 2; omega), (by show 8 + (4 + 11) + (25) ≤ 48; omega)⟩) hS hP hK hz0 [] rfl rfl rfl hl.1 (Nat.le_of_ble_eq_true rfl) dX20_indexOf2_17 ⟨Nat.zero_le _, Nat.zero_le _⟩ ?_
    refine lv_goto (tgt := 36) hx hb dX20_indexOf2_20 (by decide) ?_
    obtain rfl := Option.some.inj hm
    subst hQ0
    exact W.iret (v := r10) hx hb hr (fun t ht hW => ⟨rfl, ht⟩) (fun q h => by cases h) dX20_indexOf2_36
set_option maxHeartbeats 4000000 in
set_option maxRecDepth 100000 in
theorem kX20_indexOf (l : Launch) (htr : l.stackTraces = false) (dC : Nat → ClassId) (dI : Nat → Nat → Nat) (adK adV : Nat → Nat) (cI cB cJ cZ cQ : ClassId) (as : Nat) (a0 : Int32) (res : Int32) (hm : m_X20_indexOf as a0 = some res) : Met l yX20_indexOf wsX20_indexOf (rmX20_indexOf 0 0) (pcR (sr_Z adK adV) (dC, dI) srCl [(cI, .int), (cB, .byte), (cJ, .long), (cZ, .boolean), (cQ, .object "SchemaReader$Schema")] [.ref (adK as), .int a0] []) (k2_QcV (.int res)) 0 0 (fun _ => False) := by
  refine Met.ofW (cc := cX20_indexOf) (maxL := 2) (ret := (some .int)) (by decide) rfl ?_
  intro p e s m args below meth c s₁ B hml hv
  obtain ⟨rfl, hP, hK, hz0⟩ := hv
  have hx := B.exec
  have hb := B.bytes
  have hr := B.returns
  have hts := atoms_spec (ws := wsX20_indexOf) B.pre
  have hown : s.vm.findClass RX20 = some m.cls := findClass_of_methodNamed B.named
  have hlocks := B.notSynchronized
  have hS : va_S (fun _ => False) s.heap s.heap [] := va_S.rf
  generalize hQ0 : MQ below (k2_QcV (.int res)) [.ref (adK as), .int a0].toArray s 0 0 (fun _ => False) = Q0
  have hl := lv_entry [.ref (adK as), .int a0] (n := 2) (Nat.le_of_ble_eq_true rfl)
  rw [lg_entry_eq]
  generalize (lg_sl [.ref (adK as), .int a0] ++ List.replicate (2 - (lg_sl [.ref (adK as), .int a0]).length) Slot.unset).toArray = ls at hl ⊢
  have hl : lv_has ls 2 [(0, .ref (adK as)), (1, .int a0)] := hl
  unfold m_X20_indexOf at hm
  refine lv_aload_n hx hb dX20_indexOf_0 rfl (lv_at hl 0 rfl) ?_
  refine lv_iload_n hx hb dX20_indexOf_1 rfl (lv_at hl 1 rfl) ?_
  refine lv_iconst (v := 0) hx hb dX20_indexOf_2 (by decide) ?_
  obtain ⟨h2, hm⟩ := mr_bs hm
  obtain ⟨r1, hz1, hm⟩ := mr_bind hm
  refine mr_pV (As := [.int a0, .int 0]) (rest := []) (sr_okZ adK adV) ⟨hx, hb, hml, hown, hts⟩ (kX20_indexOf2 l htr dC dI adK adV cI cB cJ cZ cQ  as a0 0 r1 hz1) (cwV 2 hts (g20_633 _) rfl rfl rfl (by decide +kernel) ⟨(by show 2 + 1 ≤ 3; omega), (by show 8 + (3 + 11) + (48) ≤ 70; omega)⟩) hS hP hK hz0 [] rfl (sr_recv (hz0.1 as h2).1.1 hS) rfl rfl hl.1 (Nat.le_of_ble_eq_true rfl) dX20_indexOf_3 ⟨Nat.zero_le _, Nat.zero_le _⟩ ?_
  obtain rfl := Option.some.inj hm
  subst hQ0
  exact W.iret (v := r1) hx hb hr (fun t ht hW => ⟨rfl, ht⟩) (fun q h => by cases h) dX20_indexOf_6
end
section
abbrev cX2_init : ByteArray := prog_5_method_1_code
def yX2_init : MethodName := ⟨RX2, "<init>", "()V"⟩
def wsX2_init : List Cond := .code yX2_init cX2_init 1 none :: sr_G
def nq_cX2_init : Nat := 0xb11800b5032a1500b50abc0004112a1200b50abc0004112a0f00b50abc0004112a0b00b50abc0001112a0300b72a
theorem kq_cX2_init : qOk cX2_init nq_cX2_init 46 = true := by decide +kernel
theorem dX2_init_0 : decode cX2_init 0 = .ok (.aload_n 0, 1) := qd_42 kq_cX2_init (by decide +kernel)
theorem dX2_init_1 : decode cX2_init 1 = .ok (.invokespecial 3, 3) := qd_183 kq_cX2_init (by decide +kernel)
theorem dX2_init_4 : decode cX2_init 4 = .ok (.aload_n 0, 1) := qd_42 kq_cX2_init (by decide +kernel)
theorem dX2_init_5 : decode cX2_init 5 = .ok (.sipush 256, 3) := qd_17 kq_cX2_init (by decide +kernel)
theorem dX2_init_8 : decode cX2_init 8 = .ok (.newarray .int, 2) := qd_188_10 kq_cX2_init (by decide +kernel)
theorem dX2_init_10 : decode cX2_init 10 = .ok (.putfield 11, 3) := qd_181 kq_cX2_init (by decide +kernel)
theorem dX2_init_13 : decode cX2_init 13 = .ok (.aload_n 0, 1) := qd_42 kq_cX2_init (by decide +kernel)
theorem dX2_init_14 : decode cX2_init 14 = .ok (.sipush 1024, 3) := qd_17 kq_cX2_init (by decide +kernel)
theorem dX2_init_17 : decode cX2_init 17 = .ok (.newarray .int, 2) := qd_188_10 kq_cX2_init (by decide +kernel)
theorem dX2_init_19 : decode cX2_init 19 = .ok (.putfield 15, 3) := qd_181 kq_cX2_init (by decide +kernel)
theorem dX2_init_22 : decode cX2_init 22 = .ok (.aload_n 0, 1) := qd_42 kq_cX2_init (by decide +kernel)
theorem dX2_init_23 : decode cX2_init 23 = .ok (.sipush 1024, 3) := qd_17 kq_cX2_init (by decide +kernel)
theorem dX2_init_26 : decode cX2_init 26 = .ok (.newarray .int, 2) := qd_188_10 kq_cX2_init (by decide +kernel)
theorem dX2_init_28 : decode cX2_init 28 = .ok (.putfield 18, 3) := qd_181 kq_cX2_init (by decide +kernel)
theorem dX2_init_31 : decode cX2_init 31 = .ok (.aload_n 0, 1) := qd_42 kq_cX2_init (by decide +kernel)
theorem dX2_init_32 : decode cX2_init 32 = .ok (.sipush 1024, 3) := qd_17 kq_cX2_init (by decide +kernel)
theorem dX2_init_35 : decode cX2_init 35 = .ok (.newarray .int, 2) := qd_188_10 kq_cX2_init (by decide +kernel)
theorem dX2_init_37 : decode cX2_init 37 = .ok (.putfield 21, 3) := qd_181 kq_cX2_init (by decide +kernel)
theorem dX2_init_40 : decode cX2_init 40 = .ok (.aload_n 0, 1) := qd_42 kq_cX2_init (by decide +kernel)
theorem dX2_init_41 : decode cX2_init 41 = .ok (.iconst 0, 1) := qd_3 kq_cX2_init (by decide +kernel)
theorem dX2_init_42 : decode cX2_init 42 = .ok (.putfield 24, 3) := qd_181 kq_cX2_init (by decide +kernel)
theorem dX2_init_45 : decode cX2_init 45 = .ok (.return_, 1) := qd_177 kq_cX2_init (by decide +kernel)
def rmX2_init : Room := { frames := 1, cells := 4, slots := 3328, locals := 20 }
abbrev cX7_init : ByteArray := prog_10_method_1_code
def yX7_init : MethodName := ⟨RX7, "<init>", "()V"⟩
def wsX7_init : List Cond := .code yX7_init cX7_init 1 none :: sr_G
def nq_cX7_init : Nat := 0xb12700b5022a2300b5032a1f00b51e00b7591c00bb2a1900b50abc0010112a1600b50abc0010112a1200b50abc0010112a0f00b508bc0010112a0900b508bc0010112a0300b72a
theorem kq_cX7_init : qOk cX7_init nq_cX7_init 71 = true := by decide +kernel
theorem dX7_init_0 : decode cX7_init 0 = .ok (.aload_n 0, 1) := qd_42 kq_cX7_init (by decide +kernel)
theorem dX7_init_1 : decode cX7_init 1 = .ok (.invokespecial 3, 3) := qd_183 kq_cX7_init (by decide +kernel)
theorem dX7_init_4 : decode cX7_init 4 = .ok (.aload_n 0, 1) := qd_42 kq_cX7_init (by decide +kernel)
theorem dX7_init_5 : decode cX7_init 5 = .ok (.sipush 4096, 3) := qd_17 kq_cX7_init (by decide +kernel)
theorem dX7_init_8 : decode cX7_init 8 = .ok (.newarray .byte, 2) := qd_188_8 kq_cX7_init (by decide +kernel)
theorem dX7_init_10 : decode cX7_init 10 = .ok (.putfield 9, 3) := qd_181 kq_cX7_init (by decide +kernel)
theorem dX7_init_13 : decode cX7_init 13 = .ok (.aload_n 0, 1) := qd_42 kq_cX7_init (by decide +kernel)
theorem dX7_init_14 : decode cX7_init 14 = .ok (.sipush 4096, 3) := qd_17 kq_cX7_init (by decide +kernel)
theorem dX7_init_17 : decode cX7_init 17 = .ok (.newarray .byte, 2) := qd_188_8 kq_cX7_init (by decide +kernel)
theorem dX7_init_19 : decode cX7_init 19 = .ok (.putfield 15, 3) := qd_181 kq_cX7_init (by decide +kernel)
theorem dX7_init_22 : decode cX7_init 22 = .ok (.aload_n 0, 1) := qd_42 kq_cX7_init (by decide +kernel)
theorem dX7_init_23 : decode cX7_init 23 = .ok (.sipush 4096, 3) := qd_17 kq_cX7_init (by decide +kernel)
theorem dX7_init_26 : decode cX7_init 26 = .ok (.newarray .int, 2) := qd_188_10 kq_cX7_init (by decide +kernel)
theorem dX7_init_28 : decode cX7_init 28 = .ok (.putfield 18, 3) := qd_181 kq_cX7_init (by decide +kernel)
theorem dX7_init_31 : decode cX7_init 31 = .ok (.aload_n 0, 1) := qd_42 kq_cX7_init (by decide +kernel)
theorem dX7_init_32 : decode cX7_init 32 = .ok (.sipush 4096, 3) := qd_17 kq_cX7_init (by decide +kernel)
theorem dX7_init_35 : decode cX7_init 35 = .ok (.newarray .int, 2) := qd_188_10 kq_cX7_init (by decide +kernel)
theorem dX7_init_37 : decode cX7_init 37 = .ok (.putfield 22, 3) := qd_181 kq_cX7_init (by decide +kernel)
theorem dX7_init_40 : decode cX7_init 40 = .ok (.aload_n 0, 1) := qd_42 kq_cX7_init (by decide +kernel)
theorem dX7_init_41 : decode cX7_init 41 = .ok (.sipush 4096, 3) := qd_17 kq_cX7_init (by decide +kernel)
theorem dX7_init_44 : decode cX7_init 44 = .ok (.newarray .int, 2) := qd_188_10 kq_cX7_init (by decide +kernel)
theorem dX7_init_46 : decode cX7_init 46 = .ok (.putfield 25, 3) := qd_181 kq_cX7_init (by decide +kernel)
theorem dX7_init_49 : decode cX7_init 49 = .ok (.aload_n 0, 1) := qd_42 kq_cX7_init (by decide +kernel)
theorem dX7_init_50 : decode cX7_init 50 = .ok (.new 28, 3) := qd_187 kq_cX7_init (by decide +kernel)
theorem dX7_init_53 : decode cX7_init 53 = .ok (.dup, 1) := qd_89 kq_cX7_init (by decide +kernel)
theorem dX7_init_54 : decode cX7_init 54 = .ok (.invokespecial 30, 3) := qd_183 kq_cX7_init (by decide +kernel)
theorem dX7_init_57 : decode cX7_init 57 = .ok (.putfield 31, 3) := qd_181 kq_cX7_init (by decide +kernel)
theorem dX7_init_60 : decode cX7_init 60 = .ok (.aload_n 0, 1) := qd_42 kq_cX7_init (by decide +kernel)
theorem dX7_init_61 : decode cX7_init 61 = .ok (.iconst 0, 1) := qd_3 kq_cX7_init (by decide +kernel)
theorem dX7_init_62 : decode cX7_init 62 = .ok (.putfield 35, 3) := qd_181 kq_cX7_init (by decide +kernel)
theorem dX7_init_65 : decode cX7_init 65 = .ok (.aload_n 0, 1) := qd_42 kq_cX7_init (by decide +kernel)
theorem dX7_init_66 : decode cX7_init 66 = .ok (.iconst (-1), 1) := qd_2 kq_cX7_init (by decide +kernel)
theorem dX7_init_67 : decode cX7_init 67 = .ok (.putfield 39, 3) := qd_181 kq_cX7_init (by decide +kernel)
theorem dX7_init_70 : decode cX7_init 70 = .ok (.return_, 1) := qd_177 kq_cX7_init (by decide +kernel)
def rmX7_init : Room := { frames := 2, cells := 10, slots := 23813, locals := 40 }
abbrev cX11_init : ByteArray := prog_2_method_1_code
def yX11_init : MethodName := ⟨RX11, "<init>", "()V"⟩
def wsX11_init : List Cond := .code yX11_init cX11_init 1 none :: sr_G
def nq_cX11_init : Nat := 0xb11200b5032a0f00b50abc8000112a0900b50abc8000112a0100b72a
theorem kq_cX11_init : qOk cX11_init nq_cX11_init 28 = true := by decide +kernel
theorem dX11_init_0 : decode cX11_init 0 = .ok (.aload_n 0, 1) := qd_42 kq_cX11_init (by decide +kernel)
theorem dX11_init_1 : decode cX11_init 1 = .ok (.invokespecial 1, 3) := qd_183 kq_cX11_init (by decide +kernel)
theorem dX11_init_4 : decode cX11_init 4 = .ok (.aload_n 0, 1) := qd_42 kq_cX11_init (by decide +kernel)
theorem dX11_init_5 : decode cX11_init 5 = .ok (.sipush 128, 3) := qd_17 kq_cX11_init (by decide +kernel)
theorem dX11_init_8 : decode cX11_init 8 = .ok (.newarray .int, 2) := qd_188_10 kq_cX11_init (by decide +kernel)
theorem dX11_init_10 : decode cX11_init 10 = .ok (.putfield 9, 3) := qd_181 kq_cX11_init (by decide +kernel)
theorem dX11_init_13 : decode cX11_init 13 = .ok (.aload_n 0, 1) := qd_42 kq_cX11_init (by decide +kernel)
theorem dX11_init_14 : decode cX11_init 14 = .ok (.sipush 128, 3) := qd_17 kq_cX11_init (by decide +kernel)
theorem dX11_init_17 : decode cX11_init 17 = .ok (.newarray .int, 2) := qd_188_10 kq_cX11_init (by decide +kernel)
theorem dX11_init_19 : decode cX11_init 19 = .ok (.putfield 15, 3) := qd_181 kq_cX11_init (by decide +kernel)
theorem dX11_init_22 : decode cX11_init 22 = .ok (.aload_n 0, 1) := qd_42 kq_cX11_init (by decide +kernel)
theorem dX11_init_23 : decode cX11_init 23 = .ok (.iconst 0, 1) := qd_3 kq_cX11_init (by decide +kernel)
theorem dX11_init_24 : decode cX11_init 24 = .ok (.putfield 18, 3) := qd_181 kq_cX11_init (by decide +kernel)
theorem dX11_init_27 : decode cX11_init 27 = .ok (.return_, 1) := qd_177 kq_cX11_init (by decide +kernel)
def rmX11_init : Room := { frames := 1, cells := 2, slots := 256, locals := 20 }
abbrev cX6_init : ByteArray := prog_9_method_1_code
def yX6_init : MethodName := ⟨RX6, "<init>", "()V"⟩
def wsX6_init : List Cond := .code yX6_init cX6_init 1 none :: sr_G
def nq_cX6_init : Nat := 0xb13000b5032a2c00b5032a2900b504bc8000112a2500b504bc8000112a2200b50abc8000112a1f00b50abc8000112a1c00b50abc8000112a1900b50abc8000112a1600b50abc8000112a1300b50abc8000112a0f00b50abc8000112a0900b508bc0010112a0300b72a
theorem kq_cX6_init : qOk cX6_init nq_cX6_init 105 = true := by decide +kernel
theorem dX6_init_0 : decode cX6_init 0 = .ok (.aload_n 0, 1) := qd_42 kq_cX6_init (by decide +kernel)
theorem dX6_init_1 : decode cX6_init 1 = .ok (.invokespecial 3, 3) := qd_183 kq_cX6_init (by decide +kernel)
theorem dX6_init_4 : decode cX6_init 4 = .ok (.aload_n 0, 1) := qd_42 kq_cX6_init (by decide +kernel)
theorem dX6_init_5 : decode cX6_init 5 = .ok (.sipush 4096, 3) := qd_17 kq_cX6_init (by decide +kernel)
theorem dX6_init_8 : decode cX6_init 8 = .ok (.newarray .byte, 2) := qd_188_8 kq_cX6_init (by decide +kernel)
theorem dX6_init_10 : decode cX6_init 10 = .ok (.putfield 9, 3) := qd_181 kq_cX6_init (by decide +kernel)
theorem dX6_init_13 : decode cX6_init 13 = .ok (.aload_n 0, 1) := qd_42 kq_cX6_init (by decide +kernel)
theorem dX6_init_14 : decode cX6_init 14 = .ok (.sipush 128, 3) := qd_17 kq_cX6_init (by decide +kernel)
theorem dX6_init_17 : decode cX6_init 17 = .ok (.newarray .int, 2) := qd_188_10 kq_cX6_init (by decide +kernel)
theorem dX6_init_19 : decode cX6_init 19 = .ok (.putfield 15, 3) := qd_181 kq_cX6_init (by decide +kernel)
theorem dX6_init_22 : decode cX6_init 22 = .ok (.aload_n 0, 1) := qd_42 kq_cX6_init (by decide +kernel)
theorem dX6_init_23 : decode cX6_init 23 = .ok (.sipush 128, 3) := qd_17 kq_cX6_init (by decide +kernel)
theorem dX6_init_26 : decode cX6_init 26 = .ok (.newarray .int, 2) := qd_188_10 kq_cX6_init (by decide +kernel)
theorem dX6_init_28 : decode cX6_init 28 = .ok (.putfield 19, 3) := qd_181 kq_cX6_init (by decide +kernel)
theorem dX6_init_31 : decode cX6_init 31 = .ok (.aload_n 0, 1) := qd_42 kq_cX6_init (by decide +kernel)
theorem dX6_init_32 : decode cX6_init 32 = .ok (.sipush 128, 3) := qd_17 kq_cX6_init (by decide +kernel)
theorem dX6_init_35 : decode cX6_init 35 = .ok (.newarray .int, 2) := qd_188_10 kq_cX6_init (by decide +kernel)
theorem dX6_init_37 : decode cX6_init 37 = .ok (.putfield 22, 3) := qd_181 kq_cX6_init (by decide +kernel)
theorem dX6_init_40 : decode cX6_init 40 = .ok (.aload_n 0, 1) := qd_42 kq_cX6_init (by decide +kernel)
theorem dX6_init_41 : decode cX6_init 41 = .ok (.sipush 128, 3) := qd_17 kq_cX6_init (by decide +kernel)
theorem dX6_init_44 : decode cX6_init 44 = .ok (.newarray .int, 2) := qd_188_10 kq_cX6_init (by decide +kernel)
theorem dX6_init_46 : decode cX6_init 46 = .ok (.putfield 25, 3) := qd_181 kq_cX6_init (by decide +kernel)
theorem dX6_init_49 : decode cX6_init 49 = .ok (.aload_n 0, 1) := qd_42 kq_cX6_init (by decide +kernel)
theorem dX6_init_50 : decode cX6_init 50 = .ok (.sipush 128, 3) := qd_17 kq_cX6_init (by decide +kernel)
theorem dX6_init_53 : decode cX6_init 53 = .ok (.newarray .int, 2) := qd_188_10 kq_cX6_init (by decide +kernel)
theorem dX6_init_55 : decode cX6_init 55 = .ok (.putfield 28, 3) := qd_181 kq_cX6_init (by decide +kernel)
theorem dX6_init_58 : decode cX6_init 58 = .ok (.aload_n 0, 1) := qd_42 kq_cX6_init (by decide +kernel)
theorem dX6_init_59 : decode cX6_init 59 = .ok (.sipush 128, 3) := qd_17 kq_cX6_init (by decide +kernel)
theorem dX6_init_62 : decode cX6_init 62 = .ok (.newarray .int, 2) := qd_188_10 kq_cX6_init (by decide +kernel)
theorem dX6_init_64 : decode cX6_init 64 = .ok (.putfield 31, 3) := qd_181 kq_cX6_init (by decide +kernel)
theorem dX6_init_67 : decode cX6_init 67 = .ok (.aload_n 0, 1) := qd_42 kq_cX6_init (by decide +kernel)
theorem dX6_init_68 : decode cX6_init 68 = .ok (.sipush 128, 3) := qd_17 kq_cX6_init (by decide +kernel)
theorem dX6_init_71 : decode cX6_init 71 = .ok (.newarray .int, 2) := qd_188_10 kq_cX6_init (by decide +kernel)
theorem dX6_init_73 : decode cX6_init 73 = .ok (.putfield 34, 3) := qd_181 kq_cX6_init (by decide +kernel)
theorem dX6_init_76 : decode cX6_init 76 = .ok (.aload_n 0, 1) := qd_42 kq_cX6_init (by decide +kernel)
theorem dX6_init_77 : decode cX6_init 77 = .ok (.sipush 128, 3) := qd_17 kq_cX6_init (by decide +kernel)
theorem dX6_init_80 : decode cX6_init 80 = .ok (.newarray .boolean, 2) := qd_188_4 kq_cX6_init (by decide +kernel)
theorem dX6_init_82 : decode cX6_init 82 = .ok (.putfield 37, 3) := qd_181 kq_cX6_init (by decide +kernel)
theorem dX6_init_85 : decode cX6_init 85 = .ok (.aload_n 0, 1) := qd_42 kq_cX6_init (by decide +kernel)
theorem dX6_init_86 : decode cX6_init 86 = .ok (.sipush 128, 3) := qd_17 kq_cX6_init (by decide +kernel)
theorem dX6_init_89 : decode cX6_init 89 = .ok (.newarray .boolean, 2) := qd_188_4 kq_cX6_init (by decide +kernel)
theorem dX6_init_91 : decode cX6_init 91 = .ok (.putfield 41, 3) := qd_181 kq_cX6_init (by decide +kernel)
theorem dX6_init_94 : decode cX6_init 94 = .ok (.aload_n 0, 1) := qd_42 kq_cX6_init (by decide +kernel)
theorem dX6_init_95 : decode cX6_init 95 = .ok (.iconst 0, 1) := qd_3 kq_cX6_init (by decide +kernel)
theorem dX6_init_96 : decode cX6_init 96 = .ok (.putfield 44, 3) := qd_181 kq_cX6_init (by decide +kernel)
theorem dX6_init_99 : decode cX6_init 99 = .ok (.aload_n 0, 1) := qd_42 kq_cX6_init (by decide +kernel)
theorem dX6_init_100 : decode cX6_init 100 = .ok (.iconst 0, 1) := qd_3 kq_cX6_init (by decide +kernel)
theorem dX6_init_101 : decode cX6_init 101 = .ok (.putfield 48, 3) := qd_181 kq_cX6_init (by decide +kernel)
theorem dX6_init_104 : decode cX6_init 104 = .ok (.return_, 1) := qd_177 kq_cX6_init (by decide +kernel)
def rmX6_init : Room := { frames := 1, cells := 10, slots := 5248, locals := 20 }
abbrev cX4_init : ByteArray := prog_7_method_1_code
def yX4_init : MethodName := ⟨RX4, "<init>", "(LSchemaReader$Text;LSchemaReader$Schema;LSchemaReader$Couples;)V"⟩
def wsX4_init : List Cond := .code yX4_init cX4_init 4 none :: sr_G
def nq_cX4_init : Nat := 0xb11a00b52d2a1600b52c2a1200b52b2a0f00b5022a0900b5032a0300b72a
theorem kq_cX4_init : qOk cX4_init nq_cX4_init 30 = true := by decide +kernel
theorem dX4_init_0 : decode cX4_init 0 = .ok (.aload_n 0, 1) := qd_42 kq_cX4_init (by decide +kernel)
theorem dX4_init_1 : decode cX4_init 1 = .ok (.invokespecial 3, 3) := qd_183 kq_cX4_init (by decide +kernel)
theorem dX4_init_4 : decode cX4_init 4 = .ok (.aload_n 0, 1) := qd_42 kq_cX4_init (by decide +kernel)
theorem dX4_init_5 : decode cX4_init 5 = .ok (.iconst 0, 1) := qd_3 kq_cX4_init (by decide +kernel)
theorem dX4_init_6 : decode cX4_init 6 = .ok (.putfield 9, 3) := qd_181 kq_cX4_init (by decide +kernel)
theorem dX4_init_9 : decode cX4_init 9 = .ok (.aload_n 0, 1) := qd_42 kq_cX4_init (by decide +kernel)
theorem dX4_init_10 : decode cX4_init 10 = .ok (.iconst (-1), 1) := qd_2 kq_cX4_init (by decide +kernel)
theorem dX4_init_11 : decode cX4_init 11 = .ok (.putfield 15, 3) := qd_181 kq_cX4_init (by decide +kernel)
theorem dX4_init_14 : decode cX4_init 14 = .ok (.aload_n 0, 1) := qd_42 kq_cX4_init (by decide +kernel)
theorem dX4_init_15 : decode cX4_init 15 = .ok (.aload_n 1, 1) := qd_43 kq_cX4_init (by decide +kernel)
theorem dX4_init_16 : decode cX4_init 16 = .ok (.putfield 18, 3) := qd_181 kq_cX4_init (by decide +kernel)
theorem dX4_init_19 : decode cX4_init 19 = .ok (.aload_n 0, 1) := qd_42 kq_cX4_init (by decide +kernel)
theorem dX4_init_20 : decode cX4_init 20 = .ok (.aload_n 2, 1) := qd_44 kq_cX4_init (by decide +kernel)
theorem dX4_init_21 : decode cX4_init 21 = .ok (.putfield 22, 3) := qd_181 kq_cX4_init (by decide +kernel)
theorem dX4_init_24 : decode cX4_init 24 = .ok (.aload_n 0, 1) := qd_42 kq_cX4_init (by decide +kernel)
theorem dX4_init_25 : decode cX4_init 25 = .ok (.aload_n 3, 1) := qd_45 kq_cX4_init (by decide +kernel)
theorem dX4_init_26 : decode cX4_init 26 = .ok (.putfield 26, 3) := qd_181 kq_cX4_init (by decide +kernel)
theorem dX4_init_29 : decode cX4_init 29 = .ok (.return_, 1) := qd_177 kq_cX4_init (by decide +kernel)
def rmX4_init : Room := { frames := 1, cells := 0, slots := 0, locals := 20 }
abbrev cX0_init : ByteArray := prog_3_method_1_code
def yX0_init : MethodName := ⟨RX0, "<init>", "(LSchemaReader$Text;LSchemaReader$Schema;)V"⟩
def wsX0_init : List Cond := .code yX0_init cX0_init 3 none :: sr_G
def nq_cX0_init : Nat := 0xb10f00b52c2a0900b52b2a0300b72a
theorem kq_cX0_init : qOk cX0_init nq_cX0_init 15 = true := by decide +kernel
theorem dX0_init_0 : decode cX0_init 0 = .ok (.aload_n 0, 1) := qd_42 kq_cX0_init (by decide +kernel)
theorem dX0_init_1 : decode cX0_init 1 = .ok (.invokespecial 3, 3) := qd_183 kq_cX0_init (by decide +kernel)
theorem dX0_init_4 : decode cX0_init 4 = .ok (.aload_n 0, 1) := qd_42 kq_cX0_init (by decide +kernel)
theorem dX0_init_5 : decode cX0_init 5 = .ok (.aload_n 1, 1) := qd_43 kq_cX0_init (by decide +kernel)
theorem dX0_init_6 : decode cX0_init 6 = .ok (.putfield 9, 3) := qd_181 kq_cX0_init (by decide +kernel)
theorem dX0_init_9 : decode cX0_init 9 = .ok (.aload_n 0, 1) := qd_42 kq_cX0_init (by decide +kernel)
theorem dX0_init_10 : decode cX0_init 10 = .ok (.aload_n 2, 1) := qd_44 kq_cX0_init (by decide +kernel)
theorem dX0_init_11 : decode cX0_init 11 = .ok (.putfield 15, 3) := qd_181 kq_cX0_init (by decide +kernel)
theorem dX0_init_14 : decode cX0_init 14 = .ok (.return_, 1) := qd_177 kq_cX0_init (by decide +kernel)
def rmX0_init : Room := { frames := 1, cells := 0, slots := 0, locals := 20 }
abbrev cX5_init : ByteArray := prog_8_method_1_code
def yX5_init : MethodName := ⟨RX5, "<init>", "(LSchemaReader$Schema;LSchemaReader$Schema;LSchemaReader$Couples;)V"⟩
def wsX5_init : List Cond := .code yX5_init cX5_init 4 none :: sr_G
def nq_cX5_init : Nat := 0xb11400b52d2a1100b52c2a0b00b52b2a0500b72a
theorem kq_cX5_init : qOk cX5_init nq_cX5_init 20 = true := by decide +kernel
theorem dX5_init_0 : decode cX5_init 0 = .ok (.aload_n 0, 1) := qd_42 kq_cX5_init (by decide +kernel)
theorem dX5_init_1 : decode cX5_init 1 = .ok (.invokespecial 5, 3) := qd_183 kq_cX5_init (by decide +kernel)
theorem dX5_init_4 : decode cX5_init 4 = .ok (.aload_n 0, 1) := qd_42 kq_cX5_init (by decide +kernel)
theorem dX5_init_5 : decode cX5_init 5 = .ok (.aload_n 1, 1) := qd_43 kq_cX5_init (by decide +kernel)
theorem dX5_init_6 : decode cX5_init 6 = .ok (.putfield 11, 3) := qd_181 kq_cX5_init (by decide +kernel)
theorem dX5_init_9 : decode cX5_init 9 = .ok (.aload_n 0, 1) := qd_42 kq_cX5_init (by decide +kernel)
theorem dX5_init_10 : decode cX5_init 10 = .ok (.aload_n 2, 1) := qd_44 kq_cX5_init (by decide +kernel)
theorem dX5_init_11 : decode cX5_init 11 = .ok (.putfield 17, 3) := qd_181 kq_cX5_init (by decide +kernel)
theorem dX5_init_14 : decode cX5_init 14 = .ok (.aload_n 0, 1) := qd_42 kq_cX5_init (by decide +kernel)
theorem dX5_init_15 : decode cX5_init 15 = .ok (.aload_n 3, 1) := qd_45 kq_cX5_init (by decide +kernel)
theorem dX5_init_16 : decode cX5_init 16 = .ok (.putfield 20, 3) := qd_181 kq_cX5_init (by decide +kernel)
theorem dX5_init_19 : decode cX5_init 19 = .ok (.return_, 1) := qd_177 kq_cX5_init (by decide +kernel)
def rmX5_init : Room := { frames := 1, cells := 0, slots := 0, locals := 20 }
theorem gI7_30 : (∀ w ∈ ([.instanceMethod yX2_init, .initialized yX2_init.cls, .code yX2_init cX2_init 1 none] : List Cond), w ∈ sr_G) ∧ (.methodLinkNest RX7 30 yX2_init "SchemaReader" : Cond) ∈ sr_N := ⟨sr_ins (by decide +kernel), List.mem_filter.mpr ⟨in_tables_1_1 _ (List.mem_of_getElem? (i := 41) rfl), rfl⟩⟩
theorem oi2_3 : ∀ w ∈ ([.methodLink RX2 3 Lib.objectInit, .instanceMethod Lib.objectInit, .code Lib.objectInit ⟨#[0xb1]⟩ 1 none] : List Cond), w ∈ sr_G := sr_ins (by decide +kernel)
theorem arI : ∀ w ∈ ([.arrayClass .int] : List Cond), w ∈ sr_G := sr_ins (by decide +kernel)
theorem oi7_3 : ∀ w ∈ ([.methodLink RX7 3 Lib.objectInit, .instanceMethod Lib.objectInit, .code Lib.objectInit ⟨#[0xb1]⟩ 1 none] : List Cond), w ∈ sr_G := sr_ins (by decide +kernel)
theorem arB : ∀ w ∈ ([.arrayClass .byte] : List Cond), w ∈ sr_G := sr_ins (by decide +kernel)
theorem nw7_28 : ∀ w ∈ ([.classLink RX7 28 RX2, .instantiable RX2 5, .initialized RX2] : List Cond), w ∈ sr_G := sr_ins (by decide +kernel)
theorem oi11_1 : ∀ w ∈ ([.methodLink RX11 1 Lib.objectInit, .instanceMethod Lib.objectInit, .code Lib.objectInit ⟨#[0xb1]⟩ 1 none] : List Cond), w ∈ sr_G := sr_ins (by decide +kernel)
theorem oi6_3 : ∀ w ∈ ([.methodLink RX6 3 Lib.objectInit, .instanceMethod Lib.objectInit, .code Lib.objectInit ⟨#[0xb1]⟩ 1 none] : List Cond), w ∈ sr_G := sr_ins (by decide +kernel)
theorem arZ : ∀ w ∈ ([.arrayClass .boolean] : List Cond), w ∈ sr_G := sr_ins (by decide +kernel)
theorem oi4_3 : ∀ w ∈ ([.methodLink RX4 3 Lib.objectInit, .instanceMethod Lib.objectInit, .code Lib.objectInit ⟨#[0xb1]⟩ 1 none] : List Cond), w ∈ sr_G := sr_ins (by decide +kernel)
theorem oi0_3 : ∀ w ∈ ([.methodLink RX0 3 Lib.objectInit, .instanceMethod Lib.objectInit, .code Lib.objectInit ⟨#[0xb1]⟩ 1 none] : List Cond), w ∈ sr_G := sr_ins (by decide +kernel)
theorem oi5_5 : ∀ w ∈ ([.methodLink RX5 5 Lib.objectInit, .instanceMethod Lib.objectInit, .code Lib.objectInit ⟨#[0xb1]⟩ 1 none] : List Cond), w ∈ sr_G := sr_ins (by decide +kernel)
end
section
set_option maxHeartbeats 4000000 in
set_option maxRecDepth 100000 in
theorem kX2_init (l : Launch) (htr : l.stackTraces = false) (dC : Nat → ClassId) (dI : Nat → Nat → Nat) (adK adV : Nat → Nat) (cI cB cJ cZ cQ : ClassId) (ob : Nat) (sz : Nat) : Met l yX2_init wsX2_init rmX2_init (pcW (sr_Z adK adV) (dC, dI) srCl [(cI, .int), (cB, .byte), (cJ, .long), (cZ, .boolean), (cQ, .object "SchemaReader$Schema")] [.ref ob] [(ob, .inr (5, [.null, .null, .null, .null, .int 0]))] sz) (va_Qv (fun _ => True) (pcB (dC, dI) srCl [(cI, .int), (cB, .byte), (cJ, .long), (cZ, .boolean), (cQ, .object "SchemaReader$Schema")] (fun u : Nat × Nat × Nat × Nat => [(ob, .inr (5, [.ref u.1, .ref u.2.1, .ref u.2.2.1, .ref u.2.2.2, .int 0])), (u.1, .inl (cI, 256, .inl (fun _ => 0))), (u.2.1, .inl (cI, 1024, .inl (fun _ => 0))), (u.2.2.1, .inl (cI, 1024, .inl (fun _ => 0))), (u.2.2.2, .inl (cI, 1024, .inl (fun _ => 0)))]) (va_A [(ob, .inr (5, [.null, .null, .null, .null, .int 0]))] sz)) (va_A [(ob, .inr (5, [.null, .null, .null, .null, .int 0]))] sz)) 4 3328 (va_A [(ob, .inr (5, [.null, .null, .null, .null, .int 0]))] sz) := by
  refine Met.ofW (cc := cX2_init) (maxL := 1) (ret := none) (by decide) rfl ?_
  intro p e s m args below meth c s₁ B hml hv
  obtain ⟨rfl, hsz, hP, hK, hD0, hz0⟩ := hv
  have hx := B.exec
  have hb := B.bytes
  have hr := B.returns
  have hts := atoms_spec (ws := wsX2_init) B.pre
  have hown : s.vm.findClass RX2 = some m.cls := findClass_of_methodNamed B.named
  have hnm : meth.name = "<init>" := (name_of_methodNamed B.named B.method).1
  subst hsz
  have hD := hD0.self (sz := s.heap.size)
  generalize hAe : va_A [(ob, .inr (5, [.null, .null, .null, .null, .int 0]))] s.heap.size = A at hD hz0 ⊢
  have hA : ∀ q : Nat, s.heap.size ≤ q → A q := fun q h => by rw [← hAe]; exact Or.inr h
  have hS : va_S A s.heap s.heap [] := va_S.rf
  generalize hQ0 : MQ below (va_Qv (fun _ => True) (pcB (dC, dI) srCl [(cI, .int), (cB, .byte), (cJ, .long), (cZ, .boolean), (cQ, .object "SchemaReader$Schema")] (fun u : Nat × Nat × Nat × Nat => [(ob, .inr (5, [.ref u.1, .ref u.2.1, .ref u.2.2.1, .ref u.2.2.2, .int 0])), (u.1, .inl (cI, 256, .inl (fun _ => 0))), (u.2.1, .inl (cI, 1024, .inl (fun _ => 0))), (u.2.2.1, .inl (cI, 1024, .inl (fun _ => 0))), (u.2.2.2, .inl (cI, 1024, .inl (fun _ => 0)))]) A) A) [.ref ob].toArray s 4 3328 A = Q0
  have hl := lv_entry [.ref ob] (n := 1) (Nat.le_of_ble_eq_true rfl)
  rw [lg_entry_eq]
  generalize (lg_sl [.ref ob] ++ List.replicate (1 - (lg_sl [.ref ob]).length) Slot.unset).toArray = ls at hl ⊢
  have hl : lv_has ls 1 [(0, .ref ob)] := hl
  refine lv_aload_n hx hb dX2_init_0 rfl (lv_at hl 0 rfl) ?_
  refine W.objInit hx hb hown (hts _ (List.mem_cons_of_mem _ (oi2_3 _ (List.mem_of_getElem? (i := 0) rfl)))) (hts _ (List.mem_cons_of_mem _ (oi2_3 _ (List.mem_of_getElem? (i := 1) rfl)))) (hts _ (List.mem_cons_of_mem _ (oi2_3 _ (List.mem_of_getElem? (i := 2) rfl)))) rfl (by rw [hml]; exact hl.1) rfl dX2_init_1 (Nat.le_of_ble_eq_true rfl) (Nat.le_of_ble_eq_true rfl) ?_
  refine lv_aload_n hx hb dX2_init_4 rfl (lv_at hl 0 rfl) ?_
  refine lv_sipush (v := 256) hx hb dX2_init_5 (by decide) ?_
  refine mr_newa (ty := .int) (N' := 256) (a0 := (256, .inl (fun _ => 0))) hx hb (hts _ (List.mem_cons_of_mem _ (arI _ List.mem_cons_self))) rfl (fun C h => by cases h) hK hP hD hS hA (fun _ => rfl) (by decide) (by decide) (by decide) (Nat.le_of_ble_eq_true rfl) (Nat.le_of_ble_eq_true rfl) dX2_init_8 0 rfl (fun q8 H hP hD hS => ?_)
  have hP : va_P (dC, dI) srCl [(ob, .inr (5, [.null, .null, .null, .null, .int 0])), (q8, .inl (cI, 256, .inl (fun _ => 0)))] H := hP
  have hD : va_D A [(ob, .inr (5, [.null, .null, .null, .null, .int 0])), (q8, .inl (cI, 256, .inl (fun _ => 0)))] := hD
  refine va_putF (D := (dC, dI)) (ci := 5) (v := .ref q8) (ty := .array .int) (C := RX2) (T := TX2) (N := 5) hx hb hts (inX2 _) tyX2 tyX2_ok nmX2 hown hK hP hD hS 0 rfl rfl 0 (by decide) (hts _ (List.mem_cons_of_mem _ wf2_11)) (fun _ h9 => h9) rfl hnm rfl (by decide +kernel) rfl rfl (Nat.le_of_ble_eq_true rfl) dX2_init_10 (fun H locs hP hD hS => ?_)
  have hP : va_P (dC, dI) srCl [(ob, .inr (5, [.ref q8, .null, .null, .null, .int 0])), (q8, .inl (cI, 256, .inl (fun _ => 0)))] H := hP
  have hD : va_D A [(ob, .inr (5, [.ref q8, .null, .null, .null, .int 0])), (q8, .inl (cI, 256, .inl (fun _ => 0)))] := hD
  refine lv_aload_n hx hb dX2_init_13 rfl (lv_at hl 0 rfl) ?_
  refine lv_sipush (v := 1024) hx hb dX2_init_14 (by decide) ?_
  refine mr_newa (ty := .int) (N' := 1024) (a0 := (1024, .inl (fun _ => 0))) hx hb (hts _ (List.mem_cons_of_mem _ (arI _ List.mem_cons_self))) rfl (fun C h => by cases h) hK hP hD hS hA (fun _ => rfl) (by decide) (by decide) (by decide) (Nat.le_of_ble_eq_true rfl) (Nat.le_of_ble_eq_true rfl) dX2_init_17 0 rfl (fun q17 H hP hD hS => ?_)
  have hP : va_P (dC, dI) srCl [(ob, .inr (5, [.ref q8, .null, .null, .null, .int 0])), (q8, .inl (cI, 256, .inl (fun _ => 0))), (q17, .inl (cI, 1024, .inl (fun _ => 0)))] H := hP
  have hD : va_D A [(ob, .inr (5, [.ref q8, .null, .null, .null, .int 0])), (q8, .inl (cI, 256, .inl (fun _ => 0))), (q17, .inl (cI, 1024, .inl (fun _ => 0)))] := hD
  refine va_putF (D := (dC, dI)) (ci := 5) (v := .ref q17) (ty := .array .int) (C := RX2) (T := TX2) (N := 5) hx hb hts (inX2 _) tyX2 tyX2_ok nmX2 hown hK hP hD hS 0 rfl rfl 1 (by decide) (hts _ (List.mem_cons_of_mem _ wf2_15)) (fun _ h9 => h9) rfl hnm rfl (by decide +kernel) rfl rfl (Nat.le_of_ble_eq_true rfl) dX2_init_19 (fun H locs hP hD hS => ?_)
  have hP : va_P (dC, dI) srCl [(ob, .inr (5, [.ref q8, .ref q17, .null, .null, .int 0])), (q8, .inl (cI, 256, .inl (fun _ => 0))), (q17, .inl (cI, 1024, .inl (fun _ => 0)))] H := hP
  have hD : va_D A [(ob, .inr (5, [.ref q8, .ref q17, .null, .null, .int 0])), (q8, .inl (cI, 256, .inl (fun _ => 0))), (q17, .inl (cI, 1024, .inl (fun _ => 0)))] := hD
  refine lv_aload_n hx hb dX2_init_22 rfl (lv_at hl 0 rfl) ?_
  refine lv_sipush (v := 1024) hx hb dX2_init_23 (by decide) ?_
  refine mr_newa (ty := .int) (N' := 1024) (a0 := (1024, .inl (fun _ => 0))) hx hb (hts _ (List.mem_cons_of_mem _ (arI _ List.mem_cons_self))) rfl (fun C h => by cases h) hK hP hD hS hA (fun _ => rfl) (by decide) (by decide) (by decide) (Nat.le_of_ble_eq_true rfl) (Nat.le_of_ble_eq_true rfl) dX2_init_26 0 rfl (fun q26 H hP hD hS => ?_)
  have hP : va_P (dC, dI) srCl [(ob, .inr (5, [.ref q8, .ref q17, .null, .null, .int 0])), (q8, .inl (cI, 256, .inl (fun _ => 0))), (q17, .inl (cI, 1024, .inl (fun _ => 0))), (q26, .inl (cI, 1024, .inl (fun _ => 0)))] H := hP
  have hD : va_D A [(ob, .inr (5, [.ref q8, .ref q17, .null, .null, .int 0])), (q8, .inl (cI, 256, .inl (fun _ => 0))), (q17, .inl (cI, 1024, .inl (fun _ => 0))), (q26, .inl (cI, 1024, .inl (fun _ => 0)))] := hD
  refine va_putF (D := (dC, dI)) (ci := 5) (v := .ref q26) (ty := .array .int) (C := RX2) (T := TX2) (N := 5) hx hb hts (inX2 _) tyX2 tyX2_ok nmX2 hown hK hP hD hS 0 rfl rfl 2 (by decide) (hts _ (List.mem_cons_of_mem _ wf2_18)) (fun _ h9 => h9) rfl hnm rfl (by decide +kernel) rfl rfl (Nat.le_of_ble_eq_true rfl) dX2_init_28 (fun H locs hP hD hS => ?_)
  have hP : va_P (dC, dI) srCl [(ob, .inr (5, [.ref q8, .ref q17, .ref q26, .null, .int 0])), (q8, .inl (cI, 256, .inl (fun _ => 0))), (q17, .inl (cI, 1024, .inl (fun _ => 0))), (q26, .inl (cI, 1024, .inl (fun _ => 0)))] H := hP
  have hD : va_D A [(ob, .inr (5, [.ref q8, .ref q17, .ref q26, .null, .int 0])), (q8, .inl (cI, 256, .inl (fun _ => 0))), (q17, .inl (cI, 1024, .inl (fun _ => 0))), (q26, .inl (cI, 1024, .inl (fun _ => 0)))] := hD
  refine lv_aload_n hx hb dX2_init_31 rfl (lv_at hl 0 rfl) ?_
  refine lv_sipush (v := 1024) hx hb dX2_init_32 (by decide) ?_
  refine mr_newa (ty := .int) (N' := 1024) (a0 := (1024, .inl (fun _ => 0))) hx hb (hts _ (List.mem_cons_of_mem _ (arI _ List.mem_cons_self))) rfl (fun C h => by cases h) hK hP hD hS hA (fun _ => rfl) (by decide) (by decide) (by decide) (Nat.le_of_ble_eq_true rfl) (Nat.le_of_ble_eq_true rfl) dX2_init_35 0 rfl (fun q35 H hP hD hS => ?_)
  have hP : va_P (dC, dI) srCl [(ob, .inr (5, [.ref q8, .ref q17, .ref q26, .null, .int 0])), (q8, .inl (cI, 256, .inl (fun _ => 0))), (q17, .inl (cI, 1024, .inl (fun _ => 0))), (q26, .inl (cI, 1024, .inl (fun _ => 0))), (q35, .inl (cI, 1024, .inl (fun _ => 0)))] H := hP
  have hD : va_D A [(ob, .inr (5, [.ref q8, .ref q17, .ref q26, .null, .int 0])), (q8, .inl (cI, 256, .inl (fun _ => 0))), (q17, .inl (cI, 1024, .inl (fun _ => 0))), (q26, .inl (cI, 1024, .inl (fun _ => 0))), (q35, .inl (cI, 1024, .inl (fun _ => 0)))] := hD
  refine va_putF (D := (dC, dI)) (ci := 5) (v := .ref q35) (ty := .array .int) (C := RX2) (T := TX2) (N := 5) hx hb hts (inX2 _) tyX2 tyX2_ok nmX2 hown hK hP hD hS 0 rfl rfl 3 (by decide) (hts _ (List.mem_cons_of_mem _ wf2_21)) (fun _ h9 => h9) rfl hnm rfl (by decide +kernel) rfl rfl (Nat.le_of_ble_eq_true rfl) dX2_init_37 (fun H locs hP hD hS => ?_)
  have hP : va_P (dC, dI) srCl [(ob, .inr (5, [.ref q8, .ref q17, .ref q26, .ref q35, .int 0])), (q8, .inl (cI, 256, .inl (fun _ => 0))), (q17, .inl (cI, 1024, .inl (fun _ => 0))), (q26, .inl (cI, 1024, .inl (fun _ => 0))), (q35, .inl (cI, 1024, .inl (fun _ => 0)))] H := hP
  have hD : va_D A [(ob, .inr (5, [.ref q8, .ref q17, .ref q26, .ref q35, .int 0])), (q8, .inl (cI, 256, .inl (fun _ => 0))), (q17, .inl (cI, 1024, .inl (fun _ => 0))), (q26, .inl (cI, 1024, .inl (fun _ => 0))), (q35, .inl (cI, 1024, .inl (fun _ => 0)))] := hD
  refine lv_aload_n hx hb dX2_init_40 rfl (lv_at hl 0 rfl) ?_
  refine lv_iconst (v := 0) hx hb dX2_init_41 (by decide) ?_
  refine va_put (D := (dC, dI)) (ci := 5) (v := .int 0) (ty := .int) (C := RX2) (T := TX2) (N := 5) hx hb hts (inX2 _) tyX2 tyX2_ok nmX2 hown hK hP hD hS 0 rfl rfl 4 (by decide) (hts _ (List.mem_cons_of_mem _ wf2_24)) (fun _ h9 => h9) rfl (by decide +kernel) rfl rfl (Nat.le_of_ble_eq_true rfl) dX2_init_42 (fun H locs hP hD hS => ?_)
  have hP : va_P (dC, dI) srCl [(ob, .inr (5, [.ref q8, .ref q17, .ref q26, .ref q35, .int 0])), (q8, .inl (cI, 256, .inl (fun _ => 0))), (q17, .inl (cI, 1024, .inl (fun _ => 0))), (q26, .inl (cI, 1024, .inl (fun _ => 0))), (q35, .inl (cI, 1024, .inl (fun _ => 0)))] H := hP
  have hD : va_D A [(ob, .inr (5, [.ref q8, .ref q17, .ref q26, .ref q35, .int 0])), (q8, .inl (cI, 256, .inl (fun _ => 0))), (q17, .inl (cI, 1024, .inl (fun _ => 0))), (q26, .inl (cI, 1024, .inl (fun _ => 0))), (q35, .inl (cI, 1024, .inl (fun _ => 0)))] := hD
  refine W.widen (k := 4) (n := 3328) (Nat.le_of_ble_eq_true rfl) (Nat.le_of_ble_eq_true rfl) ?_
  subst hQ0
  exact W.vret hx hb hr (fun t ht hW => ⟨⟨(q8, q17, q26, q35), rfl, trivial, by rw [ht]; exact hP, va_K.moved hW.alike hK, hD⟩, hS.F ht⟩) hS.2.2 dX2_init_45
set_option maxHeartbeats 4000000 in
set_option maxRecDepth 100000 in
theorem kX7_init (l : Launch) (htr : l.stackTraces = false) (dC : Nat → ClassId) (dI : Nat → Nat → Nat) (adK adV : Nat → Nat) (cI cB cJ cZ cQ : ClassId) (ob : Nat) (sz : Nat) : Met l yX7_init wsX7_init rmX7_init (pcW (sr_Z adK adV) (dC, dI) srCl [(cI, .int), (cB, .byte), (cJ, .long), (cZ, .boolean), (cQ, .object "SchemaReader$Schema")] [.ref ob] [(ob, .inr (9, [.null, .null, .null, .null, .null, .null, .int 0, .int 0]))] sz) (va_Qv (fun _ => True) (pcB (dC, dI) srCl [(cI, .int), (cB, .byte), (cJ, .long), (cZ, .boolean), (cQ, .object "SchemaReader$Schema")] (fun u : Nat × Nat × Nat × Nat × Nat × Nat × Nat × Nat × Nat × Nat => [(ob, .inr (9, [.ref u.1, .ref u.2.1, .ref u.2.2.1, .ref u.2.2.2.1, .ref u.2.2.2.2.1, .ref u.2.2.2.2.2.1, .int 0, .int (-1)])), (u.1, .inl (cB, 4096, .inl (fun _ => 0))), (u.2.1, .inl (cB, 4096, .inl (fun _ => 0))), (u.2.2.1, .inl (cI, 4096, .inl (fun _ => 0))), (u.2.2.2.1, .inl (cI, 4096, .inl (fun _ => 0))), (u.2.2.2.2.1, .inl (cI, 4096, .inl (fun _ => 0))), (u.2.2.2.2.2.1, .inr (5, [.ref u.2.2.2.2.2.2.1, .ref u.2.2.2.2.2.2.2.1, .ref u.2.2.2.2.2.2.2.2.1, .ref u.2.2.2.2.2.2.2.2.2, .int 0])), (u.2.2.2.2.2.2.1, .inl (cI, 256, .inl (fun _ => 0))), (u.2.2.2.2.2.2.2.1, .inl (cI, 1024, .inl (fun _ => 0))), (u.2.2.2.2.2.2.2.2.1, .inl (cI, 1024, .inl (fun _ => 0))), (u.2.2.2.2.2.2.2.2.2, .inl (cI, 1024, .inl (fun _ => 0)))]) (va_A [(ob, .inr (9, [.null, .null, .null, .null, .null, .null, .int 0, .int 0]))] sz)) (va_A [(ob, .inr (9, [.null, .null, .null, .null, .null, .null, .int 0, .int 0]))] sz)) 10 23813 (va_A [(ob, .inr (9, [.null, .null, .null, .null, .null, .null, .int 0, .int 0]))] sz) := by
  refine Met.ofW (cc := cX7_init) (maxL := 1) (ret := none) (by decide) rfl ?_
  intro p e s m args below meth c s₁ B hml hv
  obtain ⟨rfl, hsz, hP, hK, hD0, hz0⟩ := hv
  have hx := B.exec
  have hb := B.bytes
  have hr := B.returns
  have hts := atoms_spec (ws := wsX7_init) B.pre
  have hown : s.vm.findClass RX7 = some m.cls := findClass_of_methodNamed B.named
  have hnm : meth.name = "<init>" := (name_of_methodNamed B.named B.method).1
  subst hsz
  have hD := hD0.self (sz := s.heap.size)
  generalize hAe : va_A [(ob, .inr (9, [.null, .null, .null, .null, .null, .null, .int 0, .int 0]))] s.heap.size = A at hD hz0 ⊢
  have hA : ∀ q : Nat, s.heap.size ≤ q → A q := fun q h => by rw [← hAe]; exact Or.inr h
  have hS : va_S A s.heap s.heap [] := va_S.rf
  generalize hQ0 : MQ below (va_Qv (fun _ => True) (pcB (dC, dI) srCl [(cI, .int), (cB, .byte), (cJ, .long), (cZ, .boolean), (cQ, .object "SchemaReader$Schema")] (fun u : Nat × Nat × Nat × Nat × Nat × Nat × Nat × Nat × Nat × Nat => [(ob, .inr (9, [.ref u.1, .ref u.2.1, .ref u.2.2.1, .ref u.2.2.2.1, .ref u.2.2.2.2.1, .ref u.2.2.2.2.2.1, .int 0, .int (-1)])), (u.1, .inl (cB, 4096, .inl (fun _ => 0))), (u.2.1, .inl (cB, 4096, .inl (fun _ => 0))), (u.2.2.1, .inl (cI, 4096, .inl (fun _ => 0))), (u.2.2.2.1, .inl (cI, 4096, .inl (fun _ => 0))), (u.2.2.2.2.1, .inl (cI, 4096, .inl (fun _ => 0))), (u.2.2.2.2.2.1, .inr (5, [.ref u.2.2.2.2.2.2.1, .ref u.2.2.2.2.2.2.2.1, .ref u.2.2.2.2.2.2.2.2.1, .ref u.2.2.2.2.2.2.2.2.2, .int 0])), (u.2.2.2.2.2.2.1, .inl (cI, 256, .inl (fun _ => 0))), (u.2.2.2.2.2.2.2.1, .inl (cI, 1024, .inl (fun _ => 0))), (u.2.2.2.2.2.2.2.2.1, .inl (cI, 1024, .inl (fun _ => 0))), (u.2.2.2.2.2.2.2.2.2, .inl (cI, 1024, .inl (fun _ => 0)))]) A) A) [.ref ob].toArray s 10 23813 A = Q0
  have hl := lv_entry [.ref ob] (n := 1) (Nat.le_of_ble_eq_true rfl)
  rw [lg_entry_eq]
  generalize (lg_sl [.ref ob] ++ List.replicate (1 - (lg_sl [.ref ob]).length) Slot.unset).toArray = ls at hl ⊢
  have hl : lv_has ls 1 [(0, .ref ob)] := hl
  refine lv_aload_n hx hb dX7_init_0 rfl (lv_at hl 0 rfl) ?_
  refine W.objInit hx hb hown (hts _ (List.mem_cons_of_mem _ (oi7_3 _ (List.mem_of_getElem? (i := 0) rfl)))) (hts _ (List.mem_cons_of_mem _ (oi7_3 _ (List.mem_of_getElem? (i := 1) rfl)))) (hts _ (List.mem_cons_of_mem _ (oi7_3 _ (List.mem_of_getElem? (i := 2) rfl)))) rfl (by rw [hml]; exact hl.1) rfl dX7_init_1 (Nat.le_of_ble_eq_true rfl) (Nat.le_of_ble_eq_true rfl) ?_
  refine lv_aload_n hx hb dX7_init_4 rfl (lv_at hl 0 rfl) ?_
  refine lv_sipush (v := 4096) hx hb dX7_init_5 (by decide) ?_
  refine mr_newa (ty := .byte) (N' := 4096) (a0 := (4096, .inl (fun _ => 0))) hx hb (hts _ (List.mem_cons_of_mem _ (arB _ List.mem_cons_self))) rfl (fun C h => by cases h) hK hP hD hS hA (fun _ => rfl) (by decide) (by decide) (by decide) (Nat.le_of_ble_eq_true rfl) (Nat.le_of_ble_eq_true rfl) dX7_init_8 1 rfl (fun q8 H hP hD hS => ?_)
  have hP : va_P (dC, dI) srCl [(ob, .inr (9, [.null, .null, .null, .null, .null, .null, .int 0, .int 0])), (q8, .inl (cB, 4096, .inl (fun _ => 0)))] H := hP
  have hD : va_D A [(ob, .inr (9, [.null, .null, .null, .null, .null, .null, .int 0, .int 0])), (q8, .inl (cB, 4096, .inl (fun _ => 0)))] := hD
  refine va_putF (D := (dC, dI)) (ci := 9) (v := .ref q8) (ty := .array .byte) (C := RX7) (T := TX7) (N := 8) hx hb hts (inX7 _) tyX7 tyX7_ok nmX7 hown hK hP hD hS 0 rfl rfl 0 (by decide) (hts _ (List.mem_cons_of_mem _ wf7_9)) (fun _ h9 => h9) rfl hnm rfl (by decide +kernel) rfl rfl (Nat.le_of_ble_eq_true rfl) dX7_init_10 (fun H locs hP hD hS => ?_)
  have hP : va_P (dC, dI) srCl [(ob, .inr (9, [.ref q8, .null, .null, .null, .null, .null, .int 0, .int 0])), (q8, .inl (cB, 4096, .inl (fun _ => 0)))] H := hP
  have hD : va_D A [(ob, .inr (9, [.ref q8, .null, .null, .null, .null, .null, .int 0, .int 0])), (q8, .inl (cB, 4096, .inl (fun _ => 0)))] := hD
  refine lv_aload_n hx hb dX7_init_13 rfl (lv_at hl 0 rfl) ?_
  refine lv_sipush (v := 4096) hx hb dX7_init_14 (by decide) ?_
  refine mr_newa (ty := .byte) (N' := 4096) (a0 := (4096, .inl (fun _ => 0))) hx hb (hts _ (List.mem_cons_of_mem _ (arB _ List.mem_cons_self))) rfl (fun C h => by cases h) hK hP hD hS hA (fun _ => rfl) (by decide) (by decide) (by decide) (Nat.le_of_ble_eq_true rfl) (Nat.le_of_ble_eq_true rfl) dX7_init_17 1 rfl (fun q17 H hP hD hS => ?_)
  have hP : va_P (dC, dI) srCl [(ob, .inr (9, [.ref q8, .null, .null, .null, .null, .null, .int 0, .int 0])), (q8, .inl (cB, 4096, .inl (fun _ => 0))), (q17, .inl (cB, 4096, .inl (fun _ => 0)))] H := hP
  have hD : va_D A [(ob, .inr (9, [.ref q8, .null, .null, .null, .null, .null, .int 0, .int 0])), (q8, .inl (cB, 4096, .inl (fun _ => 0))), (q17, .inl (cB, 4096, .inl (fun _ => 0)))] := hD
  refine va_putF (D := (dC, dI)) (ci := 9) (v := .ref q17) (ty := .array .byte) (C := RX7) (T := TX7) (N := 8) hx hb hts (inX7 _) tyX7 tyX7_ok nmX7 hown hK hP hD hS 0 rfl rfl 1 (by decide) (hts _ (List.mem_cons_of_mem _ wf7_15)) (fun _ h9 => h9) rfl hnm rfl (by decide +kernel) rfl rfl (Nat.le_of_ble_eq_true rfl) dX7_init_19 (fun H locs hP hD hS => ?_)
  have hP : va_P (dC, dI) srCl [(ob, .inr (9, [.ref q8, .ref q17, .null, .null, .null, .null, .int 0, .int 0])), (q8, .inl (cB, 4096, .inl (fun _ => 0))), (q17, .inl (cB, 4096, .inl (fun _ => 0)))] H := hP
  have hD : va_D A [(ob, .inr (9, [.ref q8, .ref q17, .null, .null, .null, .null, .int 0, .int 0])), (q8, .inl (cB, 4096, .inl (fun _ => 0))), (q17, .inl (cB, 4096, .inl (fun _ => 0)))] := hD
  refine lv_aload_n hx hb dX7_init_22 rfl (lv_at hl 0 rfl) ?_
  refine lv_sipush (v := 4096) hx hb dX7_init_23 (by decide) ?_
  refine mr_newa (ty := .int) (N' := 4096) (a0 := (4096, .inl (fun _ => 0))) hx hb (hts _ (List.mem_cons_of_mem _ (arI _ List.mem_cons_self))) rfl (fun C h => by cases h) hK hP hD hS hA (fun _ => rfl) (by decide) (by decide) (by decide) (Nat.le_of_ble_eq_true rfl) (Nat.le_of_ble_eq_true rfl) dX7_init_26 0 rfl (fun q26 H hP hD hS => ?_)
  have hP : va_P (dC, dI) srCl [(ob, .inr (9, [.ref q8, .ref q17, .null, .null, .null, .null, .int 0, .int 0])), (q8, .inl (cB, 4096, .inl (fun _ => 0))), (q17, .inl (cB, 4096, .inl (fun _ => 0))), (q26, .inl (cI, 4096, .inl (fun _ => 0)))] H := hP
  have hD : va_D A [(ob, .inr (9, [.ref q8, .ref q17, .null, .null, .null, .null, .int 0, .int 0])), (q8, .inl (cB, 4096, .inl (fun _ => 0))), (q17, .inl (cB, 4096, .inl (fun _ => 0))), (q26, .inl (cI, 4096, .inl (fun _ => 0)))] := hD
  refine va_putF (D := (dC, dI)) (ci := 9) (v := .ref q26) (ty := .array .int) (C := RX7) (T := TX7) (N := 8) hx hb hts (inX7 _) tyX7 tyX7_ok nmX7 hown hK hP hD hS 0 rfl rfl 2 (by decide) (hts _ (List.mem_cons_of_mem _ wf7_18)) (fun _ h9 => h9) rfl hnm rfl (by decide +kernel) rfl rfl (Nat.le_of_ble_eq_true rfl) dX7_init_28 (fun H locs hP hD hS => ?_)
  have hP : va_P (dC, dI) srCl [(ob, .inr (9, [.ref q8, .ref q17, .ref q26, .null, .null, .null, .int 0, .int 0])), (q8, .inl (cB, 4096, .inl (fun _ => 0))), (q17, .inl (cB, 4096, .inl (fun _ => 0))), (q26, .inl (cI, 4096, .inl (fun _ => 0)))] H := hP
  have hD : va_D A [(ob, .inr (9, [.ref q8, .ref q17, .ref q26, .null, .null, .null, .int 0, .int 0])), (q8, .inl (cB, 4096, .inl (fun _ => 0))), (q17, .inl (cB, 4096, .inl (fun _ => 0))), (q26, .inl (cI, 4096, .inl (fun _ => 0)))] := hD
  refine lv_aload_n hx hb dX7_init_31 rfl (lv_at hl 0 rfl) ?_
  refine lv_sipush (v := 4096) hx hb dX7_init_32 (by decide) ?_
  refine mr_newa (ty := .int) (N' := 4096) (a0 := (4096, .inl (fun _ => 0))) hx hb (hts _ (List.mem_cons_of_mem _ (arI _ List.mem_cons_self))) rfl (fun C h => by cases h) hK hP hD hS hA (fun _ => rfl) (by decide) (by decide) (by decide) (Nat.le_of_ble_eq_true rfl) (Nat.le_of_ble_eq_true rfl) dX7_init_35 0 rfl (fun q35 H hP hD hS => ?_)
  have hP : va_P (dC, dI) srCl [(ob, .inr (9, [.ref q8, .ref q17, .ref q26, .null, .null, .null, .int 0, .int 0])), (q8, .inl (cB, 4096, .inl (fun _ => 0))), (q17, .inl (cB, 4096, .inl (fun _ => 0))), (q26, .inl (cI, 4096, .inl (fun _ => 0))), (q35, .inl (cI, 4096, .inl (fun _ => 0)))] H := hP
  have hD : va_D A [(ob, .inr (9, [.ref q8, .ref q17, .ref q26, .null, .null, .null, .int 0, .int 0])), (q8, .inl (cB, 4096, .inl (fun _ => 0))), (q17, .inl (cB, 4096, .inl (fun _ => 0))), (q26, .inl (cI, 4096, .inl (fun _ => 0))), (q35, .inl (cI, 4096, .inl (fun _ => 0)))] := hD
  refine va_putF (D := (dC, dI)) (ci := 9) (v := .ref q35) (ty := .array .int) (C := RX7) (T := TX7) (N := 8) hx hb hts (inX7 _) tyX7 tyX7_ok nmX7 hown hK hP hD hS 0 rfl rfl 3 (by decide) (hts _ (List.mem_cons_of_mem _ wf7_22)) (fun _ h9 => h9) rfl hnm rfl (by decide +kernel) rfl rfl (Nat.le_of_ble_eq_true rfl) dX7_init_37 (fun H locs hP hD hS => ?_)
  have hP : va_P (dC, dI) srCl [(ob, .inr (9, [.ref q8, .ref q17, .ref q26, .ref q35, .null, .null, .int 0, .int 0])), (q8, .inl (cB, 4096, .inl (fun _ => 0))), (q17, .inl (cB, 4096, .inl (fun _ => 0))), (q26, .inl (cI, 4096, .inl (fun _ => 0))), (q35, .inl (cI, 4096, .inl (fun _ => 0)))] H := hP
  have hD : va_D A [(ob, .inr (9, [.ref q8, .ref q17, .ref q26, .ref q35, .null, .null, .int 0, .int 0])), (q8, .inl (cB, 4096, .inl (fun _ => 0))), (q17, .inl (cB, 4096, .inl (fun _ => 0))), (q26, .inl (cI, 4096, .inl (fun _ => 0))), (q35, .inl (cI, 4096, .inl (fun _ => 0)))] := hD
  refine lv_aload_n hx hb dX7_init_40 rfl (lv_at hl 0 rfl) ?_
  refine lv_sipush (v := 4096) hx hb dX7_init_41 (by decide) ?_
  refine mr_newa (ty := .int) (N' := 4096) (a0 := (4096, .inl (fun _ => 0))) hx hb (hts _ (List.mem_cons_of_mem _ (arI _ List.mem_cons_self))) rfl (fun C h => by cases h) hK hP hD hS hA (fun _ => rfl) (by decide) (by decide) (by decide) (Nat.le_of_ble_eq_true rfl) (Nat.le_of_ble_eq_true rfl) dX7_init_44 0 rfl (fun q44 H hP hD hS => ?_)
  have hP : va_P (dC, dI) srCl [(ob, .inr (9, [.ref q8, .ref q17, .ref q26, .ref q35, .null, .null, .int 0, .int 0])), (q8, .inl (cB, 4096, .inl (fun _ => 0))), (q17, .inl (cB, 4096, .inl (fun _ => 0))), (q26, .inl (cI, 4096, .inl (fun _ => 0))), (q35, .inl (cI, 4096, .inl (fun _ => 0))), (q44, .inl (cI, 4096, .inl (fun _ => 0)))] H := hP
  have hD : va_D A [(ob, .inr (9, [.ref q8, .ref q17, .ref q26, .ref q35, .null, .null, .int 0, .int 0])), (q8, .inl (cB, 4096, .inl (fun _ => 0))), (q17, .inl (cB, 4096, .inl (fun _ => 0))), (q26, .inl (cI, 4096, .inl (fun _ => 0))), (q35, .inl (cI, 4096, .inl (fun _ => 0))), (q44, .inl (cI, 4096, .inl (fun _ => 0)))] := hD
  refine va_putF (D := (dC, dI)) (ci := 9) (v := .ref q44) (ty := .array .int) (C := RX7) (T := TX7) (N := 8) hx hb hts (inX7 _) tyX7 tyX7_ok nmX7 hown hK hP hD hS 0 rfl rfl 4 (by decide) (hts _ (List.mem_cons_of_mem _ wf7_25)) (fun _ h9 => h9) rfl hnm rfl (by decide +kernel) rfl rfl (Nat.le_of_ble_eq_true rfl) dX7_init_46 (fun H locs hP hD hS => ?_)
  have hP : va_P (dC, dI) srCl [(ob, .inr (9, [.ref q8, .ref q17, .ref q26, .ref q35, .ref q44, .null, .int 0, .int 0])), (q8, .inl (cB, 4096, .inl (fun _ => 0))), (q17, .inl (cB, 4096, .inl (fun _ => 0))), (q26, .inl (cI, 4096, .inl (fun _ => 0))), (q35, .inl (cI, 4096, .inl (fun _ => 0))), (q44, .inl (cI, 4096, .inl (fun _ => 0)))] H := hP
  have hD : va_D A [(ob, .inr (9, [.ref q8, .ref q17, .ref q26, .ref q35, .ref q44, .null, .int 0, .int 0])), (q8, .inl (cB, 4096, .inl (fun _ => 0))), (q17, .inl (cB, 4096, .inl (fun _ => 0))), (q26, .inl (cI, 4096, .inl (fun _ => 0))), (q35, .inl (cI, 4096, .inl (fun _ => 0))), (q44, .inl (cI, 4096, .inl (fun _ => 0)))] := hD
  refine lv_aload_n hx hb dX7_init_49 rfl (lv_at hl 0 rfl) ?_
  refine va_new (ci := 5) (fs := [.null, .null, .null, .null, .int 0]) (C := RX2) (T := TX2) (N := 5) hx hb hts (inX2 _) tyX2 tyX2_ok hown (hts _ (List.mem_cons_of_mem _ (nw7_28 _ (List.mem_of_getElem? (i := 0) rfl)))) (hts _ (List.mem_cons_of_mem _ (nw7_28 _ (List.mem_of_getElem? (i := 1) rfl)))) (hts _ (List.mem_cons_of_mem _ (nw7_28 _ (List.mem_of_getElem? (i := 2) rfl)))) hK hP hD hS hA rfl (fun j hj => match j, hj with | 0, _ => rfl | 1, _ => rfl | 2, _ => rfl | 3, _ => rfl | 4, _ => rfl | n + 5, h => absurd h (Nat.not_lt_of_le (Nat.le_add_left 5 n))) (Nat.le_of_ble_eq_true rfl) (Nat.le_of_ble_eq_true rfl) dX7_init_50 (fun q50 H hP hD hS => ?_)
  have hP : va_P (dC, dI) srCl [(ob, .inr (9, [.ref q8, .ref q17, .ref q26, .ref q35, .ref q44, .null, .int 0, .int 0])), (q8, .inl (cB, 4096, .inl (fun _ => 0))), (q17, .inl (cB, 4096, .inl (fun _ => 0))), (q26, .inl (cI, 4096, .inl (fun _ => 0))), (q35, .inl (cI, 4096, .inl (fun _ => 0))), (q44, .inl (cI, 4096, .inl (fun _ => 0))), (q50, .inr (5, [.null, .null, .null, .null, .int 0]))] H := hP
  have hD : va_D A [(ob, .inr (9, [.ref q8, .ref q17, .ref q26, .ref q35, .ref q44, .null, .int 0, .int 0])), (q8, .inl (cB, 4096, .inl (fun _ => 0))), (q17, .inl (cB, 4096, .inl (fun _ => 0))), (q26, .inl (cI, 4096, .inl (fun _ => 0))), (q35, .inl (cI, 4096, .inl (fun _ => 0))), (q44, .inl (cI, 4096, .inl (fun _ => 0))), (q50, .inr (5, [.null, .null, .null, .null, .int 0]))] := hD
  refine lv_dup hx hb dX7_init_53 rfl ?_
  refine mr_iv (wc := [(q50, .inr (5, [.null, .null, .null, .null, .int 0]))]) (wr := [(ob, .inr (9, [.ref q8, .ref q17, .ref q26, .ref q35, .ref q44, .null, .int 0, .int 0])), (q8, .inl (cB, 4096, .inl (fun _ => 0))), (q17, .inl (cB, 4096, .inl (fun _ => 0))), (q26, .inl (cI, 4096, .inl (fun _ => 0))), (q35, .inl (cI, 4096, .inl (fun _ => 0))), (q44, .inl (cI, 4096, .inl (fun _ => 0)))]) (c1 := 10) (s1 := 23813) (va_runIN (g := F0 m 54 ls [.ref q50, .ref q50, .ref ob]) (b := q50) (As := []) (rest := [.ref q50, .ref ob]) ⟨hx, hb, hml, hown, hts⟩ (kX2_init l htr dC dI adK adV cI cB cJ cZ cQ q50 _) (sr_cnI 0 hts rfl gI7_30.1 (hz0.2.2.2.2.2.2.1 _ gI7_30.2) rfl rfl rfl (by decide +kernel) ⟨(Nat.le_of_ble_eq_true rfl), (Nat.le_of_ble_eq_true rfl)⟩) ⟨pcW_blind (sr_okZ adK adV), pcW_at (sr_okZ adK adV) hS hA hP hD hK hz0 [6] rfl rfl rfl⟩ rfl rfl hl.1 rfl (lv_room (Nat.le_of_ble_eq_true rfl)) dX7_init_54 ⟨(Nat.le_of_ble_eq_true rfl), (Nat.le_of_ble_eq_true rfl)⟩) hS hA hP hD [6] [0, 1, 2, 3, 4, 5] rfl rfl rfl (by decide) rfl rfl (fun u0 H locs hP hD hS => ?_)
  obtain ⟨q54_0, q54_1, q54_2, q54_3⟩ := u0
  have hP : va_P (dC, dI) srCl [(ob, .inr (9, [.ref q8, .ref q17, .ref q26, .ref q35, .ref q44, .null, .int 0, .int 0])), (q8, .inl (cB, 4096, .inl (fun _ => 0))), (q17, .inl (cB, 4096, .inl (fun _ => 0))), (q26, .inl (cI, 4096, .inl (fun _ => 0))), (q35, .inl (cI, 4096, .inl (fun _ => 0))), (q44, .inl (cI, 4096, .inl (fun _ => 0))), (q50, .inr (5, [.ref q54_0, .ref q54_1, .ref q54_2, .ref q54_3, .int 0])), (q54_0, .inl (cI, 256, .inl (fun _ => 0))), (q54_1, .inl (cI, 1024, .inl (fun _ => 0))), (q54_2, .inl (cI, 1024, .inl (fun _ => 0))), (q54_3, .inl (cI, 1024, .inl (fun _ => 0)))] H := hP
  have hD : va_D A [(ob, .inr (9, [.ref q8, .ref q17, .ref q26, .ref q35, .ref q44, .null, .int 0, .int 0])), (q8, .inl (cB, 4096, .inl (fun _ => 0))), (q17, .inl (cB, 4096, .inl (fun _ => 0))), (q26, .inl (cI, 4096, .inl (fun _ => 0))), (q35, .inl (cI, 4096, .inl (fun _ => 0))), (q44, .inl (cI, 4096, .inl (fun _ => 0))), (q50, .inr (5, [.ref q54_0, .ref q54_1, .ref q54_2, .ref q54_3, .int 0])), (q54_0, .inl (cI, 256, .inl (fun _ => 0))), (q54_1, .inl (cI, 1024, .inl (fun _ => 0))), (q54_2, .inl (cI, 1024, .inl (fun _ => 0))), (q54_3, .inl (cI, 1024, .inl (fun _ => 0)))] := hD
  refine va_putF (D := (dC, dI)) (ci := 9) (v := .ref q50) (ty := .object "SchemaReader$Keys") (C := RX7) (T := TX7) (N := 8) hx hb hts (inX7 _) tyX7 tyX7_ok nmX7 hown hK hP hD hS 0 rfl rfl 5 (by decide) (hts _ (List.mem_cons_of_mem _ wf7_31)) (fun _ h9 => h9) rfl hnm rfl (by decide +kernel) rfl rfl (Nat.le_of_ble_eq_true rfl) dX7_init_57 (fun H locs hP hD hS => ?_)
  have hP : va_P (dC, dI) srCl [(ob, .inr (9, [.ref q8, .ref q17, .ref q26, .ref q35, .ref q44, .ref q50, .int 0, .int 0])), (q8, .inl (cB, 4096, .inl (fun _ => 0))), (q17, .inl (cB, 4096, .inl (fun _ => 0))), (q26, .inl (cI, 4096, .inl (fun _ => 0))), (q35, .inl (cI, 4096, .inl (fun _ => 0))), (q44, .inl (cI, 4096, .inl (fun _ => 0))), (q50, .inr (5, [.ref q54_0, .ref q54_1, .ref q54_2, .ref q54_3, .int 0])), (q54_0, .inl (cI, 256, .inl (fun _ => 0))), (q54_1, .inl (cI, 1024, .inl (fun _ => 0))), (q54_2, .inl (cI, 1024, .inl (fun _ => 0))), (q54_3, .inl (cI, 1024, .inl (fun _ => 0)))] H := hP
  have hD : va_D A [(ob, .inr (9, [.ref q8, .ref q17, .ref q26, .ref q35, .ref q44, .ref q50, .int 0, .int 0])), (q8, .inl (cB, 4096, .inl (fun _ => 0))), (q17, .inl (cB, 4096, .inl (fun _ => 0))), (q26, .inl (cI, 4096, .inl (fun _ => 0))), (q35, .inl (cI, 4096, .inl (fun _ => 0))), (q44, .inl (cI, 4096, .inl (fun _ => 0))), (q50, .inr (5, [.ref q54_0, .ref q54_1, .ref q54_2, .ref q54_3, .int 0])), (q54_0, .inl (cI, 256, .inl (fun _ => 0))), (q54_1, .inl (cI, 1024, .inl (fun _ => 0))), (q54_2, .inl (cI, 1024, .inl (fun _ => 0))), (q54_3, .inl (cI, 1024, .inl (fun _ => 0)))] := hD
  refine lv_aload_n hx hb dX7_init_60 rfl (lv_at hl 0 rfl) ?_
  refine lv_iconst (v := 0) hx hb dX7_init_61 (by decide) ?_
  refine va_put (D := (dC, dI)) (ci := 9) (v := .int 0) (ty := .int) (C := RX7) (T := TX7) (N := 8) hx hb hts (inX7 _) tyX7 tyX7_ok nmX7 hown hK hP hD hS 0 rfl rfl 6 (by decide) (hts _ (List.mem_cons_of_mem _ wf7_35)) (fun _ h9 => h9) rfl (by decide +kernel) rfl rfl (Nat.le_of_ble_eq_true rfl) dX7_init_62 (fun H locs hP hD hS => ?_)
  have hP : va_P (dC, dI) srCl [(ob, .inr (9, [.ref q8, .ref q17, .ref q26, .ref q35, .ref q44, .ref q50, .int 0, .int 0])), (q8, .inl (cB, 4096, .inl (fun _ => 0))), (q17, .inl (cB, 4096, .inl (fun _ => 0))), (q26, .inl (cI, 4096, .inl (fun _ => 0))), (q35, .inl (cI, 4096, .inl (fun _ => 0))), (q44, .inl (cI, 4096, .inl (fun _ => 0))), (q50, .inr (5, [.ref q54_0, .ref q54_1, .ref q54_2, .ref q54_3, .int 0])), (q54_0, .inl (cI, 256, .inl (fun _ => 0))), (q54_1, .inl (cI, 1024, .inl (fun _ => 0))), (q54_2, .inl (cI, 1024, .inl (fun _ => 0))), (q54_3, .inl (cI, 1024, .inl (fun _ => 0)))] H := hP
  have hD : va_D A [(ob, .inr (9, [.ref q8, .ref q17, .ref q26, .ref q35, .ref q44, .ref q50, .int 0, .int 0])), (q8, .inl (cB, 4096, .inl (fun _ => 0))), (q17, .inl (cB, 4096, .inl (fun _ => 0))), (q26, .inl (cI, 4096, .inl (fun _ => 0))), (q35, .inl (cI, 4096, .inl (fun _ => 0))), (q44, .inl (cI, 4096, .inl (fun _ => 0))), (q50, .inr (5, [.ref q54_0, .ref q54_1, .ref q54_2, .ref q54_3, .int 0])), (q54_0, .inl (cI, 256, .inl (fun _ => 0))), (q54_1, .inl (cI, 1024, .inl (fun _ => 0))), (q54_2, .inl (cI, 1024, .inl (fun _ => 0))), (q54_3, .inl (cI, 1024, .inl (fun _ => 0)))] := hD
  refine lv_aload_n hx hb dX7_init_65 rfl (lv_at hl 0 rfl) ?_
  refine lv_iconst (v := -1) hx hb dX7_init_66 (by decide) ?_
  refine va_put (D := (dC, dI)) (ci := 9) (v := .int (-1)) (ty := .int) (C := RX7) (T := TX7) (N := 8) hx hb hts (inX7 _) tyX7 tyX7_ok nmX7 hown hK hP hD hS 0 rfl rfl 7 (by decide) (hts _ (List.mem_cons_of_mem _ wf7_39)) (fun _ h9 => h9) rfl (by decide +kernel) rfl rfl (Nat.le_of_ble_eq_true rfl) dX7_init_67 (fun H locs hP hD hS => ?_)
  have hP : va_P (dC, dI) srCl [(ob, .inr (9, [.ref q8, .ref q17, .ref q26, .ref q35, .ref q44, .ref q50, .int 0, .int (-1)])), (q8, .inl (cB, 4096, .inl (fun _ => 0))), (q17, .inl (cB, 4096, .inl (fun _ => 0))), (q26, .inl (cI, 4096, .inl (fun _ => 0))), (q35, .inl (cI, 4096, .inl (fun _ => 0))), (q44, .inl (cI, 4096, .inl (fun _ => 0))), (q50, .inr (5, [.ref q54_0, .ref q54_1, .ref q54_2, .ref q54_3, .int 0])), (q54_0, .inl (cI, 256, .inl (fun _ => 0))), (q54_1, .inl (cI, 1024, .inl (fun _ => 0))), (q54_2, .inl (cI, 1024, .inl (fun _ => 0))), (q54_3, .inl (cI, 1024, .inl (fun _ => 0)))] H := hP
  have hD : va_D A [(ob, .inr (9, [.ref q8, .ref q17, .ref q26, .ref q35, .ref q44, .ref q50, .int 0, .int (-1)])), (q8, .inl (cB, 4096, .inl (fun _ => 0))), (q17, .inl (cB, 4096, .inl (fun _ => 0))), (q26, .inl (cI, 4096, .inl (fun _ => 0))), (q35, .inl (cI, 4096, .inl (fun _ => 0))), (q44, .inl (cI, 4096, .inl (fun _ => 0))), (q50, .inr (5, [.ref q54_0, .ref q54_1, .ref q54_2, .ref q54_3, .int 0])), (q54_0, .inl (cI, 256, .inl (fun _ => 0))), (q54_1, .inl (cI, 1024, .inl (fun _ => 0))), (q54_2, .inl (cI, 1024, .inl (fun _ => 0))), (q54_3, .inl (cI, 1024, .inl (fun _ => 0)))] := hD
  refine W.widen (k := 10) (n := 23813) (Nat.le_of_ble_eq_true rfl) (Nat.le_of_ble_eq_true rfl) ?_
  subst hQ0
  exact W.vret hx hb hr (fun t ht hW => ⟨⟨(q8, q17, q26, q35, q44, q50, q54_0, q54_1, q54_2, q54_3), rfl, trivial, by rw [ht]; exact hP, va_K.moved hW.alike hK, hD⟩, hS.F ht⟩) hS.2.2 dX7_init_70
set_option maxHeartbeats 4000000 in
set_option maxRecDepth 100000 in
theorem kX11_init (l : Launch) (htr : l.stackTraces = false) (dC : Nat → ClassId) (dI : Nat → Nat → Nat) (adK adV : Nat → Nat) (cI cB cJ cZ cQ : ClassId) (ob : Nat) (sz : Nat) : Met l yX11_init wsX11_init rmX11_init (pcW (sr_Z adK adV) (dC, dI) srCl [(cI, .int), (cB, .byte), (cJ, .long), (cZ, .boolean), (cQ, .object "SchemaReader$Schema")] [.ref ob] [(ob, .inr (3, [.null, .null, .int 0]))] sz) (va_Qv (fun _ => True) (pcB (dC, dI) srCl [(cI, .int), (cB, .byte), (cJ, .long), (cZ, .boolean), (cQ, .object "SchemaReader$Schema")] (fun u : Nat × Nat => [(ob, .inr (3, [.ref u.1, .ref u.2, .int 0])), (u.1, .inl (cI, 128, .inl (fun _ => 0))), (u.2, .inl (cI, 128, .inl (fun _ => 0)))]) (va_A [(ob, .inr (3, [.null, .null, .int 0]))] sz)) (va_A [(ob, .inr (3, [.null, .null, .int 0]))] sz)) 2 256 (va_A [(ob, .inr (3, [.null, .null, .int 0]))] sz) := by
  refine Met.ofW (cc := cX11_init) (maxL := 1) (ret := none) (by decide) rfl ?_
  intro p e s m args below meth c s₁ B hml hv
  obtain ⟨rfl, hsz, hP, hK, hD0, hz0⟩ := hv
  have hx := B.exec
  have hb := B.bytes
  have hr := B.returns
  have hts := atoms_spec (ws := wsX11_init) B.pre
  have hown : s.vm.findClass RX11 = some m.cls := findClass_of_methodNamed B.named
  have hnm : meth.name = "<init>" := (name_of_methodNamed B.named B.method).1
  subst hsz
  have hD := hD0.self (sz := s.heap.size)
  generalize hAe : va_A [(ob, .inr (3, [.null, .null, .int 0]))] s.heap.size = A at hD hz0 ⊢
  have hA : ∀ q : Nat, s.heap.size ≤ q → A q := fun q h => by rw [← hAe]; exact Or.inr h
  have hS : va_S A s.heap s.heap [] := va_S.rf
  generalize hQ0 : MQ below (va_Qv (fun _ => True) (pcB (dC, dI) srCl [(cI, .int), (cB, .byte), (cJ, .long), (cZ, .boolean), (cQ, .object "SchemaReader$Schema")] (fun u : Nat × Nat => [(ob, .inr (3, [.ref u.1, .ref u.2, .int 0])), (u.1, .inl (cI, 128, .inl (fun _ => 0))), (u.2, .inl (cI, 128, .inl (fun _ => 0)))]) A) A) [.ref ob].toArray s 2 256 A = Q0
  have hl := lv_entry [.ref ob] (n := 1) (Nat.le_of_ble_eq_true rfl)
  rw [lg_entry_eq]
  generalize (lg_sl [.ref ob] ++ List.replicate (1 - (lg_sl [.ref ob]).length) Slot.unset).toArray = ls at hl ⊢
  have hl : lv_has ls 1 [(0, .ref ob)] := hl
  refine lv_aload_n hx hb dX11_init_0 rfl (lv_at hl 0 rfl) ?_
  refine W.objInit hx hb hown (hts _ (List.mem_cons_of_mem _ (oi11_1 _ (List.mem_of_getElem? (i := 0) rfl)))) (hts _ (List.mem_cons_of_mem _ (oi11_1 _ (List.mem_of_getElem? (i := 1) rfl)))) (hts _ (List.mem_cons_of_mem _ (oi11_1 _ (List.mem_of_getElem? (i := 2) rfl)))) rfl (by rw [hml]; exact hl.1) rfl dX11_init_1 (Nat.le_of_ble_eq_true rfl) (Nat.le_of_ble_eq_true rfl) ?_
  refine lv_aload_n hx hb dX11_init_4 rfl (lv_at hl 0 rfl) ?_
  refine lv_sipush (v := 128) hx hb dX11_init_5 (by decide) ?_
  refine mr_newa (ty := .int) (N' := 128) (a0 := (128, .inl (fun _ => 0))) hx hb (hts _ (List.mem_cons_of_mem _ (arI _ List.mem_cons_self))) rfl (fun C h => by cases h) hK hP hD hS hA (fun _ => rfl) (by decide) (by decide) (by decide) (Nat.le_of_ble_eq_true rfl) (Nat.le_of_ble_eq_true rfl) dX11_init_8 0 rfl (fun q8 H hP hD hS => ?_)
  have hP : va_P (dC, dI) srCl [(ob, .inr (3, [.null, .null, .int 0])), (q8, .inl (cI, 128, .inl (fun _ => 0)))] H := hP
  have hD : va_D A [(ob, .inr (3, [.null, .null, .int 0])), (q8, .inl (cI, 128, .inl (fun _ => 0)))] := hD
  refine va_putF (D := (dC, dI)) (ci := 3) (v := .ref q8) (ty := .array .int) (C := RX11) (T := TX11) (N := 3) hx hb hts (inX11 _) tyX11 tyX11_ok nmX11 hown hK hP hD hS 0 rfl rfl 0 (by decide) (hts _ (List.mem_cons_of_mem _ wf11_9)) (fun _ h9 => h9) rfl hnm rfl (by decide +kernel) rfl rfl (Nat.le_of_ble_eq_true rfl) dX11_init_10 (fun H locs hP hD hS => ?_)
  have hP : va_P (dC, dI) srCl [(ob, .inr (3, [.ref q8, .null, .int 0])), (q8, .inl (cI, 128, .inl (fun _ => 0)))] H := hP
  have hD : va_D A [(ob, .inr (3, [.ref q8, .null, .int 0])), (q8, .inl (cI, 128, .inl (fun _ => 0)))] := hD
  refine lv_aload_n hx hb dX11_init_13 rfl (lv_at hl 0 rfl) ?_
  refine lv_sipush (v := 128) hx hb dX11_init_14 (by decide) ?_
  refine mr_newa (ty := .int) (N' := 128) (a0 := (128, .inl (fun _ => 0))) hx hb (hts _ (List.mem_cons_of_mem _ (arI _ List.mem_cons_self))) rfl (fun C h => by cases h) hK hP hD hS hA (fun _ => rfl) (by decide) (by decide) (by decide) (Nat.le_of_ble_eq_true rfl) (Nat.le_of_ble_eq_true rfl) dX11_init_17 0 rfl (fun q17 H hP hD hS => ?_)
  have hP : va_P (dC, dI) srCl [(ob, .inr (3, [.ref q8, .null, .int 0])), (q8, .inl (cI, 128, .inl (fun _ => 0))), (q17, .inl (cI, 128, .inl (fun _ => 0)))] H := hP
  have hD : va_D A [(ob, .inr (3, [.ref q8, .null, .int 0])), (q8, .inl (cI, 128, .inl (fun _ => 0))), (q17, .inl (cI, 128, .inl (fun _ => 0)))] := hD
  refine va_putF (D := (dC, dI)) (ci := 3) (v := .ref q17) (ty := .array .int) (C := RX11) (T := TX11) (N := 3) hx hb hts (inX11 _) tyX11 tyX11_ok nmX11 hown hK hP hD hS 0 rfl rfl 1 (by decide) (hts _ (List.mem_cons_of_mem _ wf11_15)) (fun _ h9 => h9) rfl hnm rfl (by decide +kernel) rfl rfl (Nat.le_of_ble_eq_true rfl) dX11_init_19 (fun H locs hP hD hS => ?_)
  have hP : va_P (dC, dI) srCl [(ob, .inr (3, [.ref q8, .ref q17, .int 0])), (q8, .inl (cI, 128, .inl (fun _ => 0))), (q17, .inl (cI, 128, .inl (fun _ => 0)))] H := hP
  have hD : va_D A [(ob, .inr (3, [.ref q8, .ref q17, .int 0])), (q8, .inl (cI, 128, .inl (fun _ => 0))), (q17, .inl (cI, 128, .inl (fun _ => 0)))] := hD
  refine lv_aload_n hx hb dX11_init_22 rfl (lv_at hl 0 rfl) ?_
  refine lv_iconst (v := 0) hx hb dX11_init_23 (by decide) ?_
  refine va_put (D := (dC, dI)) (ci := 3) (v := .int 0) (ty := .int) (C := RX11) (T := TX11) (N := 3) hx hb hts (inX11 _) tyX11 tyX11_ok nmX11 hown hK hP hD hS 0 rfl rfl 2 (by decide) (hts _ (List.mem_cons_of_mem _ wf11_18)) (fun _ h9 => h9) rfl (by decide +kernel) rfl rfl (Nat.le_of_ble_eq_true rfl) dX11_init_24 (fun H locs hP hD hS => ?_)
  have hP : va_P (dC, dI) srCl [(ob, .inr (3, [.ref q8, .ref q17, .int 0])), (q8, .inl (cI, 128, .inl (fun _ => 0))), (q17, .inl (cI, 128, .inl (fun _ => 0)))] H := hP
  have hD : va_D A [(ob, .inr (3, [.ref q8, .ref q17, .int 0])), (q8, .inl (cI, 128, .inl (fun _ => 0))), (q17, .inl (cI, 128, .inl (fun _ => 0)))] := hD
  refine W.widen (k := 2) (n := 256) (Nat.le_of_ble_eq_true rfl) (Nat.le_of_ble_eq_true rfl) ?_
  subst hQ0
  exact W.vret hx hb hr (fun t ht hW => ⟨⟨(q8, q17), rfl, trivial, by rw [ht]; exact hP, va_K.moved hW.alike hK, hD⟩, hS.F ht⟩) hS.2.2 dX11_init_27
set_option maxHeartbeats 4000000 in
set_option maxRecDepth 100000 in
theorem kX6_init (l : Launch) (htr : l.stackTraces = false) (dC : Nat → ClassId) (dI : Nat → Nat → Nat) (adK adV : Nat → Nat) (cI cB cJ cZ cQ : ClassId) (ob : Nat) (sz : Nat) : Met l yX6_init wsX6_init rmX6_init (pcW (sr_Z adK adV) (dC, dI) srCl [(cI, .int), (cB, .byte), (cJ, .long), (cZ, .boolean), (cQ, .object "SchemaReader$Schema")] [.ref ob] [(ob, .inr (8, [.null, .null, .null, .null, .null, .null, .null, .null, .null, .null, .int 0, .int 0]))] sz) (va_Qv (fun _ => True) (pcB (dC, dI) srCl [(cI, .int), (cB, .byte), (cJ, .long), (cZ, .boolean), (cQ, .object "SchemaReader$Schema")] (fun u : Nat × Nat × Nat × Nat × Nat × Nat × Nat × Nat × Nat × Nat => [(ob, .inr (8, [.ref u.1, .ref u.2.1, .ref u.2.2.1, .ref u.2.2.2.1, .ref u.2.2.2.2.1, .ref u.2.2.2.2.2.1, .ref u.2.2.2.2.2.2.1, .ref u.2.2.2.2.2.2.2.1, .ref u.2.2.2.2.2.2.2.2.1, .ref u.2.2.2.2.2.2.2.2.2, .int 0, .int 0])), (u.1, .inl (cB, 4096, .inl (fun _ => 0))), (u.2.1, .inl (cI, 128, .inl (fun _ => 0))), (u.2.2.1, .inl (cI, 128, .inl (fun _ => 0))), (u.2.2.2.1, .inl (cI, 128, .inl (fun _ => 0))), (u.2.2.2.2.1, .inl (cI, 128, .inl (fun _ => 0))), (u.2.2.2.2.2.1, .inl (cI, 128, .inl (fun _ => 0))), (u.2.2.2.2.2.2.1, .inl (cI, 128, .inl (fun _ => 0))), (u.2.2.2.2.2.2.2.1, .inl (cI, 128, .inl (fun _ => 0))), (u.2.2.2.2.2.2.2.2.1, .inl (cZ, 128, .inl (fun _ => 0))), (u.2.2.2.2.2.2.2.2.2, .inl (cZ, 128, .inl (fun _ => 0)))]) (va_A [(ob, .inr (8, [.null, .null, .null, .null, .null, .null, .null, .null, .null, .null, .int 0, .int 0]))] sz)) (va_A [(ob, .inr (8, [.null, .null, .null, .null, .null, .null, .null, .null, .null, .null, .int 0, .int 0]))] sz)) 10 5248 (va_A [(ob, .inr (8, [.null, .null, .null, .null, .null, .null, .null, .null, .null, .null, .int 0, .int 0]))] sz) := by
  refine Met.ofW (cc := cX6_init) (maxL := 1) (ret := none) (by decide) rfl ?_
  intro p e s m args below meth c s₁ B hml hv
  obtain ⟨rfl, hsz, hP, hK, hD0, hz0⟩ := hv
  have hx := B.exec
  have hb := B.bytes
  have hr := B.returns
  have hts := atoms_spec (ws := wsX6_init) B.pre
  have hown : s.vm.findClass RX6 = some m.cls := findClass_of_methodNamed B.named
  have hnm : meth.name = "<init>" := (name_of_methodNamed B.named B.method).1
  subst hsz
  have hD := hD0.self (sz := s.heap.size)
  generalize hAe : va_A [(ob, .inr (8, [.null, .null, .null, .null, .null, .null, .null, .null, .null, .null, .int 0, .int 0]))] s.heap.size = A at hD hz0 ⊢
  have hA : ∀ q : Nat, s.heap.size ≤ q → A q := fun q h => by rw [← hAe]; exact Or.inr h
  have hS : va_S A s.heap s.heap [] := va_S.rf
  generalize hQ0 : MQ below (va_Qv (fun _ => True) (pcB (dC, dI) srCl [(cI, .int), (cB, .byte), (cJ, .long), (cZ, .boolean), (cQ, .object "SchemaReader$Schema")] (fun u : Nat × Nat × Nat × Nat × Nat × Nat × Nat × Nat × Nat × Nat => [(ob, .inr (8, [.ref u.1, .ref u.2.1, .ref u.2.2.1, .ref u.2.2.2.1, .ref u.2.2.2.2.1, .ref u.2.2.2.2.2.1, .ref u.2.2.2.2.2.2.1, .ref u.2.2.2.2.2.2.2.1, .ref u.2.2.2.2.2.2.2.2.1, .ref u.2.2.2.2.2.2.2.2.2, .int 0, .int 0])), (u.1, .inl (cB, 4096, .inl (fun _ => 0))), (u.2.1, .inl (cI, 128, .inl (fun _ => 0))), (u.2.2.1, .inl (cI, 128, .inl (fun _ => 0))), (u.2.2.2.1, .inl (cI, 128, .inl (fun _ => 0))), (u.2.2.2.2.1, .inl (cI, 128, .inl (fun _ => 0))), (u.2.2.2.2.2.1, .inl (cI, 128, .inl (fun _ => 0))), (u.2.2.2.2.2.2.1, .inl (cI, 128, .inl (fun _ => 0))), (u.2.2.2.2.2.2.2.1, .inl (cI, 128, .inl (fun _ => 0))), (u.2.2.2.2.2.2.2.2.1, .inl (cZ, 128, .inl (fun _ => 0))), (u.2.2.2.2.2.2.2.2.2, .inl (cZ, 128, .inl (fun _ => 0)))]) A) A) [.ref ob].toArray s 10 5248 A = Q0
  have hl := lv_entry [.ref ob] (n := 1) (Nat.le_of_ble_eq_true rfl)
  rw [lg_entry_eq]
  generalize (lg_sl [.ref ob] ++ List.replicate (1 - (lg_sl [.ref ob]).length) Slot.unset).toArray = ls at hl ⊢
  have hl : lv_has ls 1 [(0, .ref ob)] := hl
  refine lv_aload_n hx hb dX6_init_0 rfl (lv_at hl 0 rfl) ?_
  refine W.objInit hx hb hown (hts _ (List.mem_cons_of_mem _ (oi6_3 _ (List.mem_of_getElem? (i := 0) rfl)))) (hts _ (List.mem_cons_of_mem _ (oi6_3 _ (List.mem_of_getElem? (i := 1) rfl)))) (hts _ (List.mem_cons_of_mem _ (oi6_3 _ (List.mem_of_getElem? (i := 2) rfl)))) rfl (by rw [hml]; exact hl.1) rfl dX6_init_1 (Nat.le_of_ble_eq_true rfl) (Nat.le_of_ble_eq_true rfl) ?_
  refine lv_aload_n hx hb dX6_init_4 rfl (lv_at hl 0 rfl) ?_
  refine lv_sipush (v := 4096) hx hb dX6_init_5 (by decide) ?_
  refine mr_newa (ty := .byte) (N' := 4096) (a0 := (4096, .inl (fun _ => 0))) hx hb (hts _ (List.mem_cons_of_mem _ (arB _ List.mem_cons_self))) rfl (fun C h => by cases h) hK hP hD hS hA (fun _ => rfl) (by decide) (by decide) (by decide) (Nat.le_of_ble_eq_true rfl) (Nat.le_of_ble_eq_true rfl) dX6_init_8 1 rfl (fun q8 H hP hD hS => ?_)
  have hP : va_P (dC, dI) srCl [(ob, .inr (8, [.null, .null, .null, .null, .null, .null, .null, .null, .null, .null, .int 0, .int 0])), (q8, .inl (cB, 4096, .inl (fun _ => 0)))] H := hP
  have hD : va_D A [(ob, .inr (8, [.null, .null, .null, .null, .null, .null, .null, .null, .null, .null, .int 0, .int 0])), (q8, .inl (cB, 4096, .inl (fun _ => 0)))] := hD
  refine va_putF (D := (dC, dI)) (ci := 8) (v := .ref q8) (ty := .array .byte) (C := RX6) (T := TX6) (N := 12) hx hb hts (inX6 _) tyX6 tyX6_ok nmX6 hown hK hP hD hS 0 rfl rfl 0 (by decide) (hts _ (List.mem_cons_of_mem _ wf6_9)) (fun _ h9 => h9) rfl hnm rfl (by decide +kernel) rfl rfl (Nat.le_of_ble_eq_true rfl) dX6_init_10 (fun H locs hP hD hS => ?_)
  have hP : va_P (dC, dI) srCl [(ob, .inr (8, [.ref q8, .null, .null, .null, .null, .null, .null, .null, .null, .null, .int 0, .int 0])), (q8, .inl (cB, 4096, .inl (fun _ => 0)))] H := hP
  have hD : va_D A [(ob, .inr (8, [.ref q8, .null, .null, .null, .null, .null, .null, .null, .null, .null, .int 0, .int 0])), (q8, .inl (cB, 4096, .inl (fun _ => 0)))] := hD
  refine lv_aload_n hx hb dX6_init_13 rfl (lv_at hl 0 rfl) ?_
  refine lv_sipush (v := 128) hx hb dX6_init_14 (by decide) ?_
  refine mr_newa (ty := .int) (N' := 128) (a0 := (128, .inl (fun _ => 0))) hx hb (hts _ (List.mem_cons_of_mem _ (arI _ List.mem_cons_self))) rfl (fun C h => by cases h) hK hP hD hS hA (fun _ => rfl) (by decide) (by decide) (by decide) (Nat.le_of_ble_eq_true rfl) (Nat.le_of_ble_eq_true rfl) dX6_init_17 0 rfl (fun q17 H hP hD hS => ?_)
  have hP : va_P (dC, dI) srCl [(ob, .inr (8, [.ref q8, .null, .null, .null, .null, .null, .null, .null, .null, .null, .int 0, .int 0])), (q8, .inl (cB, 4096, .inl (fun _ => 0))), (q17, .inl (cI, 128, .inl (fun _ => 0)))] H := hP
  have hD : va_D A [(ob, .inr (8, [.ref q8, .null, .null, .null, .null, .null, .null, .null, .null, .null, .int 0, .int 0])), (q8, .inl (cB, 4096, .inl (fun _ => 0))), (q17, .inl (cI, 128, .inl (fun _ => 0)))] := hD
  refine va_putF (D := (dC, dI)) (ci := 8) (v := .ref q17) (ty := .array .int) (C := RX6) (T := TX6) (N := 12) hx hb hts (inX6 _) tyX6 tyX6_ok nmX6 hown hK hP hD hS 0 rfl rfl 1 (by decide) (hts _ (List.mem_cons_of_mem _ wf6_15)) (fun _ h9 => h9) rfl hnm rfl (by decide +kernel) rfl rfl (Nat.le_of_ble_eq_true rfl) dX6_init_19 (fun H locs hP hD hS => ?_)
  have hP : va_P (dC, dI) srCl [(ob, .inr (8, [.ref q8, .ref q17, .null, .null, .null, .null, .null, .null, .null, .null, .int 0, .int 0])), (q8, .inl (cB, 4096, .inl (fun _ => 0))), (q17, .inl (cI, 128, .inl (fun _ => 0)))] H := hP
  have hD : va_D A [(ob, .inr (8, [.ref q8, .ref q17, .null, .null, .null, .null, .null, .null, .null, .null, .int 0, .int 0])), (q8, .inl (cB, 4096, .inl (fun _ => 0))), (q17, .inl (cI, 128, .inl (fun _ => 0)))] := hD
  refine lv_aload_n hx hb dX6_init_22 rfl (lv_at hl 0 rfl) ?_
  refine lv_sipush (v := 128) hx hb dX6_init_23 (by decide) ?_
  refine mr_newa (ty := .int) (N' := 128) (a0 := (128, .inl (fun _ => 0))) hx hb (hts _ (List.mem_cons_of_mem _ (arI _ List.mem_cons_self))) rfl (fun C h => by cases h) hK hP hD hS hA (fun _ => rfl) (by decide) (by decide) (by decide) (Nat.le_of_ble_eq_true rfl) (Nat.le_of_ble_eq_true rfl) dX6_init_26 0 rfl (fun q26 H hP hD hS => ?_)
  have hP : va_P (dC, dI) srCl [(ob, .inr (8, [.ref q8, .ref q17, .null, .null, .null, .null, .null, .null, .null, .null, .int 0, .int 0])), (q8, .inl (cB, 4096, .inl (fun _ => 0))), (q17, .inl (cI, 128, .inl (fun _ => 0))), (q26, .inl (cI, 128, .inl (fun _ => 0)))] H := hP
  have hD : va_D A [(ob, .inr (8, [.ref q8, .ref q17, .null, .null, .null, .null, .null, .null, .null, .null, .int 0, .int 0])), (q8, .inl (cB, 4096, .inl (fun _ => 0))), (q17, .inl (cI, 128, .inl (fun _ => 0))), (q26, .inl (cI, 128, .inl (fun _ => 0)))] := hD
  refine va_putF (D := (dC, dI)) (ci := 8) (v := .ref q26) (ty := .array .int) (C := RX6) (T := TX6) (N := 12) hx hb hts (inX6 _) tyX6 tyX6_ok nmX6 hown hK hP hD hS 0 rfl rfl 2 (by decide) (hts _ (List.mem_cons_of_mem _ wf6_19)) (fun _ h9 => h9) rfl hnm rfl (by decide +kernel) rfl rfl (Nat.le_of_ble_eq_true rfl) dX6_init_28 (fun H locs hP hD hS => ?_)
  have hP : va_P (dC, dI) srCl [(ob, .inr (8, [.ref q8, .ref q17, .ref q26, .null, .null, .null, .null, .null, .null, .null, .int 0, .int 0])), (q8, .inl (cB, 4096, .inl (fun _ => 0))), (q17, .inl (cI, 128, .inl (fun _ => 0))), (q26, .inl (cI, 128, .inl (fun _ => 0)))] H := hP
  have hD : va_D A [(ob, .inr (8, [.ref q8, .ref q17, .ref q26, .null, .null, .null, .null, .null, .null, .null, .int 0, .int 0])), (q8, .inl (cB, 4096, .inl (fun _ => 0))), (q17, .inl (cI, 128, .inl (fun _ => 0))), (q26, .inl (cI, 128, .inl (fun _ => 0)))] := hD
  refine lv_aload_n hx hb dX6_init_31 rfl (lv_at hl 0 rfl) ?_
  refine lv_sipush (v := 128) hx hb dX6_init_32 (by decide) ?_
  refine mr_newa (ty := .int) (N' := 128) (a0 := (128, .inl (fun _ => 0))) hx hb (hts _ (List.mem_cons_of_mem _ (arI _ List.mem_cons_self))) rfl (fun C h => by cases h) hK hP hD hS hA (fun _ => rfl) (by decide) (by decide) (by decide) (Nat.le_of_ble_eq_true rfl) (Nat.le_of_ble_eq_true rfl) dX6_init_35 0 rfl (fun q35 H hP hD hS => ?_)
  have hP : va_P (dC, dI) srCl [(ob, .inr (8, [.ref q8, .ref q17, .ref q26, .null, .null, .null, .null, .null, .null, .null, .int 0, .int 0])), (q8, .inl (cB, 4096, .inl (fun _ => 0))), (q17, .inl (cI, 128, .inl (fun _ => 0))), (q26, .inl (cI, 128, .inl (fun _ => 0))), (q35, .inl (cI, 128, .inl (fun _ => 0)))] H := hP
  have hD : va_D A [(ob, .inr (8, [.ref q8, .ref q17, .ref q26, .null, .null, .null, .null, .null, .null, .null, .int 0, .int 0])), (q8, .inl (cB, 4096, .inl (fun _ => 0))), (q17, .inl (cI, 128, .inl (fun _ => 0))), (q26, .inl (cI, 128, .inl (fun _ => 0))), (q35, .inl (cI, 128, .inl (fun _ => 0)))] := hD
  refine va_putF (D := (dC, dI)) (ci := 8) (v := .ref q35) (ty := .array .int) (C := RX6) (T := TX6) (N := 12) hx hb hts (inX6 _) tyX6 tyX6_ok nmX6 hown hK hP hD hS 0 rfl rfl 3 (by decide) (hts _ (List.mem_cons_of_mem _ wf6_22)) (fun _ h9 => h9) rfl hnm rfl (by decide +kernel) rfl rfl (Nat.le_of_ble_eq_true rfl) dX6_init_37 (fun H locs hP hD hS => ?_)
  have hP : va_P (dC, dI) srCl [(ob, .inr (8, [.ref q8, .ref q17, .ref q26, .ref q35, .null, .null, .null, .null, .null, .null, .int 0, .int 0])), (q8, .inl (cB, 4096, .inl (fun _ => 0))), (q17, .inl (cI, 128, .inl (fun _ => 0))), (q26, .inl (cI, 128, .inl (fun _ => 0))), (q35, .inl (cI, 128, .inl (fun _ => 0)))] H := hP
  have hD : va_D A [(ob, .inr (8, [.ref q8, .ref q17, .ref q26, .ref q35, .null, .null, .null, .null, .null, .null, .int 0, .int 0])), (q8, .inl (cB, 4096, .inl (fun _ => 0))), (q17, .inl (cI, 128, .inl (fun _ => 0))), (q26, .inl (cI, 128, .inl (fun _ => 0))), (q35, .inl (cI, 128, .inl (fun _ => 0)))] := hD
  refine lv_aload_n hx hb dX6_init_40 rfl (lv_at hl 0 rfl) ?_
  refine lv_sipush (v := 128) hx hb dX6_init_41 (by decide) ?_
  refine mr_newa (ty := .int) (N' := 128) (a0 := (128, .inl (fun _ => 0))) hx hb (hts _ (List.mem_cons_of_mem _ (arI _ List.mem_cons_self))) rfl (fun C h => by cases h) hK hP hD hS hA (fun _ => rfl) (by decide) (by decide) (by decide) (Nat.le_of_ble_eq_true rfl) (Nat.le_of_ble_eq_true rfl) dX6_init_44 0 rfl (fun q44 H hP hD hS => ?_)
  have hP : va_P (dC, dI) srCl [(ob, .inr (8, [.ref q8, .ref q17, .ref q26, .ref q35, .null, .null, .null, .null, .null, .null, .int 0, .int 0])), (q8, .inl (cB, 4096, .inl (fun _ => 0))), (q17, .inl (cI, 128, .inl (fun _ => 0))), (q26, .inl (cI, 128, .inl (fun _ => 0))), (q35, .inl (cI, 128, .inl (fun _ => 0))), (q44, .inl (cI, 128, .inl (fun _ => 0)))] H := hP
  have hD : va_D A [(ob, .inr (8, [.ref q8, .ref q17, .ref q26, .ref q35, .null, .null, .null, .null, .null, .null, .int 0, .int 0])), (q8, .inl (cB, 4096, .inl (fun _ => 0))), (q17, .inl (cI, 128, .inl (fun _ => 0))), (q26, .inl (cI, 128, .inl (fun _ => 0))), (q35, .inl (cI, 128, .inl (fun _ => 0))), (q44, .inl (cI, 128, .inl (fun _ => 0)))] := hD
  refine va_putF (D := (dC, dI)) (ci := 8) (v := .ref q44) (ty := .array .int) (C := RX6) (T := TX6) (N := 12) hx hb hts (inX6 _) tyX6 tyX6_ok nmX6 hown hK hP hD hS 0 rfl rfl 4 (by decide) (hts _ (List.mem_cons_of_mem _ wf6_25)) (fun _ h9 => h9) rfl hnm rfl (by decide +kernel) rfl rfl (Nat.le_of_ble_eq_true rfl) dX6_init_46 (fun H locs hP hD hS => ?_)
  have hP : va_P (dC, dI) srCl [(ob, .inr (8, [.ref q8, .ref q17, .ref q26, .ref q35, .ref q44, .null, .null, .null, .null, .null, .int 0, .int 0])), (q8, .inl (cB, 4096, .inl (fun _ => 0))), (q17, .inl (cI, 128, .inl (fun _ => 0))), (q26, .inl (cI, 128, .inl (fun _ => 0))), (q35, .inl (cI, 128, .inl (fun _ => 0))), (q44, .inl (cI, 128, .inl (fun _ => 0)))] H := hP
  have hD : va_D A [(ob, .inr (8, [.ref q8, .ref q17, .ref q26, .ref q35, .ref q44, .null, .null, .null, .null, .null, .int 0, .int 0])), (q8, .inl (cB, 4096, .inl (fun _ => 0))), (q17, .inl (cI, 128, .inl (fun _ => 0))), (q26, .inl (cI, 128, .inl (fun _ => 0))), (q35, .inl (cI, 128, .inl (fun _ => 0))), (q44, .inl (cI, 128, .inl (fun _ => 0)))] := hD
  refine lv_aload_n hx hb dX6_init_49 rfl (lv_at hl 0 rfl) ?_
  refine lv_sipush (v := 128) hx hb dX6_init_50 (by decide) ?_
  refine mr_newa (ty := .int) (N' := 128) (a0 := (128, .inl (fun _ => 0))) hx hb (hts _ (List.mem_cons_of_mem _ (arI _ List.mem_cons_self))) rfl (fun C h => by cases h) hK hP hD hS hA (fun _ => rfl) (by decide) (by decide) (by decide) (Nat.le_of_ble_eq_true rfl) (Nat.le_of_ble_eq_true rfl) dX6_init_53 0 rfl (fun q53 H hP hD hS => ?_)
  have hP : va_P (dC, dI) srCl [(ob, .inr (8, [.ref q8, .ref q17, .ref q26, .ref q35, .ref q44, .null, .null, .null, .null, .null, .int 0, .int 0])), (q8, .inl (cB, 4096, .inl (fun _ => 0))), (q17, .inl (cI, 128, .inl (fun _ => 0))), (q26, .inl (cI, 128, .inl (fun _ => 0))), (q35, .inl (cI, 128, .inl (fun _ => 0))), (q44, .inl (cI, 128, .inl (fun _ => 0))), (q53, .inl (cI, 128, .inl (fun _ => 0)))] H := hP
  have hD : va_D A [(ob, .inr (8, [.ref q8, .ref q17, .ref q26, .ref q35, .ref q44, .null, .null, .null, .null, .null, .int 0, .int 0])), (q8, .inl (cB, 4096, .inl (fun _ => 0))), (q17, .inl (cI, 128, .inl (fun _ => 0))), (q26, .inl (cI, 128, .inl (fun _ => 0))), (q35, .inl (cI, 128, .inl (fun _ => 0))), (q44, .inl (cI, 128, .inl (fun _ => 0))), (q53, .inl (cI, 128, .inl (fun _ => 0)))] := hD
  refine va_putF (D := (dC, dI)) (ci := 8) (v := .ref q53) (ty := .array .int) (C := RX6) (T := TX6) (N := 12) hx hb hts (inX6 _) tyX6 tyX6_ok nmX6 hown hK hP hD hS 0 rfl rfl 5 (by decide) (hts _ (List.mem_cons_of_mem _ wf6_28)) (fun _ h9 => h9) rfl hnm rfl (by decide +kernel) rfl rfl (Nat.le_of_ble_eq_true rfl) dX6_init_55 (fun H locs hP hD hS => ?_)
  have hP : va_P (dC, dI) srCl [(ob, .inr (8, [.ref q8, .ref q17, .ref q26, .ref q35, .ref q44, .ref q53, .null, .null, .null, .null, .int 0, .int 0])), (q8, .inl (cB, 4096, .inl (fun _ => 0))), (q17, .inl (cI, 128, .inl (fun _ => 0))), (q26, .inl (cI, 128, .inl (fun _ => 0))), (q35, .inl (cI, 128, .inl (fun _ => 0))), (q44, .inl (cI, 128, .inl (fun _ => 0))), (q53, .inl (cI, 128, .inl (fun _ => 0)))] H := hP
  have hD : va_D A [(ob, .inr (8, [.ref q8, .ref q17, .ref q26, .ref q35, .ref q44, .ref q53, .null, .null, .null, .null, .int 0, .int 0])), (q8, .inl (cB, 4096, .inl (fun _ => 0))), (q17, .inl (cI, 128, .inl (fun _ => 0))), (q26, .inl (cI, 128, .inl (fun _ => 0))), (q35, .inl (cI, 128, .inl (fun _ => 0))), (q44, .inl (cI, 128, .inl (fun _ => 0))), (q53, .inl (cI, 128, .inl (fun _ => 0)))] := hD
  refine lv_aload_n hx hb dX6_init_58 rfl (lv_at hl 0 rfl) ?_
  refine lv_sipush (v := 128) hx hb dX6_init_59 (by decide) ?_
  refine mr_newa (ty := .int) (N' := 128) (a0 := (128, .inl (fun _ => 0))) hx hb (hts _ (List.mem_cons_of_mem _ (arI _ List.mem_cons_self))) rfl (fun C h => by cases h) hK hP hD hS hA (fun _ => rfl) (by decide) (by decide) (by decide) (Nat.le_of_ble_eq_true rfl) (Nat.le_of_ble_eq_true rfl) dX6_init_62 0 rfl (fun q62 H hP hD hS => ?_)
  have hP : va_P (dC, dI) srCl [(ob, .inr (8, [.ref q8, .ref q17, .ref q26, .ref q35, .ref q44, .ref q53, .null, .null, .null, .null, .int 0, .int 0])), (q8, .inl (cB, 4096, .inl (fun _ => 0))), (q17, .inl (cI, 128, .inl (fun _ => 0))), (q26, .inl (cI, 128, .inl (fun _ => 0))), (q35, .inl (cI, 128, .inl (fun _ => 0))), (q44, .inl (cI, 128, .inl (fun _ => 0))), (q53, .inl (cI, 128, .inl (fun _ => 0))), (q62, .inl (cI, 128, .inl (fun _ => 0)))] H := hP
  have hD : va_D A [(ob, .inr (8, [.ref q8, .ref q17, .ref q26, .ref q35, .ref q44, .ref q53, .null, .null, .null, .null, .int 0, .int 0])), (q8, .inl (cB, 4096, .inl (fun _ => 0))), (q17, .inl (cI, 128, .inl (fun _ => 0))), (q26, .inl (cI, 128, .inl (fun _ => 0))), (q35, .inl (cI, 128, .inl (fun _ => 0))), (q44, .inl (cI, 128, .inl (fun _ => 0))), (q53, .inl (cI, 128, .inl (fun _ => 0))), (q62, .inl (cI, 128, .inl (fun _ => 0)))] := hD
  refine va_putF (D := (dC, dI)) (ci := 8) (v := .ref q62) (ty := .array .int) (C := RX6) (T := TX6) (N := 12) hx hb hts (inX6 _) tyX6 tyX6_ok nmX6 hown hK hP hD hS 0 rfl rfl 6 (by decide) (hts _ (List.mem_cons_of_mem _ wf6_31)) (fun _ h9 => h9) rfl hnm rfl (by decide +kernel) rfl rfl (Nat.le_of_ble_eq_true rfl) dX6_init_64 (fun H locs hP hD hS => ?_)
  have hP : va_P (dC, dI) srCl [(ob, .inr (8, [.ref q8, .ref q17, .ref q26, .ref q35, .ref q44, .ref q53, .ref q62, .null, .null, .null, .int 0, .int 0])), (q8, .inl (cB, 4096, .inl (fun _ => 0))), (q17, .inl (cI, 128, .inl (fun _ => 0))), (q26, .inl (cI, 128, .inl (fun _ => 0))), (q35, .inl (cI, 128, .inl (fun _ => 0))), (q44, .inl (cI, 128, .inl (fun _ => 0))), (q53, .inl (cI, 128, .inl (fun _ => 0))), (q62, .inl (cI, 128, .inl (fun _ => 0)))] H := hP
  have hD : va_D A [(ob, .inr (8, [.ref q8, .ref q17, .ref q26, .ref q35, .ref q44, .ref q53, .ref q62, .null, .null, .null, .int 0, .int 0])), (q8, .inl (cB, 4096, .inl (fun _ => 0))), (q17, .inl (cI, 128, .inl (fun _ => 0))), (q26, .inl (cI, 128, .inl (fun _ => 0))), (q35, .inl (cI, 128, .inl (fun _ => 0))), (q44, .inl (cI, 128, .inl (fun _ => 0))), (q53, .inl (cI, 128, .inl (fun _ => 0))), (q62, .inl (cI, 128, .inl (fun _ => 0)))] := hD
  refine lv_aload_n hx hb dX6_init_67 rfl (lv_at hl 0 rfl) ?_
  refine lv_sipush (v := 128) hx hb dX6_init_68 (by decide) ?_
  refine mr_newa (ty := .int) (N' := 128) (a0 := (128, .inl (fun _ => 0))) hx hb (hts _ (List.mem_cons_of_mem _ (arI _ List.mem_cons_self))) rfl (fun C h => by cases h) hK hP hD hS hA (fun _ => rfl) (by decide) (by decide) (by decide) (Nat.le_of_ble_eq_true rfl) (Nat.le_of_ble_eq_true rfl) dX6_init_71 0 rfl (fun q71 H hP hD hS => ?_)
  have hP : va_P (dC, dI) srCl [(ob, .inr (8, [.ref q8, .ref q17, .ref q26, .ref q35, .ref q44, .ref q53, .ref q62, .null, .null, .null, .int 0, .int 0])), (q8, .inl (cB, 4096, .inl (fun _ => 0))), (q17, .inl (cI, 128, .inl (fun _ => 0))), (q26, .inl (cI, 128, .inl (fun _ => 0))), (q35, .inl (cI, 128, .inl (fun _ => 0))), (q44, .inl (cI, 128, .inl (fun _ => 0))), (q53, .inl (cI, 128, .inl (fun _ => 0))), (q62, .inl (cI, 128, .inl (fun _ => 0))), (q71, .inl (cI, 128, .inl (fun _ => 0)))] H := hP
  have hD : va_D A [(ob, .inr (8, [.ref q8, .ref q17, .ref q26, .ref q35, .ref q44, .ref q53, .ref q62, .null, .null, .null, .int 0, .int 0])), (q8, .inl (cB, 4096, .inl (fun _ => 0))), (q17, .inl (cI, 128, .inl (fun _ => 0))), (q26, .inl (cI, 128, .inl (fun _ => 0))), (q35, .inl (cI, 128, .inl (fun _ => 0))), (q44, .inl (cI, 128, .inl (fun _ => 0))), (q53, .inl (cI, 128, .inl (fun _ => 0))), (q62, .inl (cI, 128, .inl (fun _ => 0))), (q71, .inl (cI, 128, .inl (fun _ => 0)))] := hD
  refine va_putF (D := (dC, dI)) (ci := 8) (v := .ref q71) (ty := .array .int) (C := RX6) (T := TX6) (N := 12) hx hb hts (inX6 _) tyX6 tyX6_ok nmX6 hown hK hP hD hS 0 rfl rfl 7 (by decide) (hts _ (List.mem_cons_of_mem _ wf6_34)) (fun _ h9 => h9) rfl hnm rfl (by decide +kernel) rfl rfl (Nat.le_of_ble_eq_true rfl) dX6_init_73 (fun H locs hP hD hS => ?_)
  have hP : va_P (dC, dI) srCl [(ob, .inr (8, [.ref q8, .ref q17, .ref q26, .ref q35, .ref q44, .ref q53, .ref q62, .ref q71, .null, .null, .int 0, .int 0])), (q8, .inl (cB, 4096, .inl (fun _ => 0))), (q17, .inl (cI, 128, .inl (fun _ => 0))), (q26, .inl (cI, 128, .inl (fun _ => 0))), (q35, .inl (cI, 128, .inl (fun _ => 0))), (q44, .inl (cI, 128, .inl (fun _ => 0))), (q53, .inl (cI, 128, .inl (fun _ => 0))), (q62, .inl (cI, 128, .inl (fun _ => 0))), (q71, .inl (cI, 128, .inl (fun _ => 0)))] H := hP
  have hD : va_D A [(ob, .inr (8, [.ref q8, .ref q17, .ref q26, .ref q35, .ref q44, .ref q53, .ref q62, .ref q71, .null, .null, .int 0, .int 0])), (q8, .inl (cB, 4096, .inl (fun _ => 0))), (q17, .inl (cI, 128, .inl (fun _ => 0))), (q26, .inl (cI, 128, .inl (fun _ => 0))), (q35, .inl (cI, 128, .inl (fun _ => 0))), (q44, .inl (cI, 128, .inl (fun _ => 0))), (q53, .inl (cI, 128, .inl (fun _ => 0))), (q62, .inl (cI, 128, .inl (fun _ => 0))), (q71, .inl (cI, 128, .inl (fun _ => 0)))] := hD
  refine lv_aload_n hx hb dX6_init_76 rfl (lv_at hl 0 rfl) ?_
  refine lv_sipush (v := 128) hx hb dX6_init_77 (by decide) ?_
  refine mr_newa (ty := .boolean) (N' := 128) (a0 := (128, .inl (fun _ => 0))) hx hb (hts _ (List.mem_cons_of_mem _ (arZ _ List.mem_cons_self))) rfl (fun C h => by cases h) hK hP hD hS hA (fun _ => rfl) (by decide) (by decide) (by decide) (Nat.le_of_ble_eq_true rfl) (Nat.le_of_ble_eq_true rfl) dX6_init_80 3 rfl (fun q80 H hP hD hS => ?_)
  have hP : va_P (dC, dI) srCl [(ob, .inr (8, [.ref q8, .ref q17, .ref q26, .ref q35, .ref q44, .ref q53, .ref q62, .ref q71, .null, .null, .int 0, .int 0])), (q8, .inl (cB, 4096, .inl (fun _ => 0))), (q17, .inl (cI, 128, .inl (fun _ => 0))), (q26, .inl (cI, 128, .inl (fun _ => 0))), (q35, .inl (cI, 128, .inl (fun _ => 0))), (q44, .inl (cI, 128, .inl (fun _ => 0))), (q53, .inl (cI, 128, .inl (fun _ => 0))), (q62, .inl (cI, 128, .inl (fun _ => 0))), (q71, .inl (cI, 128, .inl (fun _ => 0))), (q80, .inl (cZ, 128, .inl (fun _ => 0)))] H := hP
  have hD : va_D A [(ob, .inr (8, [.ref q8, .ref q17, .ref q26, .ref q35, .ref q44, .ref q53, .ref q62, .ref q71, .null, .null, .int 0, .int 0])), (q8, .inl (cB, 4096, .inl (fun _ => 0))), (q17, .inl (cI, 128, .inl (fun _ => 0))), (q26, .inl (cI, 128, .inl (fun _ => 0))), (q35, .inl (cI, 128, .inl (fun _ => 0))), (q44, .inl (cI, 128, .inl (fun _ => 0))), (q53, .inl (cI, 128, .inl (fun _ => 0))), (q62, .inl (cI, 128, .inl (fun _ => 0))), (q71, .inl (cI, 128, .inl (fun _ => 0))), (q80, .inl (cZ, 128, .inl (fun _ => 0)))] := hD
  refine va_putF (D := (dC, dI)) (ci := 8) (v := .ref q80) (ty := .array .boolean) (C := RX6) (T := TX6) (N := 12) hx hb hts (inX6 _) tyX6 tyX6_ok nmX6 hown hK hP hD hS 0 rfl rfl 8 (by decide) (hts _ (List.mem_cons_of_mem _ wf6_37)) (fun _ h9 => h9) rfl hnm rfl (by decide +kernel) rfl rfl (Nat.le_of_ble_eq_true rfl) dX6_init_82 (fun H locs hP hD hS => ?_)
  have hP : va_P (dC, dI) srCl [(ob, .inr (8, [.ref q8, .ref q17, .ref q26, .ref q35, .ref q44, .ref q53, .ref q62, .ref q71, .ref q80, .null, .int 0, .int 0])), (q8, .inl (cB, 4096, .inl (fun _ => 0))), (q17, .inl (cI, 128, .inl (fun _ => 0))), (q26, .inl (cI, 128, .inl (fun _ => 0))), (q35, .inl (cI, 128, .inl (fun _ => 0))), (q44, .inl (cI, 128, .inl (fun _ => 0))), (q53, .inl (cI, 128, .inl (fun _ => 0))), (q62, .inl (cI, 128, .inl (fun _ => 0))), (q71, .inl (cI, 128, .inl (fun _ => 0))), (q80, .inl (cZ, 128, .inl (fun _ => 0)))] H := hP
  have hD : va_D A [(ob, .inr (8, [.ref q8, .ref q17, .ref q26, .ref q35, .ref q44, .ref q53, .ref q62, .ref q71, .ref q80, .null, .int 0, .int 0])), (q8, .inl (cB, 4096, .inl (fun _ => 0))), (q17, .inl (cI, 128, .inl (fun _ => 0))), (q26, .inl (cI, 128, .inl (fun _ => 0))), (q35, .inl (cI, 128, .inl (fun _ => 0))), (q44, .inl (cI, 128, .inl (fun _ => 0))), (q53, .inl (cI, 128, .inl (fun _ => 0))), (q62, .inl (cI, 128, .inl (fun _ => 0))), (q71, .inl (cI, 128, .inl (fun _ => 0))), (q80, .inl (cZ, 128, .inl (fun _ => 0)))] := hD
  refine lv_aload_n hx hb dX6_init_85 rfl (lv_at hl 0 rfl) ?_
  refine lv_sipush (v := 128) hx hb dX6_init_86 (by decide) ?_
  refine mr_newa (ty := .boolean) (N' := 128) (a0 := (128, .inl (fun _ => 0))) hx hb (hts _ (List.mem_cons_of_mem _ (arZ _ List.mem_cons_self))) rfl (fun C h => by cases h) hK hP hD hS hA (fun _ => rfl) (by decide) (by decide) (by decide) (Nat.le_of_ble_eq_true rfl) (Nat.le_of_ble_eq_true rfl) dX6_init_89 3 rfl (fun q89 H hP hD hS => ?_)
  have hP : va_P (dC, dI) srCl [(ob, .inr (8, [.ref q8, .ref q17, .ref q26, .ref q35, .ref q44, .ref q53, .ref q62, .ref q71, .ref q80, .null, .int 0, .int 0])), (q8, .inl (cB, 4096, .inl (fun _ => 0))), (q17, .inl (cI, 128, .inl (fun _ => 0))), (q26, .inl (cI, 128, .inl (fun _ => 0))), (q35, .inl (cI, 128, .inl (fun _ => 0))), (q44, .inl (cI, 128, .inl (fun _ => 0))), (q53, .inl (cI, 128, .inl (fun _ => 0))), (q62, .inl (cI, 128, .inl (fun _ => 0))), (q71, .inl (cI, 128, .inl (fun _ => 0))), (q80, .inl (cZ, 128, .inl (fun _ => 0))), (q89, .inl (cZ, 128, .inl (fun _ => 0)))] H := hP
  have hD : va_D A [(ob, .inr (8, [.ref q8, .ref q17, .ref q26, .ref q35, .ref q44, .ref q53, .ref q62, .ref q71, .ref q80, .null, .int 0, .int 0])), (q8, .inl (cB, 4096, .inl (fun _ => 0))), (q17, .inl (cI, 128, .inl (fun _ => 0))), (q26, .inl (cI, 128, .inl (fun _ => 0))), (q35, .inl (cI, 128, .inl (fun _ => 0))), (q44, .inl (cI, 128, .inl (fun _ => 0))), (q53, .inl (cI, 128, .inl (fun _ => 0))), (q62, .inl (cI, 128, .inl (fun _ => 0))), (q71, .inl (cI, 128, .inl (fun _ => 0))), (q80, .inl (cZ, 128, .inl (fun _ => 0))), (q89, .inl (cZ, 128, .inl (fun _ => 0)))] := hD
  refine va_putF (D := (dC, dI)) (ci := 8) (v := .ref q89) (ty := .array .boolean) (C := RX6) (T := TX6) (N := 12) hx hb hts (inX6 _) tyX6 tyX6_ok nmX6 hown hK hP hD hS 0 rfl rfl 9 (by decide) (hts _ (List.mem_cons_of_mem _ wf6_41)) (fun _ h9 => h9) rfl hnm rfl (by decide +kernel) rfl rfl (Nat.le_of_ble_eq_true rfl) dX6_init_91 (fun H locs hP hD hS => ?_)
  have hP : va_P (dC, dI) srCl [(ob, .inr (8, [.ref q8, .ref q17, .ref q26, .ref q35, .ref q44, .ref q53, .ref q62, .ref q71, .ref q80, .ref q89, .int 0, .int 0])), (q8, .inl (cB, 4096, .inl (fun _ => 0))), (q17, .inl (cI, 128, .inl (fun _ => 0))), (q26, .inl (cI, 128, .inl (fun _ => 0))), (q35, .inl (cI, 128, .inl (fun _ => 0))), (q44, .inl (cI, 128, .inl (fun _ => 0))), (q53, .inl (cI, 128, .inl (fun _ => 0))), (q62, .inl (cI, 128, .inl (fun _ => 0))), (q71, .inl (cI, 128, .inl (fun _ => 0))), (q80, .inl (cZ, 128, .inl (fun _ => 0))), (q89, .inl (cZ, 128, .inl (fun _ => 0)))] H := hP
  have hD : va_D A [(ob, .inr (8, [.ref q8, .ref q17, .ref q26, .ref q35, .ref q44, .ref q53, .ref q62, .ref q71, .ref q80, .ref q89, .int 0, .int 0])), (q8, .inl (cB, 4096, .inl (fun _ => 0))), (q17, .inl (cI, 128, .inl (fun _ => 0))), (q26, .inl (cI, 128, .inl (fun _ => 0))), (q35, .inl (cI, 128, .inl (fun _ => 0))), (q44, .inl (cI, 128, .inl (fun _ => 0))), (q53, .inl (cI, 128, .inl (fun _ => 0))), (q62, .inl (cI, 128, .inl (fun _ => 0))), (q71, .inl (cI, 128, .inl (fun _ => 0))), (q80, .inl (cZ, 128, .inl (fun _ => 0))), (q89, .inl (cZ, 128, .inl (fun _ => 0)))] := hD
  refine lv_aload_n hx hb dX6_init_94 rfl (lv_at hl 0 rfl) ?_
  refine lv_iconst (v := 0) hx hb dX6_init_95 (by decide) ?_
  refine va_put (D := (dC, dI)) (ci := 8) (v := .int 0) (ty := .int) (C := RX6) (T := TX6) (N := 12) hx hb hts (inX6 _) tyX6 tyX6_ok nmX6 hown hK hP hD hS 0 rfl rfl 10 (by decide) (hts _ (List.mem_cons_of_mem _ wf6_44)) (fun _ h9 => h9) rfl (by decide +kernel) rfl rfl (Nat.le_of_ble_eq_true rfl) dX6_init_96 (fun H locs hP hD hS => ?_)
  have hP : va_P (dC, dI) srCl [(ob, .inr (8, [.ref q8, .ref q17, .ref q26, .ref q35, .ref q44, .ref q53, .ref q62, .ref q71, .ref q80, .ref q89, .int 0, .int 0])), (q8, .inl (cB, 4096, .inl (fun _ => 0))), (q17, .inl (cI, 128, .inl (fun _ => 0))), (q26, .inl (cI, 128, .inl (fun _ => 0))), (q35, .inl (cI, 128, .inl (fun _ => 0))), (q44, .inl (cI, 128, .inl (fun _ => 0))), (q53, .inl (cI, 128, .inl (fun _ => 0))), (q62, .inl (cI, 128, .inl (fun _ => 0))), (q71, .inl (cI, 128, .inl (fun _ => 0))), (q80, .inl (cZ, 128, .inl (fun _ => 0))), (q89, .inl (cZ, 128, .inl (fun _ => 0)))] H := hP
  have hD : va_D A [(ob, .inr (8, [.ref q8, .ref q17, .ref q26, .ref q35, .ref q44, .ref q53, .ref q62, .ref q71, .ref q80, .ref q89, .int 0, .int 0])), (q8, .inl (cB, 4096, .inl (fun _ => 0))), (q17, .inl (cI, 128, .inl (fun _ => 0))), (q26, .inl (cI, 128, .inl (fun _ => 0))), (q35, .inl (cI, 128, .inl (fun _ => 0))), (q44, .inl (cI, 128, .inl (fun _ => 0))), (q53, .inl (cI, 128, .inl (fun _ => 0))), (q62, .inl (cI, 128, .inl (fun _ => 0))), (q71, .inl (cI, 128, .inl (fun _ => 0))), (q80, .inl (cZ, 128, .inl (fun _ => 0))), (q89, .inl (cZ, 128, .inl (fun _ => 0)))] := hD
  refine lv_aload_n hx hb dX6_init_99 rfl (lv_at hl 0 rfl) ?_
  refine lv_iconst (v := 0) hx hb dX6_init_100 (by decide) ?_
  refine va_put (D := (dC, dI)) (ci := 8) (v := .int 0) (ty := .int) (C := RX6) (T := TX6) (N := 12) hx hb hts (inX6 _) tyX6 tyX6_ok nmX6 hown hK hP hD hS 0 rfl rfl 11 (by decide) (hts _ (List.mem_cons_of_mem _ wf6_48)) (fun _ h9 => h9) rfl (by decide +kernel) rfl rfl (Nat.le_of_ble_eq_true rfl) dX6_init_101 (fun H locs hP hD hS => ?_)
  have hP : va_P (dC, dI) srCl [(ob, .inr (8, [.ref q8, .ref q17, .ref q26, .ref q35, .ref q44, .ref q53, .ref q62, .ref q71, .ref q80, .ref q89, .int 0, .int 0])), (q8, .inl (cB, 4096, .inl (fun _ => 0))), (q17, .inl (cI, 128, .inl (fun _ => 0))), (q26, .inl (cI, 128, .inl (fun _ => 0))), (q35, .inl (cI, 128, .inl (fun _ => 0))), (q44, .inl (cI, 128, .inl (fun _ => 0))), (q53, .inl (cI, 128, .inl (fun _ => 0))), (q62, .inl (cI, 128, .inl (fun _ => 0))), (q71, .inl (cI, 128, .inl (fun _ => 0))), (q80, .inl (cZ, 128, .inl (fun _ => 0))), (q89, .inl (cZ, 128, .inl (fun _ => 0)))] H := hP
  have hD : va_D A [(ob, .inr (8, [.ref q8, .ref q17, .ref q26, .ref q35, .ref q44, .ref q53, .ref q62, .ref q71, .ref q80, .ref q89, .int 0, .int 0])), (q8, .inl (cB, 4096, .inl (fun _ => 0))), (q17, .inl (cI, 128, .inl (fun _ => 0))), (q26, .inl (cI, 128, .inl (fun _ => 0))), (q35, .inl (cI, 128, .inl (fun _ => 0))), (q44, .inl (cI, 128, .inl (fun _ => 0))), (q53, .inl (cI, 128, .inl (fun _ => 0))), (q62, .inl (cI, 128, .inl (fun _ => 0))), (q71, .inl (cI, 128, .inl (fun _ => 0))), (q80, .inl (cZ, 128, .inl (fun _ => 0))), (q89, .inl (cZ, 128, .inl (fun _ => 0)))] := hD
  refine W.widen (k := 10) (n := 5248) (Nat.le_of_ble_eq_true rfl) (Nat.le_of_ble_eq_true rfl) ?_
  subst hQ0
  exact W.vret hx hb hr (fun t ht hW => ⟨⟨(q8, q17, q26, q35, q44, q53, q62, q71, q80, q89), rfl, trivial, by rw [ht]; exact hP, va_K.moved hW.alike hK, hD⟩, hS.F ht⟩) hS.2.2 dX6_init_104
set_option maxHeartbeats 4000000 in
set_option maxRecDepth 100000 in
theorem kX4_init (l : Launch) (htr : l.stackTraces = false) (dC : Nat → ClassId) (dI : Nat → Nat → Nat) (adK adV : Nat → Nat) (cI cB cJ cZ cQ : ClassId) (ob : Nat) (a0 : Nat) (a1 : Nat) (a2 : Nat) (sz : Nat) : Met l yX4_init wsX4_init rmX4_init (pcW (sr_Z adK adV) (dC, dI) srCl [(cI, .int), (cB, .byte), (cJ, .long), (cZ, .boolean), (cQ, .object "SchemaReader$Schema")] [.ref ob, .ref a0, .ref a1, .ref a2] [(ob, .inr (6, [.null, .null, .null, .int 0, .int 0]))] sz) (va_Qv (fun _ => True) (pcB (dC, dI) srCl [(cI, .int), (cB, .byte), (cJ, .long), (cZ, .boolean), (cQ, .object "SchemaReader$Schema")] (fun u : Unit => [(ob, .inr (6, [.ref a0, .ref a1, .ref a2, .int 0, .int (-1)]))]) (va_A [(ob, .inr (6, [.null, .null, .null, .int 0, .int 0]))] sz)) (va_A [(ob, .inr (6, [.null, .null, .null, .int 0, .int 0]))] sz)) 0 0 (va_A [(ob, .inr (6, [.null, .null, .null, .int 0, .int 0]))] sz) := by
  refine Met.ofW (cc := cX4_init) (maxL := 4) (ret := none) (by decide) rfl ?_
  intro p e s m args below meth c s₁ B hml hv
  obtain ⟨rfl, hsz, hP, hK, hD0, hz0⟩ := hv
  have hx := B.exec
  have hb := B.bytes
  have hr := B.returns
  have hts := atoms_spec (ws := wsX4_init) B.pre
  have hown : s.vm.findClass RX4 = some m.cls := findClass_of_methodNamed B.named
  have hnm : meth.name = "<init>" := (name_of_methodNamed B.named B.method).1
  subst hsz
  have hD := hD0.self (sz := s.heap.size)
  generalize hAe : va_A [(ob, .inr (6, [.null, .null, .null, .int 0, .int 0]))] s.heap.size = A at hD hz0 ⊢
  have hA : ∀ q : Nat, s.heap.size ≤ q → A q := fun q h => by rw [← hAe]; exact Or.inr h
  have hS : va_S A s.heap s.heap [] := va_S.rf
  generalize hQ0 : MQ below (va_Qv (fun _ => True) (pcB (dC, dI) srCl [(cI, .int), (cB, .byte), (cJ, .long), (cZ, .boolean), (cQ, .object "SchemaReader$Schema")] (fun u : Unit => [(ob, .inr (6, [.ref a0, .ref a1, .ref a2, .int 0, .int (-1)]))]) A) A) [.ref ob, .ref a0, .ref a1, .ref a2].toArray s 0 0 A = Q0
  have hl := lv_entry [.ref ob, .ref a0, .ref a1, .ref a2] (n := 4) (Nat.le_of_ble_eq_true rfl)
  rw [lg_entry_eq]
  generalize (lg_sl [.ref ob, .ref a0, .ref a1, .ref a2] ++ List.replicate (4 - (lg_sl [.ref ob, .ref a0, .ref a1, .ref a2]).length) Slot.unset).toArray = ls at hl ⊢
  have hl : lv_has ls 4 [(0, .ref ob), (1, .ref a0), (2, .ref a1), (3, .ref a2)] := hl
  refine lv_aload_n hx hb dX4_init_0 rfl (lv_at hl 0 rfl) ?_
  refine W.objInit hx hb hown (hts _ (List.mem_cons_of_mem _ (oi4_3 _ (List.mem_of_getElem? (i := 0) rfl)))) (hts _ (List.mem_cons_of_mem _ (oi4_3 _ (List.mem_of_getElem? (i := 1) rfl)))) (hts _ (List.mem_cons_of_mem _ (oi4_3 _ (List.mem_of_getElem? (i := 2) rfl)))) rfl (by rw [hml]; exact hl.1) rfl dX4_init_1 (Nat.le_of_ble_eq_true rfl) (Nat.le_of_ble_eq_true rfl) ?_
  refine lv_aload_n hx hb dX4_init_4 rfl (lv_at hl 0 rfl) ?_
  refine lv_iconst (v := 0) hx hb dX4_init_5 (by decide) ?_
  refine va_put (D := (dC, dI)) (ci := 6) (v := .int 0) (ty := .int) (C := RX4) (T := TX4) (N := 5) hx hb hts (inX4 _) tyX4 tyX4_ok nmX4 hown hK hP hD hS 0 rfl rfl 3 (by decide) (hts _ (List.mem_cons_of_mem _ wf4_9)) (fun _ h9 => h9) rfl (by decide +kernel) rfl rfl (Nat.le_of_ble_eq_true rfl) dX4_init_6 (fun H locs hP hD hS => ?_)
  have hP : va_P (dC, dI) srCl [(ob, .inr (6, [.null, .null, .null, .int 0, .int 0]))] H := hP
  have hD : va_D A [(ob, .inr (6, [.null, .null, .null, .int 0, .int 0]))] := hD
  refine lv_aload_n hx hb dX4_init_9 rfl (lv_at hl 0 rfl) ?_
  refine lv_iconst (v := -1) hx hb dX4_init_10 (by decide) ?_
  refine va_put (D := (dC, dI)) (ci := 6) (v := .int (-1)) (ty := .int) (C := RX4) (T := TX4) (N := 5) hx hb hts (inX4 _) tyX4 tyX4_ok nmX4 hown hK hP hD hS 0 rfl rfl 4 (by decide) (hts _ (List.mem_cons_of_mem _ wf4_15)) (fun _ h9 => h9) rfl (by decide +kernel) rfl rfl (Nat.le_of_ble_eq_true rfl) dX4_init_11 (fun H locs hP hD hS => ?_)
  have hP : va_P (dC, dI) srCl [(ob, .inr (6, [.null, .null, .null, .int 0, .int (-1)]))] H := hP
  have hD : va_D A [(ob, .inr (6, [.null, .null, .null, .int 0, .int (-1)]))] := hD
  refine lv_aload_n hx hb dX4_init_14 rfl (lv_at hl 0 rfl) ?_
  refine lv_aload_n hx hb dX4_init_15 rfl (lv_at hl 1 rfl) ?_
  refine va_putF (D := (dC, dI)) (ci := 6) (v := .ref a0) (ty := .object "SchemaReader$Text") (C := RX4) (T := TX4) (N := 5) hx hb hts (inX4 _) tyX4 tyX4_ok nmX4 hown hK hP hD hS 0 rfl rfl 0 (by decide) (hts _ (List.mem_cons_of_mem _ wf4_18)) (fun _ h9 => h9) rfl hnm rfl (by decide +kernel) rfl rfl (Nat.le_of_ble_eq_true rfl) dX4_init_16 (fun H locs hP hD hS => ?_)
  have hP : va_P (dC, dI) srCl [(ob, .inr (6, [.ref a0, .null, .null, .int 0, .int (-1)]))] H := hP
  have hD : va_D A [(ob, .inr (6, [.ref a0, .null, .null, .int 0, .int (-1)]))] := hD
  refine lv_aload_n hx hb dX4_init_19 rfl (lv_at hl 0 rfl) ?_
  refine lv_aload_n hx hb dX4_init_20 rfl (lv_at hl 2 rfl) ?_
  refine va_putF (D := (dC, dI)) (ci := 6) (v := .ref a1) (ty := .object "SchemaReader$Schema") (C := RX4) (T := TX4) (N := 5) hx hb hts (inX4 _) tyX4 tyX4_ok nmX4 hown hK hP hD hS 0 rfl rfl 1 (by decide) (hts _ (List.mem_cons_of_mem _ wf4_22)) (fun _ h9 => h9) rfl hnm rfl (by decide +kernel) rfl rfl (Nat.le_of_ble_eq_true rfl) dX4_init_21 (fun H locs hP hD hS => ?_)
  have hP : va_P (dC, dI) srCl [(ob, .inr (6, [.ref a0, .ref a1, .null, .int 0, .int (-1)]))] H := hP
  have hD : va_D A [(ob, .inr (6, [.ref a0, .ref a1, .null, .int 0, .int (-1)]))] := hD
  refine lv_aload_n hx hb dX4_init_24 rfl (lv_at hl 0 rfl) ?_
  refine lv_aload_n hx hb dX4_init_25 rfl (lv_at hl 3 rfl) ?_
  refine va_putF (D := (dC, dI)) (ci := 6) (v := .ref a2) (ty := .object "SchemaReader$Couples") (C := RX4) (T := TX4) (N := 5) hx hb hts (inX4 _) tyX4 tyX4_ok nmX4 hown hK hP hD hS 0 rfl rfl 2 (by decide) (hts _ (List.mem_cons_of_mem _ wf4_26)) (fun _ h9 => h9) rfl hnm rfl (by decide +kernel) rfl rfl (Nat.le_of_ble_eq_true rfl) dX4_init_26 (fun H locs hP hD hS => ?_)
  have hP : va_P (dC, dI) srCl [(ob, .inr (6, [.ref a0, .ref a1, .ref a2, .int 0, .int (-1)]))] H := hP
  have hD : va_D A [(ob, .inr (6, [.ref a0, .ref a1, .ref a2, .int 0, .int (-1)]))] := hD
  refine W.widen (k := 0) (n := 0) (Nat.le_of_ble_eq_true rfl) (Nat.le_of_ble_eq_true rfl) ?_
  subst hQ0
  exact W.vret hx hb hr (fun t ht hW => ⟨⟨(), rfl, trivial, by rw [ht]; exact hP, va_K.moved hW.alike hK, hD⟩, hS.F ht⟩) hS.2.2 dX4_init_29
set_option maxHeartbeats 4000000 in
set_option maxRecDepth 100000 in
theorem kX0_init (l : Launch) (htr : l.stackTraces = false) (dC : Nat → ClassId) (dI : Nat → Nat → Nat) (adK adV : Nat → Nat) (cI cB cJ cZ cQ : ClassId) (ob : Nat) (a0 : Nat) (a1 : Nat) (sz : Nat) : Met l yX0_init wsX0_init rmX0_init (pcW (sr_Z adK adV) (dC, dI) srCl [(cI, .int), (cB, .byte), (cJ, .long), (cZ, .boolean), (cQ, .object "SchemaReader$Schema")] [.ref ob, .ref a0, .ref a1] [(ob, .inr (4, [.null, .null]))] sz) (va_Qv (fun _ => True) (pcB (dC, dI) srCl [(cI, .int), (cB, .byte), (cJ, .long), (cZ, .boolean), (cQ, .object "SchemaReader$Schema")] (fun u : Unit => [(ob, .inr (4, [.ref a0, .ref a1]))]) (va_A [(ob, .inr (4, [.null, .null]))] sz)) (va_A [(ob, .inr (4, [.null, .null]))] sz)) 0 0 (va_A [(ob, .inr (4, [.null, .null]))] sz) := by
  refine Met.ofW (cc := cX0_init) (maxL := 3) (ret := none) (by decide) rfl ?_
  intro p e s m args below meth c s₁ B hml hv
  obtain ⟨rfl, hsz, hP, hK, hD0, hz0⟩ := hv
  have hx := B.exec
  have hb := B.bytes
  have hr := B.returns
  have hts := atoms_spec (ws := wsX0_init) B.pre
  have hown : s.vm.findClass RX0 = some m.cls := findClass_of_methodNamed B.named
  have hnm : meth.name = "<init>" := (name_of_methodNamed B.named B.method).1
  subst hsz
  have hD := hD0.self (sz := s.heap.size)
  generalize hAe : va_A [(ob, .inr (4, [.null, .null]))] s.heap.size = A at hD hz0 ⊢
  have hA : ∀ q : Nat, s.heap.size ≤ q → A q := fun q h => by rw [← hAe]; exact Or.inr h
  have hS : va_S A s.heap s.heap [] := va_S.rf
  generalize hQ0 : MQ below (va_Qv (fun _ => True) (pcB (dC, dI) srCl [(cI, .int), (cB, .byte), (cJ, .long), (cZ, .boolean), (cQ, .object "SchemaReader$Schema")] (fun u : Unit => [(ob, .inr (4, [.ref a0, .ref a1]))]) A) A) [.ref ob, .ref a0, .ref a1].toArray s 0 0 A = Q0
  have hl := lv_entry [.ref ob, .ref a0, .ref a1] (n := 3) (Nat.le_of_ble_eq_true rfl)
  rw [lg_entry_eq]
  generalize (lg_sl [.ref ob, .ref a0, .ref a1] ++ List.replicate (3 - (lg_sl [.ref ob, .ref a0, .ref a1]).length) Slot.unset).toArray = ls at hl ⊢
  have hl : lv_has ls 3 [(0, .ref ob), (1, .ref a0), (2, .ref a1)] := hl
  refine lv_aload_n hx hb dX0_init_0 rfl (lv_at hl 0 rfl) ?_
  refine W.objInit hx hb hown (hts _ (List.mem_cons_of_mem _ (oi0_3 _ (List.mem_of_getElem? (i := 0) rfl)))) (hts _ (List.mem_cons_of_mem _ (oi0_3 _ (List.mem_of_getElem? (i := 1) rfl)))) (hts _ (List.mem_cons_of_mem _ (oi0_3 _ (List.mem_of_getElem? (i := 2) rfl)))) rfl (by rw [hml]; exact hl.1) rfl dX0_init_1 (Nat.le_of_ble_eq_true rfl) (Nat.le_of_ble_eq_true rfl) ?_
  refine lv_aload_n hx hb dX0_init_4 rfl (lv_at hl 0 rfl) ?_
  refine lv_aload_n hx hb dX0_init_5 rfl (lv_at hl 1 rfl) ?_
  refine va_putF (D := (dC, dI)) (ci := 4) (v := .ref a0) (ty := .object "SchemaReader$Text") (C := RX0) (T := TX0) (N := 2) hx hb hts (inX0 _) tyX0 tyX0_ok nmX0 hown hK hP hD hS 0 rfl rfl 0 (by decide) (hts _ (List.mem_cons_of_mem _ wf0_9)) (fun _ h9 => h9) rfl hnm rfl (by decide +kernel) rfl rfl (Nat.le_of_ble_eq_true rfl) dX0_init_6 (fun H locs hP hD hS => ?_)
  have hP : va_P (dC, dI) srCl [(ob, .inr (4, [.ref a0, .null]))] H := hP
  have hD : va_D A [(ob, .inr (4, [.ref a0, .null]))] := hD
  refine lv_aload_n hx hb dX0_init_9 rfl (lv_at hl 0 rfl) ?_
  refine lv_aload_n hx hb dX0_init_10 rfl (lv_at hl 2 rfl) ?_
  refine va_putF (D := (dC, dI)) (ci := 4) (v := .ref a1) (ty := .object "SchemaReader$Schema") (C := RX0) (T := TX0) (N := 2) hx hb hts (inX0 _) tyX0 tyX0_ok nmX0 hown hK hP hD hS 0 rfl rfl 1 (by decide) (hts _ (List.mem_cons_of_mem _ wf0_15)) (fun _ h9 => h9) rfl hnm rfl (by decide +kernel) rfl rfl (Nat.le_of_ble_eq_true rfl) dX0_init_11 (fun H locs hP hD hS => ?_)
  have hP : va_P (dC, dI) srCl [(ob, .inr (4, [.ref a0, .ref a1]))] H := hP
  have hD : va_D A [(ob, .inr (4, [.ref a0, .ref a1]))] := hD
  refine W.widen (k := 0) (n := 0) (Nat.le_of_ble_eq_true rfl) (Nat.le_of_ble_eq_true rfl) ?_
  subst hQ0
  exact W.vret hx hb hr (fun t ht hW => ⟨⟨(), rfl, trivial, by rw [ht]; exact hP, va_K.moved hW.alike hK, hD⟩, hS.F ht⟩) hS.2.2 dX0_init_14
set_option maxHeartbeats 4000000 in
set_option maxRecDepth 100000 in
theorem kX5_init (l : Launch) (htr : l.stackTraces = false) (dC : Nat → ClassId) (dI : Nat → Nat → Nat) (adK adV : Nat → Nat) (cI cB cJ cZ cQ : ClassId) (ob : Nat) (a0 : Nat) (a1 : Nat) (a2 : Nat) (sz : Nat) : Met l yX5_init wsX5_init rmX5_init (pcW (sr_Z adK adV) (dC, dI) srCl [(cI, .int), (cB, .byte), (cJ, .long), (cZ, .boolean), (cQ, .object "SchemaReader$Schema")] [.ref ob, .ref a0, .ref a1, .ref a2] [(ob, .inr (7, [.null, .null, .null]))] sz) (va_Qv (fun _ => True) (pcB (dC, dI) srCl [(cI, .int), (cB, .byte), (cJ, .long), (cZ, .boolean), (cQ, .object "SchemaReader$Schema")] (fun u : Unit => [(ob, .inr (7, [.ref a0, .ref a1, .ref a2]))]) (va_A [(ob, .inr (7, [.null, .null, .null]))] sz)) (va_A [(ob, .inr (7, [.null, .null, .null]))] sz)) 0 0 (va_A [(ob, .inr (7, [.null, .null, .null]))] sz) := by
  refine Met.ofW (cc := cX5_init) (maxL := 4) (ret := none) (by decide) rfl ?_
  intro p e s m args below meth c s₁ B hml hv
  obtain ⟨rfl, hsz, hP, hK, hD0, hz0⟩ := hv
  have hx := B.exec
  have hb := B.bytes
  have hr := B.returns
  have hts := atoms_spec (ws := wsX5_init) B.pre
  have hown : s.vm.findClass RX5 = some m.cls := findClass_of_methodNamed B.named
  have hnm : meth.name = "<init>" := (name_of_methodNamed B.named B.method).1
  subst hsz
  have hD := hD0.self (sz := s.heap.size)
  generalize hAe : va_A [(ob, .inr (7, [.null, .null, .null]))] s.heap.size = A at hD hz0 ⊢
  have hA : ∀ q : Nat, s.heap.size ≤ q → A q := fun q h => by rw [← hAe]; exact Or.inr h
  have hS : va_S A s.heap s.heap [] := va_S.rf
  generalize hQ0 : MQ below (va_Qv (fun _ => True) (pcB (dC, dI) srCl [(cI, .int), (cB, .byte), (cJ, .long), (cZ, .boolean), (cQ, .object "SchemaReader$Schema")] (fun u : Unit => [(ob, .inr (7, [.ref a0, .ref a1, .ref a2]))]) A) A) [.ref ob, .ref a0, .ref a1, .ref a2].toArray s 0 0 A = Q0
  have hl := lv_entry [.ref ob, .ref a0, .ref a1, .ref a2] (n := 4) (Nat.le_of_ble_eq_true rfl)
  rw [lg_entry_eq]
  generalize (lg_sl [.ref ob, .ref a0, .ref a1, .ref a2] ++ List.replicate (4 - (lg_sl [.ref ob, .ref a0, .ref a1, .ref a2]).length) Slot.unset).toArray = ls at hl ⊢
  have hl : lv_has ls 4 [(0, .ref ob), (1, .ref a0), (2, .ref a1), (3, .ref a2)] := hl
  refine lv_aload_n hx hb dX5_init_0 rfl (lv_at hl 0 rfl) ?_
  refine W.objInit hx hb hown (hts _ (List.mem_cons_of_mem _ (oi5_5 _ (List.mem_of_getElem? (i := 0) rfl)))) (hts _ (List.mem_cons_of_mem _ (oi5_5 _ (List.mem_of_getElem? (i := 1) rfl)))) (hts _ (List.mem_cons_of_mem _ (oi5_5 _ (List.mem_of_getElem? (i := 2) rfl)))) rfl (by rw [hml]; exact hl.1) rfl dX5_init_1 (Nat.le_of_ble_eq_true rfl) (Nat.le_of_ble_eq_true rfl) ?_
  refine lv_aload_n hx hb dX5_init_4 rfl (lv_at hl 0 rfl) ?_
  refine lv_aload_n hx hb dX5_init_5 rfl (lv_at hl 1 rfl) ?_
  refine va_putF (D := (dC, dI)) (ci := 7) (v := .ref a0) (ty := .object "SchemaReader$Schema") (C := RX5) (T := TX5) (N := 3) hx hb hts (inX5 _) tyX5 tyX5_ok nmX5 hown hK hP hD hS 0 rfl rfl 0 (by decide) (hts _ (List.mem_cons_of_mem _ wf5_11)) (fun _ h9 => h9) rfl hnm rfl (by decide +kernel) rfl rfl (Nat.le_of_ble_eq_true rfl) dX5_init_6 (fun H locs hP hD hS => ?_)
  have hP : va_P (dC, dI) srCl [(ob, .inr (7, [.ref a0, .null, .null]))] H := hP
  have hD : va_D A [(ob, .inr (7, [.ref a0, .null, .null]))] := hD
  refine lv_aload_n hx hb dX5_init_9 rfl (lv_at hl 0 rfl) ?_
  refine lv_aload_n hx hb dX5_init_10 rfl (lv_at hl 2 rfl) ?_
  refine va_putF (D := (dC, dI)) (ci := 7) (v := .ref a1) (ty := .object "SchemaReader$Schema") (C := RX5) (T := TX5) (N := 3) hx hb hts (inX5 _) tyX5 tyX5_ok nmX5 hown hK hP hD hS 0 rfl rfl 1 (by decide) (hts _ (List.mem_cons_of_mem _ wf5_17)) (fun _ h9 => h9) rfl hnm rfl (by decide +kernel) rfl rfl (Nat.le_of_ble_eq_true rfl) dX5_init_11 (fun H locs hP hD hS => ?_)
  have hP : va_P (dC, dI) srCl [(ob, .inr (7, [.ref a0, .ref a1, .null]))] H := hP
  have hD : va_D A [(ob, .inr (7, [.ref a0, .ref a1, .null]))] := hD
  refine lv_aload_n hx hb dX5_init_14 rfl (lv_at hl 0 rfl) ?_
  refine lv_aload_n hx hb dX5_init_15 rfl (lv_at hl 3 rfl) ?_
  refine va_putF (D := (dC, dI)) (ci := 7) (v := .ref a2) (ty := .object "SchemaReader$Couples") (C := RX5) (T := TX5) (N := 3) hx hb hts (inX5 _) tyX5 tyX5_ok nmX5 hown hK hP hD hS 0 rfl rfl 2 (by decide) (hts _ (List.mem_cons_of_mem _ wf5_20)) (fun _ h9 => h9) rfl hnm rfl (by decide +kernel) rfl rfl (Nat.le_of_ble_eq_true rfl) dX5_init_16 (fun H locs hP hD hS => ?_)
  have hP : va_P (dC, dI) srCl [(ob, .inr (7, [.ref a0, .ref a1, .ref a2]))] H := hP
  have hD : va_D A [(ob, .inr (7, [.ref a0, .ref a1, .ref a2]))] := hD
  refine W.widen (k := 0) (n := 0) (Nat.le_of_ble_eq_true rfl) (Nat.le_of_ble_eq_true rfl) ?_
  subst hQ0
  exact W.vret hx hb hr (fun t ht hW => ⟨⟨(), rfl, trivial, by rw [ht]; exact hP, va_K.moved hW.alike hK, hD⟩, hS.F ht⟩) hS.2.2 dX5_init_19
end
section
abbrev cX8_entry : ByteArray := prog_1_method_15_code
def yX8_entry : MethodName := ⟨RX8, "entry", "([II)I"⟩
def wsX8_entry : List Cond := .code yX8_entry cX8_entry 2 (some .int) :: sr_G
def nq_cX8_entry : Nat := 0xac020400a72e1b2a0900a2be2a1b0f009b1b
theorem kq_cX8_entry : qOk cX8_entry nq_cX8_entry 18 = true := by decide +kernel
theorem dX8_entry_0 : decode cX8_entry 0 = .ok (.iload_n 1, 1) := qd_27 kq_cX8_entry (by decide +kernel)
theorem dX8_entry_1 : decode cX8_entry 1 = .ok (.ifCond .lt 15, 3) := qd_155 kq_cX8_entry (by decide +kernel)
theorem dX8_entry_4 : decode cX8_entry 4 = .ok (.iload_n 1, 1) := qd_27 kq_cX8_entry (by decide +kernel)
theorem dX8_entry_5 : decode cX8_entry 5 = .ok (.aload_n 0, 1) := qd_42 kq_cX8_entry (by decide +kernel)
theorem dX8_entry_6 : decode cX8_entry 6 = .ok (.arraylength, 1) := qd_190 kq_cX8_entry (by decide +kernel)
theorem dX8_entry_7 : decode cX8_entry 7 = .ok (.if_icmp .ge 9, 3) := qd_162 kq_cX8_entry (by decide +kernel)
theorem dX8_entry_10 : decode cX8_entry 10 = .ok (.aload_n 0, 1) := qd_42 kq_cX8_entry (by decide +kernel)
theorem dX8_entry_11 : decode cX8_entry 11 = .ok (.iload_n 1, 1) := qd_27 kq_cX8_entry (by decide +kernel)
theorem dX8_entry_12 : decode cX8_entry 12 = .ok (.iaload, 1) := qd_46 kq_cX8_entry (by decide +kernel)
theorem dX8_entry_13 : decode cX8_entry 13 = .ok (.goto 4, 3) := qd_167 kq_cX8_entry (by decide +kernel)
theorem dX8_entry_16 : decode cX8_entry 16 = .ok (.iconst (-1), 1) := qd_2 kq_cX8_entry (by decide +kernel)
theorem dX8_entry_17 : decode cX8_entry 17 = .ok (.ireturn, 1) := qd_172 kq_cX8_entry (by decide +kernel)
def rmX8_entry (mc ms : Nat) : Room := { frames := 0, cells := mc, slots := ms, locals := 0 }
abbrev cX8_enter : ByteArray := prog_1_method_16_code
def yX8_enter : MethodName := ⟨RX8, "enter", "([III)V"⟩
def wsX8_enter : List Cond := .code yX8_enter cX8_enter 3 none :: sr_G
def nq_cX8_enter : Nat := 0xb14f1c1b2a0700a2be2a1b0d009b1b
theorem kq_cX8_enter : qOk cX8_enter nq_cX8_enter 15 = true := by decide +kernel
theorem dX8_enter_0 : decode cX8_enter 0 = .ok (.iload_n 1, 1) := qd_27 kq_cX8_enter (by decide +kernel)
theorem dX8_enter_1 : decode cX8_enter 1 = .ok (.ifCond .lt 13, 3) := qd_155 kq_cX8_enter (by decide +kernel)
theorem dX8_enter_4 : decode cX8_enter 4 = .ok (.iload_n 1, 1) := qd_27 kq_cX8_enter (by decide +kernel)
theorem dX8_enter_5 : decode cX8_enter 5 = .ok (.aload_n 0, 1) := qd_42 kq_cX8_enter (by decide +kernel)
theorem dX8_enter_6 : decode cX8_enter 6 = .ok (.arraylength, 1) := qd_190 kq_cX8_enter (by decide +kernel)
theorem dX8_enter_7 : decode cX8_enter 7 = .ok (.if_icmp .ge 7, 3) := qd_162 kq_cX8_enter (by decide +kernel)
theorem dX8_enter_10 : decode cX8_enter 10 = .ok (.aload_n 0, 1) := qd_42 kq_cX8_enter (by decide +kernel)
theorem dX8_enter_11 : decode cX8_enter 11 = .ok (.iload_n 1, 1) := qd_27 kq_cX8_enter (by decide +kernel)
theorem dX8_enter_12 : decode cX8_enter 12 = .ok (.iload_n 2, 1) := qd_28 kq_cX8_enter (by decide +kernel)
theorem dX8_enter_13 : decode cX8_enter 13 = .ok (.iastore, 1) := qd_79 kq_cX8_enter (by decide +kernel)
theorem dX8_enter_14 : decode cX8_enter 14 = .ok (.return_, 1) := qd_177 kq_cX8_enter (by decide +kernel)
def rmX8_enter (mc ms : Nat) : Room := { frames := 0, cells := mc, slots := ms, locals := 0 }
abbrev cX8_isDigit : ByteArray := prog_1_method_17_code
def yX8_isDigit : MethodName := ⟨RX8, "isDigit", "(I)Z"⟩
def wsX8_isDigit : List Cond := .code yX8_isDigit cX8_isDigit 1 (some .boolean) :: sr_G
def nq_cX8_isDigit : Nat := 0xac030400a7040700a339101a0d00a130101a
theorem kq_cX8_isDigit : qOk cX8_isDigit nq_cX8_isDigit 18 = true := by decide +kernel
theorem dX8_isDigit_0 : decode cX8_isDigit 0 = .ok (.iload_n 0, 1) := qd_26 kq_cX8_isDigit (by decide +kernel)
theorem dX8_isDigit_1 : decode cX8_isDigit 1 = .ok (.bipush 48, 2) := qd_16 kq_cX8_isDigit (by decide +kernel)
theorem dX8_isDigit_3 : decode cX8_isDigit 3 = .ok (.if_icmp .lt 13, 3) := qd_161 kq_cX8_isDigit (by decide +kernel)
theorem dX8_isDigit_6 : decode cX8_isDigit 6 = .ok (.iload_n 0, 1) := qd_26 kq_cX8_isDigit (by decide +kernel)
theorem dX8_isDigit_7 : decode cX8_isDigit 7 = .ok (.bipush 57, 2) := qd_16 kq_cX8_isDigit (by decide +kernel)
theorem dX8_isDigit_9 : decode cX8_isDigit 9 = .ok (.if_icmp .gt 7, 3) := qd_163 kq_cX8_isDigit (by decide +kernel)
theorem dX8_isDigit_12 : decode cX8_isDigit 12 = .ok (.iconst 1, 1) := qd_4 kq_cX8_isDigit (by decide +kernel)
theorem dX8_isDigit_13 : decode cX8_isDigit 13 = .ok (.goto 4, 3) := qd_167 kq_cX8_isDigit (by decide +kernel)
theorem dX8_isDigit_16 : decode cX8_isDigit 16 = .ok (.iconst 0, 1) := qd_3 kq_cX8_isDigit (by decide +kernel)
theorem dX8_isDigit_17 : decode cX8_isDigit 17 = .ok (.ireturn, 1) := qd_172 kq_cX8_isDigit (by decide +kernel)
def rmX8_isDigit (mc ms : Nat) : Room := { frames := 0, cells := mc, slots := ms, locals := 0 }
abbrev cX8_isLetter : ByteArray := prog_1_method_18_code
def yX8_isLetter : MethodName := ⟨RX8, "isLetter", "(I)Z"⟩
def wsX8_isLetter : List Cond := .code yX8_isLetter cX8_isLetter 1 (some .boolean) :: sr_G
def nq_cX8_isLetter : Nat := 0xac030400a7040700a35a101a0d00a141101a0f00a47a101a0900a161101a
theorem kq_cX8_isLetter : qOk cX8_isLetter nq_cX8_isLetter 30 = true := by decide +kernel
theorem dX8_isLetter_0 : decode cX8_isLetter 0 = .ok (.iload_n 0, 1) := qd_26 kq_cX8_isLetter (by decide +kernel)
theorem dX8_isLetter_1 : decode cX8_isLetter 1 = .ok (.bipush 97, 2) := qd_16 kq_cX8_isLetter (by decide +kernel)
theorem dX8_isLetter_3 : decode cX8_isLetter 3 = .ok (.if_icmp .lt 9, 3) := qd_161 kq_cX8_isLetter (by decide +kernel)
theorem dX8_isLetter_6 : decode cX8_isLetter 6 = .ok (.iload_n 0, 1) := qd_26 kq_cX8_isLetter (by decide +kernel)
theorem dX8_isLetter_7 : decode cX8_isLetter 7 = .ok (.bipush 122, 2) := qd_16 kq_cX8_isLetter (by decide +kernel)
theorem dX8_isLetter_9 : decode cX8_isLetter 9 = .ok (.if_icmp .le 15, 3) := qd_164 kq_cX8_isLetter (by decide +kernel)
theorem dX8_isLetter_12 : decode cX8_isLetter 12 = .ok (.iload_n 0, 1) := qd_26 kq_cX8_isLetter (by decide +kernel)
theorem dX8_isLetter_13 : decode cX8_isLetter 13 = .ok (.bipush 65, 2) := qd_16 kq_cX8_isLetter (by decide +kernel)
theorem dX8_isLetter_15 : decode cX8_isLetter 15 = .ok (.if_icmp .lt 13, 3) := qd_161 kq_cX8_isLetter (by decide +kernel)
theorem dX8_isLetter_18 : decode cX8_isLetter 18 = .ok (.iload_n 0, 1) := qd_26 kq_cX8_isLetter (by decide +kernel)
theorem dX8_isLetter_19 : decode cX8_isLetter 19 = .ok (.bipush 90, 2) := qd_16 kq_cX8_isLetter (by decide +kernel)
theorem dX8_isLetter_21 : decode cX8_isLetter 21 = .ok (.if_icmp .gt 7, 3) := qd_163 kq_cX8_isLetter (by decide +kernel)
theorem dX8_isLetter_24 : decode cX8_isLetter 24 = .ok (.iconst 1, 1) := qd_4 kq_cX8_isLetter (by decide +kernel)
theorem dX8_isLetter_25 : decode cX8_isLetter 25 = .ok (.goto 4, 3) := qd_167 kq_cX8_isLetter (by decide +kernel)
theorem dX8_isLetter_28 : decode cX8_isLetter 28 = .ok (.iconst 0, 1) := qd_3 kq_cX8_isLetter (by decide +kernel)
theorem dX8_isLetter_29 : decode cX8_isLetter 29 = .ok (.ireturn, 1) := qd_172 kq_cX8_isLetter (by decide +kernel)
def rmX8_isLetter (mc ms : Nat) : Room := { frames := 0, cells := mc, slots := ms, locals := 0 }
abbrev cX8_isPlace : ByteArray := prog_1_method_13_code
def yX8_isPlace : MethodName := ⟨RX8, "isPlace", "(I)Z"⟩
def wsX8_isPlace : List Cond := .code yX8_isPlace cX8_isPlace 1 (some .boolean) :: sr_G
def nq_cX8_isPlace : Nat := 0xac030400a7040700a208101a0d009b1a
theorem kq_cX8_isPlace : qOk cX8_isPlace nq_cX8_isPlace 16 = true := by decide +kernel
theorem dX8_isPlace_0 : decode cX8_isPlace 0 = .ok (.iload_n 0, 1) := qd_26 kq_cX8_isPlace (by decide +kernel)
theorem dX8_isPlace_1 : decode cX8_isPlace 1 = .ok (.ifCond .lt 13, 3) := qd_155 kq_cX8_isPlace (by decide +kernel)
theorem dX8_isPlace_4 : decode cX8_isPlace 4 = .ok (.iload_n 0, 1) := qd_26 kq_cX8_isPlace (by decide +kernel)
theorem dX8_isPlace_5 : decode cX8_isPlace 5 = .ok (.bipush 8, 2) := qd_16 kq_cX8_isPlace (by decide +kernel)
theorem dX8_isPlace_7 : decode cX8_isPlace 7 = .ok (.if_icmp .ge 7, 3) := qd_162 kq_cX8_isPlace (by decide +kernel)
theorem dX8_isPlace_10 : decode cX8_isPlace 10 = .ok (.iconst 1, 1) := qd_4 kq_cX8_isPlace (by decide +kernel)
theorem dX8_isPlace_11 : decode cX8_isPlace 11 = .ok (.goto 4, 3) := qd_167 kq_cX8_isPlace (by decide +kernel)
theorem dX8_isPlace_14 : decode cX8_isPlace 14 = .ok (.iconst 0, 1) := qd_3 kq_cX8_isPlace (by decide +kernel)
theorem dX8_isPlace_15 : decode cX8_isPlace 15 = .ok (.ireturn, 1) := qd_172 kq_cX8_isPlace (by decide +kernel)
def rmX8_isPlace (mc ms : Nat) : Room := { frames := 0, cells := mc, slots := ms, locals := 0 }
abbrev cX8_printStep : ByteArray := prog_1_method_14_code
def yX8_printStep : MethodName := ⟨RX8, "printStep", "(I)J"⟩
def wsX8_printStep : List Cond := .code yX8_printStep cX8_printStep 5 (some .long) :: sr_G
def nq_cX8_printStep : Nat := 0xad1fd9ffa701038440836500141f0900990415407d041f0436030400a70407009a940a7f0a1f2700a208101d3e0340851a
theorem kq_cX8_printStep : qOk cX8_printStep nq_cX8_printStep 49 = true := by decide +kernel
theorem dX8_printStep_0 : decode cX8_printStep 0 = .ok (.iload_n 0, 1) := qd_26 kq_cX8_printStep (by decide +kernel)
theorem dX8_printStep_1 : decode cX8_printStep 1 = .ok (.i2l, 1) := qd_133 kq_cX8_printStep (by decide +kernel)
theorem dX8_printStep_2 : decode cX8_printStep 2 = .ok (.lstore_n 1, 1) := qd_64 kq_cX8_printStep (by decide +kernel)
theorem dX8_printStep_3 : decode cX8_printStep 3 = .ok (.iconst 0, 1) := qd_3 kq_cX8_printStep (by decide +kernel)
theorem dX8_printStep_4 : decode cX8_printStep 4 = .ok (.istore_n 3, 1) := qd_62 kq_cX8_printStep (by decide +kernel)
theorem dX8_printStep_5 : decode cX8_printStep 5 = .ok (.iload_n 3, 1) := qd_29 kq_cX8_printStep (by decide +kernel)
theorem dX8_printStep_6 : decode cX8_printStep 6 = .ok (.bipush 8, 2) := qd_16 kq_cX8_printStep (by decide +kernel)
theorem dX8_printStep_8 : decode cX8_printStep 8 = .ok (.if_icmp .ge 39, 3) := qd_162 kq_cX8_printStep (by decide +kernel)
theorem dX8_printStep_11 : decode cX8_printStep 11 = .ok (.lload_n 1, 1) := qd_31 kq_cX8_printStep (by decide +kernel)
theorem dX8_printStep_12 : decode cX8_printStep 12 = .ok (.lconst 1, 1) := qd_10 kq_cX8_printStep (by decide +kernel)
theorem dX8_printStep_13 : decode cX8_printStep 13 = .ok (.land, 1) := qd_127 kq_cX8_printStep (by decide +kernel)
theorem dX8_printStep_14 : decode cX8_printStep 14 = .ok (.lconst 1, 1) := qd_10 kq_cX8_printStep (by decide +kernel)
theorem dX8_printStep_15 : decode cX8_printStep 15 = .ok (.lcmp, 1) := qd_148 kq_cX8_printStep (by decide +kernel)
theorem dX8_printStep_16 : decode cX8_printStep 16 = .ok (.ifCond .ne 7, 3) := qd_154 kq_cX8_printStep (by decide +kernel)
theorem dX8_printStep_19 : decode cX8_printStep 19 = .ok (.iconst 1, 1) := qd_4 kq_cX8_printStep (by decide +kernel)
theorem dX8_printStep_20 : decode cX8_printStep 20 = .ok (.goto 4, 3) := qd_167 kq_cX8_printStep (by decide +kernel)
theorem dX8_printStep_23 : decode cX8_printStep 23 = .ok (.iconst 0, 1) := qd_3 kq_cX8_printStep (by decide +kernel)
theorem dX8_printStep_24 : decode cX8_printStep 24 = .ok (.istore 4, 2) := qd_54 kq_cX8_printStep (by decide +kernel)
theorem dX8_printStep_26 : decode cX8_printStep 26 = .ok (.lload_n 1, 1) := qd_31 kq_cX8_printStep (by decide +kernel)
theorem dX8_printStep_27 : decode cX8_printStep 27 = .ok (.iconst 1, 1) := qd_4 kq_cX8_printStep (by decide +kernel)
theorem dX8_printStep_28 : decode cX8_printStep 28 = .ok (.lushr, 1) := qd_125 kq_cX8_printStep (by decide +kernel)
theorem dX8_printStep_29 : decode cX8_printStep 29 = .ok (.lstore_n 1, 1) := qd_64 kq_cX8_printStep (by decide +kernel)
theorem dX8_printStep_30 : decode cX8_printStep 30 = .ok (.iload 4, 2) := qd_21 kq_cX8_printStep (by decide +kernel)
theorem dX8_printStep_32 : decode cX8_printStep 32 = .ok (.ifCond .eq 9, 3) := qd_153 kq_cX8_printStep (by decide +kernel)
theorem dX8_printStep_35 : decode cX8_printStep 35 = .ok (.lload_n 1, 1) := qd_31 kq_cX8_printStep (by decide +kernel)
theorem dX8_printStep_36 : decode cX8_printStep 36 = .ok (.ldc2_w 101, 3) := qd_20 kq_cX8_printStep (by decide +kernel)
theorem dX8_printStep_39 : decode cX8_printStep 39 = .ok (.lxor, 1) := qd_131 kq_cX8_printStep (by decide +kernel)
theorem dX8_printStep_40 : decode cX8_printStep 40 = .ok (.lstore_n 1, 1) := qd_64 kq_cX8_printStep (by decide +kernel)
theorem dX8_printStep_41 : decode cX8_printStep 41 = .ok (.iinc 3 1, 3) := qd_132 kq_cX8_printStep (by decide +kernel)
theorem dX8_printStep_44 : decode cX8_printStep 44 = .ok (.goto (-39), 3) := qd_167 kq_cX8_printStep (by decide +kernel)
theorem dX8_printStep_47 : decode cX8_printStep 47 = .ok (.lload_n 1, 1) := qd_31 kq_cX8_printStep (by decide +kernel)
theorem dX8_printStep_48 : decode cX8_printStep 48 = .ok (.lreturn, 1) := qd_173 kq_cX8_printStep (by decide +kernel)
def rmX8_printStep (mc ms : Nat) : Room := { frames := 0, cells := mc, slots := ms, locals := 0 }
abbrev cX24_fill : ByteArray := prog_25_method_103_code
def yX24_fill : MethodName := ⟨RX24, "fill", "([II)V"⟩
def wsX24_fill : List Cond := .code yX24_fill cX24_fill 4 none :: sr_G
def nq_cX24_fill : Nat := 0xb1f4ffa70102844f1b1c2a0d00a21d1c3ebe2a3d03
theorem kq_cX24_fill : qOk cX24_fill nq_cX24_fill 21 = true := by decide +kernel
theorem dX24_fill_0 : decode cX24_fill 0 = .ok (.iconst 0, 1) := qd_3 kq_cX24_fill (by decide +kernel)
theorem dX24_fill_1 : decode cX24_fill 1 = .ok (.istore_n 2, 1) := qd_61 kq_cX24_fill (by decide +kernel)
theorem dX24_fill_2 : decode cX24_fill 2 = .ok (.aload_n 0, 1) := qd_42 kq_cX24_fill (by decide +kernel)
theorem dX24_fill_3 : decode cX24_fill 3 = .ok (.arraylength, 1) := qd_190 kq_cX24_fill (by decide +kernel)
theorem dX24_fill_4 : decode cX24_fill 4 = .ok (.istore_n 3, 1) := qd_62 kq_cX24_fill (by decide +kernel)
theorem dX24_fill_5 : decode cX24_fill 5 = .ok (.iload_n 2, 1) := qd_28 kq_cX24_fill (by decide +kernel)
theorem dX24_fill_6 : decode cX24_fill 6 = .ok (.iload_n 3, 1) := qd_29 kq_cX24_fill (by decide +kernel)
theorem dX24_fill_7 : decode cX24_fill 7 = .ok (.if_icmp .ge 13, 3) := qd_162 kq_cX24_fill (by decide +kernel)
theorem dX24_fill_10 : decode cX24_fill 10 = .ok (.aload_n 0, 1) := qd_42 kq_cX24_fill (by decide +kernel)
theorem dX24_fill_11 : decode cX24_fill 11 = .ok (.iload_n 2, 1) := qd_28 kq_cX24_fill (by decide +kernel)
theorem dX24_fill_12 : decode cX24_fill 12 = .ok (.iload_n 1, 1) := qd_27 kq_cX24_fill (by decide +kernel)
theorem dX24_fill_13 : decode cX24_fill 13 = .ok (.iastore, 1) := qd_79 kq_cX24_fill (by decide +kernel)
theorem dX24_fill_14 : decode cX24_fill 14 = .ok (.iinc 2 1, 3) := qd_132 kq_cX24_fill (by decide +kernel)
theorem dX24_fill_17 : decode cX24_fill 17 = .ok (.goto (-12), 3) := qd_167 kq_cX24_fill (by decide +kernel)
theorem dX24_fill_20 : decode cX24_fill 20 = .ok (.return_, 1) := qd_177 kq_cX24_fill (by decide +kernel)
def rmX24_fill (mc ms : Nat) : Room := { frames := 0, cells := mc, slots := ms, locals := 0 }
end
section
set_option maxHeartbeats 4000000 in
set_option maxRecDepth 100000 in
theorem kX8_entry (l : Launch) (htr : l.stackTraces = false) (dC : Nat → ClassId) (dI : Nat → Nat → Nat) (adK adV : Nat → Nat) (cI cB cJ cZ cQ : ClassId) (rq_row : Nat) (r_row : Nat → Int32) (rn : Nat) (a1 : Int32) (res : Int32) (hm : m_X8_entry r_row rn a1 = some res) : Met l yX8_entry wsX8_entry (rmX8_entry 0 0) (pcR (sr_Z adK adV) (dC, dI) srCl [(cI, .int), (cB, .byte), (cJ, .long), (cZ, .boolean), (cQ, .object "SchemaReader$Schema")] [.ref rq_row, .int a1] [(rq_row, .inl (cI, rn, .inl r_row))]) (k2_QcV (.int res)) 0 0 (fun _ => False) := by
  refine Met.ofW (cc := cX8_entry) (maxL := 2) (ret := (some .int)) (by decide) rfl ?_
  intro p e s m args below meth c s₁ B hml hv
  obtain ⟨rfl, hP, hK, hz0⟩ := hv
  have hx := B.exec
  have hb := B.bytes
  have hr := B.returns
  have hts := atoms_spec (ws := wsX8_entry) B.pre
  have hown : s.vm.findClass RX8 = some m.cls := findClass_of_methodNamed B.named
  have hlocks := B.notSynchronized
  have hS : va_S (fun _ => False) s.heap s.heap [] := va_S.rf
  generalize hQ0 : MQ below (k2_QcV (.int res)) [.ref rq_row, .int a1].toArray s 0 0 (fun _ => False) = Q0
  have hl := lv_entry [.ref rq_row, .int a1] (n := 2) (Nat.le_of_ble_eq_true rfl)
  rw [lg_entry_eq]
  generalize (lg_sl [.ref rq_row, .int a1] ++ List.replicate (2 - (lg_sl [.ref rq_row, .int a1]).length) Slot.unset).toArray = ls at hl ⊢
  have hl : lv_has ls 2 [(0, .ref rq_row), (1, .int a1)] := hl
  unfold m_X8_entry at hm
  refine lv_iload_n hx hb dX8_entry_0 rfl (lv_at hl 1 rfl) ?_
  refine lv_if_lt (tgt := 16) hx hb dX8_entry_1 (by decide) (fun c1 => ?_) (fun c1 => ?_)
  · have hm := mr_if c1 hm
    refine lv_iconst (v := -1) hx hb dX8_entry_16 (by decide) ?_
    obtain rfl := Option.some.inj hm
    subst hQ0
    exact W.iret (v := (-1)) hx hb hr (fun t ht hW => ⟨rfl, ht⟩) (fun q h => by cases h) dX8_entry_17
  · have hm := mr_un c1 hm
    refine lv_iload_n hx hb dX8_entry_4 rfl (lv_at hl 1 rfl) ?_
    refine lv_aload_n hx hb dX8_entry_5 rfl (lv_at hl 0 rfl) ?_
    refine va_alen hx hb hK hP 0 0 rfl rfl rfl dX8_entry_6 ?_
    refine lv_icmp_ge (tgt := 16) hx hb dX8_entry_7 (by decide) (fun c2 => ?_) (fun c2 => ?_)
    · have hm := mr_if c2 hm
      refine lv_iconst (v := -1) hx hb dX8_entry_16 (by decide) ?_
      obtain rfl := Option.some.inj hm
      subst hQ0
      exact W.iret (v := (-1)) hx hb hr (fun t ht hW => ⟨rfl, ht⟩) (fun q h => by cases h) dX8_entry_17
    · have hm := mr_un c2 hm
      refine lv_aload_n hx hb dX8_entry_10 rfl (lv_at hl 0 rfl) ?_
      refine lv_iload_n hx hb dX8_entry_11 rfl (lv_at hl 1 rfl) ?_
      obtain ⟨h3, hm⟩ := mr_bd hm
      refine va_iald hx hb hK hP 0 0 rfl rfl h3 dX8_entry_12 ?_
      refine lv_goto (tgt := 17) hx hb dX8_entry_13 (by decide) ?_
      obtain rfl := Option.some.inj hm
      subst hQ0
      exact W.iret (v := (r_row (a1 : Int32).toNatClampNeg)) hx hb hr (fun t ht hW => ⟨rfl, ht⟩) (fun q h => by cases h) dX8_entry_17
set_option maxHeartbeats 4000000 in
set_option maxRecDepth 100000 in
theorem kX8_enter (l : Launch) (htr : l.stackTraces = false) (dC : Nat → ClassId) (dI : Nat → Nat → Nat) (adK adV : Nat → Nat) (cI cB cJ cZ cQ : ClassId) (rq_row : Nat) (r_row : Nat → Int32) (sz : Nat) (rn : Nat) (a1 : Int32) (a2 : Int32) (res : (Nat → Int32)) (hm : m_X8_enter r_row rn a1 a2 = some res) : Met l yX8_enter wsX8_enter (rmX8_enter 0 0) (pcW (sr_Z adK adV) (dC, dI) srCl [(cI, .int), (cB, .byte), (cJ, .long), (cZ, .boolean), (cQ, .object "SchemaReader$Schema")] [.ref rq_row, .int a1, .int a2] [(rq_row, .inl (cI, rn, .inl r_row))] sz) (va_Qv (fun u' => u' = res) (pcB (dC, dI) srCl [(cI, .int), (cB, .byte), (cJ, .long), (cZ, .boolean), (cQ, .object "SchemaReader$Schema")] (fun u : (Nat → Int32) => [(rq_row, .inl (cI, rn, .inl u))]) (va_A [(rq_row, .inl (cI, rn, .inl r_row))] sz)) (va_A [(rq_row, .inl (cI, rn, .inl r_row))] sz)) 0 0 (va_A [(rq_row, .inl (cI, rn, .inl r_row))] sz) := by
  refine Met.ofW (cc := cX8_enter) (maxL := 3) (ret := none) (by decide) rfl ?_
  intro p e s m args below meth c s₁ B hml hv
  obtain ⟨rfl, hsz, hP, hK, hD0, hz0⟩ := hv
  have hx := B.exec
  have hb := B.bytes
  have hr := B.returns
  have hts := atoms_spec (ws := wsX8_enter) B.pre
  have hown : s.vm.findClass RX8 = some m.cls := findClass_of_methodNamed B.named
  have hlocks := B.notSynchronized
  subst hsz
  have hD := hD0.self (sz := s.heap.size)
  generalize hAe : va_A [(rq_row, .inl (cI, rn, .inl r_row))] s.heap.size = A at hD hz0 ⊢
  have hA : ∀ q : Nat, s.heap.size ≤ q → A q := fun q h => by rw [← hAe]; exact Or.inr h
  have hS : va_S A s.heap s.heap [] := va_S.rf
  generalize hQ0 : MQ below (va_Qv (fun u' => u' = res) (pcB (dC, dI) srCl [(cI, .int), (cB, .byte), (cJ, .long), (cZ, .boolean), (cQ, .object "SchemaReader$Schema")] (fun u : (Nat → Int32) => [(rq_row, .inl (cI, rn, .inl u))]) A) A) [.ref rq_row, .int a1, .int a2].toArray s 0 0 A = Q0
  have hl := lv_entry [.ref rq_row, .int a1, .int a2] (n := 3) (Nat.le_of_ble_eq_true rfl)
  rw [lg_entry_eq]
  generalize (lg_sl [.ref rq_row, .int a1, .int a2] ++ List.replicate (3 - (lg_sl [.ref rq_row, .int a1, .int a2]).length) Slot.unset).toArray = ls at hl ⊢
  have hl : lv_has ls 3 [(0, .ref rq_row), (1, .int a1), (2, .int a2)] := hl
  unfold m_X8_enter at hm
  refine lv_iload_n hx hb dX8_enter_0 rfl (lv_at hl 1 rfl) ?_
  refine lv_if_lt (tgt := 14) hx hb dX8_enter_1 (by decide) (fun c1 => ?_) (fun c1 => ?_)
  · have hm := mr_if c1 hm
    obtain rfl := Option.some.inj hm
    subst hQ0
    exact W.vret hx hb hr (fun t ht hW => ⟨⟨r_row, rfl, rfl, by rw [ht]; exact hP, va_K.moved hW.alike hK, hD⟩, hS.F ht⟩) hS.2.2 dX8_enter_14
  · have hm := mr_un c1 hm
    refine lv_iload_n hx hb dX8_enter_4 rfl (lv_at hl 1 rfl) ?_
    refine lv_aload_n hx hb dX8_enter_5 rfl (lv_at hl 0 rfl) ?_
    refine va_alen hx hb hK hP 0 0 rfl rfl rfl dX8_enter_6 ?_
    refine lv_icmp_ge (tgt := 14) hx hb dX8_enter_7 (by decide) (fun c2 => ?_) (fun c2 => ?_)
    · have hm := mr_if c2 hm
      obtain rfl := Option.some.inj hm
      subst hQ0
      exact W.vret hx hb hr (fun t ht hW => ⟨⟨r_row, rfl, rfl, by rw [ht]; exact hP, va_K.moved hW.alike hK, hD⟩, hS.F ht⟩) hS.2.2 dX8_enter_14
    · have hm := mr_un c2 hm
      refine lv_aload_n hx hb dX8_enter_10 rfl (lv_at hl 0 rfl) ?_
      refine lv_iload_n hx hb dX8_enter_11 rfl (lv_at hl 1 rfl) ?_
      refine lv_iload_n hx hb dX8_enter_12 rfl (lv_at hl 2 rfl) ?_
      obtain ⟨h3, hm⟩ := mr_bd hm
      refine va_iast hx hb hK hP hD hS 0 0 rfl rfl h3 dX8_enter_13 (fun H locs hP hD hS => ?_)
      have hP : va_P (dC, dI) srCl [(rq_row, .inl (cI, rn, .inl (upd r_row (a1 : Int32).toNatClampNeg a2)))] H := hP
      have hD : va_D A [(rq_row, .inl (cI, rn, .inl (upd r_row (a1 : Int32).toNatClampNeg a2)))] := hD
      obtain rfl := Option.some.inj hm
      subst hQ0
      exact W.vret hx hb hr (fun t ht hW => ⟨⟨(upd r_row (a1 : Int32).toNatClampNeg a2), rfl, rfl, by rw [ht]; exact hP, va_K.moved hW.alike hK, hD⟩, hS.F ht⟩) hS.2.2 dX8_enter_14
set_option maxHeartbeats 4000000 in
set_option maxRecDepth 100000 in
theorem kX8_isDigit (l : Launch) (htr : l.stackTraces = false) (dC : Nat → ClassId) (dI : Nat → Nat → Nat) (adK adV : Nat → Nat) (cI cB cJ cZ cQ : ClassId) (a0 : Int32) (res : Int32) (hm : m_X8_isDigit a0 = some res) : Met l yX8_isDigit wsX8_isDigit (rmX8_isDigit 0 0) (pcR (sr_Z adK adV) (dC, dI) srCl [(cI, .int), (cB, .byte), (cJ, .long), (cZ, .boolean), (cQ, .object "SchemaReader$Schema")] [.int a0] []) (k2_QcV (.int res)) 0 0 (fun _ => False) := by
  refine Met.ofW (cc := cX8_isDigit) (maxL := 1) (ret := (some .boolean)) (by decide) rfl ?_
  intro p e s m args below meth c s₁ B hml hv
  obtain ⟨rfl, hP, hK, hz0⟩ := hv
  have hx := B.exec
  have hb := B.bytes
  have hr := B.returns
  have hts := atoms_spec (ws := wsX8_isDigit) B.pre
  have hown : s.vm.findClass RX8 = some m.cls := findClass_of_methodNamed B.named
  have hlocks := B.notSynchronized
  have hS : va_S (fun _ => False) s.heap s.heap [] := va_S.rf
  generalize hQ0 : MQ below (k2_QcV (.int res)) [.int a0].toArray s 0 0 (fun _ => False) = Q0
  have hl := lv_entry [.int a0] (n := 1) (Nat.le_of_ble_eq_true rfl)
  rw [lg_entry_eq]
  generalize (lg_sl [.int a0] ++ List.replicate (1 - (lg_sl [.int a0]).length) Slot.unset).toArray = ls at hl ⊢
  have hl : lv_has ls 1 [(0, .int a0)] := hl
  unfold m_X8_isDigit at hm
  refine lv_iload_n hx hb dX8_isDigit_0 rfl (lv_at hl 0 rfl) ?_
  refine lv_bipush (v := 48) hx hb dX8_isDigit_1 (by decide) ?_
  refine lv_icmp_lt (tgt := 16) hx hb dX8_isDigit_3 (by decide) (fun c1 => ?_) (fun c1 => ?_)
  · have hm := mr_if c1 hm
    refine lv_iconst (v := 0) hx hb dX8_isDigit_16 (by decide) ?_
    obtain rfl := Option.some.inj hm
    subst hQ0
    exact W.zret (v := 0) hx hb hr rfl (fun t ht hW => ⟨rfl, ht⟩) (fun q h => by cases h) dX8_isDigit_17
  · have hm := mr_un c1 hm
    refine lv_iload_n hx hb dX8_isDigit_6 rfl (lv_at hl 0 rfl) ?_
    refine lv_bipush (v := 57) hx hb dX8_isDigit_7 (by decide) ?_
    refine lv_icmp_gt (tgt := 16) hx hb dX8_isDigit_9 (by decide) (fun c2 => ?_) (fun c2 => ?_)
    · have hm := mr_if c2 hm
      refine lv_iconst (v := 0) hx hb dX8_isDigit_16 (by decide) ?_
      obtain rfl := Option.some.inj hm
      subst hQ0
      exact W.zret (v := 0) hx hb hr rfl (fun t ht hW => ⟨rfl, ht⟩) (fun q h => by cases h) dX8_isDigit_17
    · have hm := mr_un c2 hm
      refine lv_iconst (v := 1) hx hb dX8_isDigit_12 (by decide) ?_
      refine lv_goto (tgt := 17) hx hb dX8_isDigit_13 (by decide) ?_
      obtain rfl := Option.some.inj hm
      subst hQ0
      exact W.zret (v := 1) hx hb hr rfl (fun t ht hW => ⟨rfl, ht⟩) (fun q h => by cases h) dX8_isDigit_17
set_option maxHeartbeats 4000000 in
set_option maxRecDepth 100000 in
theorem kX8_isLetter (l : Launch) (htr : l.stackTraces = false) (dC : Nat → ClassId) (dI : Nat → Nat → Nat) (adK adV : Nat → Nat) (cI cB cJ cZ cQ : ClassId) (a0 : Int32) (res : Int32) (hm : m_X8_isLetter a0 = some res) : Met l yX8_isLetter wsX8_isLetter (rmX8_isLetter 0 0) (pcR (sr_Z adK adV) (dC, dI) srCl [(cI, .int), (cB, .byte), (cJ, .long), (cZ, .boolean), (cQ, .object "SchemaReader$Schema")] [.int a0] []) (k2_QcV (.int res)) 0 0 (fun _ => False) := by
  refine Met.ofW (cc := cX8_isLetter) (maxL := 1) (ret := (some .boolean)) (by decide) rfl ?_
  intro p e s m args below meth c s₁ B hml hv
  obtain ⟨rfl, hP, hK, hz0⟩ := hv
  have hx := B.exec
  have hb := B.bytes
  have hr := B.returns
  have hts := atoms_spec (ws := wsX8_isLetter) B.pre
  have hown : s.vm.findClass RX8 = some m.cls := findClass_of_methodNamed B.named
  have hlocks := B.notSynchronized
  have hS : va_S (fun _ => False) s.heap s.heap [] := va_S.rf
  generalize hQ0 : MQ below (k2_QcV (.int res)) [.int a0].toArray s 0 0 (fun _ => False) = Q0
  have hl := lv_entry [.int a0] (n := 1) (Nat.le_of_ble_eq_true rfl)
  rw [lg_entry_eq]
  generalize (lg_sl [.int a0] ++ List.replicate (1 - (lg_sl [.int a0]).length) Slot.unset).toArray = ls at hl ⊢
  have hl : lv_has ls 1 [(0, .int a0)] := hl
  unfold m_X8_isLetter at hm
  refine lv_iload_n hx hb dX8_isLetter_0 rfl (lv_at hl 0 rfl) ?_
  refine lv_bipush (v := 97) hx hb dX8_isLetter_1 (by decide) ?_
  refine lv_icmp_lt (tgt := 12) hx hb dX8_isLetter_3 (by decide) (fun c1 => ?_) (fun c1 => ?_)
  · have hm := mr_if c1 hm
    refine lv_iload_n hx hb dX8_isLetter_12 rfl (lv_at hl 0 rfl) ?_
    refine lv_bipush (v := 65) hx hb dX8_isLetter_13 (by decide) ?_
    refine lv_icmp_lt (tgt := 28) hx hb dX8_isLetter_15 (by decide) (fun c2 => ?_) (fun c2 => ?_)
    · have hm := mr_if c2 hm
      refine lv_iconst (v := 0) hx hb dX8_isLetter_28 (by decide) ?_
      obtain rfl := Option.some.inj hm
      subst hQ0
      exact W.zret (v := 0) hx hb hr rfl (fun t ht hW => ⟨rfl, ht⟩) (fun q h => by cases h) dX8_isLetter_29
    · have hm := mr_un c2 hm
      refine lv_iload_n hx hb dX8_isLetter_18 rfl (lv_at hl 0 rfl) ?_
      refine lv_bipush (v := 90) hx hb dX8_isLetter_19 (by decide) ?_
      refine lv_icmp_gt (tgt := 28) hx hb dX8_isLetter_21 (by decide) (fun c3 => ?_) (fun c3 => ?_)
      · have hm := mr_if c3 hm
        refine lv_iconst (v := 0) hx hb dX8_isLetter_28 (by decide) ?_
        obtain rfl := Option.some.inj hm
        subst hQ0
        exact W.zret (v := 0) hx hb hr rfl (fun t ht hW => ⟨rfl, ht⟩) (fun q h => by cases h) dX8_isLetter_29
      · have hm := mr_un c3 hm
        refine lv_iconst (v := 1) hx hb dX8_isLetter_24 (by decide) ?_
        refine lv_goto (tgt := 29) hx hb dX8_isLetter_25 (by decide) ?_
        obtain rfl := Option.some.inj hm
        subst hQ0
        exact W.zret (v := 1) hx hb hr rfl (fun t ht hW => ⟨rfl, ht⟩) (fun q h => by cases h) dX8_isLetter_29
  · have hm := mr_un c1 hm
    refine lv_iload_n hx hb dX8_isLetter_6 rfl (lv_at hl 0 rfl) ?_
    refine lv_bipush (v := 122) hx hb dX8_isLetter_7 (by decide) ?_
    refine lv_icmp_le (tgt := 24) hx hb dX8_isLetter_9 (by decide) (fun c4 => ?_) (fun c4 => ?_)
    · have hm := mr_if c4 hm
      refine lv_iconst (v := 1) hx hb dX8_isLetter_24 (by decide) ?_
      refine lv_goto (tgt := 29) hx hb dX8_isLetter_25 (by decide) ?_
      obtain rfl := Option.some.inj hm
      subst hQ0
      exact W.zret (v := 1) hx hb hr rfl (fun t ht hW => ⟨rfl, ht⟩) (fun q h => by cases h) dX8_isLetter_29
    · have hm := mr_un c4 hm
      refine lv_iload_n hx hb dX8_isLetter_12 rfl (lv_at hl 0 rfl) ?_
      refine lv_bipush (v := 65) hx hb dX8_isLetter_13 (by decide) ?_
      refine lv_icmp_lt (tgt := 28) hx hb dX8_isLetter_15 (by decide) (fun c5 => ?_) (fun c5 => ?_)
      · have hm := mr_if c5 hm
        refine lv_iconst (v := 0) hx hb dX8_isLetter_28 (by decide) ?_
        obtain rfl := Option.some.inj hm
        subst hQ0
        exact W.zret (v := 0) hx hb hr rfl (fun t ht hW => ⟨rfl, ht⟩) (fun q h => by cases h) dX8_isLetter_29
      · have hm := mr_un c5 hm
        refine lv_iload_n hx hb dX8_isLetter_18 rfl (lv_at hl 0 rfl) ?_
        refine lv_bipush (v := 90) hx hb dX8_isLetter_19 (by decide) ?_
        refine lv_icmp_gt (tgt := 28) hx hb dX8_isLetter_21 (by decide) (fun c6 => ?_) (fun c6 => ?_)
        · have hm := mr_if c6 hm
          refine lv_iconst (v := 0) hx hb dX8_isLetter_28 (by decide) ?_
          obtain rfl := Option.some.inj hm
          subst hQ0
          exact W.zret (v := 0) hx hb hr rfl (fun t ht hW => ⟨rfl, ht⟩) (fun q h => by cases h) dX8_isLetter_29
        · have hm := mr_un c6 hm
          refine lv_iconst (v := 1) hx hb dX8_isLetter_24 (by decide) ?_
          refine lv_goto (tgt := 29) hx hb dX8_isLetter_25 (by decide) ?_
          obtain rfl := Option.some.inj hm
          subst hQ0
          exact W.zret (v := 1) hx hb hr rfl (fun t ht hW => ⟨rfl, ht⟩) (fun q h => by cases h) dX8_isLetter_29
set_option maxHeartbeats 4000000 in
set_option maxRecDepth 100000 in
theorem kX8_isPlace (l : Launch) (htr : l.stackTraces = false) (dC : Nat → ClassId) (dI : Nat → Nat → Nat) (adK adV : Nat → Nat) (cI cB cJ cZ cQ : ClassId) (a0 : Int32) (res : Int32) (hm : m_X8_isPlace a0 = some res) : Met l yX8_isPlace wsX8_isPlace (rmX8_isPlace 0 0) (pcR (sr_Z adK adV) (dC, dI) srCl [(cI, .int), (cB, .byte), (cJ, .long), (cZ, .boolean), (cQ, .object "SchemaReader$Schema")] [.int a0] []) (k2_QcV (.int res)) 0 0 (fun _ => False) := by
  refine Met.ofW (cc := cX8_isPlace) (maxL := 1) (ret := (some .boolean)) (by decide) rfl ?_
  intro p e s m args below meth c s₁ B hml hv
  obtain ⟨rfl, hP, hK, hz0⟩ := hv
  have hx := B.exec
  have hb := B.bytes
  have hr := B.returns
  have hts := atoms_spec (ws := wsX8_isPlace) B.pre
  have hown : s.vm.findClass RX8 = some m.cls := findClass_of_methodNamed B.named
  have hlocks := B.notSynchronized
  have hS : va_S (fun _ => False) s.heap s.heap [] := va_S.rf
  generalize hQ0 : MQ below (k2_QcV (.int res)) [.int a0].toArray s 0 0 (fun _ => False) = Q0
  have hl := lv_entry [.int a0] (n := 1) (Nat.le_of_ble_eq_true rfl)
  rw [lg_entry_eq]
  generalize (lg_sl [.int a0] ++ List.replicate (1 - (lg_sl [.int a0]).length) Slot.unset).toArray = ls at hl ⊢
  have hl : lv_has ls 1 [(0, .int a0)] := hl
  unfold m_X8_isPlace at hm
  refine lv_iload_n hx hb dX8_isPlace_0 rfl (lv_at hl 0 rfl) ?_
  refine lv_if_lt (tgt := 14) hx hb dX8_isPlace_1 (by decide) (fun c1 => ?_) (fun c1 => ?_)
  · have hm := mr_if c1 hm
    refine lv_iconst (v := 0) hx hb dX8_isPlace_14 (by decide) ?_
    obtain rfl := Option.some.inj hm
    subst hQ0
    exact W.zret (v := 0) hx hb hr rfl (fun t ht hW => ⟨rfl, ht⟩) (fun q h => by cases h) dX8_isPlace_15
  · have hm := mr_un c1 hm
    refine lv_iload_n hx hb dX8_isPlace_4 rfl (lv_at hl 0 rfl) ?_
    refine lv_bipush (v := 8) hx hb dX8_isPlace_5 (by decide) ?_
    refine lv_icmp_ge (tgt := 14) hx hb dX8_isPlace_7 (by decide) (fun c2 => ?_) (fun c2 => ?_)
    · have hm := mr_if c2 hm
      refine lv_iconst (v := 0) hx hb dX8_isPlace_14 (by decide) ?_
      obtain rfl := Option.some.inj hm
      subst hQ0
      exact W.zret (v := 0) hx hb hr rfl (fun t ht hW => ⟨rfl, ht⟩) (fun q h => by cases h) dX8_isPlace_15
    · have hm := mr_un c2 hm
      refine lv_iconst (v := 1) hx hb dX8_isPlace_10 (by decide) ?_
      refine lv_goto (tgt := 15) hx hb dX8_isPlace_11 (by decide) ?_
      obtain rfl := Option.some.inj hm
      subst hQ0
      exact W.zret (v := 1) hx hb hr rfl (fun t ht hW => ⟨rfl, ht⟩) (fun q h => by cases h) dX8_isPlace_15
set_option maxHeartbeats 4000000 in
set_option maxRecDepth 100000 in
theorem kX8_printStep (l : Launch) (htr : l.stackTraces = false) (dC : Nat → ClassId) (dI : Nat → Nat → Nat) (adK adV : Nat → Nat) (cI cB cJ cZ cQ : ClassId) (a0 : Int32) (res : Int64) (hm : m_X8_printStep a0 = some res) : Met l yX8_printStep wsX8_printStep (rmX8_printStep 0 0) (pcR (sr_Z adK adV) (dC, dI) srCl [(cI, .int), (cB, .byte), (cJ, .long), (cZ, .boolean), (cQ, .object "SchemaReader$Schema")] [.int a0] []) (k2_QcV (.long res)) 0 0 (fun _ => False) := by
  refine Met.ofW (cc := cX8_printStep) (maxL := 5) (ret := (some .long)) (by decide) rfl ?_
  intro p e s m args below meth c s₁ B hml hv
  obtain ⟨rfl, hP, hK, hz0⟩ := hv
  have hx := B.exec
  have hb := B.bytes
  have hr := B.returns
  have hts := atoms_spec (ws := wsX8_printStep) B.pre
  have hown : s.vm.findClass RX8 = some m.cls := findClass_of_methodNamed B.named
  have hlocks := B.notSynchronized
  have hS : va_S (fun _ => False) s.heap s.heap [] := va_S.rf
  generalize hQ0 : MQ below (k2_QcV (.long res)) [.int a0].toArray s 0 0 (fun _ => False) = Q0
  have hl := lv_entry [.int a0] (n := 5) (Nat.le_of_ble_eq_true rfl)
  rw [lg_entry_eq]
  generalize (lg_sl [.int a0] ++ List.replicate (5 - (lg_sl [.int a0]).length) Slot.unset).toArray = ls at hl ⊢
  have hl : lv_has ls 5 [(0, .int a0)] := hl
  unfold m_X8_printStep at hm
  refine lv_iload_n hx hb dX8_printStep_0 rfl (lv_at hl 0 rfl) ?_
  refine lv_i2l hx hb dX8_printStep_1 rfl ?_
  refine lv_lstore_n (lv' := [(1, .long ((a0 : Int32).toInt64)), (0, .int a0)]) hx hb dX8_printStep_2 rfl hl (by decide) rfl (fun ls hl => ?_)
  refine lv_iconst (v := 0) hx hb dX8_printStep_3 (by decide) ?_
  have j5 : ∀ (n5 : Nat) (x1 : Int64) (x3 : Int32) (ls : Array Slot), lv_has ls 5 [(1, .long x1), (3, .int x3)] → m_X8_printStep_5 n5 x1 x3 = some res → W p l e (headSpec wsX8_printStep (rmX8_printStep 0 0)).room s m [.int a0].toArray below meth c s.heap [] 0 0 Q0 (F0 m 5 ls []) := by
    intro n5
    induction n5 with
    | zero => intro x1 x3 ls hl hm; exact nomatch (show (none : Option _) = some res from hm)
    | succ n5 ih5 =>
      intro x1 x3 ls hl hm
      rw [m_X8_printStep_5] at hm
      refine lv_iload_n hx hb dX8_printStep_5 rfl (lv_at hl 1 rfl) ?_
      refine lv_bipush (v := 8) hx hb dX8_printStep_6 (by decide) ?_
      refine lv_icmp_ge (tgt := 47) hx hb dX8_printStep_8 (by decide) (fun c1 => ?_) (fun c1 => ?_)
      · have hm := mr_if c1 hm
        refine lv_lload_n hx hb dX8_printStep_47 rfl (lv_at hl 0 rfl) ?_
        obtain rfl := Option.some.inj hm
        subst hQ0
        exact W.lret (v := x1) hx hb hr (fun t ht hW => ⟨rfl, ht⟩) (fun q h => by cases h) dX8_printStep_48
      · have hm := mr_un c1 hm
        refine lv_lload_n hx hb dX8_printStep_11 rfl (lv_at hl 0 rfl) ?_
        refine lv_lconst (v := 1) hx hb dX8_printStep_12 (by decide) ?_
        refine lv_land hx hb dX8_printStep_13 ?_
        refine lv_lconst (v := 1) hx hb dX8_printStep_14 (by decide) ?_
        refine W.lcmp hx hb dX8_printStep_15 ?_
        have j24 : ∀ (x1 : Int64) (x3 : Int32) (y0 : Int32) (ls : Array Slot), lv_has ls 5 [(1, .long x1), (3, .int x3)] → m_X8_printStep_24 (m_X8_printStep_5 n5) x1 x3 y0 = some res → W p l e (headSpec wsX8_printStep (rmX8_printStep 0 0)).room s m [.int a0].toArray below meth c s.heap [] 0 0 Q0 (F0 m 24 ls [.int y0]) := by
          intro x1 x3 y0 ls hl hm
          unfold m_X8_printStep_24 at hm
          refine lv_istore (lv' := [(4, .int y0), (1, .long x1), (3, .int x3)]) hx hb dX8_printStep_24 hl (by decide) rfl (fun ls hl => ?_)
          refine lv_lload_n hx hb dX8_printStep_26 rfl (lv_at hl 1 rfl) ?_
          refine lv_iconst (v := 1) hx hb dX8_printStep_27 (by decide) ?_
          refine lv_lushr hx hb dX8_printStep_28 rfl ?_
          refine lv_lstore_n (lv' := [(1, .long (((x1 : Int64).toUInt64 >>> ((1 : Int32).toInt64.toUInt64 &&& Int64.toUInt64 63)).toInt64)), (4, .int y0), (3, .int x3)]) hx hb dX8_printStep_29 rfl hl (by decide) rfl (fun ls hl => ?_)
          refine lv_iload hx hb dX8_printStep_30 (lv_at hl 1 rfl) ?_
          refine lv_if_eq (tgt := 41) hx hb dX8_printStep_32 (by decide) (fun c2 => ?_) (fun c2 => ?_)
          · have hm := mr_if c2 hm
            refine lv_iinc (v := x3 + 1) (lv' := [(3, .int (x3 + 1)), (1, .long (((x1 : Int64).toUInt64 >>> ((1 : Int32).toInt64.toUInt64 &&& Int64.toUInt64 63)).toInt64)), (4, .int y0)]) hx hb dX8_printStep_41 hl (k := 2) rfl rfl (by decide) rfl (fun ls hl => ?_)
            refine lv_goto (tgt := 5) hx hb dX8_printStep_44 (by decide) ?_
            exact ih5 (((x1 : Int64).toUInt64 >>> ((1 : Int32).toInt64.toUInt64 &&& Int64.toUInt64 63)).toInt64) (x3 + 1) ls (lv_sub hl [1, 0] rfl) hm
          · have hm := mr_un c2 hm
            refine lv_lload_n hx hb dX8_printStep_35 rfl (lv_at hl 0 rfl) ?_
            refine lv_ldc2 (v := -4513414715797952619) hx hb hown (hts _ (List.mem_cons_of_mem _ wcl8_101)) dX8_printStep_36 ?_
            refine lv_lxor hx hb dX8_printStep_39 ?_
            refine lv_lstore_n (lv' := [(1, .long ((((x1 : Int64).toUInt64 >>> ((1 : Int32).toInt64.toUInt64 &&& Int64.toUInt64 63)).toInt64) ^^^ (-4513414715797952619))), (4, .int y0), (3, .int x3)]) hx hb dX8_printStep_40 rfl hl (by decide) rfl (fun ls hl => ?_)
            refine lv_iinc (v := x3 + 1) (lv' := [(3, .int (x3 + 1)), (1, .long ((((x1 : Int64).toUInt64 >>> ((1 : Int32).toInt64.toUInt64 &&& Int64.toUInt64 63)).toInt64) ^^^ (-4513414715797952619))), (4, .int y0)]) hx hb dX8_printStep_41 hl (k := 2) rfl rfl (by decide) rfl (fun ls hl => ?_)
            refine lv_goto (tgt := 5) hx hb dX8_printStep_44 (by decide) ?_
            exact ih5 ((((x1 : Int64).toUInt64 >>> ((1 : Int32).toInt64.toUInt64 &&& Int64.toUInt64 63)).toInt64) ^^^ (-4513414715797952619)) (x3 + 1) ls (lv_sub hl [1, 0] rfl) hm
        refine lv_if_ne (tgt := 23) hx hb dX8_printStep_16 (by decide) (fun c3 => ?_) (fun c3 => ?_)
        · have hm := mr_un c3 hm
          refine lv_iconst (v := 0) hx hb dX8_printStep_23 (by decide) ?_
          exact j24 x1 x3 0 ls (lv_sub hl [0, 1] rfl) hm
        · have hm := mr_if c3 hm
          refine lv_iconst (v := 1) hx hb dX8_printStep_19 (by decide) ?_
          refine lv_goto (tgt := 24) hx hb dX8_printStep_20 (by decide) ?_
          exact j24 x1 x3 1 ls (lv_sub hl [0, 1] rfl) hm
  refine lv_istore_n (lv' := [(3, .int 0), (1, .long ((a0 : Int32).toInt64)), (0, .int a0)]) hx hb dX8_printStep_4 rfl hl (by decide) rfl (fun ls hl => ?_)
  exact j5 sr_fuel ((a0 : Int32).toInt64) 0 ls (lv_sub hl [1, 0] rfl) hm
set_option maxHeartbeats 4000000 in
set_option maxRecDepth 100000 in
theorem kX24_fill (l : Launch) (htr : l.stackTraces = false) (dC : Nat → ClassId) (dI : Nat → Nat → Nat) (adK adV : Nat → Nat) (cI cB cJ cZ cQ : ClassId) (rq_row : Nat) (r_row : Nat → Int32) (sz : Nat) (rn : Nat) (a1 : Int32) (res : (Nat → Int32)) (hm : m_X24_fill r_row rn a1 = some res) : Met l yX24_fill wsX24_fill (rmX24_fill 0 0) (pcW (sr_Z adK adV) (dC, dI) srCl [(cI, .int), (cB, .byte), (cJ, .long), (cZ, .boolean), (cQ, .object "SchemaReader$Schema")] [.ref rq_row, .int a1] [(rq_row, .inl (cI, rn, .inl r_row))] sz) (va_Qv (fun u' => u' = res) (pcB (dC, dI) srCl [(cI, .int), (cB, .byte), (cJ, .long), (cZ, .boolean), (cQ, .object "SchemaReader$Schema")] (fun u : (Nat → Int32) => [(rq_row, .inl (cI, rn, .inl u))]) (va_A [(rq_row, .inl (cI, rn, .inl r_row))] sz)) (va_A [(rq_row, .inl (cI, rn, .inl r_row))] sz)) 0 0 (va_A [(rq_row, .inl (cI, rn, .inl r_row))] sz) := by
  refine Met.ofW (cc := cX24_fill) (maxL := 4) (ret := none) (by decide) rfl ?_
  intro p e s m args below meth c s₁ B hml hv
  obtain ⟨rfl, hsz, hP, hK, hD0, hz0⟩ := hv
  have hx := B.exec
  have hb := B.bytes
  have hr := B.returns
  have hts := atoms_spec (ws := wsX24_fill) B.pre
  have hown : s.vm.findClass RX24 = some m.cls := findClass_of_methodNamed B.named
  have hlocks := B.notSynchronized
  subst hsz
  have hD := hD0.self (sz := s.heap.size)
  generalize hAe : va_A [(rq_row, .inl (cI, rn, .inl r_row))] s.heap.size = A at hD hz0 ⊢
  have hA : ∀ q : Nat, s.heap.size ≤ q → A q := fun q h => by rw [← hAe]; exact Or.inr h
  have hS : va_S A s.heap s.heap [] := va_S.rf
  generalize hQ0 : MQ below (va_Qv (fun u' => u' = res) (pcB (dC, dI) srCl [(cI, .int), (cB, .byte), (cJ, .long), (cZ, .boolean), (cQ, .object "SchemaReader$Schema")] (fun u : (Nat → Int32) => [(rq_row, .inl (cI, rn, .inl u))]) A) A) [.ref rq_row, .int a1].toArray s 0 0 A = Q0
  have hl := lv_entry [.ref rq_row, .int a1] (n := 4) (Nat.le_of_ble_eq_true rfl)
  rw [lg_entry_eq]
  generalize (lg_sl [.ref rq_row, .int a1] ++ List.replicate (4 - (lg_sl [.ref rq_row, .int a1]).length) Slot.unset).toArray = ls at hl ⊢
  have hl : lv_has ls 4 [(0, .ref rq_row), (1, .int a1)] := hl
  unfold m_X24_fill at hm
  refine lv_iconst (v := 0) hx hb dX24_fill_0 (by decide) ?_
  refine lv_istore_n (lv' := [(2, .int 0), (0, .ref rq_row), (1, .int a1)]) hx hb dX24_fill_1 rfl hl (by decide) rfl (fun ls hl => ?_)
  refine lv_aload_n hx hb dX24_fill_2 rfl (lv_at hl 1 rfl) ?_
  refine va_alen hx hb hK hP 0 0 rfl rfl rfl dX24_fill_3 ?_
  have j5 : ∀ (n5 : Nat) (r_row : Nat → Int32) (x1 : Int32) (x2 : Int32) (x3 : Int32) (H : Heap) (locs : List Loc) (ls : Array Slot), va_P (dC, dI) srCl [(rq_row, .inl (cI, rn, .inl r_row))] H → va_D A [(rq_row, .inl (cI, rn, .inl r_row))] → va_S A s.heap H locs → lv_has ls 4 [(0, .ref rq_row), (1, .int x1), (2, .int x2), (3, .int x3)] → m_X24_fill_5 rn n5 r_row x1 x2 x3 = some res → W p l e (headSpec wsX24_fill (rmX24_fill 0 0)).room s m [.ref rq_row, .int a1].toArray below meth c H locs 0 0 Q0 (F0 m 5 ls []) := by
    intro n5
    induction n5 with
    | zero => intro r_row x1 x2 x3 H locs ls hP hD hS hl hm; exact nomatch (show (none : Option _) = some res from hm)
    | succ n5 ih5 =>
      intro r_row x1 x2 x3 H locs ls hP hD hS hl hm
      rw [m_X24_fill_5] at hm
      refine lv_iload_n hx hb dX24_fill_5 rfl (lv_at hl 2 rfl) ?_
      refine lv_iload_n hx hb dX24_fill_6 rfl (lv_at hl 3 rfl) ?_
      refine lv_icmp_ge (tgt := 20) hx hb dX24_fill_7 (by decide) (fun c1 => ?_) (fun c1 => ?_)
      · have hm := mr_if c1 hm
        obtain rfl := Option.some.inj hm
        subst hQ0
        exact W.vret hx hb hr (fun t ht hW => ⟨⟨r_row, rfl, rfl, by rw [ht]; exact hP, va_K.moved hW.alike hK, hD⟩, hS.F ht⟩) hS.2.2 dX24_fill_20
      · have hm := mr_un c1 hm
        refine lv_aload_n hx hb dX24_fill_10 rfl (lv_at hl 0 rfl) ?_
        refine lv_iload_n hx hb dX24_fill_11 rfl (lv_at hl 2 rfl) ?_
        refine lv_iload_n hx hb dX24_fill_12 rfl (lv_at hl 1 rfl) ?_
        obtain ⟨h2, hm⟩ := mr_bd hm
        refine va_iast hx hb hK hP hD hS 0 0 rfl rfl h2 dX24_fill_13 (fun H locs hP hD hS => ?_)
        have hP : va_P (dC, dI) srCl [(rq_row, .inl (cI, rn, .inl (upd r_row (x2 : Int32).toNatClampNeg x1)))] H := hP
        have hD : va_D A [(rq_row, .inl (cI, rn, .inl (upd r_row (x2 : Int32).toNatClampNeg x1)))] := hD
        refine lv_iinc (v := x2 + 1) (lv' := [(2, .int (x2 + 1)), (0, .ref rq_row), (1, .int x1), (3, .int x3)]) hx hb dX24_fill_14 hl (k := 2) rfl rfl (by decide) rfl (fun ls hl => ?_)
        refine lv_goto (tgt := 5) hx hb dX24_fill_17 (by decide) ?_
        exact ih5 (upd r_row (x2 : Int32).toNatClampNeg x1) x1 (x2 + 1) x3 _ _ ls hP hD hS (lv_sub hl [1, 2, 0, 3] rfl) hm
  refine lv_istore_n (lv' := [(3, .int (Int32.ofNat rn)), (2, .int 0), (0, .ref rq_row), (1, .int a1)]) hx hb dX24_fill_4 rfl hl (by decide) rfl (fun ls hl => ?_)
  exact j5 sr_fuel r_row a1 0 (Int32.ofNat rn) _ _ ls hP hD hS (lv_sub hl [2, 3, 1, 0] rfl) hm
end
section
abbrev cX7_length : ByteArray := prog_10_method_2_code
def yX7_length : MethodName := ⟨RX7, "length", "()I"⟩
def wsX7_length : List Cond := .code yX7_length cX7_length 1 (some .int) :: sr_G
theorem dX7_length_0 : decode cX7_length 0 = .ok (.aload_n 0, 1) := by decide +kernel
theorem dX7_length_1 : decode cX7_length 1 = .ok (.getfield 35, 3) := by decide +kernel
theorem dX7_length_4 : decode cX7_length 4 = .ok (.ireturn, 1) := by decide +kernel
def rmX7_length (mc ms : Nat) : Room := { frames := 0, cells := mc, slots := ms, locals := 0 }
abbrev cX7_append : ByteArray := prog_10_method_3_code
def yX7_append : MethodName := ⟨RX7, "append", "(I)V"⟩
def wsX7_append : List Cond := .code yX7_append cX7_append 3 none :: sr_G
def nq_cX7_append : Nat := 0xb1d6ffa7f802842300b560042300b4592a54917c1c1b2300b42a0900b42a2000a2be0900b42a2300b42a2c009b1c3d1810
theorem kq_cX7_append : qOk cX7_append nq_cX7_append 49 = true := by decide +kernel
theorem dX7_append_0 : decode cX7_append 0 = .ok (.bipush 24, 2) := qd_16 kq_cX7_append (by decide +kernel)
theorem dX7_append_2 : decode cX7_append 2 = .ok (.istore_n 2, 1) := qd_61 kq_cX7_append (by decide +kernel)
theorem dX7_append_3 : decode cX7_append 3 = .ok (.iload_n 2, 1) := qd_28 kq_cX7_append (by decide +kernel)
theorem dX7_append_4 : decode cX7_append 4 = .ok (.ifCond .lt 44, 3) := qd_155 kq_cX7_append (by decide +kernel)
theorem dX7_append_7 : decode cX7_append 7 = .ok (.aload_n 0, 1) := qd_42 kq_cX7_append (by decide +kernel)
theorem dX7_append_8 : decode cX7_append 8 = .ok (.getfield 35, 3) := qd_180 kq_cX7_append (by decide +kernel)
theorem dX7_append_11 : decode cX7_append 11 = .ok (.aload_n 0, 1) := qd_42 kq_cX7_append (by decide +kernel)
theorem dX7_append_12 : decode cX7_append 12 = .ok (.getfield 9, 3) := qd_180 kq_cX7_append (by decide +kernel)
theorem dX7_append_15 : decode cX7_append 15 = .ok (.arraylength, 1) := qd_190 kq_cX7_append (by decide +kernel)
theorem dX7_append_16 : decode cX7_append 16 = .ok (.if_icmp .ge 32, 3) := qd_162 kq_cX7_append (by decide +kernel)
theorem dX7_append_19 : decode cX7_append 19 = .ok (.aload_n 0, 1) := qd_42 kq_cX7_append (by decide +kernel)
theorem dX7_append_20 : decode cX7_append 20 = .ok (.getfield 9, 3) := qd_180 kq_cX7_append (by decide +kernel)
theorem dX7_append_23 : decode cX7_append 23 = .ok (.aload_n 0, 1) := qd_42 kq_cX7_append (by decide +kernel)
theorem dX7_append_24 : decode cX7_append 24 = .ok (.getfield 35, 3) := qd_180 kq_cX7_append (by decide +kernel)
theorem dX7_append_27 : decode cX7_append 27 = .ok (.iload_n 1, 1) := qd_27 kq_cX7_append (by decide +kernel)
theorem dX7_append_28 : decode cX7_append 28 = .ok (.iload_n 2, 1) := qd_28 kq_cX7_append (by decide +kernel)
theorem dX7_append_29 : decode cX7_append 29 = .ok (.iushr, 1) := qd_124 kq_cX7_append (by decide +kernel)
theorem dX7_append_30 : decode cX7_append 30 = .ok (.i2b, 1) := qd_145 kq_cX7_append (by decide +kernel)
theorem dX7_append_31 : decode cX7_append 31 = .ok (.bastore, 1) := qd_84 kq_cX7_append (by decide +kernel)
theorem dX7_append_32 : decode cX7_append 32 = .ok (.aload_n 0, 1) := qd_42 kq_cX7_append (by decide +kernel)
theorem dX7_append_33 : decode cX7_append 33 = .ok (.dup, 1) := qd_89 kq_cX7_append (by decide +kernel)
theorem dX7_append_34 : decode cX7_append 34 = .ok (.getfield 35, 3) := qd_180 kq_cX7_append (by decide +kernel)
theorem dX7_append_37 : decode cX7_append 37 = .ok (.iconst 1, 1) := qd_4 kq_cX7_append (by decide +kernel)
theorem dX7_append_38 : decode cX7_append 38 = .ok (.iadd, 1) := qd_96 kq_cX7_append (by decide +kernel)
theorem dX7_append_39 : decode cX7_append 39 = .ok (.putfield 35, 3) := qd_181 kq_cX7_append (by decide +kernel)
theorem dX7_append_42 : decode cX7_append 42 = .ok (.iinc 2 (-8), 3) := qd_132 kq_cX7_append (by decide +kernel)
theorem dX7_append_45 : decode cX7_append 45 = .ok (.goto (-42), 3) := qd_167 kq_cX7_append (by decide +kernel)
theorem dX7_append_48 : decode cX7_append 48 = .ok (.return_, 1) := qd_177 kq_cX7_append (by decide +kernel)
def rmX7_append (mc ms : Nat) : Room := { frames := 0, cells := mc, slots := ms, locals := 0 }
abbrev cX7_cut : ByteArray := prog_10_method_4_code
def yX7_cut : MethodName := ⟨RX7, "cut", "(I)V"⟩
def wsX7_cut : List Cond := .code yX7_cut cX7_cut 2 none :: sr_G
def nq_cX7_cut : Nat := 0xb12300b51b2a0800a32300b42a1b10009b1b
theorem kq_cX7_cut : qOk cX7_cut nq_cX7_cut 18 = true := by decide +kernel
theorem dX7_cut_0 : decode cX7_cut 0 = .ok (.iload_n 1, 1) := qd_27 kq_cX7_cut (by decide +kernel)
theorem dX7_cut_1 : decode cX7_cut 1 = .ok (.ifCond .lt 16, 3) := qd_155 kq_cX7_cut (by decide +kernel)
theorem dX7_cut_4 : decode cX7_cut 4 = .ok (.iload_n 1, 1) := qd_27 kq_cX7_cut (by decide +kernel)
theorem dX7_cut_5 : decode cX7_cut 5 = .ok (.aload_n 0, 1) := qd_42 kq_cX7_cut (by decide +kernel)
theorem dX7_cut_6 : decode cX7_cut 6 = .ok (.getfield 35, 3) := qd_180 kq_cX7_cut (by decide +kernel)
theorem dX7_cut_9 : decode cX7_cut 9 = .ok (.if_icmp .gt 8, 3) := qd_163 kq_cX7_cut (by decide +kernel)
theorem dX7_cut_12 : decode cX7_cut 12 = .ok (.aload_n 0, 1) := qd_42 kq_cX7_cut (by decide +kernel)
theorem dX7_cut_13 : decode cX7_cut 13 = .ok (.iload_n 1, 1) := qd_27 kq_cX7_cut (by decide +kernel)
theorem dX7_cut_14 : decode cX7_cut 14 = .ok (.putfield 35, 3) := qd_181 kq_cX7_cut (by decide +kernel)
theorem dX7_cut_17 : decode cX7_cut 17 = .ok (.return_, 1) := qd_177 kq_cX7_cut (by decide +kernel)
def rmX7_cut (mc ms : Nat) : Room := { frames := 0, cells := mc, slots := ms, locals := 0 }
abbrev cX7_wrongPlace : ByteArray := prog_10_method_5_code
def yX7_wrongPlace : MethodName := ⟨RX7, "wrongPlace", "()I"⟩
def wsX7_wrongPlace : List Cond := .code yX7_wrongPlace cX7_wrongPlace 1 (some .int) :: sr_G
theorem dX7_wrongPlace_0 : decode cX7_wrongPlace 0 = .ok (.aload_n 0, 1) := by decide +kernel
theorem dX7_wrongPlace_1 : decode cX7_wrongPlace 1 = .ok (.getfield 39, 3) := by decide +kernel
theorem dX7_wrongPlace_4 : decode cX7_wrongPlace 4 = .ok (.ireturn, 1) := by decide +kernel
def rmX7_wrongPlace (mc ms : Nat) : Room := { frames := 0, cells := mc, slots := ms, locals := 0 }
abbrev cX7_byteAt : ByteArray := prog_10_method_6_code
def yX7_byteAt : MethodName := ⟨RX7, "byteAt", "(I)I"⟩
def wsX7_byteAt : List Cond := .code yX7_byteAt cX7_byteAt 2 (some .int) :: sr_G
def nq_cX7_byteAt : Nat := 0xac020400a77eff0011331b0900b42a1000a22300b42a1b18009b1b
theorem kq_cX7_byteAt : qOk cX7_byteAt nq_cX7_byteAt 27 = true := by decide +kernel
theorem dX7_byteAt_0 : decode cX7_byteAt 0 = .ok (.iload_n 1, 1) := qd_27 kq_cX7_byteAt (by decide +kernel)
theorem dX7_byteAt_1 : decode cX7_byteAt 1 = .ok (.ifCond .lt 24, 3) := qd_155 kq_cX7_byteAt (by decide +kernel)
theorem dX7_byteAt_4 : decode cX7_byteAt 4 = .ok (.iload_n 1, 1) := qd_27 kq_cX7_byteAt (by decide +kernel)
theorem dX7_byteAt_5 : decode cX7_byteAt 5 = .ok (.aload_n 0, 1) := qd_42 kq_cX7_byteAt (by decide +kernel)
theorem dX7_byteAt_6 : decode cX7_byteAt 6 = .ok (.getfield 35, 3) := qd_180 kq_cX7_byteAt (by decide +kernel)
theorem dX7_byteAt_9 : decode cX7_byteAt 9 = .ok (.if_icmp .ge 16, 3) := qd_162 kq_cX7_byteAt (by decide +kernel)
theorem dX7_byteAt_12 : decode cX7_byteAt 12 = .ok (.aload_n 0, 1) := qd_42 kq_cX7_byteAt (by decide +kernel)
theorem dX7_byteAt_13 : decode cX7_byteAt 13 = .ok (.getfield 9, 3) := qd_180 kq_cX7_byteAt (by decide +kernel)
theorem dX7_byteAt_16 : decode cX7_byteAt 16 = .ok (.iload_n 1, 1) := qd_27 kq_cX7_byteAt (by decide +kernel)
theorem dX7_byteAt_17 : decode cX7_byteAt 17 = .ok (.baload, 1) := qd_51 kq_cX7_byteAt (by decide +kernel)
theorem dX7_byteAt_18 : decode cX7_byteAt 18 = .ok (.sipush 255, 3) := qd_17 kq_cX7_byteAt (by decide +kernel)
theorem dX7_byteAt_21 : decode cX7_byteAt 21 = .ok (.iand, 1) := qd_126 kq_cX7_byteAt (by decide +kernel)
theorem dX7_byteAt_22 : decode cX7_byteAt 22 = .ok (.goto 4, 3) := qd_167 kq_cX7_byteAt (by decide +kernel)
theorem dX7_byteAt_25 : decode cX7_byteAt 25 = .ok (.iconst (-1), 1) := qd_2 kq_cX7_byteAt (by decide +kernel)
theorem dX7_byteAt_26 : decode cX7_byteAt 26 = .ok (.ireturn, 1) := qd_172 kq_cX7_byteAt (by decide +kernel)
def rmX7_byteAt (mc ms : Nat) : Room := { frames := 0, cells := mc, slots := ms, locals := 0 }
abbrev cX7_isString : ByteArray := prog_10_method_7_code
def yX7_isString : MethodName := ⟨RX7, "isString", "(I)Z"⟩
def wsX7_isString : List Cond := .code yX7_isString cX7_isString 2 (some .boolean) :: sr_G
def nq_cX7_isString : Nat := 0xac030400a7040700a022102a00b61b2a
theorem kq_cX7_isString : qOk cX7_isString nq_cX7_isString 16 = true := by decide +kernel
theorem dX7_isString_0 : decode cX7_isString 0 = .ok (.aload_n 0, 1) := qd_42 kq_cX7_isString (by decide +kernel)
theorem dX7_isString_1 : decode cX7_isString 1 = .ok (.iload_n 1, 1) := qd_27 kq_cX7_isString (by decide +kernel)
theorem dX7_isString_2 : decode cX7_isString 2 = .ok (.invokevirtual 42, 3) := qd_182 kq_cX7_isString (by decide +kernel)
theorem dX7_isString_5 : decode cX7_isString 5 = .ok (.bipush 34, 2) := qd_16 kq_cX7_isString (by decide +kernel)
theorem dX7_isString_7 : decode cX7_isString 7 = .ok (.if_icmp .ne 7, 3) := qd_160 kq_cX7_isString (by decide +kernel)
theorem dX7_isString_10 : decode cX7_isString 10 = .ok (.iconst 1, 1) := qd_4 kq_cX7_isString (by decide +kernel)
theorem dX7_isString_11 : decode cX7_isString 11 = .ok (.goto 4, 3) := qd_167 kq_cX7_isString (by decide +kernel)
theorem dX7_isString_14 : decode cX7_isString 14 = .ok (.iconst 0, 1) := qd_3 kq_cX7_isString (by decide +kernel)
theorem dX7_isString_15 : decode cX7_isString 15 = .ok (.ireturn, 1) := qd_172 kq_cX7_isString (by decide +kernel)
def rmX7_isString (mc ms : Nat) : Room := { frames := 1, cells := mc, slots := ms, locals := 21 }
abbrev cX7_isList : ByteArray := prog_10_method_8_code
def yX7_isList : MethodName := ⟨RX7, "isList", "(I)Z"⟩
def wsX7_isList : List Cond := .code yX7_isList cX7_isList 2 (some .boolean) :: sr_G
def nq_cX7_isList : Nat := 0xac030400a7040700a05b102a00b61b2a
theorem kq_cX7_isList : qOk cX7_isList nq_cX7_isList 16 = true := by decide +kernel
theorem dX7_isList_0 : decode cX7_isList 0 = .ok (.aload_n 0, 1) := qd_42 kq_cX7_isList (by decide +kernel)
theorem dX7_isList_1 : decode cX7_isList 1 = .ok (.iload_n 1, 1) := qd_27 kq_cX7_isList (by decide +kernel)
theorem dX7_isList_2 : decode cX7_isList 2 = .ok (.invokevirtual 42, 3) := qd_182 kq_cX7_isList (by decide +kernel)
theorem dX7_isList_5 : decode cX7_isList 5 = .ok (.bipush 91, 2) := qd_16 kq_cX7_isList (by decide +kernel)
theorem dX7_isList_7 : decode cX7_isList 7 = .ok (.if_icmp .ne 7, 3) := qd_160 kq_cX7_isList (by decide +kernel)
theorem dX7_isList_10 : decode cX7_isList 10 = .ok (.iconst 1, 1) := qd_4 kq_cX7_isList (by decide +kernel)
theorem dX7_isList_11 : decode cX7_isList 11 = .ok (.goto 4, 3) := qd_167 kq_cX7_isList (by decide +kernel)
theorem dX7_isList_14 : decode cX7_isList 14 = .ok (.iconst 0, 1) := qd_3 kq_cX7_isList (by decide +kernel)
theorem dX7_isList_15 : decode cX7_isList 15 = .ok (.ireturn, 1) := qd_172 kq_cX7_isList (by decide +kernel)
def rmX7_isList (mc ms : Nat) : Room := { frames := 1, cells := mc, slots := ms, locals := 21 }
abbrev cX7_isObject : ByteArray := prog_10_method_9_code
def yX7_isObject : MethodName := ⟨RX7, "isObject", "(I)Z"⟩
def wsX7_isObject : List Cond := .code yX7_isObject cX7_isObject 2 (some .boolean) :: sr_G
def nq_cX7_isObject : Nat := 0xac030400a7040700a07b102a00b61b2a
theorem kq_cX7_isObject : qOk cX7_isObject nq_cX7_isObject 16 = true := by decide +kernel
theorem dX7_isObject_0 : decode cX7_isObject 0 = .ok (.aload_n 0, 1) := qd_42 kq_cX7_isObject (by decide +kernel)
theorem dX7_isObject_1 : decode cX7_isObject 1 = .ok (.iload_n 1, 1) := qd_27 kq_cX7_isObject (by decide +kernel)
theorem dX7_isObject_2 : decode cX7_isObject 2 = .ok (.invokevirtual 42, 3) := qd_182 kq_cX7_isObject (by decide +kernel)
theorem dX7_isObject_5 : decode cX7_isObject 5 = .ok (.bipush 123, 2) := qd_16 kq_cX7_isObject (by decide +kernel)
theorem dX7_isObject_7 : decode cX7_isObject 7 = .ok (.if_icmp .ne 7, 3) := qd_160 kq_cX7_isObject (by decide +kernel)
theorem dX7_isObject_10 : decode cX7_isObject 10 = .ok (.iconst 1, 1) := qd_4 kq_cX7_isObject (by decide +kernel)
theorem dX7_isObject_11 : decode cX7_isObject 11 = .ok (.goto 4, 3) := qd_167 kq_cX7_isObject (by decide +kernel)
theorem dX7_isObject_14 : decode cX7_isObject 14 = .ok (.iconst 0, 1) := qd_3 kq_cX7_isObject (by decide +kernel)
theorem dX7_isObject_15 : decode cX7_isObject 15 = .ok (.ireturn, 1) := qd_172 kq_cX7_isObject (by decide +kernel)
def rmX7_isObject (mc ms : Nat) : Room := { frames := 1, cells := mc, slots := ms, locals := 21 }
abbrev cX7_isNumber : ByteArray := prog_10_method_10_code
def yX7_isNumber : MethodName := ⟨RX7, "isNumber", "(I)Z"⟩
def wsX7_isNumber : List Cond := .code yX7_isNumber cX7_isNumber 3 (some .boolean) :: sr_G
def nq_cX7_isNumber : Nat := 0xac030400a7040700992e00b81c0a009f2d101c3d2a00b61b2a
theorem kq_cX7_isNumber : qOk cX7_isNumber nq_cX7_isNumber 25 = true := by decide +kernel
theorem dX7_isNumber_0 : decode cX7_isNumber 0 = .ok (.aload_n 0, 1) := qd_42 kq_cX7_isNumber (by decide +kernel)
theorem dX7_isNumber_1 : decode cX7_isNumber 1 = .ok (.iload_n 1, 1) := qd_27 kq_cX7_isNumber (by decide +kernel)
theorem dX7_isNumber_2 : decode cX7_isNumber 2 = .ok (.invokevirtual 42, 3) := qd_182 kq_cX7_isNumber (by decide +kernel)
theorem dX7_isNumber_5 : decode cX7_isNumber 5 = .ok (.istore_n 2, 1) := qd_61 kq_cX7_isNumber (by decide +kernel)
theorem dX7_isNumber_6 : decode cX7_isNumber 6 = .ok (.iload_n 2, 1) := qd_28 kq_cX7_isNumber (by decide +kernel)
theorem dX7_isNumber_7 : decode cX7_isNumber 7 = .ok (.bipush 45, 2) := qd_16 kq_cX7_isNumber (by decide +kernel)
theorem dX7_isNumber_9 : decode cX7_isNumber 9 = .ok (.if_icmp .eq 10, 3) := qd_159 kq_cX7_isNumber (by decide +kernel)
theorem dX7_isNumber_12 : decode cX7_isNumber 12 = .ok (.iload_n 2, 1) := qd_28 kq_cX7_isNumber (by decide +kernel)
theorem dX7_isNumber_13 : decode cX7_isNumber 13 = .ok (.invokestatic 46, 3) := qd_184 kq_cX7_isNumber (by decide +kernel)
theorem dX7_isNumber_16 : decode cX7_isNumber 16 = .ok (.ifCond .eq 7, 3) := qd_153 kq_cX7_isNumber (by decide +kernel)
theorem dX7_isNumber_19 : decode cX7_isNumber 19 = .ok (.iconst 1, 1) := qd_4 kq_cX7_isNumber (by decide +kernel)
theorem dX7_isNumber_20 : decode cX7_isNumber 20 = .ok (.goto 4, 3) := qd_167 kq_cX7_isNumber (by decide +kernel)
theorem dX7_isNumber_23 : decode cX7_isNumber 23 = .ok (.iconst 0, 1) := qd_3 kq_cX7_isNumber (by decide +kernel)
theorem dX7_isNumber_24 : decode cX7_isNumber 24 = .ok (.ireturn, 1) := qd_172 kq_cX7_isNumber (by decide +kernel)
def rmX7_isNumber (mc ms : Nat) : Room := { frames := 1, cells := mc, slots := ms, locals := 21 }
abbrev cX7_inner : ByteArray := prog_10_method_11_code
def yX7_inner : MethodName := ⟨RX7, "inner", "(I)I"⟩
def wsX7_inner : List Cond := .code yX7_inner cX7_inner 2 (some .int) :: sr_G
def nq_cX7_inner : Nat := 0xac3200b81b1200b42a
theorem kq_cX7_inner : qOk cX7_inner nq_cX7_inner 9 = true := by decide +kernel
theorem dX7_inner_0 : decode cX7_inner 0 = .ok (.aload_n 0, 1) := qd_42 kq_cX7_inner (by decide +kernel)
theorem dX7_inner_1 : decode cX7_inner 1 = .ok (.getfield 18, 3) := qd_180 kq_cX7_inner (by decide +kernel)
theorem dX7_inner_4 : decode cX7_inner 4 = .ok (.iload_n 1, 1) := qd_27 kq_cX7_inner (by decide +kernel)
theorem dX7_inner_5 : decode cX7_inner 5 = .ok (.invokestatic 50, 3) := qd_184 kq_cX7_inner (by decide +kernel)
theorem dX7_inner_8 : decode cX7_inner 8 = .ok (.ireturn, 1) := qd_172 kq_cX7_inner (by decide +kernel)
def rmX7_inner (mc ms : Nat) : Room := { frames := 1, cells := mc, slots := ms, locals := 21 }
abbrev cX7_next : ByteArray := prog_10_method_12_code
def yX7_next : MethodName := ⟨RX7, "next", "(I)I"⟩
def wsX7_next : List Cond := .code yX7_next cX7_next 2 (some .int) :: sr_G
def nq_cX7_next : Nat := 0xac3200b81b1600b42a
theorem kq_cX7_next : qOk cX7_next nq_cX7_next 9 = true := by decide +kernel
theorem dX7_next_0 : decode cX7_next 0 = .ok (.aload_n 0, 1) := qd_42 kq_cX7_next (by decide +kernel)
theorem dX7_next_1 : decode cX7_next 1 = .ok (.getfield 22, 3) := qd_180 kq_cX7_next (by decide +kernel)
theorem dX7_next_4 : decode cX7_next 4 = .ok (.iload_n 1, 1) := qd_27 kq_cX7_next (by decide +kernel)
theorem dX7_next_5 : decode cX7_next 5 = .ok (.invokestatic 50, 3) := qd_184 kq_cX7_next (by decide +kernel)
theorem dX7_next_8 : decode cX7_next 8 = .ok (.ireturn, 1) := qd_172 kq_cX7_next (by decide +kernel)
def rmX7_next (mc ms : Nat) : Room := { frames := 1, cells := mc, slots := ms, locals := 21 }
abbrev cX7_amount : ByteArray := prog_10_method_13_code
def yX7_amount : MethodName := ⟨RX7, "amount", "(I)I"⟩
def wsX7_amount : List Cond := .code yX7_amount cX7_amount 2 (some .int) :: sr_G
def nq_cX7_amount : Nat := 0xac3200b81b1900b42a
theorem kq_cX7_amount : qOk cX7_amount nq_cX7_amount 9 = true := by decide +kernel
theorem dX7_amount_0 : decode cX7_amount 0 = .ok (.aload_n 0, 1) := qd_42 kq_cX7_amount (by decide +kernel)
theorem dX7_amount_1 : decode cX7_amount 1 = .ok (.getfield 25, 3) := qd_180 kq_cX7_amount (by decide +kernel)
theorem dX7_amount_4 : decode cX7_amount 4 = .ok (.iload_n 1, 1) := qd_27 kq_cX7_amount (by decide +kernel)
theorem dX7_amount_5 : decode cX7_amount 5 = .ok (.invokestatic 50, 3) := qd_184 kq_cX7_amount (by decide +kernel)
theorem dX7_amount_8 : decode cX7_amount 8 = .ok (.ireturn, 1) := qd_172 kq_cX7_amount (by decide +kernel)
def rmX7_amount (mc ms : Nat) : Room := { frames := 1, cells := mc, slots := ms, locals := 21 }
abbrev cX7_saidAt : ByteArray := prog_10_method_14_code
def yX7_saidAt : MethodName := ⟨RX7, "saidAt", "(I)I"⟩
def wsX7_saidAt : List Cond := .code yX7_saidAt cX7_saidAt 2 (some .int) :: sr_G
def nq_cX7_saidAt : Nat := 0xac020400a77eff0011331b0f00b42a1000a2be0f00b42a1b19009b1b
theorem kq_cX7_saidAt : qOk cX7_saidAt nq_cX7_saidAt 28 = true := by decide +kernel
theorem dX7_saidAt_0 : decode cX7_saidAt 0 = .ok (.iload_n 1, 1) := qd_27 kq_cX7_saidAt (by decide +kernel)
theorem dX7_saidAt_1 : decode cX7_saidAt 1 = .ok (.ifCond .lt 25, 3) := qd_155 kq_cX7_saidAt (by decide +kernel)
theorem dX7_saidAt_4 : decode cX7_saidAt 4 = .ok (.iload_n 1, 1) := qd_27 kq_cX7_saidAt (by decide +kernel)
theorem dX7_saidAt_5 : decode cX7_saidAt 5 = .ok (.aload_n 0, 1) := qd_42 kq_cX7_saidAt (by decide +kernel)
theorem dX7_saidAt_6 : decode cX7_saidAt 6 = .ok (.getfield 15, 3) := qd_180 kq_cX7_saidAt (by decide +kernel)
theorem dX7_saidAt_9 : decode cX7_saidAt 9 = .ok (.arraylength, 1) := qd_190 kq_cX7_saidAt (by decide +kernel)
theorem dX7_saidAt_10 : decode cX7_saidAt 10 = .ok (.if_icmp .ge 16, 3) := qd_162 kq_cX7_saidAt (by decide +kernel)
theorem dX7_saidAt_13 : decode cX7_saidAt 13 = .ok (.aload_n 0, 1) := qd_42 kq_cX7_saidAt (by decide +kernel)
theorem dX7_saidAt_14 : decode cX7_saidAt 14 = .ok (.getfield 15, 3) := qd_180 kq_cX7_saidAt (by decide +kernel)
theorem dX7_saidAt_17 : decode cX7_saidAt 17 = .ok (.iload_n 1, 1) := qd_27 kq_cX7_saidAt (by decide +kernel)
theorem dX7_saidAt_18 : decode cX7_saidAt 18 = .ok (.baload, 1) := qd_51 kq_cX7_saidAt (by decide +kernel)
theorem dX7_saidAt_19 : decode cX7_saidAt 19 = .ok (.sipush 255, 3) := qd_17 kq_cX7_saidAt (by decide +kernel)
theorem dX7_saidAt_22 : decode cX7_saidAt 22 = .ok (.iand, 1) := qd_126 kq_cX7_saidAt (by decide +kernel)
theorem dX7_saidAt_23 : decode cX7_saidAt 23 = .ok (.goto 4, 3) := qd_167 kq_cX7_saidAt (by decide +kernel)
theorem dX7_saidAt_26 : decode cX7_saidAt 26 = .ok (.iconst (-1), 1) := qd_2 kq_cX7_saidAt (by decide +kernel)
theorem dX7_saidAt_27 : decode cX7_saidAt 27 = .ok (.ireturn, 1) := qd_172 kq_cX7_saidAt (by decide +kernel)
def rmX7_saidAt (mc ms : Nat) : Room := { frames := 0, cells := mc, slots := ms, locals := 0 }
abbrev cX7_says : ByteArray := prog_10_method_15_code
def yX7_says : MethodName := ⟨RX7, "says", "(ILjava/lang/String;)Z"⟩
def wsX7_says : List Cond := .code yX7_says cX7_says 4 (some .boolean) :: sr_G
def nq_cX7_says : Nat := 0xac04e4ffa7010384ac0305009f3e00b61d2c3b00b6601d1b2a1a00a23600b62c1d3e03ac0305009f3600b62c3200b81b1900b42a1200a022102a00b61b2a
theorem kq_cX7_says : qOk cX7_says nq_cX7_says 62 = true := by decide +kernel
theorem dX7_says_0 : decode cX7_says 0 = .ok (.aload_n 0, 1) := qd_42 kq_cX7_says (by decide +kernel)
theorem dX7_says_1 : decode cX7_says 1 = .ok (.iload_n 1, 1) := qd_27 kq_cX7_says (by decide +kernel)
theorem dX7_says_2 : decode cX7_says 2 = .ok (.invokevirtual 42, 3) := qd_182 kq_cX7_says (by decide +kernel)
theorem dX7_says_5 : decode cX7_says 5 = .ok (.bipush 34, 2) := qd_16 kq_cX7_says (by decide +kernel)
theorem dX7_says_7 : decode cX7_says 7 = .ok (.if_icmp .ne 18, 3) := qd_160 kq_cX7_says (by decide +kernel)
theorem dX7_says_10 : decode cX7_says 10 = .ok (.aload_n 0, 1) := qd_42 kq_cX7_says (by decide +kernel)
theorem dX7_says_11 : decode cX7_says 11 = .ok (.getfield 25, 3) := qd_180 kq_cX7_says (by decide +kernel)
theorem dX7_says_14 : decode cX7_says 14 = .ok (.iload_n 1, 1) := qd_27 kq_cX7_says (by decide +kernel)
theorem dX7_says_15 : decode cX7_says 15 = .ok (.invokestatic 50, 3) := qd_184 kq_cX7_says (by decide +kernel)
theorem dX7_says_18 : decode cX7_says 18 = .ok (.aload_n 2, 1) := qd_44 kq_cX7_says (by decide +kernel)
theorem dX7_says_19 : decode cX7_says 19 = .ok (.invokevirtual 54, 3) := qd_182 kq_cX7_says (by decide +kernel)
theorem dX7_says_22 : decode cX7_says 22 = .ok (.if_icmp .eq 5, 3) := qd_159 kq_cX7_says (by decide +kernel)
theorem dX7_says_25 : decode cX7_says 25 = .ok (.iconst 0, 1) := qd_3 kq_cX7_says (by decide +kernel)
theorem dX7_says_26 : decode cX7_says 26 = .ok (.ireturn, 1) := qd_172 kq_cX7_says (by decide +kernel)
theorem dX7_says_27 : decode cX7_says 27 = .ok (.iconst 0, 1) := qd_3 kq_cX7_says (by decide +kernel)
theorem dX7_says_28 : decode cX7_says 28 = .ok (.istore_n 3, 1) := qd_62 kq_cX7_says (by decide +kernel)
theorem dX7_says_29 : decode cX7_says 29 = .ok (.iload_n 3, 1) := qd_29 kq_cX7_says (by decide +kernel)
theorem dX7_says_30 : decode cX7_says 30 = .ok (.aload_n 2, 1) := qd_44 kq_cX7_says (by decide +kernel)
theorem dX7_says_31 : decode cX7_says 31 = .ok (.invokevirtual 54, 3) := qd_182 kq_cX7_says (by decide +kernel)
theorem dX7_says_34 : decode cX7_says 34 = .ok (.if_icmp .ge 26, 3) := qd_162 kq_cX7_says (by decide +kernel)
theorem dX7_says_37 : decode cX7_says 37 = .ok (.aload_n 0, 1) := qd_42 kq_cX7_says (by decide +kernel)
theorem dX7_says_38 : decode cX7_says 38 = .ok (.iload_n 1, 1) := qd_27 kq_cX7_says (by decide +kernel)
theorem dX7_says_39 : decode cX7_says 39 = .ok (.iload_n 3, 1) := qd_29 kq_cX7_says (by decide +kernel)
theorem dX7_says_40 : decode cX7_says 40 = .ok (.iadd, 1) := qd_96 kq_cX7_says (by decide +kernel)
theorem dX7_says_41 : decode cX7_says 41 = .ok (.invokevirtual 59, 3) := qd_182 kq_cX7_says (by decide +kernel)
theorem dX7_says_44 : decode cX7_says 44 = .ok (.aload_n 2, 1) := qd_44 kq_cX7_says (by decide +kernel)
theorem dX7_says_45 : decode cX7_says 45 = .ok (.iload_n 3, 1) := qd_29 kq_cX7_says (by decide +kernel)
theorem dX7_says_46 : decode cX7_says 46 = .ok (.invokevirtual 62, 3) := qd_182 kq_cX7_says (by decide +kernel)
theorem dX7_says_49 : decode cX7_says 49 = .ok (.if_icmp .eq 5, 3) := qd_159 kq_cX7_says (by decide +kernel)
theorem dX7_says_52 : decode cX7_says 52 = .ok (.iconst 0, 1) := qd_3 kq_cX7_says (by decide +kernel)
theorem dX7_says_53 : decode cX7_says 53 = .ok (.ireturn, 1) := qd_172 kq_cX7_says (by decide +kernel)
theorem dX7_says_54 : decode cX7_says 54 = .ok (.iinc 3 1, 3) := qd_132 kq_cX7_says (by decide +kernel)
theorem dX7_says_57 : decode cX7_says 57 = .ok (.goto (-28), 3) := qd_167 kq_cX7_says (by decide +kernel)
theorem dX7_says_60 : decode cX7_says 60 = .ok (.iconst 1, 1) := qd_4 kq_cX7_says (by decide +kernel)
theorem dX7_says_61 : decode cX7_says 61 = .ok (.ireturn, 1) := qd_172 kq_cX7_says (by decide +kernel)
def rmX7_says (mc ms : Nat) : Room := { frames := 4, cells := mc, slots := ms, locals := 85 }
abbrev cX7_saysSame : ByteArray := prog_10_method_16_code
def yX7_saysSame : MethodName := ⟨RX7, "saysSame", "(II)Z"⟩
def wsX7_saysSame : List Cond := .code yX7_saysSame cX7_saysSame 5 (some .boolean) :: sr_G
def nq_cX7_saysSame : Nat := 0xac04e2ffa7010484ac0305009f3b00b66004151c2a3b00b66004151b2a1e00a21d0415043603ac0305009f3200b81c1900b42a1d3e3200b81b1900b42a
theorem kq_cX7_saysSame : qOk cX7_saysSame nq_cX7_saysSame 61 = true := by decide +kernel
theorem dX7_saysSame_0 : decode cX7_saysSame 0 = .ok (.aload_n 0, 1) := qd_42 kq_cX7_saysSame (by decide +kernel)
theorem dX7_saysSame_1 : decode cX7_saysSame 1 = .ok (.getfield 25, 3) := qd_180 kq_cX7_saysSame (by decide +kernel)
theorem dX7_saysSame_4 : decode cX7_saysSame 4 = .ok (.iload_n 1, 1) := qd_27 kq_cX7_saysSame (by decide +kernel)
theorem dX7_saysSame_5 : decode cX7_saysSame 5 = .ok (.invokestatic 50, 3) := qd_184 kq_cX7_saysSame (by decide +kernel)
theorem dX7_saysSame_8 : decode cX7_saysSame 8 = .ok (.istore_n 3, 1) := qd_62 kq_cX7_saysSame (by decide +kernel)
theorem dX7_saysSame_9 : decode cX7_saysSame 9 = .ok (.iload_n 3, 1) := qd_29 kq_cX7_saysSame (by decide +kernel)
theorem dX7_saysSame_10 : decode cX7_saysSame 10 = .ok (.aload_n 0, 1) := qd_42 kq_cX7_saysSame (by decide +kernel)
theorem dX7_saysSame_11 : decode cX7_saysSame 11 = .ok (.getfield 25, 3) := qd_180 kq_cX7_saysSame (by decide +kernel)
theorem dX7_saysSame_14 : decode cX7_saysSame 14 = .ok (.iload_n 2, 1) := qd_28 kq_cX7_saysSame (by decide +kernel)
theorem dX7_saysSame_15 : decode cX7_saysSame 15 = .ok (.invokestatic 50, 3) := qd_184 kq_cX7_saysSame (by decide +kernel)
theorem dX7_saysSame_18 : decode cX7_saysSame 18 = .ok (.if_icmp .eq 5, 3) := qd_159 kq_cX7_saysSame (by decide +kernel)
theorem dX7_saysSame_21 : decode cX7_saysSame 21 = .ok (.iconst 0, 1) := qd_3 kq_cX7_saysSame (by decide +kernel)
theorem dX7_saysSame_22 : decode cX7_saysSame 22 = .ok (.ireturn, 1) := qd_172 kq_cX7_saysSame (by decide +kernel)
theorem dX7_saysSame_23 : decode cX7_saysSame 23 = .ok (.iconst 0, 1) := qd_3 kq_cX7_saysSame (by decide +kernel)
theorem dX7_saysSame_24 : decode cX7_saysSame 24 = .ok (.istore 4, 2) := qd_54 kq_cX7_saysSame (by decide +kernel)
theorem dX7_saysSame_26 : decode cX7_saysSame 26 = .ok (.iload 4, 2) := qd_21 kq_cX7_saysSame (by decide +kernel)
theorem dX7_saysSame_28 : decode cX7_saysSame 28 = .ok (.iload_n 3, 1) := qd_29 kq_cX7_saysSame (by decide +kernel)
theorem dX7_saysSame_29 : decode cX7_saysSame 29 = .ok (.if_icmp .ge 30, 3) := qd_162 kq_cX7_saysSame (by decide +kernel)
theorem dX7_saysSame_32 : decode cX7_saysSame 32 = .ok (.aload_n 0, 1) := qd_42 kq_cX7_saysSame (by decide +kernel)
theorem dX7_saysSame_33 : decode cX7_saysSame 33 = .ok (.iload_n 1, 1) := qd_27 kq_cX7_saysSame (by decide +kernel)
theorem dX7_saysSame_34 : decode cX7_saysSame 34 = .ok (.iload 4, 2) := qd_21 kq_cX7_saysSame (by decide +kernel)
theorem dX7_saysSame_36 : decode cX7_saysSame 36 = .ok (.iadd, 1) := qd_96 kq_cX7_saysSame (by decide +kernel)
theorem dX7_saysSame_37 : decode cX7_saysSame 37 = .ok (.invokevirtual 59, 3) := qd_182 kq_cX7_saysSame (by decide +kernel)
theorem dX7_saysSame_40 : decode cX7_saysSame 40 = .ok (.aload_n 0, 1) := qd_42 kq_cX7_saysSame (by decide +kernel)
theorem dX7_saysSame_41 : decode cX7_saysSame 41 = .ok (.iload_n 2, 1) := qd_28 kq_cX7_saysSame (by decide +kernel)
theorem dX7_saysSame_42 : decode cX7_saysSame 42 = .ok (.iload 4, 2) := qd_21 kq_cX7_saysSame (by decide +kernel)
theorem dX7_saysSame_44 : decode cX7_saysSame 44 = .ok (.iadd, 1) := qd_96 kq_cX7_saysSame (by decide +kernel)
theorem dX7_saysSame_45 : decode cX7_saysSame 45 = .ok (.invokevirtual 59, 3) := qd_182 kq_cX7_saysSame (by decide +kernel)
theorem dX7_saysSame_48 : decode cX7_saysSame 48 = .ok (.if_icmp .eq 5, 3) := qd_159 kq_cX7_saysSame (by decide +kernel)
theorem dX7_saysSame_51 : decode cX7_saysSame 51 = .ok (.iconst 0, 1) := qd_3 kq_cX7_saysSame (by decide +kernel)
theorem dX7_saysSame_52 : decode cX7_saysSame 52 = .ok (.ireturn, 1) := qd_172 kq_cX7_saysSame (by decide +kernel)
theorem dX7_saysSame_53 : decode cX7_saysSame 53 = .ok (.iinc 4 1, 3) := qd_132 kq_cX7_saysSame (by decide +kernel)
theorem dX7_saysSame_56 : decode cX7_saysSame 56 = .ok (.goto (-30), 3) := qd_167 kq_cX7_saysSame (by decide +kernel)
theorem dX7_saysSame_59 : decode cX7_saysSame 59 = .ok (.iconst 1, 1) := qd_4 kq_cX7_saysSame (by decide +kernel)
theorem dX7_saysSame_60 : decode cX7_saysSame 60 = .ok (.ireturn, 1) := qd_172 kq_cX7_saysSame (by decide +kernel)
def rmX7_saysSame (mc ms : Nat) : Room := { frames := 1, cells := mc, slots := ms, locals := 21 }
abbrev cX7_hash : ByteArray := prog_10_method_17_code
def yX7_hash : MethodName := ⟨RX7, "hash", "(I)I"⟩
def wsX7_hash : List Cond := .code yX7_hash cX7_hash 5 (some .int) :: sr_G
def nq_cX7_hash : Nat := 0xac1de9ffa70104843e603b00b66004151b2a681f101d1700a21c04150436033e1c3d3200b81b1900b42a
theorem kq_cX7_hash : qOk cX7_hash nq_cX7_hash 42 = true := by decide +kernel
theorem dX7_hash_0 : decode cX7_hash 0 = .ok (.aload_n 0, 1) := qd_42 kq_cX7_hash (by decide +kernel)
theorem dX7_hash_1 : decode cX7_hash 1 = .ok (.getfield 25, 3) := qd_180 kq_cX7_hash (by decide +kernel)
theorem dX7_hash_4 : decode cX7_hash 4 = .ok (.iload_n 1, 1) := qd_27 kq_cX7_hash (by decide +kernel)
theorem dX7_hash_5 : decode cX7_hash 5 = .ok (.invokestatic 50, 3) := qd_184 kq_cX7_hash (by decide +kernel)
theorem dX7_hash_8 : decode cX7_hash 8 = .ok (.istore_n 2, 1) := qd_61 kq_cX7_hash (by decide +kernel)
theorem dX7_hash_9 : decode cX7_hash 9 = .ok (.iload_n 2, 1) := qd_28 kq_cX7_hash (by decide +kernel)
theorem dX7_hash_10 : decode cX7_hash 10 = .ok (.istore_n 3, 1) := qd_62 kq_cX7_hash (by decide +kernel)
theorem dX7_hash_11 : decode cX7_hash 11 = .ok (.iconst 0, 1) := qd_3 kq_cX7_hash (by decide +kernel)
theorem dX7_hash_12 : decode cX7_hash 12 = .ok (.istore 4, 2) := qd_54 kq_cX7_hash (by decide +kernel)
theorem dX7_hash_14 : decode cX7_hash 14 = .ok (.iload 4, 2) := qd_21 kq_cX7_hash (by decide +kernel)
theorem dX7_hash_16 : decode cX7_hash 16 = .ok (.iload_n 2, 1) := qd_28 kq_cX7_hash (by decide +kernel)
theorem dX7_hash_17 : decode cX7_hash 17 = .ok (.if_icmp .ge 23, 3) := qd_162 kq_cX7_hash (by decide +kernel)
theorem dX7_hash_20 : decode cX7_hash 20 = .ok (.iload_n 3, 1) := qd_29 kq_cX7_hash (by decide +kernel)
theorem dX7_hash_21 : decode cX7_hash 21 = .ok (.bipush 31, 2) := qd_16 kq_cX7_hash (by decide +kernel)
theorem dX7_hash_23 : decode cX7_hash 23 = .ok (.imul, 1) := qd_104 kq_cX7_hash (by decide +kernel)
theorem dX7_hash_24 : decode cX7_hash 24 = .ok (.aload_n 0, 1) := qd_42 kq_cX7_hash (by decide +kernel)
theorem dX7_hash_25 : decode cX7_hash 25 = .ok (.iload_n 1, 1) := qd_27 kq_cX7_hash (by decide +kernel)
theorem dX7_hash_26 : decode cX7_hash 26 = .ok (.iload 4, 2) := qd_21 kq_cX7_hash (by decide +kernel)
theorem dX7_hash_28 : decode cX7_hash 28 = .ok (.iadd, 1) := qd_96 kq_cX7_hash (by decide +kernel)
theorem dX7_hash_29 : decode cX7_hash 29 = .ok (.invokevirtual 59, 3) := qd_182 kq_cX7_hash (by decide +kernel)
theorem dX7_hash_32 : decode cX7_hash 32 = .ok (.iadd, 1) := qd_96 kq_cX7_hash (by decide +kernel)
theorem dX7_hash_33 : decode cX7_hash 33 = .ok (.istore_n 3, 1) := qd_62 kq_cX7_hash (by decide +kernel)
theorem dX7_hash_34 : decode cX7_hash 34 = .ok (.iinc 4 1, 3) := qd_132 kq_cX7_hash (by decide +kernel)
theorem dX7_hash_37 : decode cX7_hash 37 = .ok (.goto (-23), 3) := qd_167 kq_cX7_hash (by decide +kernel)
theorem dX7_hash_40 : decode cX7_hash 40 = .ok (.iload_n 3, 1) := qd_29 kq_cX7_hash (by decide +kernel)
theorem dX7_hash_41 : decode cX7_hash 41 = .ok (.ireturn, 1) := qd_172 kq_cX7_hash (by decide +kernel)
def rmX7_hash (mc ms : Nat) : Room := { frames := 1, cells := mc, slots := ms, locals := 21 }
abbrev cX7_saysName : ByteArray := prog_10_method_18_code
def yX7_saysName : MethodName := ⟨RX7, "saysName", "(I)Z"⟩
def wsX7_saysName : List Cond := .code yX7_saysName cX7_saysName 5 (some .boolean) :: sr_G
def nq_cX7_saysName : Nat := 0xac04d6ffa7010384ac0305009f5f1004150c009a2e00b8041514009a4700b8041504363b00b6601d1b2a2b00a21c1d3e03ac030500992e00b83b00b61b2a0e00a320101c1400a1041c1900994400b61b2a3d4200b61b2a
theorem kq_cX7_saysName : qOk cX7_saysName nq_cX7_saysName 87 = true := by decide +kernel
theorem dX7_saysName_0 : decode cX7_saysName 0 = .ok (.aload_n 0, 1) := qd_42 kq_cX7_saysName (by decide +kernel)
theorem dX7_saysName_1 : decode cX7_saysName 1 = .ok (.iload_n 1, 1) := qd_27 kq_cX7_saysName (by decide +kernel)
theorem dX7_saysName_2 : decode cX7_saysName 2 = .ok (.invokevirtual 66, 3) := qd_182 kq_cX7_saysName (by decide +kernel)
theorem dX7_saysName_5 : decode cX7_saysName 5 = .ok (.istore_n 2, 1) := qd_61 kq_cX7_saysName (by decide +kernel)
theorem dX7_saysName_6 : decode cX7_saysName 6 = .ok (.aload_n 0, 1) := qd_42 kq_cX7_saysName (by decide +kernel)
theorem dX7_saysName_7 : decode cX7_saysName 7 = .ok (.iload_n 1, 1) := qd_27 kq_cX7_saysName (by decide +kernel)
theorem dX7_saysName_8 : decode cX7_saysName 8 = .ok (.invokevirtual 68, 3) := qd_182 kq_cX7_saysName (by decide +kernel)
theorem dX7_saysName_11 : decode cX7_saysName 11 = .ok (.ifCond .eq 25, 3) := qd_153 kq_cX7_saysName (by decide +kernel)
theorem dX7_saysName_14 : decode cX7_saysName 14 = .ok (.iload_n 2, 1) := qd_28 kq_cX7_saysName (by decide +kernel)
theorem dX7_saysName_15 : decode cX7_saysName 15 = .ok (.iconst 1, 1) := qd_4 kq_cX7_saysName (by decide +kernel)
theorem dX7_saysName_16 : decode cX7_saysName 16 = .ok (.if_icmp .lt 20, 3) := qd_161 kq_cX7_saysName (by decide +kernel)
theorem dX7_saysName_19 : decode cX7_saysName 19 = .ok (.iload_n 2, 1) := qd_28 kq_cX7_saysName (by decide +kernel)
theorem dX7_saysName_20 : decode cX7_saysName 20 = .ok (.bipush 32, 2) := qd_16 kq_cX7_saysName (by decide +kernel)
theorem dX7_saysName_22 : decode cX7_saysName 22 = .ok (.if_icmp .gt 14, 3) := qd_163 kq_cX7_saysName (by decide +kernel)
theorem dX7_saysName_25 : decode cX7_saysName 25 = .ok (.aload_n 0, 1) := qd_42 kq_cX7_saysName (by decide +kernel)
theorem dX7_saysName_26 : decode cX7_saysName 26 = .ok (.iload_n 1, 1) := qd_27 kq_cX7_saysName (by decide +kernel)
theorem dX7_saysName_27 : decode cX7_saysName 27 = .ok (.invokevirtual 59, 3) := qd_182 kq_cX7_saysName (by decide +kernel)
theorem dX7_saysName_30 : decode cX7_saysName 30 = .ok (.invokestatic 46, 3) := qd_184 kq_cX7_saysName (by decide +kernel)
theorem dX7_saysName_33 : decode cX7_saysName 33 = .ok (.ifCond .eq 5, 3) := qd_153 kq_cX7_saysName (by decide +kernel)
theorem dX7_saysName_36 : decode cX7_saysName 36 = .ok (.iconst 0, 1) := qd_3 kq_cX7_saysName (by decide +kernel)
theorem dX7_saysName_37 : decode cX7_saysName 37 = .ok (.ireturn, 1) := qd_172 kq_cX7_saysName (by decide +kernel)
theorem dX7_saysName_38 : decode cX7_saysName 38 = .ok (.iconst 0, 1) := qd_3 kq_cX7_saysName (by decide +kernel)
theorem dX7_saysName_39 : decode cX7_saysName 39 = .ok (.istore_n 3, 1) := qd_62 kq_cX7_saysName (by decide +kernel)
theorem dX7_saysName_40 : decode cX7_saysName 40 = .ok (.iload_n 3, 1) := qd_29 kq_cX7_saysName (by decide +kernel)
theorem dX7_saysName_41 : decode cX7_saysName 41 = .ok (.iload_n 2, 1) := qd_28 kq_cX7_saysName (by decide +kernel)
theorem dX7_saysName_42 : decode cX7_saysName 42 = .ok (.if_icmp .ge 43, 3) := qd_162 kq_cX7_saysName (by decide +kernel)
theorem dX7_saysName_45 : decode cX7_saysName 45 = .ok (.aload_n 0, 1) := qd_42 kq_cX7_saysName (by decide +kernel)
theorem dX7_saysName_46 : decode cX7_saysName 46 = .ok (.iload_n 1, 1) := qd_27 kq_cX7_saysName (by decide +kernel)
theorem dX7_saysName_47 : decode cX7_saysName 47 = .ok (.iload_n 3, 1) := qd_29 kq_cX7_saysName (by decide +kernel)
theorem dX7_saysName_48 : decode cX7_saysName 48 = .ok (.iadd, 1) := qd_96 kq_cX7_saysName (by decide +kernel)
theorem dX7_saysName_49 : decode cX7_saysName 49 = .ok (.invokevirtual 59, 3) := qd_182 kq_cX7_saysName (by decide +kernel)
theorem dX7_saysName_52 : decode cX7_saysName 52 = .ok (.istore 4, 2) := qd_54 kq_cX7_saysName (by decide +kernel)
theorem dX7_saysName_54 : decode cX7_saysName 54 = .ok (.iload 4, 2) := qd_21 kq_cX7_saysName (by decide +kernel)
theorem dX7_saysName_56 : decode cX7_saysName 56 = .ok (.invokestatic 71, 3) := qd_184 kq_cX7_saysName (by decide +kernel)
theorem dX7_saysName_59 : decode cX7_saysName 59 = .ok (.ifCond .ne 20, 3) := qd_154 kq_cX7_saysName (by decide +kernel)
theorem dX7_saysName_62 : decode cX7_saysName 62 = .ok (.iload 4, 2) := qd_21 kq_cX7_saysName (by decide +kernel)
theorem dX7_saysName_64 : decode cX7_saysName 64 = .ok (.invokestatic 46, 3) := qd_184 kq_cX7_saysName (by decide +kernel)
theorem dX7_saysName_67 : decode cX7_saysName 67 = .ok (.ifCond .ne 12, 3) := qd_154 kq_cX7_saysName (by decide +kernel)
theorem dX7_saysName_70 : decode cX7_saysName 70 = .ok (.iload 4, 2) := qd_21 kq_cX7_saysName (by decide +kernel)
theorem dX7_saysName_72 : decode cX7_saysName 72 = .ok (.bipush 95, 2) := qd_16 kq_cX7_saysName (by decide +kernel)
theorem dX7_saysName_74 : decode cX7_saysName 74 = .ok (.if_icmp .eq 5, 3) := qd_159 kq_cX7_saysName (by decide +kernel)
theorem dX7_saysName_77 : decode cX7_saysName 77 = .ok (.iconst 0, 1) := qd_3 kq_cX7_saysName (by decide +kernel)
theorem dX7_saysName_78 : decode cX7_saysName 78 = .ok (.ireturn, 1) := qd_172 kq_cX7_saysName (by decide +kernel)
theorem dX7_saysName_79 : decode cX7_saysName 79 = .ok (.iinc 3 1, 3) := qd_132 kq_cX7_saysName (by decide +kernel)
theorem dX7_saysName_82 : decode cX7_saysName 82 = .ok (.goto (-42), 3) := qd_167 kq_cX7_saysName (by decide +kernel)
theorem dX7_saysName_85 : decode cX7_saysName 85 = .ok (.iconst 1, 1) := qd_4 kq_cX7_saysName (by decide +kernel)
theorem dX7_saysName_86 : decode cX7_saysName 86 = .ok (.ireturn, 1) := qd_172 kq_cX7_saysName (by decide +kernel)
def rmX7_saysName (mc ms : Nat) : Room := { frames := 2, cells := mc, slots := ms, locals := 42 }
abbrev cX7_member : ByteArray := prog_10_method_19_code
def yX7_member : MethodName := ⟨RX7, "member", "(ILjava/lang/String;)I"⟩
def wsX7_member : List Cond := .code yX7_member cX7_member 5 (some .int) :: sr_G
def nq_cX7_member : Nat := 0xac02deffa70104843e5000b61d2aac4a00b61d2a0900994c00b62c1d2a1e00a24200b61b2a04150436033e4a00b61b2a
theorem kq_cX7_member : qOk cX7_member nq_cX7_member 48 = true := by decide +kernel
theorem dX7_member_0 : decode cX7_member 0 = .ok (.aload_n 0, 1) := qd_42 kq_cX7_member (by decide +kernel)
theorem dX7_member_1 : decode cX7_member 1 = .ok (.iload_n 1, 1) := qd_27 kq_cX7_member (by decide +kernel)
theorem dX7_member_2 : decode cX7_member 2 = .ok (.invokevirtual 74, 3) := qd_182 kq_cX7_member (by decide +kernel)
theorem dX7_member_5 : decode cX7_member 5 = .ok (.istore_n 3, 1) := qd_62 kq_cX7_member (by decide +kernel)
theorem dX7_member_6 : decode cX7_member 6 = .ok (.iconst 0, 1) := qd_3 kq_cX7_member (by decide +kernel)
theorem dX7_member_7 : decode cX7_member 7 = .ok (.istore 4, 2) := qd_54 kq_cX7_member (by decide +kernel)
theorem dX7_member_9 : decode cX7_member 9 = .ok (.iload 4, 2) := qd_21 kq_cX7_member (by decide +kernel)
theorem dX7_member_11 : decode cX7_member 11 = .ok (.aload_n 0, 1) := qd_42 kq_cX7_member (by decide +kernel)
theorem dX7_member_12 : decode cX7_member 12 = .ok (.iload_n 1, 1) := qd_27 kq_cX7_member (by decide +kernel)
theorem dX7_member_13 : decode cX7_member 13 = .ok (.invokevirtual 66, 3) := qd_182 kq_cX7_member (by decide +kernel)
theorem dX7_member_16 : decode cX7_member 16 = .ok (.if_icmp .ge 30, 3) := qd_162 kq_cX7_member (by decide +kernel)
theorem dX7_member_19 : decode cX7_member 19 = .ok (.aload_n 0, 1) := qd_42 kq_cX7_member (by decide +kernel)
theorem dX7_member_20 : decode cX7_member 20 = .ok (.iload_n 3, 1) := qd_29 kq_cX7_member (by decide +kernel)
theorem dX7_member_21 : decode cX7_member 21 = .ok (.aload_n 2, 1) := qd_44 kq_cX7_member (by decide +kernel)
theorem dX7_member_22 : decode cX7_member 22 = .ok (.invokevirtual 76, 3) := qd_182 kq_cX7_member (by decide +kernel)
theorem dX7_member_25 : decode cX7_member 25 = .ok (.ifCond .eq 9, 3) := qd_153 kq_cX7_member (by decide +kernel)
theorem dX7_member_28 : decode cX7_member 28 = .ok (.aload_n 0, 1) := qd_42 kq_cX7_member (by decide +kernel)
theorem dX7_member_29 : decode cX7_member 29 = .ok (.iload_n 3, 1) := qd_29 kq_cX7_member (by decide +kernel)
theorem dX7_member_30 : decode cX7_member 30 = .ok (.invokevirtual 74, 3) := qd_182 kq_cX7_member (by decide +kernel)
theorem dX7_member_33 : decode cX7_member 33 = .ok (.ireturn, 1) := qd_172 kq_cX7_member (by decide +kernel)
theorem dX7_member_34 : decode cX7_member 34 = .ok (.aload_n 0, 1) := qd_42 kq_cX7_member (by decide +kernel)
theorem dX7_member_35 : decode cX7_member 35 = .ok (.iload_n 3, 1) := qd_29 kq_cX7_member (by decide +kernel)
theorem dX7_member_36 : decode cX7_member 36 = .ok (.invokevirtual 80, 3) := qd_182 kq_cX7_member (by decide +kernel)
theorem dX7_member_39 : decode cX7_member 39 = .ok (.istore_n 3, 1) := qd_62 kq_cX7_member (by decide +kernel)
theorem dX7_member_40 : decode cX7_member 40 = .ok (.iinc 4 1, 3) := qd_132 kq_cX7_member (by decide +kernel)
theorem dX7_member_43 : decode cX7_member 43 = .ok (.goto (-34), 3) := qd_167 kq_cX7_member (by decide +kernel)
theorem dX7_member_46 : decode cX7_member 46 = .ok (.iconst (-1), 1) := qd_2 kq_cX7_member (by decide +kernel)
theorem dX7_member_47 : decode cX7_member 47 = .ok (.ireturn, 1) := qd_172 kq_cX7_member (by decide +kernel)
def rmX7_member (mc ms : Nat) : Room := { frames := 5, cells := mc, slots := ms, locals := 108 }
abbrev cX7_numberAt : ByteArray := prog_10_method_20_code
def yX7_numberAt : MethodName := ⟨RX7, "numberAt", "(I)J"⟩
def wsX7_numberAt : List Cond := .code yX7_numberAt cX7_numberAt 6 (some .long) :: sr_G
def nq_cX7_numberAt : Nat := 0xad75210500a7210700991cd7ffa70105844265856430102a00b605152a69520014211a00992e00b82a00b605152a2600a22300b42a051505361b0400a760041b0900991c42093d030400a7040700a02d102a00b61b2a
theorem kq_cX7_numberAt : qOk cX7_numberAt nq_cX7_numberAt 86 = true := by decide +kernel
theorem dX7_numberAt_0 : decode cX7_numberAt 0 = .ok (.aload_n 0, 1) := qd_42 kq_cX7_numberAt (by decide +kernel)
theorem dX7_numberAt_1 : decode cX7_numberAt 1 = .ok (.iload_n 1, 1) := qd_27 kq_cX7_numberAt (by decide +kernel)
theorem dX7_numberAt_2 : decode cX7_numberAt 2 = .ok (.invokevirtual 42, 3) := qd_182 kq_cX7_numberAt (by decide +kernel)
theorem dX7_numberAt_5 : decode cX7_numberAt 5 = .ok (.bipush 45, 2) := qd_16 kq_cX7_numberAt (by decide +kernel)
theorem dX7_numberAt_7 : decode cX7_numberAt 7 = .ok (.if_icmp .ne 7, 3) := qd_160 kq_cX7_numberAt (by decide +kernel)
theorem dX7_numberAt_10 : decode cX7_numberAt 10 = .ok (.iconst 1, 1) := qd_4 kq_cX7_numberAt (by decide +kernel)
theorem dX7_numberAt_11 : decode cX7_numberAt 11 = .ok (.goto 4, 3) := qd_167 kq_cX7_numberAt (by decide +kernel)
theorem dX7_numberAt_14 : decode cX7_numberAt 14 = .ok (.iconst 0, 1) := qd_3 kq_cX7_numberAt (by decide +kernel)
theorem dX7_numberAt_15 : decode cX7_numberAt 15 = .ok (.istore_n 2, 1) := qd_61 kq_cX7_numberAt (by decide +kernel)
theorem dX7_numberAt_16 : decode cX7_numberAt 16 = .ok (.lconst 0, 1) := qd_9 kq_cX7_numberAt (by decide +kernel)
theorem dX7_numberAt_17 : decode cX7_numberAt 17 = .ok (.lstore_n 3, 1) := qd_66 kq_cX7_numberAt (by decide +kernel)
theorem dX7_numberAt_18 : decode cX7_numberAt 18 = .ok (.iload_n 2, 1) := qd_28 kq_cX7_numberAt (by decide +kernel)
theorem dX7_numberAt_19 : decode cX7_numberAt 19 = .ok (.ifCond .eq 9, 3) := qd_153 kq_cX7_numberAt (by decide +kernel)
theorem dX7_numberAt_22 : decode cX7_numberAt 22 = .ok (.iload_n 1, 1) := qd_27 kq_cX7_numberAt (by decide +kernel)
theorem dX7_numberAt_23 : decode cX7_numberAt 23 = .ok (.iconst 1, 1) := qd_4 kq_cX7_numberAt (by decide +kernel)
theorem dX7_numberAt_24 : decode cX7_numberAt 24 = .ok (.iadd, 1) := qd_96 kq_cX7_numberAt (by decide +kernel)
theorem dX7_numberAt_25 : decode cX7_numberAt 25 = .ok (.goto 4, 3) := qd_167 kq_cX7_numberAt (by decide +kernel)
theorem dX7_numberAt_28 : decode cX7_numberAt 28 = .ok (.iload_n 1, 1) := qd_27 kq_cX7_numberAt (by decide +kernel)
theorem dX7_numberAt_29 : decode cX7_numberAt 29 = .ok (.istore 5, 2) := qd_54 kq_cX7_numberAt (by decide +kernel)
theorem dX7_numberAt_31 : decode cX7_numberAt 31 = .ok (.iload 5, 2) := qd_21 kq_cX7_numberAt (by decide +kernel)
theorem dX7_numberAt_33 : decode cX7_numberAt 33 = .ok (.aload_n 0, 1) := qd_42 kq_cX7_numberAt (by decide +kernel)
theorem dX7_numberAt_34 : decode cX7_numberAt 34 = .ok (.getfield 35, 3) := qd_180 kq_cX7_numberAt (by decide +kernel)
theorem dX7_numberAt_37 : decode cX7_numberAt 37 = .ok (.if_icmp .ge 38, 3) := qd_162 kq_cX7_numberAt (by decide +kernel)
theorem dX7_numberAt_40 : decode cX7_numberAt 40 = .ok (.aload_n 0, 1) := qd_42 kq_cX7_numberAt (by decide +kernel)
theorem dX7_numberAt_41 : decode cX7_numberAt 41 = .ok (.iload 5, 2) := qd_21 kq_cX7_numberAt (by decide +kernel)
theorem dX7_numberAt_43 : decode cX7_numberAt 43 = .ok (.invokevirtual 42, 3) := qd_182 kq_cX7_numberAt (by decide +kernel)
theorem dX7_numberAt_46 : decode cX7_numberAt 46 = .ok (.invokestatic 46, 3) := qd_184 kq_cX7_numberAt (by decide +kernel)
theorem dX7_numberAt_49 : decode cX7_numberAt 49 = .ok (.ifCond .eq 26, 3) := qd_153 kq_cX7_numberAt (by decide +kernel)
theorem dX7_numberAt_52 : decode cX7_numberAt 52 = .ok (.lload_n 3, 1) := qd_33 kq_cX7_numberAt (by decide +kernel)
theorem dX7_numberAt_53 : decode cX7_numberAt 53 = .ok (.ldc2_w 82, 3) := qd_20 kq_cX7_numberAt (by decide +kernel)
theorem dX7_numberAt_56 : decode cX7_numberAt 56 = .ok (.lmul, 1) := qd_105 kq_cX7_numberAt (by decide +kernel)
theorem dX7_numberAt_57 : decode cX7_numberAt 57 = .ok (.aload_n 0, 1) := qd_42 kq_cX7_numberAt (by decide +kernel)
theorem dX7_numberAt_58 : decode cX7_numberAt 58 = .ok (.iload 5, 2) := qd_21 kq_cX7_numberAt (by decide +kernel)
theorem dX7_numberAt_60 : decode cX7_numberAt 60 = .ok (.invokevirtual 42, 3) := qd_182 kq_cX7_numberAt (by decide +kernel)
theorem dX7_numberAt_63 : decode cX7_numberAt 63 = .ok (.bipush 48, 2) := qd_16 kq_cX7_numberAt (by decide +kernel)
theorem dX7_numberAt_65 : decode cX7_numberAt 65 = .ok (.isub, 1) := qd_100 kq_cX7_numberAt (by decide +kernel)
theorem dX7_numberAt_66 : decode cX7_numberAt 66 = .ok (.i2l, 1) := qd_133 kq_cX7_numberAt (by decide +kernel)
theorem dX7_numberAt_67 : decode cX7_numberAt 67 = .ok (.lsub, 1) := qd_101 kq_cX7_numberAt (by decide +kernel)
theorem dX7_numberAt_68 : decode cX7_numberAt 68 = .ok (.lstore_n 3, 1) := qd_66 kq_cX7_numberAt (by decide +kernel)
theorem dX7_numberAt_69 : decode cX7_numberAt 69 = .ok (.iinc 5 1, 3) := qd_132 kq_cX7_numberAt (by decide +kernel)
theorem dX7_numberAt_72 : decode cX7_numberAt 72 = .ok (.goto (-41), 3) := qd_167 kq_cX7_numberAt (by decide +kernel)
theorem dX7_numberAt_75 : decode cX7_numberAt 75 = .ok (.iload_n 2, 1) := qd_28 kq_cX7_numberAt (by decide +kernel)
theorem dX7_numberAt_76 : decode cX7_numberAt 76 = .ok (.ifCond .eq 7, 3) := qd_153 kq_cX7_numberAt (by decide +kernel)
theorem dX7_numberAt_79 : decode cX7_numberAt 79 = .ok (.lload_n 3, 1) := qd_33 kq_cX7_numberAt (by decide +kernel)
theorem dX7_numberAt_80 : decode cX7_numberAt 80 = .ok (.goto 5, 3) := qd_167 kq_cX7_numberAt (by decide +kernel)
theorem dX7_numberAt_83 : decode cX7_numberAt 83 = .ok (.lload_n 3, 1) := qd_33 kq_cX7_numberAt (by decide +kernel)
theorem dX7_numberAt_84 : decode cX7_numberAt 84 = .ok (.lneg, 1) := qd_117 kq_cX7_numberAt (by decide +kernel)
theorem dX7_numberAt_85 : decode cX7_numberAt 85 = .ok (.lreturn, 1) := qd_173 kq_cX7_numberAt (by decide +kernel)
def rmX7_numberAt (mc ms : Nat) : Room := { frames := 1, cells := mc, slots := ms, locals := 21 }
abbrev cX7_refuse : ByteArray := prog_10_method_22_code
def yX7_refuse : MethodName := ⟨RX7, "refuse", "(I)I"⟩
def wsX7_refuse : List Cond := .code yX7_refuse cX7_refuse 2 (some .int) :: sr_G
def nq_cX7_refuse : Nat := 0xac022700b51b2a
theorem kq_cX7_refuse : qOk cX7_refuse nq_cX7_refuse 7 = true := by decide +kernel
theorem dX7_refuse_0 : decode cX7_refuse 0 = .ok (.aload_n 0, 1) := qd_42 kq_cX7_refuse (by decide +kernel)
theorem dX7_refuse_1 : decode cX7_refuse 1 = .ok (.iload_n 1, 1) := qd_27 kq_cX7_refuse (by decide +kernel)
theorem dX7_refuse_2 : decode cX7_refuse 2 = .ok (.putfield 39, 3) := qd_181 kq_cX7_refuse (by decide +kernel)
theorem dX7_refuse_5 : decode cX7_refuse 5 = .ok (.iconst (-1), 1) := qd_2 kq_cX7_refuse (by decide +kernel)
theorem dX7_refuse_6 : decode cX7_refuse 6 = .ok (.ireturn, 1) := qd_172 kq_cX7_refuse (by decide +kernel)
def rmX7_refuse (mc ms : Nat) : Room := { frames := 0, cells := mc, slots := ms, locals := 0 }
abbrev cX7_isBlank : ByteArray := prog_10_method_24_code
def yX7_isBlank : MethodName := ⟨RX7, "isBlank", "(I)Z"⟩
def wsX7_isBlank : List Cond := .code yX7_isBlank cX7_isBlank 1 (some .boolean) :: sr_G
def nq_cX7_isBlank : Nat := 0xac030400a7040700a009101a09009f0d101a0f009f0a101a15009f20101a
theorem kq_cX7_isBlank : qOk cX7_isBlank nq_cX7_isBlank 30 = true := by decide +kernel
theorem dX7_isBlank_0 : decode cX7_isBlank 0 = .ok (.iload_n 0, 1) := qd_26 kq_cX7_isBlank (by decide +kernel)
theorem dX7_isBlank_1 : decode cX7_isBlank 1 = .ok (.bipush 32, 2) := qd_16 kq_cX7_isBlank (by decide +kernel)
theorem dX7_isBlank_3 : decode cX7_isBlank 3 = .ok (.if_icmp .eq 21, 3) := qd_159 kq_cX7_isBlank (by decide +kernel)
theorem dX7_isBlank_6 : decode cX7_isBlank 6 = .ok (.iload_n 0, 1) := qd_26 kq_cX7_isBlank (by decide +kernel)
theorem dX7_isBlank_7 : decode cX7_isBlank 7 = .ok (.bipush 10, 2) := qd_16 kq_cX7_isBlank (by decide +kernel)
theorem dX7_isBlank_9 : decode cX7_isBlank 9 = .ok (.if_icmp .eq 15, 3) := qd_159 kq_cX7_isBlank (by decide +kernel)
theorem dX7_isBlank_12 : decode cX7_isBlank 12 = .ok (.iload_n 0, 1) := qd_26 kq_cX7_isBlank (by decide +kernel)
theorem dX7_isBlank_13 : decode cX7_isBlank 13 = .ok (.bipush 13, 2) := qd_16 kq_cX7_isBlank (by decide +kernel)
theorem dX7_isBlank_15 : decode cX7_isBlank 15 = .ok (.if_icmp .eq 9, 3) := qd_159 kq_cX7_isBlank (by decide +kernel)
theorem dX7_isBlank_18 : decode cX7_isBlank 18 = .ok (.iload_n 0, 1) := qd_26 kq_cX7_isBlank (by decide +kernel)
theorem dX7_isBlank_19 : decode cX7_isBlank 19 = .ok (.bipush 9, 2) := qd_16 kq_cX7_isBlank (by decide +kernel)
theorem dX7_isBlank_21 : decode cX7_isBlank 21 = .ok (.if_icmp .ne 7, 3) := qd_160 kq_cX7_isBlank (by decide +kernel)
theorem dX7_isBlank_24 : decode cX7_isBlank 24 = .ok (.iconst 1, 1) := qd_4 kq_cX7_isBlank (by decide +kernel)
theorem dX7_isBlank_25 : decode cX7_isBlank 25 = .ok (.goto 4, 3) := qd_167 kq_cX7_isBlank (by decide +kernel)
theorem dX7_isBlank_28 : decode cX7_isBlank 28 = .ok (.iconst 0, 1) := qd_3 kq_cX7_isBlank (by decide +kernel)
theorem dX7_isBlank_29 : decode cX7_isBlank 29 = .ok (.ireturn, 1) := qd_172 kq_cX7_isBlank (by decide +kernel)
def rmX7_isBlank (mc ms : Nat) : Room := { frames := 0, cells := mc, slots := ms, locals := 0 }
abbrev cX7_behindBlanks : ByteArray := prog_10_method_23_code
def yX7_behindBlanks : MethodName := ⟨RX7, "behindBlanks", "(I)I"⟩
def wsX7_behindBlanks : List Cond := .code yX7_behindBlanks cX7_behindBlanks 3 (some .int) :: sr_G
def nq_cX7_behindBlanks : Nat := 0xac1ceaffa70102840900996100b82a00b61c2a1400a22300b42a1c3d1b
theorem kq_cX7_behindBlanks : qOk cX7_behindBlanks nq_cX7_behindBlanks 29 = true := by decide +kernel
theorem dX7_behindBlanks_0 : decode cX7_behindBlanks 0 = .ok (.iload_n 1, 1) := qd_27 kq_cX7_behindBlanks (by decide +kernel)
theorem dX7_behindBlanks_1 : decode cX7_behindBlanks 1 = .ok (.istore_n 2, 1) := qd_61 kq_cX7_behindBlanks (by decide +kernel)
theorem dX7_behindBlanks_2 : decode cX7_behindBlanks 2 = .ok (.iload_n 2, 1) := qd_28 kq_cX7_behindBlanks (by decide +kernel)
theorem dX7_behindBlanks_3 : decode cX7_behindBlanks 3 = .ok (.aload_n 0, 1) := qd_42 kq_cX7_behindBlanks (by decide +kernel)
theorem dX7_behindBlanks_4 : decode cX7_behindBlanks 4 = .ok (.getfield 35, 3) := qd_180 kq_cX7_behindBlanks (by decide +kernel)
theorem dX7_behindBlanks_7 : decode cX7_behindBlanks 7 = .ok (.if_icmp .ge 20, 3) := qd_162 kq_cX7_behindBlanks (by decide +kernel)
theorem dX7_behindBlanks_10 : decode cX7_behindBlanks 10 = .ok (.aload_n 0, 1) := qd_42 kq_cX7_behindBlanks (by decide +kernel)
theorem dX7_behindBlanks_11 : decode cX7_behindBlanks 11 = .ok (.iload_n 2, 1) := qd_28 kq_cX7_behindBlanks (by decide +kernel)
theorem dX7_behindBlanks_12 : decode cX7_behindBlanks 12 = .ok (.invokevirtual 42, 3) := qd_182 kq_cX7_behindBlanks (by decide +kernel)
theorem dX7_behindBlanks_15 : decode cX7_behindBlanks 15 = .ok (.invokestatic 97, 3) := qd_184 kq_cX7_behindBlanks (by decide +kernel)
theorem dX7_behindBlanks_18 : decode cX7_behindBlanks 18 = .ok (.ifCond .eq 9, 3) := qd_153 kq_cX7_behindBlanks (by decide +kernel)
theorem dX7_behindBlanks_21 : decode cX7_behindBlanks 21 = .ok (.iinc 2 1, 3) := qd_132 kq_cX7_behindBlanks (by decide +kernel)
theorem dX7_behindBlanks_24 : decode cX7_behindBlanks 24 = .ok (.goto (-22), 3) := qd_167 kq_cX7_behindBlanks (by decide +kernel)
theorem dX7_behindBlanks_27 : decode cX7_behindBlanks 27 = .ok (.iload_n 2, 1) := qd_28 kq_cX7_behindBlanks (by decide +kernel)
theorem dX7_behindBlanks_28 : decode cX7_behindBlanks 28 = .ok (.ireturn, 1) := qd_172 kq_cX7_behindBlanks (by decide +kernel)
def rmX7_behindBlanks (mc ms : Nat) : Room := { frames := 1, cells := mc, slots := ms, locals := 21 }
theorem g7_42 (c0 : Cond) : GoodIn (c0 :: sr_G) (wsV RX7 42 RX7 yX7_byteAt wsX7_byteAt) := sr_V c0 (sr_insI [(1, 235), (1, 236), (1, 237), (1, 2), (1, 238)] (by decide +kernel))
theorem g7_54 (c0 : Cond) : GoodIn (c0 :: sr_G) (wsV RX7 54 RX20 yX20_length wsX20_length) := sr_V c0 (sr_insI [(2, 72), (2, 73), (2, 74), (1, 15), (2, 75)] (by decide +kernel))
theorem g7_59 (c0 : Cond) : GoodIn (c0 :: sr_G) (wsV RX7 59 RX7 yX7_saidAt wsX7_saidAt) := sr_V c0 (sr_insI [(2, 55), (2, 56), (2, 57), (1, 2), (2, 58)] (by decide +kernel))
theorem g7_62 (c0 : Cond) : GoodIn (c0 :: sr_G) (wsV RX7 62 RX20 yX20_charAt wsX20_charAt) := sr_V c0 (sr_insI [(2, 82), (2, 83), (2, 84), (1, 15), (2, 85)] (by decide +kernel))
theorem g7_66 (c0 : Cond) : GoodIn (c0 :: sr_G) (wsV RX7 66 RX7 yX7_amount wsX7_amount) := sr_V c0 (sr_insI [(3, 43), (2, 198), (2, 199), (1, 2), (2, 200)] (by decide +kernel))
theorem g7_68 (c0 : Cond) : GoodIn (c0 :: sr_G) (wsV RX7 68 RX7 yX7_isString wsX7_isString) := sr_V c0 (sr_insI [(2, 25), (2, 26), (2, 27), (1, 2), (2, 28)] (by decide +kernel))
theorem g7_74 (c0 : Cond) : GoodIn (c0 :: sr_G) (wsV RX7 74 RX7 yX7_inner wsX7_inner) := sr_V c0 (sr_insI [(3, 42), (2, 228), (2, 229), (1, 2), (2, 230)] (by decide +kernel))
theorem g7_76 (c0 : Cond) : GoodIn (c0 :: sr_G) (wsV RX7 76 RX7 yX7_says wsX7_says) := sr_V c0 (sr_insI [(3, 44), (2, 179), (2, 180), (1, 2), (2, 181)] (by decide +kernel))
theorem g7_80 (c0 : Cond) : GoodIn (c0 :: sr_G) (wsV RX7 80 RX7 yX7_next wsX7_next) := sr_V c0 (sr_insI [(3, 45), (3, 29), (3, 30), (1, 2), (3, 31)] (by decide +kernel))
theorem g7_97 (c0 : Cond) : GoodIn (c0 :: sr_G) (va_wsS RX7 97 yX7_isBlank wsX7_isBlank) := sr_S c0 (sr_insI [(1, 239), (2, 0), (1, 2), (2, 1)] (by decide +kernel))
theorem gn7_46 : (∀ w ∈ ([.static yX8_isDigit, .initialized yX8_isDigit.cls, .code yX8_isDigit cX8_isDigit 1 (some .boolean)] : List Cond), w ∈ sr_G) ∧ (.methodLinkNest RX7 46 yX8_isDigit "SchemaReader" : Cond) ∈ sr_N := ⟨sr_ins (by decide +kernel), List.mem_filter.mpr ⟨in_tables_1_2 _ (List.mem_of_getElem? (i := 126) rfl), rfl⟩⟩
theorem gn7_50 : (∀ w ∈ ([.static yX8_entry, .initialized yX8_entry.cls, .code yX8_entry cX8_entry 2 (some .int)] : List Cond), w ∈ sr_G) ∧ (.methodLinkNest RX7 50 yX8_entry "SchemaReader" : Cond) ∈ sr_N := ⟨sr_ins (by decide +kernel), List.mem_filter.mpr ⟨in_tables_1_2 _ (List.mem_of_getElem? (i := 52) rfl), rfl⟩⟩
theorem gn7_71 : (∀ w ∈ ([.static yX8_isLetter, .initialized yX8_isLetter.cls, .code yX8_isLetter cX8_isLetter 1 (some .boolean)] : List Cond), w ∈ sr_G) ∧ (.methodLinkNest RX7 71 yX8_isLetter "SchemaReader" : Cond) ∈ sr_N := ⟨sr_ins (by decide +kernel), List.mem_filter.mpr ⟨in_tables_1_3 _ (List.mem_of_getElem? (i := 70) rfl), rfl⟩⟩
end
section
set_option maxHeartbeats 4000000 in
set_option maxRecDepth 100000 in
theorem kX7_length (l : Launch) (htr : l.stackTraces = false) (dC : Nat → ClassId) (dI : Nat → Nat → Nat) (adK adV : Nat → Nat) (cI cB cJ cZ cQ : ClassId) (obT tq_tape tq_said tq_inner tq_next tq_amount obK : Nat) (t_length : Int32) (t_wrongPlace : Int32) (res : Int32) (hm : m_X7_length t_length = some res) : Met l yX7_length wsX7_length (rmX7_length 0 0) (pcR (sr_Z adK adV) (dC, dI) srCl [(cI, .int), (cB, .byte), (cJ, .long), (cZ, .boolean), (cQ, .object "SchemaReader$Schema")] [.ref obT] [(obT, .inr (9, [.ref tq_tape, .ref tq_said, .ref tq_inner, .ref tq_next, .ref tq_amount, .ref obK, .int t_length, .int t_wrongPlace]))]) (k2_QcV (.int res)) 0 0 (fun _ => False) := by
  refine Met.ofW (cc := cX7_length) (maxL := 1) (ret := (some .int)) (by decide) rfl ?_
  intro p e s m args below meth c s₁ B hml hv
  obtain ⟨rfl, hP, hK, hz0⟩ := hv
  have hx := B.exec
  have hb := B.bytes
  have hr := B.returns
  have hts := atoms_spec (ws := wsX7_length) B.pre
  have hown : s.vm.findClass RX7 = some m.cls := findClass_of_methodNamed B.named
  have hlocks := B.notSynchronized
  have hS : va_S (fun _ => False) s.heap s.heap [] := va_S.rf
  generalize hQ0 : MQ below (k2_QcV (.int res)) [.ref obT].toArray s 0 0 (fun _ => False) = Q0
  have hl := lv_entry [.ref obT] (n := 1) (Nat.le_of_ble_eq_true rfl)
  rw [lg_entry_eq]
  generalize (lg_sl [.ref obT] ++ List.replicate (1 - (lg_sl [.ref obT]).length) Slot.unset).toArray = ls at hl ⊢
  have hl : lv_has ls 1 [(0, .ref obT)] := hl
  unfold m_X7_length at hm
  refine lv_aload_n hx hb dX7_length_0 rfl (lv_at hl 0 rfl) ?_
  refine va_get (D := (dC, dI)) (ci := 9) (v := .int t_length) (C := RX7) (T := TX7) (N := 8) hx hb hts (inX7 _) hown hK hP 0 rfl rfl 6 (by decide) (hts _ (List.mem_cons_of_mem _ wf7_35)) (fun _ h9 => h9) rfl dX7_length_1 ?_
  obtain rfl := Option.some.inj hm
  subst hQ0
  exact W.iret (v := t_length) hx hb hr (fun t ht hW => ⟨rfl, ht⟩) (fun q h => by cases h) dX7_length_4
set_option maxHeartbeats 4000000 in
set_option maxRecDepth 100000 in
theorem kX7_append (l : Launch) (htr : l.stackTraces = false) (dC : Nat → ClassId) (dI : Nat → Nat → Nat) (adK adV : Nat → Nat) (cI cB cJ cZ cQ : ClassId) (obT tq_tape tq_said tq_inner tq_next tq_amount obK : Nat) (t_length : Int32) (t_wrongPlace : Int32) (t_tape : Nat → Int32) (sz : Nat) (a0 : Int32) (res : (Nat → Int32) × Int32) (hm : m_X7_append t_tape t_length a0 = some res) : Met l yX7_append wsX7_append (rmX7_append 0 0) (pcW (sr_Z adK adV) (dC, dI) srCl [(cI, .int), (cB, .byte), (cJ, .long), (cZ, .boolean), (cQ, .object "SchemaReader$Schema")] [.ref obT, .int a0] [(obT, .inr (9, [.ref tq_tape, .ref tq_said, .ref tq_inner, .ref tq_next, .ref tq_amount, .ref obK, .int t_length, .int t_wrongPlace])), (tq_tape, .inl (cB, 4096, .inl t_tape))] sz) (va_Qv (fun u' => u' = res) (pcB (dC, dI) srCl [(cI, .int), (cB, .byte), (cJ, .long), (cZ, .boolean), (cQ, .object "SchemaReader$Schema")] (fun u : (Nat → Int32) × Int32 => [(obT, .inr (9, [.ref tq_tape, .ref tq_said, .ref tq_inner, .ref tq_next, .ref tq_amount, .ref obK, .int u.2, .int t_wrongPlace])), (tq_tape, .inl (cB, 4096, .inl u.1))]) (va_A [(obT, .inr (9, [.ref tq_tape, .ref tq_said, .ref tq_inner, .ref tq_next, .ref tq_amount, .ref obK, .int t_length, .int t_wrongPlace])), (tq_tape, .inl (cB, 4096, .inl t_tape))] sz)) (va_A [(obT, .inr (9, [.ref tq_tape, .ref tq_said, .ref tq_inner, .ref tq_next, .ref tq_amount, .ref obK, .int t_length, .int t_wrongPlace])), (tq_tape, .inl (cB, 4096, .inl t_tape))] sz)) 0 0 (va_A [(obT, .inr (9, [.ref tq_tape, .ref tq_said, .ref tq_inner, .ref tq_next, .ref tq_amount, .ref obK, .int t_length, .int t_wrongPlace])), (tq_tape, .inl (cB, 4096, .inl t_tape))] sz) := by
  refine Met.ofW (cc := cX7_append) (maxL := 3) (ret := none) (by decide) rfl ?_
  intro p e s m args below meth c s₁ B hml hv
  obtain ⟨rfl, hsz, hP, hK, hD0, hz0⟩ := hv
  have hx := B.exec
  have hb := B.bytes
  have hr := B.returns
  have hts := atoms_spec (ws := wsX7_append) B.pre
  have hown : s.vm.findClass RX7 = some m.cls := findClass_of_methodNamed B.named
  have hlocks := B.notSynchronized
  subst hsz
  have hD := hD0.self (sz := s.heap.size)
  generalize hAe : va_A [(obT, .inr (9, [.ref tq_tape, .ref tq_said, .ref tq_inner, .ref tq_next, .ref tq_amount, .ref obK, .int t_length, .int t_wrongPlace])), (tq_tape, .inl (cB, 4096, .inl t_tape))] s.heap.size = A at hD hz0 ⊢
  have hA : ∀ q : Nat, s.heap.size ≤ q → A q := fun q h => by rw [← hAe]; exact Or.inr h
  have hS : va_S A s.heap s.heap [] := va_S.rf
  generalize hQ0 : MQ below (va_Qv (fun u' => u' = res) (pcB (dC, dI) srCl [(cI, .int), (cB, .byte), (cJ, .long), (cZ, .boolean), (cQ, .object "SchemaReader$Schema")] (fun u : (Nat → Int32) × Int32 => [(obT, .inr (9, [.ref tq_tape, .ref tq_said, .ref tq_inner, .ref tq_next, .ref tq_amount, .ref obK, .int u.2, .int t_wrongPlace])), (tq_tape, .inl (cB, 4096, .inl u.1))]) A) A) [.ref obT, .int a0].toArray s 0 0 A = Q0
  have hl := lv_entry [.ref obT, .int a0] (n := 3) (Nat.le_of_ble_eq_true rfl)
  rw [lg_entry_eq]
  generalize (lg_sl [.ref obT, .int a0] ++ List.replicate (3 - (lg_sl [.ref obT, .int a0]).length) Slot.unset).toArray = ls at hl ⊢
  have hl : lv_has ls 3 [(0, .ref obT), (1, .int a0)] := hl
  unfold m_X7_append at hm
  refine lv_bipush (v := 24) hx hb dX7_append_0 (by decide) ?_
  have j3 : ∀ (n3 : Nat) (t_tape : Nat → Int32) (t_length : Int32) (x1 : Int32) (x2 : Int32) (H : Heap) (locs : List Loc) (ls : Array Slot), va_P (dC, dI) srCl [(obT, .inr (9, [.ref tq_tape, .ref tq_said, .ref tq_inner, .ref tq_next, .ref tq_amount, .ref obK, .int t_length, .int t_wrongPlace])), (tq_tape, .inl (cB, 4096, .inl t_tape))] H → va_D A [(obT, .inr (9, [.ref tq_tape, .ref tq_said, .ref tq_inner, .ref tq_next, .ref tq_amount, .ref obK, .int t_length, .int t_wrongPlace])), (tq_tape, .inl (cB, 4096, .inl t_tape))] → va_S A s.heap H locs → lv_has ls 3 [(0, .ref obT), (1, .int x1), (2, .int x2)] → m_X7_append_3 n3 t_tape t_length x1 x2 = some res → W p l e (headSpec wsX7_append (rmX7_append 0 0)).room s m [.ref obT, .int a0].toArray below meth c H locs 0 0 Q0 (F0 m 3 ls []) := by
    intro n3
    induction n3 with
    | zero => intro t_tape t_length x1 x2 H locs ls hP hD hS hl hm; exact nomatch (show (none : Option _) = some res from hm)
    | succ n3 ih3 =>
      intro t_tape t_length x1 x2 H locs ls hP hD hS hl hm
      rw [m_X7_append_3] at hm
      refine lv_iload_n hx hb dX7_append_3 rfl (lv_at hl 2 rfl) ?_
      refine lv_if_lt (tgt := 48) hx hb dX7_append_4 (by decide) (fun c1 => ?_) (fun c1 => ?_)
      · have hm := mr_if c1 hm
        obtain rfl := Option.some.inj hm
        subst hQ0
        exact W.vret hx hb hr (fun t ht hW => ⟨⟨(t_tape, t_length), rfl, rfl, by rw [ht]; exact hP, va_K.moved hW.alike hK, hD⟩, hS.F ht⟩) hS.2.2 dX7_append_48
      · have hm := mr_un c1 hm
        refine lv_aload_n hx hb dX7_append_7 rfl (lv_at hl 0 rfl) ?_
        refine va_get (D := (dC, dI)) (ci := 9) (v := .int t_length) (C := RX7) (T := TX7) (N := 8) hx hb hts (inX7 _) hown hK hP 0 rfl rfl 6 (by decide) (hts _ (List.mem_cons_of_mem _ wf7_35)) (fun _ h9 => h9) rfl dX7_append_8 ?_
        refine lv_aload_n hx hb dX7_append_11 rfl (lv_at hl 0 rfl) ?_
        refine va_get (D := (dC, dI)) (ci := 9) (v := .ref tq_tape) (C := RX7) (T := TX7) (N := 8) hx hb hts (inX7 _) hown hK hP 0 rfl rfl 0 (by decide) (hts _ (List.mem_cons_of_mem _ wf7_9)) (fun _ h9 => h9) rfl dX7_append_12 ?_
        refine va_alen hx hb hK hP 1 1 rfl rfl rfl dX7_append_15 ?_
        refine lv_icmp_ge (tgt := 48) hx hb dX7_append_16 (by decide) (fun c2 => ?_) (fun c2 => ?_)
        · have hm := mr_if c2 hm
          obtain rfl := Option.some.inj hm
          subst hQ0
          exact W.vret hx hb hr (fun t ht hW => ⟨⟨(t_tape, t_length), rfl, rfl, by rw [ht]; exact hP, va_K.moved hW.alike hK, hD⟩, hS.F ht⟩) hS.2.2 dX7_append_48
        · have hm := mr_un c2 hm
          refine lv_aload_n hx hb dX7_append_19 rfl (lv_at hl 0 rfl) ?_
          refine va_get (D := (dC, dI)) (ci := 9) (v := .ref tq_tape) (C := RX7) (T := TX7) (N := 8) hx hb hts (inX7 _) hown hK hP 0 rfl rfl 0 (by decide) (hts _ (List.mem_cons_of_mem _ wf7_9)) (fun _ h9 => h9) rfl dX7_append_20 ?_
          refine lv_aload_n hx hb dX7_append_23 rfl (lv_at hl 0 rfl) ?_
          refine va_get (D := (dC, dI)) (ci := 9) (v := .int t_length) (C := RX7) (T := TX7) (N := 8) hx hb hts (inX7 _) hown hK hP 0 rfl rfl 6 (by decide) (hts _ (List.mem_cons_of_mem _ wf7_35)) (fun _ h9 => h9) rfl dX7_append_24 ?_
          refine lv_iload_n hx hb dX7_append_27 rfl (lv_at hl 1 rfl) ?_
          refine lv_iload_n hx hb dX7_append_28 rfl (lv_at hl 2 rfl) ?_
          refine lv_iushr hx hb dX7_append_29 rfl ?_
          refine lv_i2b hx hb dX7_append_30 rfl ?_
          obtain ⟨h3, hm⟩ := mr_bd hm
          refine va_bast hx hb hK hP hD hS 1 1 rfl rfl h3 dX7_append_31 (fun H locs hP hD hS => ?_)
          have hP : va_P (dC, dI) srCl [(obT, .inr (9, [.ref tq_tape, .ref tq_said, .ref tq_inner, .ref tq_next, .ref tq_amount, .ref obK, .int t_length, .int t_wrongPlace])), (tq_tape, .inl (cB, 4096, .inl (upd t_tape (t_length : Int32).toNatClampNeg (vp_nar .byte (((((x1 : Int32).toUInt32 >>> ((x2 : Int32).toUInt32 &&& Int32.toUInt32 31)).toInt32) : Int32).toInt8.toInt32)))))] H := hP
          have hD : va_D A [(obT, .inr (9, [.ref tq_tape, .ref tq_said, .ref tq_inner, .ref tq_next, .ref tq_amount, .ref obK, .int t_length, .int t_wrongPlace])), (tq_tape, .inl (cB, 4096, .inl (upd t_tape (t_length : Int32).toNatClampNeg (vp_nar .byte (((((x1 : Int32).toUInt32 >>> ((x2 : Int32).toUInt32 &&& Int32.toUInt32 31)).toInt32) : Int32).toInt8.toInt32)))))] := hD
          refine lv_aload_n hx hb dX7_append_32 rfl (lv_at hl 0 rfl) ?_
          refine lv_dup hx hb dX7_append_33 rfl ?_
          refine va_get (D := (dC, dI)) (ci := 9) (v := .int t_length) (C := RX7) (T := TX7) (N := 8) hx hb hts (inX7 _) hown hK hP 0 rfl rfl 6 (by decide) (hts _ (List.mem_cons_of_mem _ wf7_35)) (fun _ h9 => h9) rfl dX7_append_34 ?_
          refine lv_iconst (v := 1) hx hb dX7_append_37 (by decide) ?_
          refine lv_iadd hx hb dX7_append_38 ?_
          refine va_put (D := (dC, dI)) (ci := 9) (v := .int (t_length + 1)) (ty := .int) (C := RX7) (T := TX7) (N := 8) hx hb hts (inX7 _) tyX7 tyX7_ok nmX7 hown hK hP hD hS 0 rfl rfl 6 (by decide) (hts _ (List.mem_cons_of_mem _ wf7_35)) (fun _ h9 => h9) rfl (by decide +kernel) rfl rfl (Nat.le_of_ble_eq_true rfl) dX7_append_39 (fun H locs hP hD hS => ?_)
          have hP : va_P (dC, dI) srCl [(obT, .inr (9, [.ref tq_tape, .ref tq_said, .ref tq_inner, .ref tq_next, .ref tq_amount, .ref obK, .int (t_length + 1), .int t_wrongPlace])), (tq_tape, .inl (cB, 4096, .inl (upd t_tape (t_length : Int32).toNatClampNeg (vp_nar .byte (((((x1 : Int32).toUInt32 >>> ((x2 : Int32).toUInt32 &&& Int32.toUInt32 31)).toInt32) : Int32).toInt8.toInt32)))))] H := hP
          have hD : va_D A [(obT, .inr (9, [.ref tq_tape, .ref tq_said, .ref tq_inner, .ref tq_next, .ref tq_amount, .ref obK, .int (t_length + 1), .int t_wrongPlace])), (tq_tape, .inl (cB, 4096, .inl (upd t_tape (t_length : Int32).toNatClampNeg (vp_nar .byte (((((x1 : Int32).toUInt32 >>> ((x2 : Int32).toUInt32 &&& Int32.toUInt32 31)).toInt32) : Int32).toInt8.toInt32)))))] := hD
          refine lv_iinc (v := x2 + (-8)) (lv' := [(2, .int (x2 + (-8))), (0, .ref obT), (1, .int x1)]) hx hb dX7_append_42 hl (k := 2) rfl rfl (by decide) rfl (fun ls hl => ?_)
          refine lv_goto (tgt := 3) hx hb dX7_append_45 (by decide) ?_
          exact ih3 (upd t_tape (t_length : Int32).toNatClampNeg (vp_nar .byte (((((x1 : Int32).toUInt32 >>> ((x2 : Int32).toUInt32 &&& Int32.toUInt32 31)).toInt32) : Int32).toInt8.toInt32))) (t_length + 1) x1 (x2 + (-8)) _ _ ls hP hD hS (lv_sub hl [1, 2, 0] rfl) hm
  refine lv_istore_n (lv' := [(2, .int 24), (0, .ref obT), (1, .int a0)]) hx hb dX7_append_2 rfl hl (by decide) rfl (fun ls hl => ?_)
  exact j3 sr_fuel t_tape t_length a0 24 _ _ ls hP hD hS (lv_sub hl [1, 2, 0] rfl) hm
set_option maxHeartbeats 4000000 in
set_option maxRecDepth 100000 in
theorem kX7_cut (l : Launch) (htr : l.stackTraces = false) (dC : Nat → ClassId) (dI : Nat → Nat → Nat) (adK adV : Nat → Nat) (cI cB cJ cZ cQ : ClassId) (obT tq_tape tq_said tq_inner tq_next tq_amount obK : Nat) (t_length : Int32) (t_wrongPlace : Int32) (sz : Nat) (a0 : Int32) (res : Int32) (hm : m_X7_cut t_length a0 = some res) : Met l yX7_cut wsX7_cut (rmX7_cut 0 0) (pcW (sr_Z adK adV) (dC, dI) srCl [(cI, .int), (cB, .byte), (cJ, .long), (cZ, .boolean), (cQ, .object "SchemaReader$Schema")] [.ref obT, .int a0] [(obT, .inr (9, [.ref tq_tape, .ref tq_said, .ref tq_inner, .ref tq_next, .ref tq_amount, .ref obK, .int t_length, .int t_wrongPlace]))] sz) (va_Qv (fun u' => u' = res) (pcB (dC, dI) srCl [(cI, .int), (cB, .byte), (cJ, .long), (cZ, .boolean), (cQ, .object "SchemaReader$Schema")] (fun u : Int32 => [(obT, .inr (9, [.ref tq_tape, .ref tq_said, .ref tq_inner, .ref tq_next, .ref tq_amount, .ref obK, .int u, .int t_wrongPlace]))]) (va_A [(obT, .inr (9, [.ref tq_tape, .ref tq_said, .ref tq_inner, .ref tq_next, .ref tq_amount, .ref obK, .int t_length, .int t_wrongPlace]))] sz)) (va_A [(obT, .inr (9, [.ref tq_tape, .ref tq_said, .ref tq_inner, .ref tq_next, .ref tq_amount, .ref obK, .int t_length, .int t_wrongPlace]))] sz)) 0 0 (va_A [(obT, .inr (9, [.ref tq_tape, .ref tq_said, .ref tq_inner, .ref tq_next, .ref tq_amount, .ref obK, .int t_length, .int t_wrongPlace]))] sz) := by
  refine Met.ofW (cc := cX7_cut) (maxL := 2) (ret := none) (by decide) rfl ?_
  intro p e s m args below meth c s₁ B hml hv
  obtain ⟨rfl, hsz, hP, hK, hD0, hz0⟩ := hv
  have hx := B.exec
  have hb := B.bytes
  have hr := B.returns
  have hts := atoms_spec (ws := wsX7_cut) B.pre
  have hown : s.vm.findClass RX7 = some m.cls := findClass_of_methodNamed B.named
  have hlocks := B.notSynchronized
  subst hsz
  have hD := hD0.self (sz := s.heap.size)
  generalize hAe : va_A [(obT, .inr (9, [.ref tq_tape, .ref tq_said, .ref tq_inner, .ref tq_next, .ref tq_amount, .ref obK, .int t_length, .int t_wrongPlace]))] s.heap.size = A at hD hz0 ⊢
  have hA : ∀ q : Nat, s.heap.size ≤ q → A q := fun q h => by rw [← hAe]; exact Or.inr h
  have hS : va_S A s.heap s.heap [] := va_S.rf
  generalize hQ0 : MQ below (va_Qv (fun u' => u' = res) (pcB (dC, dI) srCl [(cI, .int), (cB, .byte), (cJ, .long), (cZ, .boolean), (cQ, .object "SchemaReader$Schema")] (fun u : Int32 => [(obT, .inr (9, [.ref tq_tape, .ref tq_said, .ref tq_inner, .ref tq_next, .ref tq_amount, .ref obK, .int u, .int t_wrongPlace]))]) A) A) [.ref obT, .int a0].toArray s 0 0 A = Q0
  have hl := lv_entry [.ref obT, .int a0] (n := 2) (Nat.le_of_ble_eq_true rfl)
  rw [lg_entry_eq]
  generalize (lg_sl [.ref obT, .int a0] ++ List.replicate (2 - (lg_sl [.ref obT, .int a0]).length) Slot.unset).toArray = ls at hl ⊢
  have hl : lv_has ls 2 [(0, .ref obT), (1, .int a0)] := hl
  unfold m_X7_cut at hm
  refine lv_iload_n hx hb dX7_cut_0 rfl (lv_at hl 1 rfl) ?_
  refine lv_if_lt (tgt := 17) hx hb dX7_cut_1 (by decide) (fun c1 => ?_) (fun c1 => ?_)
  · have hm := mr_if c1 hm
    obtain rfl := Option.some.inj hm
    subst hQ0
    exact W.vret hx hb hr (fun t ht hW => ⟨⟨t_length, rfl, rfl, by rw [ht]; exact hP, va_K.moved hW.alike hK, hD⟩, hS.F ht⟩) hS.2.2 dX7_cut_17
  · have hm := mr_un c1 hm
    refine lv_iload_n hx hb dX7_cut_4 rfl (lv_at hl 1 rfl) ?_
    refine lv_aload_n hx hb dX7_cut_5 rfl (lv_at hl 0 rfl) ?_
    refine va_get (D := (dC, dI)) (ci := 9) (v := .int t_length) (C := RX7) (T := TX7) (N := 8) hx hb hts (inX7 _) hown hK hP 0 rfl rfl 6 (by decide) (hts _ (List.mem_cons_of_mem _ wf7_35)) (fun _ h9 => h9) rfl dX7_cut_6 ?_
    refine lv_icmp_gt (tgt := 17) hx hb dX7_cut_9 (by decide) (fun c2 => ?_) (fun c2 => ?_)
    · have hm := mr_if c2 hm
      obtain rfl := Option.some.inj hm
      subst hQ0
      exact W.vret hx hb hr (fun t ht hW => ⟨⟨t_length, rfl, rfl, by rw [ht]; exact hP, va_K.moved hW.alike hK, hD⟩, hS.F ht⟩) hS.2.2 dX7_cut_17
    · have hm := mr_un c2 hm
      refine lv_aload_n hx hb dX7_cut_12 rfl (lv_at hl 0 rfl) ?_
      refine lv_iload_n hx hb dX7_cut_13 rfl (lv_at hl 1 rfl) ?_
      refine va_put (D := (dC, dI)) (ci := 9) (v := .int a0) (ty := .int) (C := RX7) (T := TX7) (N := 8) hx hb hts (inX7 _) tyX7 tyX7_ok nmX7 hown hK hP hD hS 0 rfl rfl 6 (by decide) (hts _ (List.mem_cons_of_mem _ wf7_35)) (fun _ h9 => h9) rfl (by decide +kernel) rfl rfl (Nat.le_of_ble_eq_true rfl) dX7_cut_14 (fun H locs hP hD hS => ?_)
      have hP : va_P (dC, dI) srCl [(obT, .inr (9, [.ref tq_tape, .ref tq_said, .ref tq_inner, .ref tq_next, .ref tq_amount, .ref obK, .int a0, .int t_wrongPlace]))] H := hP
      have hD : va_D A [(obT, .inr (9, [.ref tq_tape, .ref tq_said, .ref tq_inner, .ref tq_next, .ref tq_amount, .ref obK, .int a0, .int t_wrongPlace]))] := hD
      obtain rfl := Option.some.inj hm
      subst hQ0
      exact W.vret hx hb hr (fun t ht hW => ⟨⟨a0, rfl, rfl, by rw [ht]; exact hP, va_K.moved hW.alike hK, hD⟩, hS.F ht⟩) hS.2.2 dX7_cut_17
set_option maxHeartbeats 4000000 in
set_option maxRecDepth 100000 in
theorem kX7_wrongPlace (l : Launch) (htr : l.stackTraces = false) (dC : Nat → ClassId) (dI : Nat → Nat → Nat) (adK adV : Nat → Nat) (cI cB cJ cZ cQ : ClassId) (obT tq_tape tq_said tq_inner tq_next tq_amount obK : Nat) (t_length : Int32) (t_wrongPlace : Int32) (res : Int32) (hm : m_X7_wrongPlace t_wrongPlace = some res) : Met l yX7_wrongPlace wsX7_wrongPlace (rmX7_wrongPlace 0 0) (pcR (sr_Z adK adV) (dC, dI) srCl [(cI, .int), (cB, .byte), (cJ, .long), (cZ, .boolean), (cQ, .object "SchemaReader$Schema")] [.ref obT] [(obT, .inr (9, [.ref tq_tape, .ref tq_said, .ref tq_inner, .ref tq_next, .ref tq_amount, .ref obK, .int t_length, .int t_wrongPlace]))]) (k2_QcV (.int res)) 0 0 (fun _ => False) := by
  refine Met.ofW (cc := cX7_wrongPlace) (maxL := 1) (ret := (some .int)) (by decide) rfl ?_
  intro p e s m args below meth c s₁ B hml hv
  obtain ⟨rfl, hP, hK, hz0⟩ := hv
  have hx := B.exec
  have hb := B.bytes
  have hr := B.returns
  have hts := atoms_spec (ws := wsX7_wrongPlace) B.pre
  have hown : s.vm.findClass RX7 = some m.cls := findClass_of_methodNamed B.named
  have hlocks := B.notSynchronized
  have hS : va_S (fun _ => False) s.heap s.heap [] := va_S.rf
  generalize hQ0 : MQ below (k2_QcV (.int res)) [.ref obT].toArray s 0 0 (fun _ => False) = Q0
  have hl := lv_entry [.ref obT] (n := 1) (Nat.le_of_ble_eq_true rfl)
  rw [lg_entry_eq]
  generalize (lg_sl [.ref obT] ++ List.replicate (1 - (lg_sl [.ref obT]).length) Slot.unset).toArray = ls at hl ⊢
  have hl : lv_has ls 1 [(0, .ref obT)] := hl
  unfold m_X7_wrongPlace at hm
  refine lv_aload_n hx hb dX7_wrongPlace_0 rfl (lv_at hl 0 rfl) ?_
  refine va_get (D := (dC, dI)) (ci := 9) (v := .int t_wrongPlace) (C := RX7) (T := TX7) (N := 8) hx hb hts (inX7 _) hown hK hP 0 rfl rfl 7 (by decide) (hts _ (List.mem_cons_of_mem _ wf7_39)) (fun _ h9 => h9) rfl dX7_wrongPlace_1 ?_
  obtain rfl := Option.some.inj hm
  subst hQ0
  exact W.iret (v := t_wrongPlace) hx hb hr (fun t ht hW => ⟨rfl, ht⟩) (fun q h => by cases h) dX7_wrongPlace_4
set_option maxHeartbeats 4000000 in
set_option maxRecDepth 100000 in
theorem kX7_byteAt (l : Launch) (htr : l.stackTraces = false) (dC : Nat → ClassId) (dI : Nat → Nat → Nat) (adK adV : Nat → Nat) (cI cB cJ cZ cQ : ClassId) (obT tq_tape tq_said tq_inner tq_next tq_amount obK : Nat) (t_length : Int32) (t_wrongPlace : Int32) (t_tape : Nat → Int32) (a0 : Int32) (res : Int32) (hm : m_X7_byteAt t_tape t_length a0 = some res) : Met l yX7_byteAt wsX7_byteAt (rmX7_byteAt 0 0) (pcR (sr_Z adK adV) (dC, dI) srCl [(cI, .int), (cB, .byte), (cJ, .long), (cZ, .boolean), (cQ, .object "SchemaReader$Schema")] [.ref obT, .int a0] [(obT, .inr (9, [.ref tq_tape, .ref tq_said, .ref tq_inner, .ref tq_next, .ref tq_amount, .ref obK, .int t_length, .int t_wrongPlace])), (tq_tape, .inl (cB, 4096, .inl t_tape))]) (k2_QcV (.int res)) 0 0 (fun _ => False) := by
  refine Met.ofW (cc := cX7_byteAt) (maxL := 2) (ret := (some .int)) (by decide) rfl ?_
  intro p e s m args below meth c s₁ B hml hv
  obtain ⟨rfl, hP, hK, hz0⟩ := hv
  have hx := B.exec
  have hb := B.bytes
  have hr := B.returns
  have hts := atoms_spec (ws := wsX7_byteAt) B.pre
  have hown : s.vm.findClass RX7 = some m.cls := findClass_of_methodNamed B.named
  have hlocks := B.notSynchronized
  have hS : va_S (fun _ => False) s.heap s.heap [] := va_S.rf
  generalize hQ0 : MQ below (k2_QcV (.int res)) [.ref obT, .int a0].toArray s 0 0 (fun _ => False) = Q0
  have hl := lv_entry [.ref obT, .int a0] (n := 2) (Nat.le_of_ble_eq_true rfl)
  rw [lg_entry_eq]
  generalize (lg_sl [.ref obT, .int a0] ++ List.replicate (2 - (lg_sl [.ref obT, .int a0]).length) Slot.unset).toArray = ls at hl ⊢
  have hl : lv_has ls 2 [(0, .ref obT), (1, .int a0)] := hl
  unfold m_X7_byteAt at hm
  refine lv_iload_n hx hb dX7_byteAt_0 rfl (lv_at hl 1 rfl) ?_
  refine lv_if_lt (tgt := 25) hx hb dX7_byteAt_1 (by decide) (fun c1 => ?_) (fun c1 => ?_)
  · have hm := mr_if c1 hm
    refine lv_iconst (v := -1) hx hb dX7_byteAt_25 (by decide) ?_
    obtain rfl := Option.some.inj hm
    subst hQ0
    exact W.iret (v := (-1)) hx hb hr (fun t ht hW => ⟨rfl, ht⟩) (fun q h => by cases h) dX7_byteAt_26
  · have hm := mr_un c1 hm
    refine lv_iload_n hx hb dX7_byteAt_4 rfl (lv_at hl 1 rfl) ?_
    refine lv_aload_n hx hb dX7_byteAt_5 rfl (lv_at hl 0 rfl) ?_
    refine va_get (D := (dC, dI)) (ci := 9) (v := .int t_length) (C := RX7) (T := TX7) (N := 8) hx hb hts (inX7 _) hown hK hP 0 rfl rfl 6 (by decide) (hts _ (List.mem_cons_of_mem _ wf7_35)) (fun _ h9 => h9) rfl dX7_byteAt_6 ?_
    refine lv_icmp_ge (tgt := 25) hx hb dX7_byteAt_9 (by decide) (fun c2 => ?_) (fun c2 => ?_)
    · have hm := mr_if c2 hm
      refine lv_iconst (v := -1) hx hb dX7_byteAt_25 (by decide) ?_
      obtain rfl := Option.some.inj hm
      subst hQ0
      exact W.iret (v := (-1)) hx hb hr (fun t ht hW => ⟨rfl, ht⟩) (fun q h => by cases h) dX7_byteAt_26
    · have hm := mr_un c2 hm
      refine lv_aload_n hx hb dX7_byteAt_12 rfl (lv_at hl 0 rfl) ?_
      refine va_get (D := (dC, dI)) (ci := 9) (v := .ref tq_tape) (C := RX7) (T := TX7) (N := 8) hx hb hts (inX7 _) hown hK hP 0 rfl rfl 0 (by decide) (hts _ (List.mem_cons_of_mem _ wf7_9)) (fun _ h9 => h9) rfl dX7_byteAt_13 ?_
      refine lv_iload_n hx hb dX7_byteAt_16 rfl (lv_at hl 1 rfl) ?_
      obtain ⟨h3, hm⟩ := mr_bd hm
      refine va_bald hx hb hK hP 1 1 rfl rfl h3 dX7_byteAt_17 ?_
      refine lv_sipush (v := 255) hx hb dX7_byteAt_18 (by decide) ?_
      refine lv_iand hx hb dX7_byteAt_21 ?_
      refine lv_goto (tgt := 26) hx hb dX7_byteAt_22 (by decide) ?_
      obtain rfl := Option.some.inj hm
      subst hQ0
      exact W.iret (v := ((t_tape (a0 : Int32).toNatClampNeg) &&& 255)) hx hb hr (fun t ht hW => ⟨rfl, ht⟩) (fun q h => by cases h) dX7_byteAt_26
set_option maxHeartbeats 4000000 in
set_option maxRecDepth 100000 in
theorem kX7_isString (l : Launch) (htr : l.stackTraces = false) (dC : Nat → ClassId) (dI : Nat → Nat → Nat) (adK adV : Nat → Nat) (cI cB cJ cZ cQ : ClassId) (obT tq_tape tq_said tq_inner tq_next tq_amount obK : Nat) (t_length : Int32) (t_wrongPlace : Int32) (t_tape : Nat → Int32) (a0 : Int32) (res : Int32) (hm : m_X7_isString t_tape t_length a0 = some res) : Met l yX7_isString wsX7_isString (rmX7_isString 0 0) (pcR (sr_Z adK adV) (dC, dI) srCl [(cI, .int), (cB, .byte), (cJ, .long), (cZ, .boolean), (cQ, .object "SchemaReader$Schema")] [.ref obT, .int a0] [(obT, .inr (9, [.ref tq_tape, .ref tq_said, .ref tq_inner, .ref tq_next, .ref tq_amount, .ref obK, .int t_length, .int t_wrongPlace])), (tq_tape, .inl (cB, 4096, .inl t_tape))]) (k2_QcV (.int res)) 0 0 (fun _ => False) := by
  refine Met.ofW (cc := cX7_isString) (maxL := 2) (ret := (some .boolean)) (by decide) rfl ?_
  intro p e s m args below meth c s₁ B hml hv
  obtain ⟨rfl, hP, hK, hz0⟩ := hv
  have hx := B.exec
  have hb := B.bytes
  have hr := B.returns
  have hts := atoms_spec (ws := wsX7_isString) B.pre
  have hown : s.vm.findClass RX7 = some m.cls := findClass_of_methodNamed B.named
  have hlocks := B.notSynchronized
  have hS : va_S (fun _ => False) s.heap s.heap [] := va_S.rf
  generalize hQ0 : MQ below (k2_QcV (.int res)) [.ref obT, .int a0].toArray s 0 0 (fun _ => False) = Q0
  have hl := lv_entry [.ref obT, .int a0] (n := 2) (Nat.le_of_ble_eq_true rfl)
  rw [lg_entry_eq]
  generalize (lg_sl [.ref obT, .int a0] ++ List.replicate (2 - (lg_sl [.ref obT, .int a0]).length) Slot.unset).toArray = ls at hl ⊢
  have hl : lv_has ls 2 [(0, .ref obT), (1, .int a0)] := hl
  unfold m_X7_isString at hm
  refine lv_aload_n hx hb dX7_isString_0 rfl (lv_at hl 0 rfl) ?_
  refine lv_iload_n hx hb dX7_isString_1 rfl (lv_at hl 1 rfl) ?_
  obtain ⟨r1, hz1, hm⟩ := mr_bind hm
  refine mr_pV (As := [.int a0]) (rest := []) (sr_okZ adK adV) ⟨hx, hb, hml, hown, hts⟩ (kX7_byteAt l htr dC dI adK adV cI cB cJ cZ cQ obT tq_tape tq_said tq_inner tq_next tq_amount obK t_length t_wrongPlace t_tape a0 r1 hz1) (cwV 1 hts (g7_42 _) rfl rfl rfl (by decide +kernel) ⟨(by show 0 + 1 ≤ 1; omega), (by show 8 + (2 + 11) + (0) ≤ 21; omega)⟩) hS hP hK hz0 [0, 1] rfl (va_recv hK hP (ci := 9) (q0 := 0) rfl rfl) rfl rfl hl.1 (Nat.le_of_ble_eq_true rfl) dX7_isString_2 ⟨Nat.zero_le _, Nat.zero_le _⟩ ?_
  refine lv_bipush (v := 34) hx hb dX7_isString_5 (by decide) ?_
  refine lv_icmp_ne (tgt := 14) hx hb dX7_isString_7 (by decide) (fun c2 => ?_) (fun c2 => ?_)
  · have hm := mr_un c2 hm
    refine lv_iconst (v := 0) hx hb dX7_isString_14 (by decide) ?_
    obtain rfl := Option.some.inj hm
    subst hQ0
    exact W.zret (v := 0) hx hb hr rfl (fun t ht hW => ⟨rfl, ht⟩) (fun q h => by cases h) dX7_isString_15
  · have hm := mr_if c2 hm
    refine lv_iconst (v := 1) hx hb dX7_isString_10 (by decide) ?_
    refine lv_goto (tgt := 15) hx hb dX7_isString_11 (by decide) ?_
    obtain rfl := Option.some.inj hm
    subst hQ0
    exact W.zret (v := 1) hx hb hr rfl (fun t ht hW => ⟨rfl, ht⟩) (fun q h => by cases h) dX7_isString_15
set_option maxHeartbeats 4000000 in
set_option maxRecDepth 100000 in
theorem kX7_isList (l : Launch) (htr : l.stackTraces = false) (dC : Nat → ClassId) (dI : Nat → Nat → Nat) (adK adV : Nat → Nat) (cI cB cJ cZ cQ : ClassId) (obT tq_tape tq_said tq_inner tq_next tq_amount obK : Nat) (t_length : Int32) (t_wrongPlace : Int32) (t_tape : Nat → Int32) (a0 : Int32) (res : Int32) (hm : m_X7_isList t_tape t_length a0 = some res) : Met l yX7_isList wsX7_isList (rmX7_isList 0 0) (pcR (sr_Z adK adV) (dC, dI) srCl [(cI, .int), (cB, .byte), (cJ, .long), (cZ, .boolean), (cQ, .object "SchemaReader$Schema")] [.ref obT, .int a0] [(obT, .inr (9, [.ref tq_tape, .ref tq_said, .ref tq_inner, .ref tq_next, .ref tq_amount, .ref obK, .int t_length, .int t_wrongPlace])), (tq_tape, .inl (cB, 4096, .inl t_tape))]) (k2_QcV (.int res)) 0 0 (fun _ => False) := by
  refine Met.ofW (cc := cX7_isList) (maxL := 2) (ret := (some .boolean)) (by decide) rfl ?_
  intro p e s m args below meth c s₁ B hml hv
  obtain ⟨rfl, hP, hK, hz0⟩ := hv
  have hx := B.exec
  have hb := B.bytes
  have hr := B.returns
  have hts := atoms_spec (ws := wsX7_isList) B.pre
  have hown : s.vm.findClass RX7 = some m.cls := findClass_of_methodNamed B.named
  have hlocks := B.notSynchronized
  have hS : va_S (fun _ => False) s.heap s.heap [] := va_S.rf
  generalize hQ0 : MQ below (k2_QcV (.int res)) [.ref obT, .int a0].toArray s 0 0 (fun _ => False) = Q0
  have hl := lv_entry [.ref obT, .int a0] (n := 2) (Nat.le_of_ble_eq_true rfl)
  rw [lg_entry_eq]
  generalize (lg_sl [.ref obT, .int a0] ++ List.replicate (2 - (lg_sl [.ref obT, .int a0]).length) Slot.unset).toArray = ls at hl ⊢
  have hl : lv_has ls 2 [(0, .ref obT), (1, .int a0)] := hl
  unfold m_X7_isList at hm
  refine lv_aload_n hx hb dX7_isList_0 rfl (lv_at hl 0 rfl) ?_
  refine lv_iload_n hx hb dX7_isList_1 rfl (lv_at hl 1 rfl) ?_
  obtain ⟨r1, hz1, hm⟩ := mr_bind hm
  refine mr_pV (As := [.int a0]) (rest := []) (sr_okZ adK adV) ⟨hx, hb, hml, hown, hts⟩ (kX7_byteAt l htr dC dI adK adV cI cB cJ cZ cQ obT tq_tape tq_said tq_inner tq_next tq_amount obK t_length t_wrongPlace t_tape a0 r1 hz1) (cwV 1 hts (g7_42 _) rfl rfl rfl (by decide +kernel) ⟨(by show 0 + 1 ≤ 1; omega), (by show 8 + (2 + 11) + (0) ≤ 21; omega)⟩) hS hP hK hz0 [0, 1] rfl (va_recv hK hP (ci := 9) (q0 := 0) rfl rfl) rfl rfl hl.1 (Nat.le_of_ble_eq_true rfl) dX7_isList_2 ⟨Nat.zero_le _, Nat.zero_le _⟩ ?_
  refine lv_bipush (v := 91) hx hb dX7_isList_5 (by decide) ?_
  refine lv_icmp_ne (tgt := 14) hx hb dX7_isList_7 (by decide) (fun c2 => ?_) (fun c2 => ?_)
  · have hm := mr_un c2 hm
    refine lv_iconst (v := 0) hx hb dX7_isList_14 (by decide) ?_
    obtain rfl := Option.some.inj hm
    subst hQ0
    exact W.zret (v := 0) hx hb hr rfl (fun t ht hW => ⟨rfl, ht⟩) (fun q h => by cases h) dX7_isList_15
  · have hm := mr_if c2 hm
    refine lv_iconst (v := 1) hx hb dX7_isList_10 (by decide) ?_
    refine lv_goto (tgt := 15) hx hb dX7_isList_11 (by decide) ?_
    obtain rfl := Option.some.inj hm
    subst hQ0
    exact W.zret (v := 1) hx hb hr rfl (fun t ht hW => ⟨rfl, ht⟩) (fun q h => by cases h) dX7_isList_15
set_option maxHeartbeats 4000000 in
set_option maxRecDepth 100000 in
theorem kX7_isObject (l : Launch) (htr : l.stackTraces = false) (dC : Nat → ClassId) (dI : Nat → Nat → Nat) (adK adV : Nat → Nat) (cI cB cJ cZ cQ : ClassId) (obT tq_tape tq_said tq_inner tq_next tq_amount obK : Nat) (t_length : Int32) (t_wrongPlace : Int32) (t_tape : Nat → Int32) (a0 : Int32) (res : Int32) (hm : m_X7_isObject t_tape t_length a0 = some res) : Met l yX7_isObject wsX7_isObject (rmX7_isObject 0 0) (pcR (sr_Z adK adV) (dC, dI) srCl [(cI, .int), (cB, .byte), (cJ, .long), (cZ, .boolean), (cQ, .object "SchemaReader$Schema")] [.ref obT, .int a0] [(obT, .inr (9, [.ref tq_tape, .ref tq_said, .ref tq_inner, .ref tq_next, .ref tq_amount, .ref obK, .int t_length, .int t_wrongPlace])), (tq_tape, .inl (cB, 4096, .inl t_tape))]) (k2_QcV (.int res)) 0 0 (fun _ => False) := by
  refine Met.ofW (cc := cX7_isObject) (maxL := 2) (ret := (some .boolean)) (by decide) rfl ?_
  intro p e s m args below meth c s₁ B hml hv
  obtain ⟨rfl, hP, hK, hz0⟩ := hv
  have hx := B.exec
  have hb := B.bytes
  have hr := B.returns
  have hts := atoms_spec (ws := wsX7_isObject) B.pre
  have hown : s.vm.findClass RX7 = some m.cls := findClass_of_methodNamed B.named
  have hlocks := B.notSynchronized
  have hS : va_S (fun _ => False) s.heap s.heap [] := va_S.rf
  generalize hQ0 : MQ below (k2_QcV (.int res)) [.ref obT, .int a0].toArray s 0 0 (fun _ => False) = Q0
  have hl := lv_entry [.ref obT, .int a0] (n := 2) (Nat.le_of_ble_eq_true rfl)
  rw [lg_entry_eq]
  generalize (lg_sl [.ref obT, .int a0] ++ List.replicate (2 - (lg_sl [.ref obT, .int a0]).length) Slot.unset).toArray = ls at hl ⊢
  have hl : lv_has ls 2 [(0, .ref obT), (1, .int a0)] := hl
  unfold m_X7_isObject at hm
  refine lv_aload_n hx hb dX7_isObject_0 rfl (lv_at hl 0 rfl) ?_
  refine lv_iload_n hx hb dX7_isObject_1 rfl (lv_at hl 1 rfl) ?_
  obtain ⟨r1, hz1, hm⟩ := mr_bind hm
  refine mr_pV (As := [.int a0]) (rest := []) (sr_okZ adK adV) ⟨hx, hb, hml, hown, hts⟩ (kX7_byteAt l htr dC dI adK adV cI cB cJ cZ cQ obT tq_tape tq_said tq_inner tq_next tq_amount obK t_length t_wrongPlace t_tape a0 r1 hz1) (cwV 1 hts (g7_42 _) rfl rfl rfl (by decide +kernel) ⟨(by show 0 + 1 ≤ 1; omega), (by show 8 + (2 + 11) + (0) ≤ 21; omega)⟩) hS hP hK hz0 [0, 1] rfl (va_recv hK hP (ci := 9) (q0 := 0) rfl rfl) rfl rfl hl.1 (Nat.le_of_ble_eq_true rfl) dX7_isObject_2 ⟨Nat.zero_le _, Nat.zero_le _⟩ ?_
  refine lv_bipush (v := 123) hx hb dX7_isObject_5 (by decide) ?_
  refine lv_icmp_ne (tgt := 14) hx hb dX7_isObject_7 (by decide) (fun c2 => ?_) (fun c2 => ?_)
  · have hm := mr_un c2 hm
    refine lv_iconst (v := 0) hx hb dX7_isObject_14 (by decide) ?_
    obtain rfl := Option.some.inj hm
    subst hQ0
    exact W.zret (v := 0) hx hb hr rfl (fun t ht hW => ⟨rfl, ht⟩) (fun q h => by cases h) dX7_isObject_15
  · have hm := mr_if c2 hm
    refine lv_iconst (v := 1) hx hb dX7_isObject_10 (by decide) ?_
    refine lv_goto (tgt := 15) hx hb dX7_isObject_11 (by decide) ?_
    obtain rfl := Option.some.inj hm
    subst hQ0
    exact W.zret (v := 1) hx hb hr rfl (fun t ht hW => ⟨rfl, ht⟩) (fun q h => by cases h) dX7_isObject_15
set_option maxHeartbeats 4000000 in
set_option maxRecDepth 100000 in
theorem kX7_isNumber (l : Launch) (htr : l.stackTraces = false) (dC : Nat → ClassId) (dI : Nat → Nat → Nat) (adK adV : Nat → Nat) (cI cB cJ cZ cQ : ClassId) (obT tq_tape tq_said tq_inner tq_next tq_amount obK : Nat) (t_length : Int32) (t_wrongPlace : Int32) (t_tape : Nat → Int32) (a0 : Int32) (res : Int32) (hm : m_X7_isNumber t_tape t_length a0 = some res) : Met l yX7_isNumber wsX7_isNumber (rmX7_isNumber 0 0) (pcR (sr_Z adK adV) (dC, dI) srCl [(cI, .int), (cB, .byte), (cJ, .long), (cZ, .boolean), (cQ, .object "SchemaReader$Schema")] [.ref obT, .int a0] [(obT, .inr (9, [.ref tq_tape, .ref tq_said, .ref tq_inner, .ref tq_next, .ref tq_amount, .ref obK, .int t_length, .int t_wrongPlace])), (tq_tape, .inl (cB, 4096, .inl t_tape))]) (k2_QcV (.int res)) 0 0 (fun _ => False) := by
  refine Met.ofW (cc := cX7_isNumber) (maxL := 3) (ret := (some .boolean)) (by decide) rfl ?_
  intro p e s m args below meth c s₁ B hml hv
  obtain ⟨rfl, hP, hK, hz0⟩ := hv
  have hx := B.exec
  have hb := B.bytes
  have hr := B.returns
  have hts := atoms_spec (ws := wsX7_isNumber) B.pre
  have hown : s.vm.findClass RX7 = some m.cls := findClass_of_methodNamed B.named
  have hlocks := B.notSynchronized
  have hS : va_S (fun _ => False) s.heap s.heap [] := va_S.rf
  generalize hQ0 : MQ below (k2_QcV (.int res)) [.ref obT, .int a0].toArray s 0 0 (fun _ => False) = Q0
  have hl := lv_entry [.ref obT, .int a0] (n := 3) (Nat.le_of_ble_eq_true rfl)
  rw [lg_entry_eq]
  generalize (lg_sl [.ref obT, .int a0] ++ List.replicate (3 - (lg_sl [.ref obT, .int a0]).length) Slot.unset).toArray = ls at hl ⊢
  have hl : lv_has ls 3 [(0, .ref obT), (1, .int a0)] := hl
  unfold m_X7_isNumber at hm
  refine lv_aload_n hx hb dX7_isNumber_0 rfl (lv_at hl 0 rfl) ?_
  refine lv_iload_n hx hb dX7_isNumber_1 rfl (lv_at hl 1 rfl) ?_
  obtain ⟨r1, hz1, hm⟩ := mr_bind hm
  refine mr_pV (As := [.int a0]) (rest := []) (sr_okZ adK adV) ⟨hx, hb, hml, hown, hts⟩ (kX7_byteAt l htr dC dI adK adV cI cB cJ cZ cQ obT tq_tape tq_said tq_inner tq_next tq_amount obK t_length t_wrongPlace t_tape a0 r1 hz1) (cwV 1 hts (g7_42 _) rfl rfl rfl (by decide +kernel) ⟨(by show 0 + 1 ≤ 1; omega), (by show 8 + (2 + 11) + (0) ≤ 21; omega)⟩) hS hP hK hz0 [0, 1] rfl (va_recv hK hP (ci := 9) (q0 := 0) rfl rfl) rfl rfl hl.1 (Nat.le_of_ble_eq_true rfl) dX7_isNumber_2 ⟨Nat.zero_le _, Nat.zero_le _⟩ ?_
  refine lv_istore_n (lv' := [(2, .int r1), (0, .ref obT), (1, .int a0)]) hx hb dX7_isNumber_5 rfl hl (by decide) rfl (fun ls hl => ?_)
  refine lv_iload_n hx hb dX7_isNumber_6 rfl (lv_at hl 0 rfl) ?_
  refine lv_bipush (v := 45) hx hb dX7_isNumber_7 (by decide) ?_
  refine lv_icmp_eq (tgt := 19) hx hb dX7_isNumber_9 (by decide) (fun c2 => ?_) (fun c2 => ?_)
  · have hm := mr_if c2 hm
    refine lv_iconst (v := 1) hx hb dX7_isNumber_19 (by decide) ?_
    refine lv_goto (tgt := 24) hx hb dX7_isNumber_20 (by decide) ?_
    obtain rfl := Option.some.inj hm
    subst hQ0
    exact W.zret (v := 1) hx hb hr rfl (fun t ht hW => ⟨rfl, ht⟩) (fun q h => by cases h) dX7_isNumber_24
  · have hm := mr_un c2 hm
    refine lv_iload_n hx hb dX7_isNumber_12 rfl (lv_at hl 0 rfl) ?_
    obtain ⟨r3, hz3, hm⟩ := mr_bind hm
    refine mr_pSN (As := [.int r1]) (rest := []) (sr_okZ adK adV) ⟨hx, hb, hml, hown, hts⟩ (kX8_isDigit l htr dC dI adK adV cI cB cJ cZ cQ  r1 r3 hz3) (sr_cnS 1 hts rfl gn7_46.1 (hz0.2.2.2.2.2.2.1 _ gn7_46.2) rfl rfl (by decide +kernel) ⟨(by show 0 + 1 ≤ 1; omega), (by show 8 + (1 + 11) + (0) ≤ 21; omega)⟩) hS hP hK hz0 [] rfl rfl rfl hl.1 (Nat.le_of_ble_eq_true rfl) dX7_isNumber_13 ⟨Nat.zero_le _, Nat.zero_le _⟩ ?_
    refine lv_if_eq (tgt := 23) hx hb dX7_isNumber_16 (by decide) (fun c4 => ?_) (fun c4 => ?_)
    · have hm := mr_if c4 hm
      refine lv_iconst (v := 0) hx hb dX7_isNumber_23 (by decide) ?_
      obtain rfl := Option.some.inj hm
      subst hQ0
      exact W.zret (v := 0) hx hb hr rfl (fun t ht hW => ⟨rfl, ht⟩) (fun q h => by cases h) dX7_isNumber_24
    · have hm := mr_un c4 hm
      refine lv_iconst (v := 1) hx hb dX7_isNumber_19 (by decide) ?_
      refine lv_goto (tgt := 24) hx hb dX7_isNumber_20 (by decide) ?_
      obtain rfl := Option.some.inj hm
      subst hQ0
      exact W.zret (v := 1) hx hb hr rfl (fun t ht hW => ⟨rfl, ht⟩) (fun q h => by cases h) dX7_isNumber_24
set_option maxHeartbeats 4000000 in
set_option maxRecDepth 100000 in
theorem kX7_inner (l : Launch) (htr : l.stackTraces = false) (dC : Nat → ClassId) (dI : Nat → Nat → Nat) (adK adV : Nat → Nat) (cI cB cJ cZ cQ : ClassId) (obT tq_tape tq_said tq_inner tq_next tq_amount obK : Nat) (t_length : Int32) (t_wrongPlace : Int32) (t_inner : Nat → Int32) (a0 : Int32) (res : Int32) (hm : m_X7_inner t_inner a0 = some res) : Met l yX7_inner wsX7_inner (rmX7_inner 0 0) (pcR (sr_Z adK adV) (dC, dI) srCl [(cI, .int), (cB, .byte), (cJ, .long), (cZ, .boolean), (cQ, .object "SchemaReader$Schema")] [.ref obT, .int a0] [(obT, .inr (9, [.ref tq_tape, .ref tq_said, .ref tq_inner, .ref tq_next, .ref tq_amount, .ref obK, .int t_length, .int t_wrongPlace])), (tq_inner, .inl (cI, 4096, .inl t_inner))]) (k2_QcV (.int res)) 0 0 (fun _ => False) := by
  refine Met.ofW (cc := cX7_inner) (maxL := 2) (ret := (some .int)) (by decide) rfl ?_
  intro p e s m args below meth c s₁ B hml hv
  obtain ⟨rfl, hP, hK, hz0⟩ := hv
  have hx := B.exec
  have hb := B.bytes
  have hr := B.returns
  have hts := atoms_spec (ws := wsX7_inner) B.pre
  have hown : s.vm.findClass RX7 = some m.cls := findClass_of_methodNamed B.named
  have hlocks := B.notSynchronized
  have hS : va_S (fun _ => False) s.heap s.heap [] := va_S.rf
  generalize hQ0 : MQ below (k2_QcV (.int res)) [.ref obT, .int a0].toArray s 0 0 (fun _ => False) = Q0
  have hl := lv_entry [.ref obT, .int a0] (n := 2) (Nat.le_of_ble_eq_true rfl)
  rw [lg_entry_eq]
  generalize (lg_sl [.ref obT, .int a0] ++ List.replicate (2 - (lg_sl [.ref obT, .int a0]).length) Slot.unset).toArray = ls at hl ⊢
  have hl : lv_has ls 2 [(0, .ref obT), (1, .int a0)] := hl
  unfold m_X7_inner at hm
  refine lv_aload_n hx hb dX7_inner_0 rfl (lv_at hl 0 rfl) ?_
  refine va_get (D := (dC, dI)) (ci := 9) (v := .ref tq_inner) (C := RX7) (T := TX7) (N := 8) hx hb hts (inX7 _) hown hK hP 0 rfl rfl 2 (by decide) (hts _ (List.mem_cons_of_mem _ wf7_18)) (fun _ h9 => h9) rfl dX7_inner_1 ?_
  refine lv_iload_n hx hb dX7_inner_4 rfl (lv_at hl 1 rfl) ?_
  obtain ⟨r1, hz1, hm⟩ := mr_bind hm
  refine mr_pSN (As := [.ref tq_inner, .int a0]) (rest := []) (sr_okZ adK adV) ⟨hx, hb, hml, hown, hts⟩ (kX8_entry l htr dC dI adK adV cI cB cJ cZ cQ tq_inner t_inner 4096 a0 r1 hz1) (sr_cnS 2 hts rfl gn7_50.1 (hz0.2.2.2.2.2.2.1 _ gn7_50.2) rfl rfl (by decide +kernel) ⟨(by show 0 + 1 ≤ 1; omega), (by show 8 + (2 + 11) + (0) ≤ 21; omega)⟩) hS hP hK hz0 [1] rfl rfl rfl hl.1 (Nat.le_of_ble_eq_true rfl) dX7_inner_5 ⟨Nat.zero_le _, Nat.zero_le _⟩ ?_
  obtain rfl := Option.some.inj hm
  subst hQ0
  exact W.iret (v := r1) hx hb hr (fun t ht hW => ⟨rfl, ht⟩) (fun q h => by cases h) dX7_inner_8
set_option maxHeartbeats 4000000 in
set_option maxRecDepth 100000 in
theorem kX7_next (l : Launch) (htr : l.stackTraces = false) (dC : Nat → ClassId) (dI : Nat → Nat → Nat) (adK adV : Nat → Nat) (cI cB cJ cZ cQ : ClassId) (obT tq_tape tq_said tq_inner tq_next tq_amount obK : Nat) (t_length : Int32) (t_wrongPlace : Int32) (t_next : Nat → Int32) (a0 : Int32) (res : Int32) (hm : m_X7_next t_next a0 = some res) : Met l yX7_next wsX7_next (rmX7_next 0 0) (pcR (sr_Z adK adV) (dC, dI) srCl [(cI, .int), (cB, .byte), (cJ, .long), (cZ, .boolean), (cQ, .object "SchemaReader$Schema")] [.ref obT, .int a0] [(obT, .inr (9, [.ref tq_tape, .ref tq_said, .ref tq_inner, .ref tq_next, .ref tq_amount, .ref obK, .int t_length, .int t_wrongPlace])), (tq_next, .inl (cI, 4096, .inl t_next))]) (k2_QcV (.int res)) 0 0 (fun _ => False) := by
  refine Met.ofW (cc := cX7_next) (maxL := 2) (ret := (some .int)) (by decide) rfl ?_
  intro p e s m args below meth c s₁ B hml hv
  obtain ⟨rfl, hP, hK, hz0⟩ := hv
  have hx := B.exec
  have hb := B.bytes
  have hr := B.returns
  have hts := atoms_spec (ws := wsX7_next) B.pre
  have hown : s.vm.findClass RX7 = some m.cls := findClass_of_methodNamed B.named
  have hlocks := B.notSynchronized
  have hS : va_S (fun _ => False) s.heap s.heap [] := va_S.rf
  generalize hQ0 : MQ below (k2_QcV (.int res)) [.ref obT, .int a0].toArray s 0 0 (fun _ => False) = Q0
  have hl := lv_entry [.ref obT, .int a0] (n := 2) (Nat.le_of_ble_eq_true rfl)
  rw [lg_entry_eq]
  generalize (lg_sl [.ref obT, .int a0] ++ List.replicate (2 - (lg_sl [.ref obT, .int a0]).length) Slot.unset).toArray = ls at hl ⊢
  have hl : lv_has ls 2 [(0, .ref obT), (1, .int a0)] := hl
  unfold m_X7_next at hm
  refine lv_aload_n hx hb dX7_next_0 rfl (lv_at hl 0 rfl) ?_
  refine va_get (D := (dC, dI)) (ci := 9) (v := .ref tq_next) (C := RX7) (T := TX7) (N := 8) hx hb hts (inX7 _) hown hK hP 0 rfl rfl 3 (by decide) (hts _ (List.mem_cons_of_mem _ wf7_22)) (fun _ h9 => h9) rfl dX7_next_1 ?_
  refine lv_iload_n hx hb dX7_next_4 rfl (lv_at hl 1 rfl) ?_
  obtain ⟨r1, hz1, hm⟩ := mr_bind hm
  refine mr_pSN (As := [.ref tq_next, .int a0]) (rest := []) (sr_okZ adK adV) ⟨hx, hb, hml, hown, hts⟩ (kX8_entry l htr dC dI adK adV cI cB cJ cZ cQ tq_next t_next 4096 a0 r1 hz1) (sr_cnS 2 hts rfl gn7_50.1 (hz0.2.2.2.2.2.2.1 _ gn7_50.2) rfl rfl (by decide +kernel) ⟨(by show 0 + 1 ≤ 1; omega), (by show 8 + (2 + 11) + (0) ≤ 21; omega)⟩) hS hP hK hz0 [1] rfl rfl rfl hl.1 (Nat.le_of_ble_eq_true rfl) dX7_next_5 ⟨Nat.zero_le _, Nat.zero_le _⟩ ?_
  obtain rfl := Option.some.inj hm
  subst hQ0
  exact W.iret (v := r1) hx hb hr (fun t ht hW => ⟨rfl, ht⟩) (fun q h => by cases h) dX7_next_8
set_option maxHeartbeats 4000000 in
set_option maxRecDepth 100000 in
theorem kX7_amount (l : Launch) (htr : l.stackTraces = false) (dC : Nat → ClassId) (dI : Nat → Nat → Nat) (adK adV : Nat → Nat) (cI cB cJ cZ cQ : ClassId) (obT tq_tape tq_said tq_inner tq_next tq_amount obK : Nat) (t_length : Int32) (t_wrongPlace : Int32) (t_amount : Nat → Int32) (a0 : Int32) (res : Int32) (hm : m_X7_amount t_amount a0 = some res) : Met l yX7_amount wsX7_amount (rmX7_amount 0 0) (pcR (sr_Z adK adV) (dC, dI) srCl [(cI, .int), (cB, .byte), (cJ, .long), (cZ, .boolean), (cQ, .object "SchemaReader$Schema")] [.ref obT, .int a0] [(obT, .inr (9, [.ref tq_tape, .ref tq_said, .ref tq_inner, .ref tq_next, .ref tq_amount, .ref obK, .int t_length, .int t_wrongPlace])), (tq_amount, .inl (cI, 4096, .inl t_amount))]) (k2_QcV (.int res)) 0 0 (fun _ => False) := by
  refine Met.ofW (cc := cX7_amount) (maxL := 2) (ret := (some .int)) (by decide) rfl ?_
  intro p e s m args below meth c s₁ B hml hv
  obtain ⟨rfl, hP, hK, hz0⟩ := hv
  have hx := B.exec
  have hb := B.bytes
  have hr := B.returns
  have hts := atoms_spec (ws := wsX7_amount) B.pre
  have hown : s.vm.findClass RX7 = some m.cls := findClass_of_methodNamed B.named
  have hlocks := B.notSynchronized
  have hS : va_S (fun _ => False) s.heap s.heap [] := va_S.rf
  generalize hQ0 : MQ below (k2_QcV (.int res)) [.ref obT, .int a0].toArray s 0 0 (fun _ => False) = Q0
  have hl := lv_entry [.ref obT, .int a0] (n := 2) (Nat.le_of_ble_eq_true rfl)
  rw [lg_entry_eq]
  generalize (lg_sl [.ref obT, .int a0] ++ List.replicate (2 - (lg_sl [.ref obT, .int a0]).length) Slot.unset).toArray = ls at hl ⊢
  have hl : lv_has ls 2 [(0, .ref obT), (1, .int a0)] := hl
  unfold m_X7_amount at hm
  refine lv_aload_n hx hb dX7_amount_0 rfl (lv_at hl 0 rfl) ?_
  refine va_get (D := (dC, dI)) (ci := 9) (v := .ref tq_amount) (C := RX7) (T := TX7) (N := 8) hx hb hts (inX7 _) hown hK hP 0 rfl rfl 4 (by decide) (hts _ (List.mem_cons_of_mem _ wf7_25)) (fun _ h9 => h9) rfl dX7_amount_1 ?_
  refine lv_iload_n hx hb dX7_amount_4 rfl (lv_at hl 1 rfl) ?_
  obtain ⟨r1, hz1, hm⟩ := mr_bind hm
  refine mr_pSN (As := [.ref tq_amount, .int a0]) (rest := []) (sr_okZ adK adV) ⟨hx, hb, hml, hown, hts⟩ (kX8_entry l htr dC dI adK adV cI cB cJ cZ cQ tq_amount t_amount 4096 a0 r1 hz1) (sr_cnS 2 hts rfl gn7_50.1 (hz0.2.2.2.2.2.2.1 _ gn7_50.2) rfl rfl (by decide +kernel) ⟨(by show 0 + 1 ≤ 1; omega), (by show 8 + (2 + 11) + (0) ≤ 21; omega)⟩) hS hP hK hz0 [1] rfl rfl rfl hl.1 (Nat.le_of_ble_eq_true rfl) dX7_amount_5 ⟨Nat.zero_le _, Nat.zero_le _⟩ ?_
  obtain rfl := Option.some.inj hm
  subst hQ0
  exact W.iret (v := r1) hx hb hr (fun t ht hW => ⟨rfl, ht⟩) (fun q h => by cases h) dX7_amount_8
set_option maxHeartbeats 4000000 in
set_option maxRecDepth 100000 in
theorem kX7_saidAt (l : Launch) (htr : l.stackTraces = false) (dC : Nat → ClassId) (dI : Nat → Nat → Nat) (adK adV : Nat → Nat) (cI cB cJ cZ cQ : ClassId) (obT tq_tape tq_said tq_inner tq_next tq_amount obK : Nat) (t_length : Int32) (t_wrongPlace : Int32) (t_said : Nat → Int32) (a0 : Int32) (res : Int32) (hm : m_X7_saidAt t_said a0 = some res) : Met l yX7_saidAt wsX7_saidAt (rmX7_saidAt 0 0) (pcR (sr_Z adK adV) (dC, dI) srCl [(cI, .int), (cB, .byte), (cJ, .long), (cZ, .boolean), (cQ, .object "SchemaReader$Schema")] [.ref obT, .int a0] [(obT, .inr (9, [.ref tq_tape, .ref tq_said, .ref tq_inner, .ref tq_next, .ref tq_amount, .ref obK, .int t_length, .int t_wrongPlace])), (tq_said, .inl (cB, 4096, .inl t_said))]) (k2_QcV (.int res)) 0 0 (fun _ => False) := by
  refine Met.ofW (cc := cX7_saidAt) (maxL := 2) (ret := (some .int)) (by decide) rfl ?_
  intro p e s m args below meth c s₁ B hml hv
  obtain ⟨rfl, hP, hK, hz0⟩ := hv
  have hx := B.exec
  have hb := B.bytes
  have hr := B.returns
  have hts := atoms_spec (ws := wsX7_saidAt) B.pre
  have hown : s.vm.findClass RX7 = some m.cls := findClass_of_methodNamed B.named
  have hlocks := B.notSynchronized
  have hS : va_S (fun _ => False) s.heap s.heap [] := va_S.rf
  generalize hQ0 : MQ below (k2_QcV (.int res)) [.ref obT, .int a0].toArray s 0 0 (fun _ => False) = Q0
  have hl := lv_entry [.ref obT, .int a0] (n := 2) (Nat.le_of_ble_eq_true rfl)
  rw [lg_entry_eq]
  generalize (lg_sl [.ref obT, .int a0] ++ List.replicate (2 - (lg_sl [.ref obT, .int a0]).length) Slot.unset).toArray = ls at hl ⊢
  have hl : lv_has ls 2 [(0, .ref obT), (1, .int a0)] := hl
  unfold m_X7_saidAt at hm
  refine lv_iload_n hx hb dX7_saidAt_0 rfl (lv_at hl 1 rfl) ?_
  refine lv_if_lt (tgt := 26) hx hb dX7_saidAt_1 (by decide) (fun c1 => ?_) (fun c1 => ?_)
  · have hm := mr_if c1 hm
    refine lv_iconst (v := -1) hx hb dX7_saidAt_26 (by decide) ?_
    obtain rfl := Option.some.inj hm
    subst hQ0
    exact W.iret (v := (-1)) hx hb hr (fun t ht hW => ⟨rfl, ht⟩) (fun q h => by cases h) dX7_saidAt_27
  · have hm := mr_un c1 hm
    refine lv_iload_n hx hb dX7_saidAt_4 rfl (lv_at hl 1 rfl) ?_
    refine lv_aload_n hx hb dX7_saidAt_5 rfl (lv_at hl 0 rfl) ?_
    refine va_get (D := (dC, dI)) (ci := 9) (v := .ref tq_said) (C := RX7) (T := TX7) (N := 8) hx hb hts (inX7 _) hown hK hP 0 rfl rfl 1 (by decide) (hts _ (List.mem_cons_of_mem _ wf7_15)) (fun _ h9 => h9) rfl dX7_saidAt_6 ?_
    refine va_alen hx hb hK hP 1 1 rfl rfl rfl dX7_saidAt_9 ?_
    refine lv_icmp_ge (tgt := 26) hx hb dX7_saidAt_10 (by decide) (fun c2 => ?_) (fun c2 => ?_)
    · have hm := mr_if c2 hm
      refine lv_iconst (v := -1) hx hb dX7_saidAt_26 (by decide) ?_
      obtain rfl := Option.some.inj hm
      subst hQ0
      exact W.iret (v := (-1)) hx hb hr (fun t ht hW => ⟨rfl, ht⟩) (fun q h => by cases h) dX7_saidAt_27
    · have hm := mr_un c2 hm
      refine lv_aload_n hx hb dX7_saidAt_13 rfl (lv_at hl 0 rfl) ?_
      refine va_get (D := (dC, dI)) (ci := 9) (v := .ref tq_said) (C := RX7) (T := TX7) (N := 8) hx hb hts (inX7 _) hown hK hP 0 rfl rfl 1 (by decide) (hts _ (List.mem_cons_of_mem _ wf7_15)) (fun _ h9 => h9) rfl dX7_saidAt_14 ?_
      refine lv_iload_n hx hb dX7_saidAt_17 rfl (lv_at hl 1 rfl) ?_
      obtain ⟨h3, hm⟩ := mr_bd hm
      refine va_bald hx hb hK hP 1 1 rfl rfl h3 dX7_saidAt_18 ?_
      refine lv_sipush (v := 255) hx hb dX7_saidAt_19 (by decide) ?_
      refine lv_iand hx hb dX7_saidAt_22 ?_
      refine lv_goto (tgt := 27) hx hb dX7_saidAt_23 (by decide) ?_
      obtain rfl := Option.some.inj hm
      subst hQ0
      exact W.iret (v := ((t_said (a0 : Int32).toNatClampNeg) &&& 255)) hx hb hr (fun t ht hW => ⟨rfl, ht⟩) (fun q h => by cases h) dX7_saidAt_27
set_option maxHeartbeats 4000000 in
set_option maxRecDepth 100000 in
theorem kX7_says (l : Launch) (htr : l.stackTraces = false) (dC : Nat → ClassId) (dI : Nat → Nat → Nat) (adK adV : Nat → Nat) (cI cB cJ cZ cQ : ClassId) (obT tq_tape tq_said tq_inner tq_next tq_amount obK : Nat) (t_length : Int32) (t_wrongPlace : Int32) (t_tape : Nat → Int32) (t_said : Nat → Int32) (t_amount : Nat → Int32) (a0 : Int32) (a1 : Nat) (res : Int32) (hm : m_X7_says t_tape t_said t_amount t_length a0 a1 = some res) : Met l yX7_says wsX7_says (rmX7_says 0 0) (pcR (sr_Z adK adV) (dC, dI) srCl [(cI, .int), (cB, .byte), (cJ, .long), (cZ, .boolean), (cQ, .object "SchemaReader$Schema")] [.ref obT, .int a0, .ref (adK a1)] [(obT, .inr (9, [.ref tq_tape, .ref tq_said, .ref tq_inner, .ref tq_next, .ref tq_amount, .ref obK, .int t_length, .int t_wrongPlace])), (tq_tape, .inl (cB, 4096, .inl t_tape)), (tq_said, .inl (cB, 4096, .inl t_said)), (tq_amount, .inl (cI, 4096, .inl t_amount))]) (k2_QcV (.int res)) 0 0 (fun _ => False) := by
  refine Met.ofW (cc := cX7_says) (maxL := 4) (ret := (some .boolean)) (by decide) rfl ?_
  intro p e s m args below meth c s₁ B hml hv
  obtain ⟨rfl, hP, hK, hz0⟩ := hv
  have hx := B.exec
  have hb := B.bytes
  have hr := B.returns
  have hts := atoms_spec (ws := wsX7_says) B.pre
  have hown : s.vm.findClass RX7 = some m.cls := findClass_of_methodNamed B.named
  have hlocks := B.notSynchronized
  have hS : va_S (fun _ => False) s.heap s.heap [] := va_S.rf
  generalize hQ0 : MQ below (k2_QcV (.int res)) [.ref obT, .int a0, .ref (adK a1)].toArray s 0 0 (fun _ => False) = Q0
  have hl := lv_entry [.ref obT, .int a0, .ref (adK a1)] (n := 4) (Nat.le_of_ble_eq_true rfl)
  rw [lg_entry_eq]
  generalize (lg_sl [.ref obT, .int a0, .ref (adK a1)] ++ List.replicate (4 - (lg_sl [.ref obT, .int a0, .ref (adK a1)]).length) Slot.unset).toArray = ls at hl ⊢
  have hl : lv_has ls 4 [(0, .ref obT), (1, .int a0), (2, .ref (adK a1))] := hl
  unfold m_X7_says at hm
  refine lv_aload_n hx hb dX7_says_0 rfl (lv_at hl 0 rfl) ?_
  refine lv_iload_n hx hb dX7_says_1 rfl (lv_at hl 1 rfl) ?_
  obtain ⟨r1, hz1, hm⟩ := mr_bind hm
  refine mr_pV (As := [.int a0]) (rest := []) (sr_okZ adK adV) ⟨hx, hb, hml, hown, hts⟩ (kX7_byteAt l htr dC dI adK adV cI cB cJ cZ cQ obT tq_tape tq_said tq_inner tq_next tq_amount obK t_length t_wrongPlace t_tape a0 r1 hz1) (cwV 1 hts (g7_42 _) rfl rfl rfl (by decide +kernel) ⟨(by show 0 + 1 ≤ 4; omega), (by show 8 + (2 + 11) + (0) ≤ 85; omega)⟩) hS hP hK hz0 [0, 1] rfl (va_recv hK hP (ci := 9) (q0 := 0) rfl rfl) rfl rfl hl.1 (Nat.le_of_ble_eq_true rfl) dX7_says_2 ⟨Nat.zero_le _, Nat.zero_le _⟩ ?_
  refine lv_bipush (v := 34) hx hb dX7_says_5 (by decide) ?_
  refine lv_icmp_ne (tgt := 25) hx hb dX7_says_7 (by decide) (fun c2 => ?_) (fun c2 => ?_)
  · have hm := mr_un c2 hm
    refine lv_iconst (v := 0) hx hb dX7_says_25 (by decide) ?_
    obtain rfl := Option.some.inj hm
    subst hQ0
    exact W.zret (v := 0) hx hb hr rfl (fun t ht hW => ⟨rfl, ht⟩) (fun q h => by cases h) dX7_says_26
  · have hm := mr_if c2 hm
    refine lv_aload_n hx hb dX7_says_10 rfl (lv_at hl 0 rfl) ?_
    refine va_get (D := (dC, dI)) (ci := 9) (v := .ref tq_amount) (C := RX7) (T := TX7) (N := 8) hx hb hts (inX7 _) hown hK hP 0 rfl rfl 4 (by decide) (hts _ (List.mem_cons_of_mem _ wf7_25)) (fun _ h9 => h9) rfl dX7_says_11 ?_
    refine lv_iload_n hx hb dX7_says_14 rfl (lv_at hl 1 rfl) ?_
    obtain ⟨r3, hz3, hm⟩ := mr_bind hm
    refine mr_pSN (As := [.ref tq_amount, .int a0]) (rest := []) (sr_okZ adK adV) ⟨hx, hb, hml, hown, hts⟩ (kX8_entry l htr dC dI adK adV cI cB cJ cZ cQ tq_amount t_amount 4096 a0 r3 hz3) (sr_cnS 2 hts rfl gn7_50.1 (hz0.2.2.2.2.2.2.1 _ gn7_50.2) rfl rfl (by decide +kernel) ⟨(by show 0 + 1 ≤ 4; omega), (by show 8 + (2 + 11) + (0) ≤ 85; omega)⟩) hS hP hK hz0 [3] rfl rfl rfl hl.1 (Nat.le_of_ble_eq_true rfl) dX7_says_15 ⟨Nat.zero_le _, Nat.zero_le _⟩ ?_
    refine lv_aload_n hx hb dX7_says_18 rfl (lv_at hl 2 rfl) ?_
    obtain ⟨h5, hm⟩ := mr_bs hm
    obtain ⟨r4, hz4, hm⟩ := mr_bind hm
    refine mr_pV (As := []) (rest := [.int r3]) (sr_okZ adK adV) ⟨hx, hb, hml, hown, hts⟩ (kX20_length l htr dC dI adK adV cI cB cJ cZ cQ  a1 r4 hz4) (cwV 0 hts (g7_54 _) rfl rfl rfl (by decide +kernel) ⟨(by show 1 + 1 ≤ 4; omega), (by show 8 + (1 + 11) + (20) ≤ 85; omega)⟩) hS hP hK hz0 [] rfl (sr_recv (hz0.1 a1 h5).1.1 hS) rfl rfl hl.1 (Nat.le_of_ble_eq_true rfl) dX7_says_19 ⟨Nat.zero_le _, Nat.zero_le _⟩ ?_
    refine lv_icmp_eq (tgt := 27) hx hb dX7_says_22 (by decide) (fun c6 => ?_) (fun c6 => ?_)
    · have hm := mr_if c6 hm
      refine lv_iconst (v := 0) hx hb dX7_says_27 (by decide) ?_
      have j29 : ∀ (n29 : Nat) (x1 : Int32) (x2 : Nat) (x3 : Int32) (ls : Array Slot), lv_has ls 4 [(0, .ref obT), (1, .int x1), (2, .ref (adK x2)), (3, .int x3)] → m_X7_says_29 t_tape t_said t_amount t_length n29 x1 x2 x3 = some res → W p l e (headSpec wsX7_says (rmX7_says 0 0)).room s m [.ref obT, .int a0, .ref (adK a1)].toArray below meth c s.heap [] 0 0 Q0 (F0 m 29 ls []) := by
        intro n29
        induction n29 with
        | zero => intro x1 x2 x3 ls hl hm; exact nomatch (show (none : Option _) = some res from hm)
        | succ n29 ih29 =>
          intro x1 x2 x3 ls hl hm
          rw [m_X7_says_29] at hm
          refine lv_iload_n hx hb dX7_says_29 rfl (lv_at hl 3 rfl) ?_
          refine lv_aload_n hx hb dX7_says_30 rfl (lv_at hl 2 rfl) ?_
          obtain ⟨h8, hm⟩ := mr_bs hm
          obtain ⟨r7, hz7, hm⟩ := mr_bind hm
          refine mr_pV (As := []) (rest := [.int x3]) (sr_okZ adK adV) ⟨hx, hb, hml, hown, hts⟩ (kX20_length l htr dC dI adK adV cI cB cJ cZ cQ  x2 r7 hz7) (cwV 0 hts (g7_54 _) rfl rfl rfl (by decide +kernel) ⟨(by show 1 + 1 ≤ 4; omega), (by show 8 + (1 + 11) + (20) ≤ 85; omega)⟩) hS hP hK hz0 [] rfl (sr_recv (hz0.1 x2 h8).1.1 hS) rfl rfl hl.1 (Nat.le_of_ble_eq_true rfl) dX7_says_31 ⟨Nat.zero_le _, Nat.zero_le _⟩ ?_
          refine lv_icmp_ge (tgt := 60) hx hb dX7_says_34 (by decide) (fun c9 => ?_) (fun c9 => ?_)
          · have hm := mr_if c9 hm
            refine lv_iconst (v := 1) hx hb dX7_says_60 (by decide) ?_
            obtain rfl := Option.some.inj hm
            subst hQ0
            exact W.zret (v := 1) hx hb hr rfl (fun t ht hW => ⟨rfl, ht⟩) (fun q h => by cases h) dX7_says_61
          · have hm := mr_un c9 hm
            refine lv_aload_n hx hb dX7_says_37 rfl (lv_at hl 0 rfl) ?_
            refine lv_iload_n hx hb dX7_says_38 rfl (lv_at hl 1 rfl) ?_
            refine lv_iload_n hx hb dX7_says_39 rfl (lv_at hl 3 rfl) ?_
            refine lv_iadd hx hb dX7_says_40 ?_
            obtain ⟨r10, hz10, hm⟩ := mr_bind hm
            refine mr_pV (As := [.int (x1 + x3)]) (rest := []) (sr_okZ adK adV) ⟨hx, hb, hml, hown, hts⟩ (kX7_saidAt l htr dC dI adK adV cI cB cJ cZ cQ obT tq_tape tq_said tq_inner tq_next tq_amount obK t_length t_wrongPlace t_said (x1 + x3) r10 hz10) (cwV 1 hts (g7_59 _) rfl rfl rfl (by decide +kernel) ⟨(by show 0 + 1 ≤ 4; omega), (by show 8 + (2 + 11) + (0) ≤ 85; omega)⟩) hS hP hK hz0 [0, 2] rfl (va_recv hK hP (ci := 9) (q0 := 0) rfl rfl) rfl rfl hl.1 (Nat.le_of_ble_eq_true rfl) dX7_says_41 ⟨Nat.zero_le _, Nat.zero_le _⟩ ?_
            refine lv_aload_n hx hb dX7_says_44 rfl (lv_at hl 2 rfl) ?_
            refine lv_iload_n hx hb dX7_says_45 rfl (lv_at hl 3 rfl) ?_
            obtain ⟨h12, hm⟩ := mr_bs hm
            obtain ⟨r11, hz11, hm⟩ := mr_bind hm
            refine mr_pV (As := [.int x3]) (rest := [.int r10]) (sr_okZ adK adV) ⟨hx, hb, hml, hown, hts⟩ (kX20_charAt l htr dC dI adK adV cI cB cJ cZ cQ  x2 x3 r11 hz11) (cwV 1 hts (g7_62 _) rfl rfl rfl (by decide +kernel) ⟨(by show 3 + 1 ≤ 4; omega), (by show 8 + (2 + 11) + (64) ≤ 85; omega)⟩) hS hP hK hz0 [] rfl (sr_recv (hz0.1 x2 h12).1.1 hS) rfl rfl hl.1 (Nat.le_of_ble_eq_true rfl) dX7_says_46 ⟨Nat.zero_le _, Nat.zero_le _⟩ ?_
            refine lv_icmp_eq (tgt := 54) hx hb dX7_says_49 (by decide) (fun c13 => ?_) (fun c13 => ?_)
            · have hm := mr_if c13 hm
              refine lv_iinc (v := x3 + 1) (lv' := [(3, .int (x3 + 1)), (0, .ref obT), (1, .int x1), (2, .ref (adK x2))]) hx hb dX7_says_54 hl (k := 3) rfl rfl (by decide) rfl (fun ls hl => ?_)
              refine lv_goto (tgt := 29) hx hb dX7_says_57 (by decide) ?_
              exact ih29 x1 x2 (x3 + 1) ls (lv_sub hl [1, 2, 3, 0] rfl) hm
            · have hm := mr_un c13 hm
              refine lv_iconst (v := 0) hx hb dX7_says_52 (by decide) ?_
              obtain rfl := Option.some.inj hm
              subst hQ0
              exact W.zret (v := 0) hx hb hr rfl (fun t ht hW => ⟨rfl, ht⟩) (fun q h => by cases h) dX7_says_53
      refine lv_istore_n (lv' := [(3, .int 0), (0, .ref obT), (1, .int a0), (2, .ref (adK a1))]) hx hb dX7_says_28 rfl hl (by decide) rfl (fun ls hl => ?_)
      exact j29 sr_fuel a0 a1 0 ls (lv_sub hl [1, 2, 3, 0] rfl) hm
    · have hm := mr_un c6 hm
      refine lv_iconst (v := 0) hx hb dX7_says_25 (by decide) ?_
      obtain rfl := Option.some.inj hm
      subst hQ0
      exact W.zret (v := 0) hx hb hr rfl (fun t ht hW => ⟨rfl, ht⟩) (fun q h => by cases h) dX7_says_26
set_option maxHeartbeats 4000000 in
set_option maxRecDepth 100000 in
theorem kX7_saysSame (l : Launch) (htr : l.stackTraces = false) (dC : Nat → ClassId) (dI : Nat → Nat → Nat) (adK adV : Nat → Nat) (cI cB cJ cZ cQ : ClassId) (obT tq_tape tq_said tq_inner tq_next tq_amount obK : Nat) (t_length : Int32) (t_wrongPlace : Int32) (t_said : Nat → Int32) (t_amount : Nat → Int32) (a0 : Int32) (a1 : Int32) (res : Int32) (hm : m_X7_saysSame t_said t_amount a0 a1 = some res) : Met l yX7_saysSame wsX7_saysSame (rmX7_saysSame 0 0) (pcR (sr_Z adK adV) (dC, dI) srCl [(cI, .int), (cB, .byte), (cJ, .long), (cZ, .boolean), (cQ, .object "SchemaReader$Schema")] [.ref obT, .int a0, .int a1] [(obT, .inr (9, [.ref tq_tape, .ref tq_said, .ref tq_inner, .ref tq_next, .ref tq_amount, .ref obK, .int t_length, .int t_wrongPlace])), (tq_said, .inl (cB, 4096, .inl t_said)), (tq_amount, .inl (cI, 4096, .inl t_amount))]) (k2_QcV (.int res)) 0 0 (fun _ => False) := by
  refine Met.ofW (cc := cX7_saysSame) (maxL := 5) (ret := (some .boolean)) (by decide) rfl ?_
  intro p e s m args below meth c s₁ B hml hv
  obtain ⟨rfl, hP, hK, hz0⟩ := hv
  have hx := B.exec
  have hb := B.bytes
  have hr := B.returns
  have hts := atoms_spec (ws := wsX7_saysSame) B.pre
  have hown : s.vm.findClass RX7 = some m.cls := findClass_of_methodNamed B.named
  have hlocks := B.notSynchronized
  have hS : va_S (fun _ => False) s.heap s.heap [] := va_S.rf
  generalize hQ0 : MQ below (k2_QcV (.int res)) [.ref obT, .int a0, .int a1].toArray s 0 0 (fun _ => False) = Q0
  have hl := lv_entry [.ref obT, .int a0, .int a1] (n := 5) (Nat.le_of_ble_eq_true rfl)
  rw [lg_entry_eq]
  generalize (lg_sl [.ref obT, .int a0, .int a1] ++ List.replicate (5 - (lg_sl [.ref obT, .int a0, .int a1]).length) Slot.unset).toArray = ls at hl ⊢
  have hl : lv_has ls 5 [(0, .ref obT), (1, .int a0), (2, .int a1)] := hl
  unfold m_X7_saysSame at hm
  refine lv_aload_n hx hb dX7_saysSame_0 rfl (lv_at hl 0 rfl) ?_
  refine va_get (D := (dC, dI)) (ci := 9) (v := .ref tq_amount) (C := RX7) (T := TX7) (N := 8) hx hb hts (inX7 _) hown hK hP 0 rfl rfl 4 (by decide) (hts _ (List.mem_cons_of_mem _ wf7_25)) (fun _ h9 => h9) rfl dX7_saysSame_1 ?_
  refine lv_iload_n hx hb dX7_saysSame_4 rfl (lv_at hl 1 rfl) ?_
  obtain ⟨r1, hz1, hm⟩ := mr_bind hm
  refine mr_pSN (As := [.ref tq_amount, .int a0]) (rest := []) (sr_okZ adK adV) ⟨hx, hb, hml, hown, hts⟩ (kX8_entry l htr dC dI adK adV cI cB cJ cZ cQ tq_amount t_amount 4096 a0 r1 hz1) (sr_cnS 2 hts rfl gn7_50.1 (hz0.2.2.2.2.2.2.1 _ gn7_50.2) rfl rfl (by decide +kernel) ⟨(by show 0 + 1 ≤ 1; omega), (by show 8 + (2 + 11) + (0) ≤ 21; omega)⟩) hS hP hK hz0 [2] rfl rfl rfl hl.1 (Nat.le_of_ble_eq_true rfl) dX7_saysSame_5 ⟨Nat.zero_le _, Nat.zero_le _⟩ ?_
  refine lv_istore_n (lv' := [(3, .int r1), (0, .ref obT), (1, .int a0), (2, .int a1)]) hx hb dX7_saysSame_8 rfl hl (by decide) rfl (fun ls hl => ?_)
  refine lv_iload_n hx hb dX7_saysSame_9 rfl (lv_at hl 0 rfl) ?_
  refine lv_aload_n hx hb dX7_saysSame_10 rfl (lv_at hl 1 rfl) ?_
  refine va_get (D := (dC, dI)) (ci := 9) (v := .ref tq_amount) (C := RX7) (T := TX7) (N := 8) hx hb hts (inX7 _) hown hK hP 0 rfl rfl 4 (by decide) (hts _ (List.mem_cons_of_mem _ wf7_25)) (fun _ h9 => h9) rfl dX7_saysSame_11 ?_
  refine lv_iload_n hx hb dX7_saysSame_14 rfl (lv_at hl 3 rfl) ?_
  obtain ⟨r2, hz2, hm⟩ := mr_bind hm
  refine mr_pSN (As := [.ref tq_amount, .int a1]) (rest := [.int r1]) (sr_okZ adK adV) ⟨hx, hb, hml, hown, hts⟩ (kX8_entry l htr dC dI adK adV cI cB cJ cZ cQ tq_amount t_amount 4096 a1 r2 hz2) (sr_cnS 2 hts rfl gn7_50.1 (hz0.2.2.2.2.2.2.1 _ gn7_50.2) rfl rfl (by decide +kernel) ⟨(by show 0 + 1 ≤ 1; omega), (by show 8 + (2 + 11) + (0) ≤ 21; omega)⟩) hS hP hK hz0 [2] rfl rfl rfl hl.1 (Nat.le_of_ble_eq_true rfl) dX7_saysSame_15 ⟨Nat.zero_le _, Nat.zero_le _⟩ ?_
  refine lv_icmp_eq (tgt := 23) hx hb dX7_saysSame_18 (by decide) (fun c3 => ?_) (fun c3 => ?_)
  · have hm := mr_if c3 hm
    refine lv_iconst (v := 0) hx hb dX7_saysSame_23 (by decide) ?_
    have j26 : ∀ (n26 : Nat) (x1 : Int32) (x2 : Int32) (x3 : Int32) (x4 : Int32) (ls : Array Slot), lv_has ls 5 [(0, .ref obT), (1, .int x1), (2, .int x2), (3, .int x3), (4, .int x4)] → m_X7_saysSame_26 t_said t_amount n26 x1 x2 x3 x4 = some res → W p l e (headSpec wsX7_saysSame (rmX7_saysSame 0 0)).room s m [.ref obT, .int a0, .int a1].toArray below meth c s.heap [] 0 0 Q0 (F0 m 26 ls []) := by
      intro n26
      induction n26 with
      | zero => intro x1 x2 x3 x4 ls hl hm; exact nomatch (show (none : Option _) = some res from hm)
      | succ n26 ih26 =>
        intro x1 x2 x3 x4 ls hl hm
        rw [m_X7_saysSame_26] at hm
        refine lv_iload hx hb dX7_saysSame_26 (lv_at hl 4 rfl) ?_
        refine lv_iload_n hx hb dX7_saysSame_28 rfl (lv_at hl 3 rfl) ?_
        refine lv_icmp_ge (tgt := 59) hx hb dX7_saysSame_29 (by decide) (fun c4 => ?_) (fun c4 => ?_)
        · have hm := mr_if c4 hm
          refine lv_iconst (v := 1) hx hb dX7_saysSame_59 (by decide) ?_
          obtain rfl := Option.some.inj hm
          subst hQ0
          exact W.zret (v := 1) hx hb hr rfl (fun t ht hW => ⟨rfl, ht⟩) (fun q h => by cases h) dX7_saysSame_60
        · have hm := mr_un c4 hm
          refine lv_aload_n hx hb dX7_saysSame_32 rfl (lv_at hl 0 rfl) ?_
          refine lv_iload_n hx hb dX7_saysSame_33 rfl (lv_at hl 1 rfl) ?_
          refine lv_iload hx hb dX7_saysSame_34 (lv_at hl 4 rfl) ?_
          refine lv_iadd hx hb dX7_saysSame_36 ?_
          obtain ⟨r5, hz5, hm⟩ := mr_bind hm
          refine mr_pV (As := [.int (x1 + x4)]) (rest := []) (sr_okZ adK adV) ⟨hx, hb, hml, hown, hts⟩ (kX7_saidAt l htr dC dI adK adV cI cB cJ cZ cQ obT tq_tape tq_said tq_inner tq_next tq_amount obK t_length t_wrongPlace t_said (x1 + x4) r5 hz5) (cwV 1 hts (g7_59 _) rfl rfl rfl (by decide +kernel) ⟨(by show 0 + 1 ≤ 1; omega), (by show 8 + (2 + 11) + (0) ≤ 21; omega)⟩) hS hP hK hz0 [0, 1] rfl (va_recv hK hP (ci := 9) (q0 := 0) rfl rfl) rfl rfl hl.1 (Nat.le_of_ble_eq_true rfl) dX7_saysSame_37 ⟨Nat.zero_le _, Nat.zero_le _⟩ ?_
          refine lv_aload_n hx hb dX7_saysSame_40 rfl (lv_at hl 0 rfl) ?_
          refine lv_iload_n hx hb dX7_saysSame_41 rfl (lv_at hl 2 rfl) ?_
          refine lv_iload hx hb dX7_saysSame_42 (lv_at hl 4 rfl) ?_
          refine lv_iadd hx hb dX7_saysSame_44 ?_
          obtain ⟨r6, hz6, hm⟩ := mr_bind hm
          refine mr_pV (As := [.int (x2 + x4)]) (rest := [.int r5]) (sr_okZ adK adV) ⟨hx, hb, hml, hown, hts⟩ (kX7_saidAt l htr dC dI adK adV cI cB cJ cZ cQ obT tq_tape tq_said tq_inner tq_next tq_amount obK t_length t_wrongPlace t_said (x2 + x4) r6 hz6) (cwV 1 hts (g7_59 _) rfl rfl rfl (by decide +kernel) ⟨(by show 0 + 1 ≤ 1; omega), (by show 8 + (2 + 11) + (0) ≤ 21; omega)⟩) hS hP hK hz0 [0, 1] rfl (va_recv hK hP (ci := 9) (q0 := 0) rfl rfl) rfl rfl hl.1 (Nat.le_of_ble_eq_true rfl) dX7_saysSame_45 ⟨Nat.zero_le _, Nat.zero_le _⟩ ?_
          refine lv_icmp_eq (tgt := 53) hx hb dX7_saysSame_48 (by decide) (fun c7 => ?_) (fun c7 => ?_)
          · have hm := mr_if c7 hm
            refine lv_iinc (v := x4 + 1) (lv' := [(4, .int (x4 + 1)), (0, .ref obT), (1, .int x1), (2, .int x2), (3, .int x3)]) hx hb dX7_saysSame_53 hl (k := 4) rfl rfl (by decide) rfl (fun ls hl => ?_)
            refine lv_goto (tgt := 26) hx hb dX7_saysSame_56 (by decide) ?_
            exact ih26 x1 x2 x3 (x4 + 1) ls (lv_sub hl [1, 2, 3, 4, 0] rfl) hm
          · have hm := mr_un c7 hm
            refine lv_iconst (v := 0) hx hb dX7_saysSame_51 (by decide) ?_
            obtain rfl := Option.some.inj hm
            subst hQ0
            exact W.zret (v := 0) hx hb hr rfl (fun t ht hW => ⟨rfl, ht⟩) (fun q h => by cases h) dX7_saysSame_52
    refine lv_istore (lv' := [(4, .int 0), (3, .int r1), (0, .ref obT), (1, .int a0), (2, .int a1)]) hx hb dX7_saysSame_24 hl (by decide) rfl (fun ls hl => ?_)
    exact j26 sr_fuel a0 a1 r1 0 ls (lv_sub hl [2, 3, 4, 1, 0] rfl) hm
  · have hm := mr_un c3 hm
    refine lv_iconst (v := 0) hx hb dX7_saysSame_21 (by decide) ?_
    obtain rfl := Option.some.inj hm
    subst hQ0
    exact W.zret (v := 0) hx hb hr rfl (fun t ht hW => ⟨rfl, ht⟩) (fun q h => by cases h) dX7_saysSame_22
set_option maxHeartbeats 4000000 in
set_option maxRecDepth 100000 in
theorem kX7_hash (l : Launch) (htr : l.stackTraces = false) (dC : Nat → ClassId) (dI : Nat → Nat → Nat) (adK adV : Nat → Nat) (cI cB cJ cZ cQ : ClassId) (obT tq_tape tq_said tq_inner tq_next tq_amount obK : Nat) (t_length : Int32) (t_wrongPlace : Int32) (t_said : Nat → Int32) (t_amount : Nat → Int32) (a0 : Int32) (res : Int32) (hm : m_X7_hash t_said t_amount a0 = some res) : Met l yX7_hash wsX7_hash (rmX7_hash 0 0) (pcR (sr_Z adK adV) (dC, dI) srCl [(cI, .int), (cB, .byte), (cJ, .long), (cZ, .boolean), (cQ, .object "SchemaReader$Schema")] [.ref obT, .int a0] [(obT, .inr (9, [.ref tq_tape, .ref tq_said, .ref tq_inner, .ref tq_next, .ref tq_amount, .ref obK, .int t_length, .int t_wrongPlace])), (tq_said, .inl (cB, 4096, .inl t_said)), (tq_amount, .inl (cI, 4096, .inl t_amount))]) (k2_QcV (.int res)) 0 0 (fun _ => False) := by
  refine Met.ofW (cc := cX7_hash) (maxL := 5) (ret := (some .int)) (by decide) rfl ?_
  intro p e s m args below meth c s₁ B hml hv
  obtain ⟨rfl, hP, hK, hz0⟩ := hv
  have hx := B.exec
  have hb := B.bytes
  have hr := B.returns
  have hts := atoms_spec (ws := wsX7_hash) B.pre
  have hown : s.vm.findClass RX7 = some m.cls := findClass_of_methodNamed B.named
  have hlocks := B.notSynchronized
  have hS : va_S (fun _ => False) s.heap s.heap [] := va_S.rf
  generalize hQ0 : MQ below (k2_QcV (.int res)) [.ref obT, .int a0].toArray s 0 0 (fun _ => False) = Q0
  have hl := lv_entry [.ref obT, .int a0] (n := 5) (Nat.le_of_ble_eq_true rfl)
  rw [lg_entry_eq]
  generalize (lg_sl [.ref obT, .int a0] ++ List.replicate (5 - (lg_sl [.ref obT, .int a0]).length) Slot.unset).toArray = ls at hl ⊢
  have hl : lv_has ls 5 [(0, .ref obT), (1, .int a0)] := hl
  unfold m_X7_hash at hm
  refine lv_aload_n hx hb dX7_hash_0 rfl (lv_at hl 0 rfl) ?_
  refine va_get (D := (dC, dI)) (ci := 9) (v := .ref tq_amount) (C := RX7) (T := TX7) (N := 8) hx hb hts (inX7 _) hown hK hP 0 rfl rfl 4 (by decide) (hts _ (List.mem_cons_of_mem _ wf7_25)) (fun _ h9 => h9) rfl dX7_hash_1 ?_
  refine lv_iload_n hx hb dX7_hash_4 rfl (lv_at hl 1 rfl) ?_
  obtain ⟨r1, hz1, hm⟩ := mr_bind hm
  refine mr_pSN (As := [.ref tq_amount, .int a0]) (rest := []) (sr_okZ adK adV) ⟨hx, hb, hml, hown, hts⟩ (kX8_entry l htr dC dI adK adV cI cB cJ cZ cQ tq_amount t_amount 4096 a0 r1 hz1) (sr_cnS 2 hts rfl gn7_50.1 (hz0.2.2.2.2.2.2.1 _ gn7_50.2) rfl rfl (by decide +kernel) ⟨(by show 0 + 1 ≤ 1; omega), (by show 8 + (2 + 11) + (0) ≤ 21; omega)⟩) hS hP hK hz0 [2] rfl rfl rfl hl.1 (Nat.le_of_ble_eq_true rfl) dX7_hash_5 ⟨Nat.zero_le _, Nat.zero_le _⟩ ?_
  refine lv_istore_n (lv' := [(2, .int r1), (0, .ref obT), (1, .int a0)]) hx hb dX7_hash_8 rfl hl (by decide) rfl (fun ls hl => ?_)
  refine lv_iload_n hx hb dX7_hash_9 rfl (lv_at hl 0 rfl) ?_
  refine lv_istore_n (lv' := [(3, .int r1), (2, .int r1), (0, .ref obT), (1, .int a0)]) hx hb dX7_hash_10 rfl hl (by decide) rfl (fun ls hl => ?_)
  refine lv_iconst (v := 0) hx hb dX7_hash_11 (by decide) ?_
  have j14 : ∀ (n14 : Nat) (x1 : Int32) (x2 : Int32) (x3 : Int32) (x4 : Int32) (ls : Array Slot), lv_has ls 5 [(0, .ref obT), (1, .int x1), (2, .int x2), (3, .int x3), (4, .int x4)] → m_X7_hash_14 t_said t_amount n14 x1 x2 x3 x4 = some res → W p l e (headSpec wsX7_hash (rmX7_hash 0 0)).room s m [.ref obT, .int a0].toArray below meth c s.heap [] 0 0 Q0 (F0 m 14 ls []) := by
    intro n14
    induction n14 with
    | zero => intro x1 x2 x3 x4 ls hl hm; exact nomatch (show (none : Option _) = some res from hm)
    | succ n14 ih14 =>
      intro x1 x2 x3 x4 ls hl hm
      rw [m_X7_hash_14] at hm
      refine lv_iload hx hb dX7_hash_14 (lv_at hl 4 rfl) ?_
      refine lv_iload_n hx hb dX7_hash_16 rfl (lv_at hl 2 rfl) ?_
      refine lv_icmp_ge (tgt := 40) hx hb dX7_hash_17 (by decide) (fun c2 => ?_) (fun c2 => ?_)
      · have hm := mr_if c2 hm
        refine lv_iload_n hx hb dX7_hash_40 rfl (lv_at hl 3 rfl) ?_
        obtain rfl := Option.some.inj hm
        subst hQ0
        exact W.iret (v := x3) hx hb hr (fun t ht hW => ⟨rfl, ht⟩) (fun q h => by cases h) dX7_hash_41
      · have hm := mr_un c2 hm
        refine lv_iload_n hx hb dX7_hash_20 rfl (lv_at hl 3 rfl) ?_
        refine lv_bipush (v := 31) hx hb dX7_hash_21 (by decide) ?_
        refine lv_imul hx hb dX7_hash_23 ?_
        refine lv_aload_n hx hb dX7_hash_24 rfl (lv_at hl 0 rfl) ?_
        refine lv_iload_n hx hb dX7_hash_25 rfl (lv_at hl 1 rfl) ?_
        refine lv_iload hx hb dX7_hash_26 (lv_at hl 4 rfl) ?_
        refine lv_iadd hx hb dX7_hash_28 ?_
        obtain ⟨r3, hz3, hm⟩ := mr_bind hm
        refine mr_pV (As := [.int (x1 + x4)]) (rest := [.int (x3 * 31)]) (sr_okZ adK adV) ⟨hx, hb, hml, hown, hts⟩ (kX7_saidAt l htr dC dI adK adV cI cB cJ cZ cQ obT tq_tape tq_said tq_inner tq_next tq_amount obK t_length t_wrongPlace t_said (x1 + x4) r3 hz3) (cwV 1 hts (g7_59 _) rfl rfl rfl (by decide +kernel) ⟨(by show 0 + 1 ≤ 1; omega), (by show 8 + (2 + 11) + (0) ≤ 21; omega)⟩) hS hP hK hz0 [0, 1] rfl (va_recv hK hP (ci := 9) (q0 := 0) rfl rfl) rfl rfl hl.1 (Nat.le_of_ble_eq_true rfl) dX7_hash_29 ⟨Nat.zero_le _, Nat.zero_le _⟩ ?_
        refine lv_iadd hx hb dX7_hash_32 ?_
        refine lv_istore_n (lv' := [(3, .int ((x3 * 31) + r3)), (0, .ref obT), (1, .int x1), (2, .int x2), (4, .int x4)]) hx hb dX7_hash_33 rfl hl (by decide) rfl (fun ls hl => ?_)
        refine lv_iinc (v := x4 + 1) (lv' := [(4, .int (x4 + 1)), (3, .int ((x3 * 31) + r3)), (0, .ref obT), (1, .int x1), (2, .int x2)]) hx hb dX7_hash_34 hl (k := 4) rfl rfl (by decide) rfl (fun ls hl => ?_)
        refine lv_goto (tgt := 14) hx hb dX7_hash_37 (by decide) ?_
        exact ih14 x1 x2 ((x3 * 31) + r3) (x4 + 1) ls (lv_sub hl [2, 3, 4, 1, 0] rfl) hm
  refine lv_istore (lv' := [(4, .int 0), (3, .int r1), (2, .int r1), (0, .ref obT), (1, .int a0)]) hx hb dX7_hash_12 hl (by decide) rfl (fun ls hl => ?_)
  exact j14 sr_fuel a0 r1 r1 0 ls (lv_sub hl [3, 4, 2, 1, 0] rfl) hm
set_option maxHeartbeats 4000000 in
set_option maxRecDepth 100000 in
theorem kX7_saysName (l : Launch) (htr : l.stackTraces = false) (dC : Nat → ClassId) (dI : Nat → Nat → Nat) (adK adV : Nat → Nat) (cI cB cJ cZ cQ : ClassId) (obT tq_tape tq_said tq_inner tq_next tq_amount obK : Nat) (t_length : Int32) (t_wrongPlace : Int32) (t_tape : Nat → Int32) (t_said : Nat → Int32) (t_amount : Nat → Int32) (a0 : Int32) (res : Int32) (hm : m_X7_saysName t_tape t_said t_amount t_length a0 = some res) : Met l yX7_saysName wsX7_saysName (rmX7_saysName 0 0) (pcR (sr_Z adK adV) (dC, dI) srCl [(cI, .int), (cB, .byte), (cJ, .long), (cZ, .boolean), (cQ, .object "SchemaReader$Schema")] [.ref obT, .int a0] [(obT, .inr (9, [.ref tq_tape, .ref tq_said, .ref tq_inner, .ref tq_next, .ref tq_amount, .ref obK, .int t_length, .int t_wrongPlace])), (tq_tape, .inl (cB, 4096, .inl t_tape)), (tq_said, .inl (cB, 4096, .inl t_said)), (tq_amount, .inl (cI, 4096, .inl t_amount))]) (k2_QcV (.int res)) 0 0 (fun _ => False) := by
  refine Met.ofW (cc := cX7_saysName) (maxL := 5) (ret := (some .boolean)) (by decide) rfl ?_
  intro p e s m args below meth c s₁ B hml hv
  obtain ⟨rfl, hP, hK, hz0⟩ := hv
  have hx := B.exec
  have hb := B.bytes
  have hr := B.returns
  have hts := atoms_spec (ws := wsX7_saysName) B.pre
  have hown : s.vm.findClass RX7 = some m.cls := findClass_of_methodNamed B.named
  have hlocks := B.notSynchronized
  have hS : va_S (fun _ => False) s.heap s.heap [] := va_S.rf
  generalize hQ0 : MQ below (k2_QcV (.int res)) [.ref obT, .int a0].toArray s 0 0 (fun _ => False) = Q0
  have hl := lv_entry [.ref obT, .int a0] (n := 5) (Nat.le_of_ble_eq_true rfl)
  rw [lg_entry_eq]
  generalize (lg_sl [.ref obT, .int a0] ++ List.replicate (5 - (lg_sl [.ref obT, .int a0]).length) Slot.unset).toArray = ls at hl ⊢
  have hl : lv_has ls 5 [(0, .ref obT), (1, .int a0)] := hl
  unfold m_X7_saysName at hm
  refine lv_aload_n hx hb dX7_saysName_0 rfl (lv_at hl 0 rfl) ?_
  refine lv_iload_n hx hb dX7_saysName_1 rfl (lv_at hl 1 rfl) ?_
  obtain ⟨r1, hz1, hm⟩ := mr_bind hm
  refine mr_pV (As := [.int a0]) (rest := []) (sr_okZ adK adV) ⟨hx, hb, hml, hown, hts⟩ (kX7_amount l htr dC dI adK adV cI cB cJ cZ cQ obT tq_tape tq_said tq_inner tq_next tq_amount obK t_length t_wrongPlace t_amount a0 r1 hz1) (cwV 1 hts (g7_66 _) rfl rfl rfl (by decide +kernel) ⟨(by show 1 + 1 ≤ 2; omega), (by show 8 + (2 + 11) + (21) ≤ 42; omega)⟩) hS hP hK hz0 [0, 3] rfl (va_recv hK hP (ci := 9) (q0 := 0) rfl rfl) rfl rfl hl.1 (Nat.le_of_ble_eq_true rfl) dX7_saysName_2 ⟨Nat.zero_le _, Nat.zero_le _⟩ ?_
  refine lv_istore_n (lv' := [(2, .int r1), (0, .ref obT), (1, .int a0)]) hx hb dX7_saysName_5 rfl hl (by decide) rfl (fun ls hl => ?_)
  refine lv_aload_n hx hb dX7_saysName_6 rfl (lv_at hl 1 rfl) ?_
  refine lv_iload_n hx hb dX7_saysName_7 rfl (lv_at hl 2 rfl) ?_
  obtain ⟨r2, hz2, hm⟩ := mr_bind hm
  refine mr_pV (As := [.int a0]) (rest := []) (sr_okZ adK adV) ⟨hx, hb, hml, hown, hts⟩ (kX7_isString l htr dC dI adK adV cI cB cJ cZ cQ obT tq_tape tq_said tq_inner tq_next tq_amount obK t_length t_wrongPlace t_tape a0 r2 hz2) (cwV 1 hts (g7_68 _) rfl rfl rfl (by decide +kernel) ⟨(by show 1 + 1 ≤ 2; omega), (by show 8 + (2 + 11) + (21) ≤ 42; omega)⟩) hS hP hK hz0 [0, 1] rfl (va_recv hK hP (ci := 9) (q0 := 0) rfl rfl) rfl rfl hl.1 (Nat.le_of_ble_eq_true rfl) dX7_saysName_8 ⟨Nat.zero_le _, Nat.zero_le _⟩ ?_
  refine lv_if_eq (tgt := 36) hx hb dX7_saysName_11 (by decide) (fun c3 => ?_) (fun c3 => ?_)
  · have hm := mr_if c3 hm
    refine lv_iconst (v := 0) hx hb dX7_saysName_36 (by decide) ?_
    obtain rfl := Option.some.inj hm
    subst hQ0
    exact W.zret (v := 0) hx hb hr rfl (fun t ht hW => ⟨rfl, ht⟩) (fun q h => by cases h) dX7_saysName_37
  · have hm := mr_un c3 hm
    refine lv_iload_n hx hb dX7_saysName_14 rfl (lv_at hl 0 rfl) ?_
    refine lv_iconst (v := 1) hx hb dX7_saysName_15 (by decide) ?_
    refine lv_icmp_lt (tgt := 36) hx hb dX7_saysName_16 (by decide) (fun c4 => ?_) (fun c4 => ?_)
    · have hm := mr_if c4 hm
      refine lv_iconst (v := 0) hx hb dX7_saysName_36 (by decide) ?_
      obtain rfl := Option.some.inj hm
      subst hQ0
      exact W.zret (v := 0) hx hb hr rfl (fun t ht hW => ⟨rfl, ht⟩) (fun q h => by cases h) dX7_saysName_37
    · have hm := mr_un c4 hm
      refine lv_iload_n hx hb dX7_saysName_19 rfl (lv_at hl 0 rfl) ?_
      refine lv_bipush (v := 32) hx hb dX7_saysName_20 (by decide) ?_
      refine lv_icmp_gt (tgt := 36) hx hb dX7_saysName_22 (by decide) (fun c5 => ?_) (fun c5 => ?_)
      · have hm := mr_if c5 hm
        refine lv_iconst (v := 0) hx hb dX7_saysName_36 (by decide) ?_
        obtain rfl := Option.some.inj hm
        subst hQ0
        exact W.zret (v := 0) hx hb hr rfl (fun t ht hW => ⟨rfl, ht⟩) (fun q h => by cases h) dX7_saysName_37
      · have hm := mr_un c5 hm
        refine lv_aload_n hx hb dX7_saysName_25 rfl (lv_at hl 1 rfl) ?_
        refine lv_iload_n hx hb dX7_saysName_26 rfl (lv_at hl 2 rfl) ?_
        obtain ⟨r6, hz6, hm⟩ := mr_bind hm
        refine mr_pV (As := [.int a0]) (rest := []) (sr_okZ adK adV) ⟨hx, hb, hml, hown, hts⟩ (kX7_saidAt l htr dC dI adK adV cI cB cJ cZ cQ obT tq_tape tq_said tq_inner tq_next tq_amount obK t_length t_wrongPlace t_said a0 r6 hz6) (cwV 1 hts (g7_59 _) rfl rfl rfl (by decide +kernel) ⟨(by show 0 + 1 ≤ 2; omega), (by show 8 + (2 + 11) + (0) ≤ 42; omega)⟩) hS hP hK hz0 [0, 2] rfl (va_recv hK hP (ci := 9) (q0 := 0) rfl rfl) rfl rfl hl.1 (Nat.le_of_ble_eq_true rfl) dX7_saysName_27 ⟨Nat.zero_le _, Nat.zero_le _⟩ ?_
        obtain ⟨r7, hz7, hm⟩ := mr_bind hm
        refine mr_pSN (As := [.int r6]) (rest := []) (sr_okZ adK adV) ⟨hx, hb, hml, hown, hts⟩ (kX8_isDigit l htr dC dI adK adV cI cB cJ cZ cQ  r6 r7 hz7) (sr_cnS 1 hts rfl gn7_46.1 (hz0.2.2.2.2.2.2.1 _ gn7_46.2) rfl rfl (by decide +kernel) ⟨(by show 0 + 1 ≤ 2; omega), (by show 8 + (1 + 11) + (0) ≤ 42; omega)⟩) hS hP hK hz0 [] rfl rfl rfl hl.1 (Nat.le_of_ble_eq_true rfl) dX7_saysName_30 ⟨Nat.zero_le _, Nat.zero_le _⟩ ?_
        refine lv_if_eq (tgt := 38) hx hb dX7_saysName_33 (by decide) (fun c8 => ?_) (fun c8 => ?_)
        · have hm := mr_if c8 hm
          refine lv_iconst (v := 0) hx hb dX7_saysName_38 (by decide) ?_
          have j40 : ∀ (n40 : Nat) (x1 : Int32) (x2 : Int32) (x3 : Int32) (ls : Array Slot), lv_has ls 5 [(0, .ref obT), (1, .int x1), (2, .int x2), (3, .int x3)] → m_X7_saysName_40 t_tape t_said t_amount t_length n40 x1 x2 x3 = some res → W p l e (headSpec wsX7_saysName (rmX7_saysName 0 0)).room s m [.ref obT, .int a0].toArray below meth c s.heap [] 0 0 Q0 (F0 m 40 ls []) := by
            intro n40
            induction n40 with
            | zero => intro x1 x2 x3 ls hl hm; exact nomatch (show (none : Option _) = some res from hm)
            | succ n40 ih40 =>
              intro x1 x2 x3 ls hl hm
              rw [m_X7_saysName_40] at hm
              refine lv_iload_n hx hb dX7_saysName_40 rfl (lv_at hl 3 rfl) ?_
              refine lv_iload_n hx hb dX7_saysName_41 rfl (lv_at hl 2 rfl) ?_
              refine lv_icmp_ge (tgt := 85) hx hb dX7_saysName_42 (by decide) (fun c9 => ?_) (fun c9 => ?_)
              · have hm := mr_if c9 hm
                refine lv_iconst (v := 1) hx hb dX7_saysName_85 (by decide) ?_
                obtain rfl := Option.some.inj hm
                subst hQ0
                exact W.zret (v := 1) hx hb hr rfl (fun t ht hW => ⟨rfl, ht⟩) (fun q h => by cases h) dX7_saysName_86
              · have hm := mr_un c9 hm
                refine lv_aload_n hx hb dX7_saysName_45 rfl (lv_at hl 0 rfl) ?_
                refine lv_iload_n hx hb dX7_saysName_46 rfl (lv_at hl 1 rfl) ?_
                refine lv_iload_n hx hb dX7_saysName_47 rfl (lv_at hl 3 rfl) ?_
                refine lv_iadd hx hb dX7_saysName_48 ?_
                obtain ⟨r10, hz10, hm⟩ := mr_bind hm
                refine mr_pV (As := [.int (x1 + x3)]) (rest := []) (sr_okZ adK adV) ⟨hx, hb, hml, hown, hts⟩ (kX7_saidAt l htr dC dI adK adV cI cB cJ cZ cQ obT tq_tape tq_said tq_inner tq_next tq_amount obK t_length t_wrongPlace t_said (x1 + x3) r10 hz10) (cwV 1 hts (g7_59 _) rfl rfl rfl (by decide +kernel) ⟨(by show 0 + 1 ≤ 2; omega), (by show 8 + (2 + 11) + (0) ≤ 42; omega)⟩) hS hP hK hz0 [0, 2] rfl (va_recv hK hP (ci := 9) (q0 := 0) rfl rfl) rfl rfl hl.1 (Nat.le_of_ble_eq_true rfl) dX7_saysName_49 ⟨Nat.zero_le _, Nat.zero_le _⟩ ?_
                refine lv_istore (lv' := [(4, .int r10), (0, .ref obT), (1, .int x1), (2, .int x2), (3, .int x3)]) hx hb dX7_saysName_52 hl (by decide) rfl (fun ls hl => ?_)
                refine lv_iload hx hb dX7_saysName_54 (lv_at hl 0 rfl) ?_
                obtain ⟨r11, hz11, hm⟩ := mr_bind hm
                refine mr_pSN (As := [.int r10]) (rest := []) (sr_okZ adK adV) ⟨hx, hb, hml, hown, hts⟩ (kX8_isLetter l htr dC dI adK adV cI cB cJ cZ cQ  r10 r11 hz11) (sr_cnS 1 hts rfl gn7_71.1 (hz0.2.2.2.2.2.2.1 _ gn7_71.2) rfl rfl (by decide +kernel) ⟨(by show 0 + 1 ≤ 2; omega), (by show 8 + (1 + 11) + (0) ≤ 42; omega)⟩) hS hP hK hz0 [] rfl rfl rfl hl.1 (Nat.le_of_ble_eq_true rfl) dX7_saysName_56 ⟨Nat.zero_le _, Nat.zero_le _⟩ ?_
                refine lv_if_ne (tgt := 79) hx hb dX7_saysName_59 (by decide) (fun c12 => ?_) (fun c12 => ?_)
                · have hm := mr_un c12 hm
                  refine lv_iinc (v := x3 + 1) (lv' := [(3, .int (x3 + 1)), (4, .int r10), (0, .ref obT), (1, .int x1), (2, .int x2)]) hx hb dX7_saysName_79 hl (k := 4) rfl rfl (by decide) rfl (fun ls hl => ?_)
                  refine lv_goto (tgt := 40) hx hb dX7_saysName_82 (by decide) ?_
                  exact ih40 x1 x2 (x3 + 1) ls (lv_sub hl [2, 3, 4, 0] rfl) hm
                · have hm := mr_if c12 hm
                  refine lv_iload hx hb dX7_saysName_62 (lv_at hl 0 rfl) ?_
                  obtain ⟨r13, hz13, hm⟩ := mr_bind hm
                  refine mr_pSN (As := [.int r10]) (rest := []) (sr_okZ adK adV) ⟨hx, hb, hml, hown, hts⟩ (kX8_isDigit l htr dC dI adK adV cI cB cJ cZ cQ  r10 r13 hz13) (sr_cnS 1 hts rfl gn7_46.1 (hz0.2.2.2.2.2.2.1 _ gn7_46.2) rfl rfl (by decide +kernel) ⟨(by show 0 + 1 ≤ 2; omega), (by show 8 + (1 + 11) + (0) ≤ 42; omega)⟩) hS hP hK hz0 [] rfl rfl rfl hl.1 (Nat.le_of_ble_eq_true rfl) dX7_saysName_64 ⟨Nat.zero_le _, Nat.zero_le _⟩ ?_
                  refine lv_if_ne (tgt := 79) hx hb dX7_saysName_67 (by decide) (fun c14 => ?_) (fun c14 => ?_)
                  · have hm := mr_un c14 hm
                    refine lv_iinc (v := x3 + 1) (lv' := [(3, .int (x3 + 1)), (4, .int r10), (0, .ref obT), (1, .int x1), (2, .int x2)]) hx hb dX7_saysName_79 hl (k := 4) rfl rfl (by decide) rfl (fun ls hl => ?_)
                    refine lv_goto (tgt := 40) hx hb dX7_saysName_82 (by decide) ?_
                    exact ih40 x1 x2 (x3 + 1) ls (lv_sub hl [2, 3, 4, 0] rfl) hm
                  · have hm := mr_if c14 hm
                    refine lv_iload hx hb dX7_saysName_70 (lv_at hl 0 rfl) ?_
                    refine lv_bipush (v := 95) hx hb dX7_saysName_72 (by decide) ?_
                    refine lv_icmp_eq (tgt := 79) hx hb dX7_saysName_74 (by decide) (fun c15 => ?_) (fun c15 => ?_)
                    · have hm := mr_if c15 hm
                      refine lv_iinc (v := x3 + 1) (lv' := [(3, .int (x3 + 1)), (4, .int r10), (0, .ref obT), (1, .int x1), (2, .int x2)]) hx hb dX7_saysName_79 hl (k := 4) rfl rfl (by decide) rfl (fun ls hl => ?_)
                      refine lv_goto (tgt := 40) hx hb dX7_saysName_82 (by decide) ?_
                      exact ih40 x1 x2 (x3 + 1) ls (lv_sub hl [2, 3, 4, 0] rfl) hm
                    · have hm := mr_un c15 hm
                      refine lv_iconst (v := 0) hx hb dX7_saysName_77 (by decide) ?_
                      obtain rfl := Option.some.inj hm
                      subst hQ0
                      exact W.zret (v := 0) hx hb hr rfl (fun t ht hW => ⟨rfl, ht⟩) (fun q h => by cases h) dX7_saysName_78
          refine lv_istore_n (lv' := [(3, .int 0), (2, .int r1), (0, .ref obT), (1, .int a0)]) hx hb dX7_saysName_39 rfl hl (by decide) rfl (fun ls hl => ?_)
          exact j40 sr_fuel a0 r1 0 ls (lv_sub hl [2, 3, 1, 0] rfl) hm
        · have hm := mr_un c8 hm
          refine lv_iconst (v := 0) hx hb dX7_saysName_36 (by decide) ?_
          obtain rfl := Option.some.inj hm
          subst hQ0
          exact W.zret (v := 0) hx hb hr rfl (fun t ht hW => ⟨rfl, ht⟩) (fun q h => by cases h) dX7_saysName_37
set_option maxHeartbeats 4000000 in
set_option maxRecDepth 100000 in
theorem kX7_member (l : Launch) (htr : l.stackTraces = false) (dC : Nat → ClassId) (dI : Nat → Nat → Nat) (adK adV : Nat → Nat) (cI cB cJ cZ cQ : ClassId) (obT tq_tape tq_said tq_inner tq_next tq_amount obK : Nat) (t_length : Int32) (t_wrongPlace : Int32) (t_tape : Nat → Int32) (t_said : Nat → Int32) (t_inner : Nat → Int32) (t_next : Nat → Int32) (t_amount : Nat → Int32) (a0 : Int32) (a1 : Nat) (res : Int32) (hm : m_X7_member t_tape t_said t_inner t_next t_amount t_length a0 a1 = some res) : Met l yX7_member wsX7_member (rmX7_member 0 0) (pcR (sr_Z adK adV) (dC, dI) srCl [(cI, .int), (cB, .byte), (cJ, .long), (cZ, .boolean), (cQ, .object "SchemaReader$Schema")] [.ref obT, .int a0, .ref (adK a1)] [(obT, .inr (9, [.ref tq_tape, .ref tq_said, .ref tq_inner, .ref tq_next, .ref tq_amount, .ref obK, .int t_length, .int t_wrongPlace])), (tq_tape, .inl (cB, 4096, .inl t_tape)), (tq_said, .inl (cB, 4096, .inl t_said)), (tq_inner, .inl (cI, 4096, .inl t_inner)), (tq_next, .inl (cI, 4096, .inl t_next)), (tq_amount, .inl (cI, 4096, .inl t_amount))]) (k2_QcV (.int res)) 0 0 (fun _ => False) := by
  refine Met.ofW (cc := cX7_member) (maxL := 5) (ret := (some .int)) (by decide) rfl ?_
  intro p e s m args below meth c s₁ B hml hv
  obtain ⟨rfl, hP, hK, hz0⟩ := hv
  have hx := B.exec
  have hb := B.bytes
  have hr := B.returns
  have hts := atoms_spec (ws := wsX7_member) B.pre
  have hown : s.vm.findClass RX7 = some m.cls := findClass_of_methodNamed B.named
  have hlocks := B.notSynchronized
  have hS : va_S (fun _ => False) s.heap s.heap [] := va_S.rf
  generalize hQ0 : MQ below (k2_QcV (.int res)) [.ref obT, .int a0, .ref (adK a1)].toArray s 0 0 (fun _ => False) = Q0
  have hl := lv_entry [.ref obT, .int a0, .ref (adK a1)] (n := 5) (Nat.le_of_ble_eq_true rfl)
  rw [lg_entry_eq]
  generalize (lg_sl [.ref obT, .int a0, .ref (adK a1)] ++ List.replicate (5 - (lg_sl [.ref obT, .int a0, .ref (adK a1)]).length) Slot.unset).toArray = ls at hl ⊢
  have hl : lv_has ls 5 [(0, .ref obT), (1, .int a0), (2, .ref (adK a1))] := hl
  unfold m_X7_member at hm
  refine lv_aload_n hx hb dX7_member_0 rfl (lv_at hl 0 rfl) ?_
  refine lv_iload_n hx hb dX7_member_1 rfl (lv_at hl 1 rfl) ?_
  obtain ⟨r1, hz1, hm⟩ := mr_bind hm
  refine mr_pV (As := [.int a0]) (rest := []) (sr_okZ adK adV) ⟨hx, hb, hml, hown, hts⟩ (kX7_inner l htr dC dI adK adV cI cB cJ cZ cQ obT tq_tape tq_said tq_inner tq_next tq_amount obK t_length t_wrongPlace t_inner a0 r1 hz1) (cwV 1 hts (g7_74 _) rfl rfl rfl (by decide +kernel) ⟨(by show 1 + 1 ≤ 5; omega), (by show 8 + (2 + 11) + (21) ≤ 108; omega)⟩) hS hP hK hz0 [0, 3] rfl (va_recv hK hP (ci := 9) (q0 := 0) rfl rfl) rfl rfl hl.1 (Nat.le_of_ble_eq_true rfl) dX7_member_2 ⟨Nat.zero_le _, Nat.zero_le _⟩ ?_
  refine lv_istore_n (lv' := [(3, .int r1), (0, .ref obT), (1, .int a0), (2, .ref (adK a1))]) hx hb dX7_member_5 rfl hl (by decide) rfl (fun ls hl => ?_)
  refine lv_iconst (v := 0) hx hb dX7_member_6 (by decide) ?_
  have j9 : ∀ (n9 : Nat) (x1 : Int32) (x2 : Nat) (x3 : Int32) (x4 : Int32) (ls : Array Slot), lv_has ls 5 [(0, .ref obT), (1, .int x1), (2, .ref (adK x2)), (3, .int x3), (4, .int x4)] → m_X7_member_9 t_tape t_said t_inner t_next t_amount t_length n9 x1 x2 x3 x4 = some res → W p l e (headSpec wsX7_member (rmX7_member 0 0)).room s m [.ref obT, .int a0, .ref (adK a1)].toArray below meth c s.heap [] 0 0 Q0 (F0 m 9 ls []) := by
    intro n9
    induction n9 with
    | zero => intro x1 x2 x3 x4 ls hl hm; exact nomatch (show (none : Option _) = some res from hm)
    | succ n9 ih9 =>
      intro x1 x2 x3 x4 ls hl hm
      rw [m_X7_member_9] at hm
      refine lv_iload hx hb dX7_member_9 (lv_at hl 4 rfl) ?_
      refine lv_aload_n hx hb dX7_member_11 rfl (lv_at hl 0 rfl) ?_
      refine lv_iload_n hx hb dX7_member_12 rfl (lv_at hl 1 rfl) ?_
      obtain ⟨r2, hz2, hm⟩ := mr_bind hm
      refine mr_pV (As := [.int x1]) (rest := [.int x4]) (sr_okZ adK adV) ⟨hx, hb, hml, hown, hts⟩ (kX7_amount l htr dC dI adK adV cI cB cJ cZ cQ obT tq_tape tq_said tq_inner tq_next tq_amount obK t_length t_wrongPlace t_amount x1 r2 hz2) (cwV 1 hts (g7_66 _) rfl rfl rfl (by decide +kernel) ⟨(by show 1 + 1 ≤ 5; omega), (by show 8 + (2 + 11) + (21) ≤ 108; omega)⟩) hS hP hK hz0 [0, 5] rfl (va_recv hK hP (ci := 9) (q0 := 0) rfl rfl) rfl rfl hl.1 (Nat.le_of_ble_eq_true rfl) dX7_member_13 ⟨Nat.zero_le _, Nat.zero_le _⟩ ?_
      refine lv_icmp_ge (tgt := 46) hx hb dX7_member_16 (by decide) (fun c3 => ?_) (fun c3 => ?_)
      · have hm := mr_if c3 hm
        refine lv_iconst (v := -1) hx hb dX7_member_46 (by decide) ?_
        obtain rfl := Option.some.inj hm
        subst hQ0
        exact W.iret (v := (-1)) hx hb hr (fun t ht hW => ⟨rfl, ht⟩) (fun q h => by cases h) dX7_member_47
      · have hm := mr_un c3 hm
        refine lv_aload_n hx hb dX7_member_19 rfl (lv_at hl 0 rfl) ?_
        refine lv_iload_n hx hb dX7_member_20 rfl (lv_at hl 3 rfl) ?_
        refine lv_aload_n hx hb dX7_member_21 rfl (lv_at hl 2 rfl) ?_
        obtain ⟨r4, hz4, hm⟩ := mr_bind hm
        refine mr_pV (As := [.int x3, .ref (adK x2)]) (rest := []) (sr_okZ adK adV) ⟨hx, hb, hml, hown, hts⟩ (kX7_says l htr dC dI adK adV cI cB cJ cZ cQ obT tq_tape tq_said tq_inner tq_next tq_amount obK t_length t_wrongPlace t_tape t_said t_amount x3 x2 r4 hz4) (cwV 2 hts (g7_76 _) rfl rfl rfl (by decide +kernel) ⟨(by show 4 + 1 ≤ 5; omega), (by show 8 + (4 + 11) + (85) ≤ 108; omega)⟩) hS hP hK hz0 [0, 1, 2, 5] rfl (va_recv hK hP (ci := 9) (q0 := 0) rfl rfl) rfl rfl hl.1 (Nat.le_of_ble_eq_true rfl) dX7_member_22 ⟨Nat.zero_le _, Nat.zero_le _⟩ ?_
        refine lv_if_eq (tgt := 34) hx hb dX7_member_25 (by decide) (fun c5 => ?_) (fun c5 => ?_)
        · have hm := mr_if c5 hm
          refine lv_aload_n hx hb dX7_member_34 rfl (lv_at hl 0 rfl) ?_
          refine lv_iload_n hx hb dX7_member_35 rfl (lv_at hl 3 rfl) ?_
          obtain ⟨r6, hz6, hm⟩ := mr_bind hm
          refine mr_pV (As := [.int x3]) (rest := []) (sr_okZ adK adV) ⟨hx, hb, hml, hown, hts⟩ (kX7_next l htr dC dI adK adV cI cB cJ cZ cQ obT tq_tape tq_said tq_inner tq_next tq_amount obK t_length t_wrongPlace t_next x3 r6 hz6) (cwV 1 hts (g7_80 _) rfl rfl rfl (by decide +kernel) ⟨(by show 1 + 1 ≤ 5; omega), (by show 8 + (2 + 11) + (21) ≤ 108; omega)⟩) hS hP hK hz0 [0, 4] rfl (va_recv hK hP (ci := 9) (q0 := 0) rfl rfl) rfl rfl hl.1 (Nat.le_of_ble_eq_true rfl) dX7_member_36 ⟨Nat.zero_le _, Nat.zero_le _⟩ ?_
          refine lv_istore_n (lv' := [(3, .int r6), (0, .ref obT), (1, .int x1), (2, .ref (adK x2)), (4, .int x4)]) hx hb dX7_member_39 rfl hl (by decide) rfl (fun ls hl => ?_)
          refine lv_iinc (v := x4 + 1) (lv' := [(4, .int (x4 + 1)), (3, .int r6), (0, .ref obT), (1, .int x1), (2, .ref (adK x2))]) hx hb dX7_member_40 hl (k := 4) rfl rfl (by decide) rfl (fun ls hl => ?_)
          refine lv_goto (tgt := 9) hx hb dX7_member_43 (by decide) ?_
          exact ih9 x1 x2 r6 (x4 + 1) ls (lv_sub hl [2, 3, 4, 1, 0] rfl) hm
        · have hm := mr_un c5 hm
          refine lv_aload_n hx hb dX7_member_28 rfl (lv_at hl 0 rfl) ?_
          refine lv_iload_n hx hb dX7_member_29 rfl (lv_at hl 3 rfl) ?_
          obtain ⟨r7, hz7, hm⟩ := mr_bind hm
          refine mr_pV (As := [.int x3]) (rest := []) (sr_okZ adK adV) ⟨hx, hb, hml, hown, hts⟩ (kX7_inner l htr dC dI adK adV cI cB cJ cZ cQ obT tq_tape tq_said tq_inner tq_next tq_amount obK t_length t_wrongPlace t_inner x3 r7 hz7) (cwV 1 hts (g7_74 _) rfl rfl rfl (by decide +kernel) ⟨(by show 1 + 1 ≤ 5; omega), (by show 8 + (2 + 11) + (21) ≤ 108; omega)⟩) hS hP hK hz0 [0, 3] rfl (va_recv hK hP (ci := 9) (q0 := 0) rfl rfl) rfl rfl hl.1 (Nat.le_of_ble_eq_true rfl) dX7_member_30 ⟨Nat.zero_le _, Nat.zero_le _⟩ ?_
          obtain rfl := Option.some.inj hm
          subst hQ0
          exact W.iret (v := r7) hx hb hr (fun t ht hW => ⟨rfl, ht⟩) (fun q h => by cases h) dX7_member_33
  refine lv_istore (lv' := [(4, .int 0), (3, .int r1), (0, .ref obT), (1, .int a0), (2, .ref (adK a1))]) hx hb dX7_member_7 hl (by decide) rfl (fun ls hl => ?_)
  exact j9 sr_fuel a0 a1 r1 0 ls (lv_sub hl [2, 3, 4, 1, 0] rfl) hm
set_option maxHeartbeats 4000000 in
set_option maxRecDepth 100000 in
theorem kX7_numberAt (l : Launch) (htr : l.stackTraces = false) (dC : Nat → ClassId) (dI : Nat → Nat → Nat) (adK adV : Nat → Nat) (cI cB cJ cZ cQ : ClassId) (obT tq_tape tq_said tq_inner tq_next tq_amount obK : Nat) (t_length : Int32) (t_wrongPlace : Int32) (t_tape : Nat → Int32) (a0 : Int32) (res : Int64) (hm : m_X7_numberAt t_tape t_length a0 = some res) : Met l yX7_numberAt wsX7_numberAt (rmX7_numberAt 0 0) (pcR (sr_Z adK adV) (dC, dI) srCl [(cI, .int), (cB, .byte), (cJ, .long), (cZ, .boolean), (cQ, .object "SchemaReader$Schema")] [.ref obT, .int a0] [(obT, .inr (9, [.ref tq_tape, .ref tq_said, .ref tq_inner, .ref tq_next, .ref tq_amount, .ref obK, .int t_length, .int t_wrongPlace])), (tq_tape, .inl (cB, 4096, .inl t_tape))]) (k2_QcV (.long res)) 0 0 (fun _ => False) := by
  refine Met.ofW (cc := cX7_numberAt) (maxL := 6) (ret := (some .long)) (by decide) rfl ?_
  intro p e s m args below meth c s₁ B hml hv
  obtain ⟨rfl, hP, hK, hz0⟩ := hv
  have hx := B.exec
  have hb := B.bytes
  have hr := B.returns
  have hts := atoms_spec (ws := wsX7_numberAt) B.pre
  have hown : s.vm.findClass RX7 = some m.cls := findClass_of_methodNamed B.named
  have hlocks := B.notSynchronized
  have hS : va_S (fun _ => False) s.heap s.heap [] := va_S.rf
  generalize hQ0 : MQ below (k2_QcV (.long res)) [.ref obT, .int a0].toArray s 0 0 (fun _ => False) = Q0
  have hl := lv_entry [.ref obT, .int a0] (n := 6) (Nat.le_of_ble_eq_true rfl)
  rw [lg_entry_eq]
  generalize (lg_sl [.ref obT, .int a0] ++ List.replicate (6 - (lg_sl [.ref obT, .int a0]).length) Slot.unset).toArray = ls at hl ⊢
  have hl : lv_has ls 6 [(0, .ref obT), (1, .int a0)] := hl
  unfold m_X7_numberAt at hm
  refine lv_aload_n hx hb dX7_numberAt_0 rfl (lv_at hl 0 rfl) ?_
  refine lv_iload_n hx hb dX7_numberAt_1 rfl (lv_at hl 1 rfl) ?_
  obtain ⟨r1, hz1, hm⟩ := mr_bind hm
  refine mr_pV (As := [.int a0]) (rest := []) (sr_okZ adK adV) ⟨hx, hb, hml, hown, hts⟩ (kX7_byteAt l htr dC dI adK adV cI cB cJ cZ cQ obT tq_tape tq_said tq_inner tq_next tq_amount obK t_length t_wrongPlace t_tape a0 r1 hz1) (cwV 1 hts (g7_42 _) rfl rfl rfl (by decide +kernel) ⟨(by show 0 + 1 ≤ 1; omega), (by show 8 + (2 + 11) + (0) ≤ 21; omega)⟩) hS hP hK hz0 [0, 1] rfl (va_recv hK hP (ci := 9) (q0 := 0) rfl rfl) rfl rfl hl.1 (Nat.le_of_ble_eq_true rfl) dX7_numberAt_2 ⟨Nat.zero_le _, Nat.zero_le _⟩ ?_
  refine lv_bipush (v := 45) hx hb dX7_numberAt_5 (by decide) ?_
  have j15 : ∀ (x1 : Int32) (y0 : Int32) (ls : Array Slot), lv_has ls 6 [(0, .ref obT), (1, .int x1)] → m_X7_numberAt_15 t_tape t_length x1 y0 = some res → W p l e (headSpec wsX7_numberAt (rmX7_numberAt 0 0)).room s m [.ref obT, .int a0].toArray below meth c s.heap [] 0 0 Q0 (F0 m 15 ls [.int y0]) := by
    intro x1 y0 ls hl hm
    unfold m_X7_numberAt_15 at hm
    refine lv_istore_n (lv' := [(2, .int y0), (0, .ref obT), (1, .int x1)]) hx hb dX7_numberAt_15 rfl hl (by decide) rfl (fun ls hl => ?_)
    refine lv_lconst (v := 0) hx hb dX7_numberAt_16 (by decide) ?_
    refine lv_lstore_n (lv' := [(3, .long 0), (2, .int y0), (0, .ref obT), (1, .int x1)]) hx hb dX7_numberAt_17 rfl hl (by decide) rfl (fun ls hl => ?_)
    refine lv_iload_n hx hb dX7_numberAt_18 rfl (lv_at hl 1 rfl) ?_
    refine lv_if_eq (tgt := 28) hx hb dX7_numberAt_19 (by decide) (fun c2 => ?_) (fun c2 => ?_)
    · have hm := mr_if c2 hm
      refine lv_iload_n hx hb dX7_numberAt_28 rfl (lv_at hl 3 rfl) ?_
      have j31 : ∀ (n31 : Nat) (x2 : Int32) (x3 : Int64) (x5 : Int32) (ls : Array Slot), lv_has ls 6 [(0, .ref obT), (2, .int x2), (3, .long x3), (5, .int x5)] → m_X7_numberAt_31 t_tape t_length n31 x2 x3 x5 = some res → W p l e (headSpec wsX7_numberAt (rmX7_numberAt 0 0)).room s m [.ref obT, .int a0].toArray below meth c s.heap [] 0 0 Q0 (F0 m 31 ls []) := by
        intro n31
        induction n31 with
        | zero => intro x2 x3 x5 ls hl hm; exact nomatch (show (none : Option _) = some res from hm)
        | succ n31 ih31 =>
          intro x2 x3 x5 ls hl hm
          rw [m_X7_numberAt_31] at hm
          refine lv_iload hx hb dX7_numberAt_31 (lv_at hl 3 rfl) ?_
          refine lv_aload_n hx hb dX7_numberAt_33 rfl (lv_at hl 0 rfl) ?_
          refine va_get (D := (dC, dI)) (ci := 9) (v := .int t_length) (C := RX7) (T := TX7) (N := 8) hx hb hts (inX7 _) hown hK hP 0 rfl rfl 6 (by decide) (hts _ (List.mem_cons_of_mem _ wf7_35)) (fun _ h9 => h9) rfl dX7_numberAt_34 ?_
          refine lv_icmp_ge (tgt := 75) hx hb dX7_numberAt_37 (by decide) (fun c3 => ?_) (fun c3 => ?_)
          · have hm := mr_if c3 hm
            refine lv_iload_n hx hb dX7_numberAt_75 rfl (lv_at hl 1 rfl) ?_
            refine lv_if_eq (tgt := 83) hx hb dX7_numberAt_76 (by decide) (fun c4 => ?_) (fun c4 => ?_)
            · have hm := mr_if c4 hm
              refine lv_lload_n hx hb dX7_numberAt_83 rfl (lv_at hl 2 rfl) ?_
              refine lv_lneg hx hb dX7_numberAt_84 ?_
              obtain rfl := Option.some.inj hm
              subst hQ0
              exact W.lret (v := (-x3)) hx hb hr (fun t ht hW => ⟨rfl, ht⟩) (fun q h => by cases h) dX7_numberAt_85
            · have hm := mr_un c4 hm
              refine lv_lload_n hx hb dX7_numberAt_79 rfl (lv_at hl 2 rfl) ?_
              refine lv_goto (tgt := 85) hx hb dX7_numberAt_80 (by decide) ?_
              obtain rfl := Option.some.inj hm
              subst hQ0
              exact W.lret (v := x3) hx hb hr (fun t ht hW => ⟨rfl, ht⟩) (fun q h => by cases h) dX7_numberAt_85
          · have hm := mr_un c3 hm
            refine lv_aload_n hx hb dX7_numberAt_40 rfl (lv_at hl 0 rfl) ?_
            refine lv_iload hx hb dX7_numberAt_41 (lv_at hl 3 rfl) ?_
            obtain ⟨r5, hz5, hm⟩ := mr_bind hm
            refine mr_pV (As := [.int x5]) (rest := []) (sr_okZ adK adV) ⟨hx, hb, hml, hown, hts⟩ (kX7_byteAt l htr dC dI adK adV cI cB cJ cZ cQ obT tq_tape tq_said tq_inner tq_next tq_amount obK t_length t_wrongPlace t_tape x5 r5 hz5) (cwV 1 hts (g7_42 _) rfl rfl rfl (by decide +kernel) ⟨(by show 0 + 1 ≤ 1; omega), (by show 8 + (2 + 11) + (0) ≤ 21; omega)⟩) hS hP hK hz0 [0, 1] rfl (va_recv hK hP (ci := 9) (q0 := 0) rfl rfl) rfl rfl hl.1 (Nat.le_of_ble_eq_true rfl) dX7_numberAt_43 ⟨Nat.zero_le _, Nat.zero_le _⟩ ?_
            obtain ⟨r6, hz6, hm⟩ := mr_bind hm
            refine mr_pSN (As := [.int r5]) (rest := []) (sr_okZ adK adV) ⟨hx, hb, hml, hown, hts⟩ (kX8_isDigit l htr dC dI adK adV cI cB cJ cZ cQ  r5 r6 hz6) (sr_cnS 1 hts rfl gn7_46.1 (hz0.2.2.2.2.2.2.1 _ gn7_46.2) rfl rfl (by decide +kernel) ⟨(by show 0 + 1 ≤ 1; omega), (by show 8 + (1 + 11) + (0) ≤ 21; omega)⟩) hS hP hK hz0 [] rfl rfl rfl hl.1 (Nat.le_of_ble_eq_true rfl) dX7_numberAt_46 ⟨Nat.zero_le _, Nat.zero_le _⟩ ?_
            refine lv_if_eq (tgt := 75) hx hb dX7_numberAt_49 (by decide) (fun c7 => ?_) (fun c7 => ?_)
            · have hm := mr_if c7 hm
              refine lv_iload_n hx hb dX7_numberAt_75 rfl (lv_at hl 1 rfl) ?_
              refine lv_if_eq (tgt := 83) hx hb dX7_numberAt_76 (by decide) (fun c8 => ?_) (fun c8 => ?_)
              · have hm := mr_if c8 hm
                refine lv_lload_n hx hb dX7_numberAt_83 rfl (lv_at hl 2 rfl) ?_
                refine lv_lneg hx hb dX7_numberAt_84 ?_
                obtain rfl := Option.some.inj hm
                subst hQ0
                exact W.lret (v := (-x3)) hx hb hr (fun t ht hW => ⟨rfl, ht⟩) (fun q h => by cases h) dX7_numberAt_85
              · have hm := mr_un c8 hm
                refine lv_lload_n hx hb dX7_numberAt_79 rfl (lv_at hl 2 rfl) ?_
                refine lv_goto (tgt := 85) hx hb dX7_numberAt_80 (by decide) ?_
                obtain rfl := Option.some.inj hm
                subst hQ0
                exact W.lret (v := x3) hx hb hr (fun t ht hW => ⟨rfl, ht⟩) (fun q h => by cases h) dX7_numberAt_85
            · have hm := mr_un c7 hm
              refine lv_lload_n hx hb dX7_numberAt_52 rfl (lv_at hl 2 rfl) ?_
              refine lv_ldc2 (v := 10) hx hb hown (hts _ (List.mem_cons_of_mem _ wcl7_82)) dX7_numberAt_53 ?_
              refine lv_lmul hx hb dX7_numberAt_56 ?_
              refine lv_aload_n hx hb dX7_numberAt_57 rfl (lv_at hl 0 rfl) ?_
              refine lv_iload hx hb dX7_numberAt_58 (lv_at hl 3 rfl) ?_
              obtain ⟨r9, hz9, hm⟩ := mr_bind hm
              refine mr_pV (As := [.int x5]) (rest := [.long (x3 * 10)]) (sr_okZ adK adV) ⟨hx, hb, hml, hown, hts⟩ (kX7_byteAt l htr dC dI adK adV cI cB cJ cZ cQ obT tq_tape tq_said tq_inner tq_next tq_amount obK t_length t_wrongPlace t_tape x5 r9 hz9) (cwV 1 hts (g7_42 _) rfl rfl rfl (by decide +kernel) ⟨(by show 0 + 1 ≤ 1; omega), (by show 8 + (2 + 11) + (0) ≤ 21; omega)⟩) hS hP hK hz0 [0, 1] rfl (va_recv hK hP (ci := 9) (q0 := 0) rfl rfl) rfl rfl hl.1 (Nat.le_of_ble_eq_true rfl) dX7_numberAt_60 ⟨Nat.zero_le _, Nat.zero_le _⟩ ?_
              refine lv_bipush (v := 48) hx hb dX7_numberAt_63 (by decide) ?_
              refine lv_isub hx hb dX7_numberAt_65 ?_
              refine lv_i2l hx hb dX7_numberAt_66 rfl ?_
              refine lv_lsub hx hb dX7_numberAt_67 ?_
              refine lv_lstore_n (lv' := [(3, .long ((x3 * 10) - (((r9 - 48) : Int32).toInt64))), (0, .ref obT), (2, .int x2), (5, .int x5)]) hx hb dX7_numberAt_68 rfl hl (by decide) rfl (fun ls hl => ?_)
              refine lv_iinc (v := x5 + 1) (lv' := [(5, .int (x5 + 1)), (3, .long ((x3 * 10) - (((r9 - 48) : Int32).toInt64))), (0, .ref obT), (2, .int x2)]) hx hb dX7_numberAt_69 hl (k := 3) rfl rfl (by decide) rfl (fun ls hl => ?_)
              refine lv_goto (tgt := 31) hx hb dX7_numberAt_72 (by decide) ?_
              exact ih31 x2 ((x3 * 10) - (((r9 - 48) : Int32).toInt64)) (x5 + 1) ls (lv_sub hl [2, 3, 1, 0] rfl) hm
      refine lv_istore (lv' := [(5, .int x1), (3, .long 0), (2, .int y0), (0, .ref obT), (1, .int x1)]) hx hb dX7_numberAt_29 hl (by decide) rfl (fun ls hl => ?_)
      exact j31 sr_fuel y0 0 x1 ls (lv_sub hl [3, 2, 1, 0] rfl) hm
    · have hm := mr_un c2 hm
      refine lv_iload_n hx hb dX7_numberAt_22 rfl (lv_at hl 3 rfl) ?_
      refine lv_iconst (v := 1) hx hb dX7_numberAt_23 (by decide) ?_
      refine lv_iadd hx hb dX7_numberAt_24 ?_
      refine lv_goto (tgt := 29) hx hb dX7_numberAt_25 (by decide) ?_
      have j31 : ∀ (n31 : Nat) (x2 : Int32) (x3 : Int64) (x5 : Int32) (ls : Array Slot), lv_has ls 6 [(0, .ref obT), (2, .int x2), (3, .long x3), (5, .int x5)] → m_X7_numberAt_31 t_tape t_length n31 x2 x3 x5 = some res → W p l e (headSpec wsX7_numberAt (rmX7_numberAt 0 0)).room s m [.ref obT, .int a0].toArray below meth c s.heap [] 0 0 Q0 (F0 m 31 ls []) := by
        intro n31
        induction n31 with
        | zero => intro x2 x3 x5 ls hl hm; exact nomatch (show (none : Option _) = some res from hm)
        | succ n31 ih31 =>
          intro x2 x3 x5 ls hl hm
          rw [m_X7_numberAt_31] at hm
          refine lv_iload hx hb dX7_numberAt_31 (lv_at hl 3 rfl) ?_
          refine lv_aload_n hx hb dX7_numberAt_33 rfl (lv_at hl 0 rfl) ?_
          refine va_get (D := (dC, dI)) (ci := 9) (v := .int t_length) (C := RX7) (T := TX7) (N := 8) hx hb hts (inX7 _) hown hK hP 0 rfl rfl 6 (by decide) (hts _ (List.mem_cons_of_mem _ wf7_35)) (fun _ h9 => h9) rfl dX7_numberAt_34 ?_
          refine lv_icmp_ge (tgt := 75) hx hb dX7_numberAt_37 (by decide) (fun c10 => ?_) (fun c10 => ?_)
          · have hm := mr_if c10 hm
            refine lv_iload_n hx hb dX7_numberAt_75 rfl (lv_at hl 1 rfl) ?_
            refine lv_if_eq (tgt := 83) hx hb dX7_numberAt_76 (by decide) (fun c11 => ?_) (fun c11 => ?_)
            · have hm := mr_if c11 hm
              refine lv_lload_n hx hb dX7_numberAt_83 rfl (lv_at hl 2 rfl) ?_
              refine lv_lneg hx hb dX7_numberAt_84 ?_
              obtain rfl := Option.some.inj hm
              subst hQ0
              exact W.lret (v := (-x3)) hx hb hr (fun t ht hW => ⟨rfl, ht⟩) (fun q h => by cases h) dX7_numberAt_85
            · have hm := mr_un c11 hm
              refine lv_lload_n hx hb dX7_numberAt_79 rfl (lv_at hl 2 rfl) ?_
              refine lv_goto (tgt := 85) hx hb dX7_numberAt_80 (by decide) ?_
              obtain rfl := Option.some.inj hm
              subst hQ0
              exact W.lret (v := x3) hx hb hr (fun t ht hW => ⟨rfl, ht⟩) (fun q h => by cases h) dX7_numberAt_85
          · have hm := mr_un c10 hm
            refine lv_aload_n hx hb dX7_numberAt_40 rfl (lv_at hl 0 rfl) ?_
            refine lv_iload hx hb dX7_numberAt_41 (lv_at hl 3 rfl) ?_
            obtain ⟨r12, hz12, hm⟩ := mr_bind hm
            refine mr_pV (As := [.int x5]) (rest := []) (sr_okZ adK adV) ⟨hx, hb, hml, hown, hts⟩ (kX7_byteAt l htr dC dI adK adV cI cB cJ cZ cQ obT tq_tape tq_said tq_inner tq_next tq_amount obK t_length t_wrongPlace t_tape x5 r12 hz12) (cwV 1 hts (g7_42 _) rfl rfl rfl (by decide +kernel) ⟨(by show 0 + 1 ≤ 1; omega), (by show 8 + (2 + 11) + (0) ≤ 21; omega)⟩) hS hP hK hz0 [0, 1] rfl (va_recv hK hP (ci := 9) (q0 := 0) rfl rfl) rfl rfl hl.1 (Nat.le_of_ble_eq_true rfl) dX7_numberAt_43 ⟨Nat.zero_le _, Nat.zero_le _⟩ ?_
            obtain ⟨r13, hz13, hm⟩ := mr_bind hm
            refine mr_pSN (As := [.int r12]) (rest := []) (sr_okZ adK adV) ⟨hx, hb, hml, hown, hts⟩ (kX8_isDigit l htr dC dI adK adV cI cB cJ cZ cQ  r12 r13 hz13) (sr_cnS 1 hts rfl gn7_46.1 (hz0.2.2.2.2.2.2.1 _ gn7_46.2) rfl rfl (by decide +kernel) ⟨(by show 0 + 1 ≤ 1; omega), (by show 8 + (1 + 11) + (0) ≤ 21; omega)⟩) hS hP hK hz0 [] rfl rfl rfl hl.1 (Nat.le_of_ble_eq_true rfl) dX7_numberAt_46 ⟨Nat.zero_le _, Nat.zero_le _⟩ ?_
            refine lv_if_eq (tgt := 75) hx hb dX7_numberAt_49 (by decide) (fun c14 => ?_) (fun c14 => ?_)
            · have hm := mr_if c14 hm
              refine lv_iload_n hx hb dX7_numberAt_75 rfl (lv_at hl 1 rfl) ?_
              refine lv_if_eq (tgt := 83) hx hb dX7_numberAt_76 (by decide) (fun c15 => ?_) (fun c15 => ?_)
              · have hm := mr_if c15 hm
                refine lv_lload_n hx hb dX7_numberAt_83 rfl (lv_at hl 2 rfl) ?_
                refine lv_lneg hx hb dX7_numberAt_84 ?_
                obtain rfl := Option.some.inj hm
                subst hQ0
                exact W.lret (v := (-x3)) hx hb hr (fun t ht hW => ⟨rfl, ht⟩) (fun q h => by cases h) dX7_numberAt_85
              · have hm := mr_un c15 hm
                refine lv_lload_n hx hb dX7_numberAt_79 rfl (lv_at hl 2 rfl) ?_
                refine lv_goto (tgt := 85) hx hb dX7_numberAt_80 (by decide) ?_
                obtain rfl := Option.some.inj hm
                subst hQ0
                exact W.lret (v := x3) hx hb hr (fun t ht hW => ⟨rfl, ht⟩) (fun q h => by cases h) dX7_numberAt_85
            · have hm := mr_un c14 hm
              refine lv_lload_n hx hb dX7_numberAt_52 rfl (lv_at hl 2 rfl) ?_
              refine lv_ldc2 (v := 10) hx hb hown (hts _ (List.mem_cons_of_mem _ wcl7_82)) dX7_numberAt_53 ?_
              refine lv_lmul hx hb dX7_numberAt_56 ?_
              refine lv_aload_n hx hb dX7_numberAt_57 rfl (lv_at hl 0 rfl) ?_
              refine lv_iload hx hb dX7_numberAt_58 (lv_at hl 3 rfl) ?_
              obtain ⟨r16, hz16, hm⟩ := mr_bind hm
              refine mr_pV (As := [.int x5]) (rest := [.long (x3 * 10)]) (sr_okZ adK adV) ⟨hx, hb, hml, hown, hts⟩ (kX7_byteAt l htr dC dI adK adV cI cB cJ cZ cQ obT tq_tape tq_said tq_inner tq_next tq_amount obK t_length t_wrongPlace t_tape x5 r16 hz16) (cwV 1 hts (g7_42 _) rfl rfl rfl (by decide +kernel) ⟨(by show 0 + 1 ≤ 1; omega), (by show 8 + (2 + 11) + (0) ≤ 21; omega)⟩) hS hP hK hz0 [0, 1] rfl (va_recv hK hP (ci := 9) (q0 := 0) rfl rfl) rfl rfl hl.1 (Nat.le_of_ble_eq_true rfl) dX7_numberAt_60 ⟨Nat.zero_le _, Nat.zero_le _⟩ ?_
              refine lv_bipush (v := 48) hx hb dX7_numberAt_63 (by decide) ?_
              refine lv_isub hx hb dX7_numberAt_65 ?_
              refine lv_i2l hx hb dX7_numberAt_66 rfl ?_
              refine lv_lsub hx hb dX7_numberAt_67 ?_
              refine lv_lstore_n (lv' := [(3, .long ((x3 * 10) - (((r16 - 48) : Int32).toInt64))), (0, .ref obT), (2, .int x2), (5, .int x5)]) hx hb dX7_numberAt_68 rfl hl (by decide) rfl (fun ls hl => ?_)
              refine lv_iinc (v := x5 + 1) (lv' := [(5, .int (x5 + 1)), (3, .long ((x3 * 10) - (((r16 - 48) : Int32).toInt64))), (0, .ref obT), (2, .int x2)]) hx hb dX7_numberAt_69 hl (k := 3) rfl rfl (by decide) rfl (fun ls hl => ?_)
              refine lv_goto (tgt := 31) hx hb dX7_numberAt_72 (by decide) ?_
              exact ih31 x2 ((x3 * 10) - (((r16 - 48) : Int32).toInt64)) (x5 + 1) ls (lv_sub hl [2, 3, 1, 0] rfl) hm
      refine lv_istore (lv' := [(5, .int (x1 + 1)), (3, .long 0), (2, .int y0), (0, .ref obT), (1, .int x1)]) hx hb dX7_numberAt_29 hl (by decide) rfl (fun ls hl => ?_)
      exact j31 sr_fuel y0 0 (x1 + 1) ls (lv_sub hl [3, 2, 1, 0] rfl) hm
  refine lv_icmp_ne (tgt := 14) hx hb dX7_numberAt_7 (by decide) (fun c17 => ?_) (fun c17 => ?_)
  · have hm := mr_un c17 hm
    refine lv_iconst (v := 0) hx hb dX7_numberAt_14 (by decide) ?_
    exact j15 a0 0 ls (lv_sub hl [0, 1] rfl) hm
  · have hm := mr_if c17 hm
    refine lv_iconst (v := 1) hx hb dX7_numberAt_10 (by decide) ?_
    refine lv_goto (tgt := 15) hx hb dX7_numberAt_11 (by decide) ?_
    exact j15 a0 1 ls (lv_sub hl [0, 1] rfl) hm
set_option maxHeartbeats 4000000 in
set_option maxRecDepth 100000 in
theorem kX7_refuse (l : Launch) (htr : l.stackTraces = false) (dC : Nat → ClassId) (dI : Nat → Nat → Nat) (adK adV : Nat → Nat) (cI cB cJ cZ cQ : ClassId) (obT tq_tape tq_said tq_inner tq_next tq_amount obK : Nat) (t_length : Int32) (t_wrongPlace : Int32) (sz : Nat) (a0 : Int32) (res : Int32 × Int32) (hm : m_X7_refuse t_wrongPlace a0 = some res) : Met l yX7_refuse wsX7_refuse (rmX7_refuse 0 0) (pcW (sr_Z adK adV) (dC, dI) srCl [(cI, .int), (cB, .byte), (cJ, .long), (cZ, .boolean), (cQ, .object "SchemaReader$Schema")] [.ref obT, .int a0] [(obT, .inr (9, [.ref tq_tape, .ref tq_said, .ref tq_inner, .ref tq_next, .ref tq_amount, .ref obK, .int t_length, .int t_wrongPlace]))] sz) (va_Qi (fun r' u' => r' = res.1 ∧ u' = res.2) (pcB (dC, dI) srCl [(cI, .int), (cB, .byte), (cJ, .long), (cZ, .boolean), (cQ, .object "SchemaReader$Schema")] (fun u : Int32 => [(obT, .inr (9, [.ref tq_tape, .ref tq_said, .ref tq_inner, .ref tq_next, .ref tq_amount, .ref obK, .int t_length, .int u]))]) (va_A [(obT, .inr (9, [.ref tq_tape, .ref tq_said, .ref tq_inner, .ref tq_next, .ref tq_amount, .ref obK, .int t_length, .int t_wrongPlace]))] sz)) (va_A [(obT, .inr (9, [.ref tq_tape, .ref tq_said, .ref tq_inner, .ref tq_next, .ref tq_amount, .ref obK, .int t_length, .int t_wrongPlace]))] sz)) 0 0 (va_A [(obT, .inr (9, [.ref tq_tape, .ref tq_said, .ref tq_inner, .ref tq_next, .ref tq_amount, .ref obK, .int t_length, .int t_wrongPlace]))] sz) := by
  refine Met.ofW (cc := cX7_refuse) (maxL := 2) (ret := (some .int)) (by decide) rfl ?_
  intro p e s m args below meth c s₁ B hml hv
  obtain ⟨rfl, hsz, hP, hK, hD0, hz0⟩ := hv
  have hx := B.exec
  have hb := B.bytes
  have hr := B.returns
  have hts := atoms_spec (ws := wsX7_refuse) B.pre
  have hown : s.vm.findClass RX7 = some m.cls := findClass_of_methodNamed B.named
  have hlocks := B.notSynchronized
  subst hsz
  have hD := hD0.self (sz := s.heap.size)
  generalize hAe : va_A [(obT, .inr (9, [.ref tq_tape, .ref tq_said, .ref tq_inner, .ref tq_next, .ref tq_amount, .ref obK, .int t_length, .int t_wrongPlace]))] s.heap.size = A at hD hz0 ⊢
  have hA : ∀ q : Nat, s.heap.size ≤ q → A q := fun q h => by rw [← hAe]; exact Or.inr h
  have hS : va_S A s.heap s.heap [] := va_S.rf
  generalize hQ0 : MQ below (va_Qi (fun r' u' => r' = res.1 ∧ u' = res.2) (pcB (dC, dI) srCl [(cI, .int), (cB, .byte), (cJ, .long), (cZ, .boolean), (cQ, .object "SchemaReader$Schema")] (fun u : Int32 => [(obT, .inr (9, [.ref tq_tape, .ref tq_said, .ref tq_inner, .ref tq_next, .ref tq_amount, .ref obK, .int t_length, .int u]))]) A) A) [.ref obT, .int a0].toArray s 0 0 A = Q0
  have hl := lv_entry [.ref obT, .int a0] (n := 2) (Nat.le_of_ble_eq_true rfl)
  rw [lg_entry_eq]
  generalize (lg_sl [.ref obT, .int a0] ++ List.replicate (2 - (lg_sl [.ref obT, .int a0]).length) Slot.unset).toArray = ls at hl ⊢
  have hl : lv_has ls 2 [(0, .ref obT), (1, .int a0)] := hl
  unfold m_X7_refuse at hm
  refine lv_aload_n hx hb dX7_refuse_0 rfl (lv_at hl 0 rfl) ?_
  refine lv_iload_n hx hb dX7_refuse_1 rfl (lv_at hl 1 rfl) ?_
  refine va_put (D := (dC, dI)) (ci := 9) (v := .int a0) (ty := .int) (C := RX7) (T := TX7) (N := 8) hx hb hts (inX7 _) tyX7 tyX7_ok nmX7 hown hK hP hD hS 0 rfl rfl 7 (by decide) (hts _ (List.mem_cons_of_mem _ wf7_39)) (fun _ h9 => h9) rfl (by decide +kernel) rfl rfl (Nat.le_of_ble_eq_true rfl) dX7_refuse_2 (fun H locs hP hD hS => ?_)
  have hP : va_P (dC, dI) srCl [(obT, .inr (9, [.ref tq_tape, .ref tq_said, .ref tq_inner, .ref tq_next, .ref tq_amount, .ref obK, .int t_length, .int a0]))] H := hP
  have hD : va_D A [(obT, .inr (9, [.ref tq_tape, .ref tq_said, .ref tq_inner, .ref tq_next, .ref tq_amount, .ref obK, .int t_length, .int a0]))] := hD
  refine lv_iconst (v := -1) hx hb dX7_refuse_5 (by decide) ?_
  obtain rfl := Option.some.inj hm
  subst hQ0
  exact W.iret (v := (-1)) hx hb hr (fun t ht hW => ⟨⟨(-1), a0, rfl, ⟨rfl, rfl⟩, by rw [ht]; exact hP, va_K.moved hW.alike hK, hD⟩, hS.F ht⟩) hS.2.2 dX7_refuse_6
set_option maxHeartbeats 4000000 in
set_option maxRecDepth 100000 in
theorem kX7_isBlank (l : Launch) (htr : l.stackTraces = false) (dC : Nat → ClassId) (dI : Nat → Nat → Nat) (adK adV : Nat → Nat) (cI cB cJ cZ cQ : ClassId) (a0 : Int32) (res : Int32) (hm : m_X7_isBlank a0 = some res) : Met l yX7_isBlank wsX7_isBlank (rmX7_isBlank 0 0) (pcR (sr_Z adK adV) (dC, dI) srCl [(cI, .int), (cB, .byte), (cJ, .long), (cZ, .boolean), (cQ, .object "SchemaReader$Schema")] [.int a0] []) (k2_QcV (.int res)) 0 0 (fun _ => False) := by
  refine Met.ofW (cc := cX7_isBlank) (maxL := 1) (ret := (some .boolean)) (by decide) rfl ?_
  intro p e s m args below meth c s₁ B hml hv
  obtain ⟨rfl, hP, hK, hz0⟩ := hv
  have hx := B.exec
  have hb := B.bytes
  have hr := B.returns
  have hts := atoms_spec (ws := wsX7_isBlank) B.pre
  have hown : s.vm.findClass RX7 = some m.cls := findClass_of_methodNamed B.named
  have hlocks := B.notSynchronized
  have hS : va_S (fun _ => False) s.heap s.heap [] := va_S.rf
  generalize hQ0 : MQ below (k2_QcV (.int res)) [.int a0].toArray s 0 0 (fun _ => False) = Q0
  have hl := lv_entry [.int a0] (n := 1) (Nat.le_of_ble_eq_true rfl)
  rw [lg_entry_eq]
  generalize (lg_sl [.int a0] ++ List.replicate (1 - (lg_sl [.int a0]).length) Slot.unset).toArray = ls at hl ⊢
  have hl : lv_has ls 1 [(0, .int a0)] := hl
  unfold m_X7_isBlank at hm
  refine lv_iload_n hx hb dX7_isBlank_0 rfl (lv_at hl 0 rfl) ?_
  refine lv_bipush (v := 32) hx hb dX7_isBlank_1 (by decide) ?_
  refine lv_icmp_eq (tgt := 24) hx hb dX7_isBlank_3 (by decide) (fun c1 => ?_) (fun c1 => ?_)
  · have hm := mr_if c1 hm
    refine lv_iconst (v := 1) hx hb dX7_isBlank_24 (by decide) ?_
    refine lv_goto (tgt := 29) hx hb dX7_isBlank_25 (by decide) ?_
    obtain rfl := Option.some.inj hm
    subst hQ0
    exact W.zret (v := 1) hx hb hr rfl (fun t ht hW => ⟨rfl, ht⟩) (fun q h => by cases h) dX7_isBlank_29
  · have hm := mr_un c1 hm
    refine lv_iload_n hx hb dX7_isBlank_6 rfl (lv_at hl 0 rfl) ?_
    refine lv_bipush (v := 10) hx hb dX7_isBlank_7 (by decide) ?_
    refine lv_icmp_eq (tgt := 24) hx hb dX7_isBlank_9 (by decide) (fun c2 => ?_) (fun c2 => ?_)
    · have hm := mr_if c2 hm
      refine lv_iconst (v := 1) hx hb dX7_isBlank_24 (by decide) ?_
      refine lv_goto (tgt := 29) hx hb dX7_isBlank_25 (by decide) ?_
      obtain rfl := Option.some.inj hm
      subst hQ0
      exact W.zret (v := 1) hx hb hr rfl (fun t ht hW => ⟨rfl, ht⟩) (fun q h => by cases h) dX7_isBlank_29
    · have hm := mr_un c2 hm
      refine lv_iload_n hx hb dX7_isBlank_12 rfl (lv_at hl 0 rfl) ?_
      refine lv_bipush (v := 13) hx hb dX7_isBlank_13 (by decide) ?_
      refine lv_icmp_eq (tgt := 24) hx hb dX7_isBlank_15 (by decide) (fun c3 => ?_) (fun c3 => ?_)
      · have hm := mr_if c3 hm
        refine lv_iconst (v := 1) hx hb dX7_isBlank_24 (by decide) ?_
        refine lv_goto (tgt := 29) hx hb dX7_isBlank_25 (by decide) ?_
        obtain rfl := Option.some.inj hm
        subst hQ0
        exact W.zret (v := 1) hx hb hr rfl (fun t ht hW => ⟨rfl, ht⟩) (fun q h => by cases h) dX7_isBlank_29
      · have hm := mr_un c3 hm
        refine lv_iload_n hx hb dX7_isBlank_18 rfl (lv_at hl 0 rfl) ?_
        refine lv_bipush (v := 9) hx hb dX7_isBlank_19 (by decide) ?_
        refine lv_icmp_ne (tgt := 28) hx hb dX7_isBlank_21 (by decide) (fun c4 => ?_) (fun c4 => ?_)
        · have hm := mr_un c4 hm
          refine lv_iconst (v := 0) hx hb dX7_isBlank_28 (by decide) ?_
          obtain rfl := Option.some.inj hm
          subst hQ0
          exact W.zret (v := 0) hx hb hr rfl (fun t ht hW => ⟨rfl, ht⟩) (fun q h => by cases h) dX7_isBlank_29
        · have hm := mr_if c4 hm
          refine lv_iconst (v := 1) hx hb dX7_isBlank_24 (by decide) ?_
          refine lv_goto (tgt := 29) hx hb dX7_isBlank_25 (by decide) ?_
          obtain rfl := Option.some.inj hm
          subst hQ0
          exact W.zret (v := 1) hx hb hr rfl (fun t ht hW => ⟨rfl, ht⟩) (fun q h => by cases h) dX7_isBlank_29
set_option maxHeartbeats 4000000 in
set_option maxRecDepth 100000 in
theorem kX7_behindBlanks (l : Launch) (htr : l.stackTraces = false) (dC : Nat → ClassId) (dI : Nat → Nat → Nat) (adK adV : Nat → Nat) (cI cB cJ cZ cQ : ClassId) (obT tq_tape tq_said tq_inner tq_next tq_amount obK : Nat) (t_length : Int32) (t_wrongPlace : Int32) (t_tape : Nat → Int32) (a0 : Int32) (res : Int32) (hm : m_X7_behindBlanks t_tape t_length a0 = some res) : Met l yX7_behindBlanks wsX7_behindBlanks (rmX7_behindBlanks 0 0) (pcR (sr_Z adK adV) (dC, dI) srCl [(cI, .int), (cB, .byte), (cJ, .long), (cZ, .boolean), (cQ, .object "SchemaReader$Schema")] [.ref obT, .int a0] [(obT, .inr (9, [.ref tq_tape, .ref tq_said, .ref tq_inner, .ref tq_next, .ref tq_amount, .ref obK, .int t_length, .int t_wrongPlace])), (tq_tape, .inl (cB, 4096, .inl t_tape))]) (k2_QcV (.int res)) 0 0 (fun _ => False) := by
  refine Met.ofW (cc := cX7_behindBlanks) (maxL := 3) (ret := (some .int)) (by decide) rfl ?_
  intro p e s m args below meth c s₁ B hml hv
  obtain ⟨rfl, hP, hK, hz0⟩ := hv
  have hx := B.exec
  have hb := B.bytes
  have hr := B.returns
  have hts := atoms_spec (ws := wsX7_behindBlanks) B.pre
  have hown : s.vm.findClass RX7 = some m.cls := findClass_of_methodNamed B.named
  have hlocks := B.notSynchronized
  have hS : va_S (fun _ => False) s.heap s.heap [] := va_S.rf
  generalize hQ0 : MQ below (k2_QcV (.int res)) [.ref obT, .int a0].toArray s 0 0 (fun _ => False) = Q0
  have hl := lv_entry [.ref obT, .int a0] (n := 3) (Nat.le_of_ble_eq_true rfl)
  rw [lg_entry_eq]
  generalize (lg_sl [.ref obT, .int a0] ++ List.replicate (3 - (lg_sl [.ref obT, .int a0]).length) Slot.unset).toArray = ls at hl ⊢
  have hl : lv_has ls 3 [(0, .ref obT), (1, .int a0)] := hl
  unfold m_X7_behindBlanks at hm
  refine lv_iload_n hx hb dX7_behindBlanks_0 rfl (lv_at hl 1 rfl) ?_
  have j2 : ∀ (n2 : Nat) (x2 : Int32) (ls : Array Slot), lv_has ls 3 [(0, .ref obT), (2, .int x2)] → m_X7_behindBlanks_2 t_tape t_length n2 x2 = some res → W p l e (headSpec wsX7_behindBlanks (rmX7_behindBlanks 0 0)).room s m [.ref obT, .int a0].toArray below meth c s.heap [] 0 0 Q0 (F0 m 2 ls []) := by
    intro n2
    induction n2 with
    | zero => intro x2 ls hl hm; exact nomatch (show (none : Option _) = some res from hm)
    | succ n2 ih2 =>
      intro x2 ls hl hm
      rw [m_X7_behindBlanks_2] at hm
      refine lv_iload_n hx hb dX7_behindBlanks_2 rfl (lv_at hl 1 rfl) ?_
      refine lv_aload_n hx hb dX7_behindBlanks_3 rfl (lv_at hl 0 rfl) ?_
      refine va_get (D := (dC, dI)) (ci := 9) (v := .int t_length) (C := RX7) (T := TX7) (N := 8) hx hb hts (inX7 _) hown hK hP 0 rfl rfl 6 (by decide) (hts _ (List.mem_cons_of_mem _ wf7_35)) (fun _ h9 => h9) rfl dX7_behindBlanks_4 ?_
      refine lv_icmp_ge (tgt := 27) hx hb dX7_behindBlanks_7 (by decide) (fun c1 => ?_) (fun c1 => ?_)
      · have hm := mr_if c1 hm
        refine lv_iload_n hx hb dX7_behindBlanks_27 rfl (lv_at hl 1 rfl) ?_
        obtain rfl := Option.some.inj hm
        subst hQ0
        exact W.iret (v := x2) hx hb hr (fun t ht hW => ⟨rfl, ht⟩) (fun q h => by cases h) dX7_behindBlanks_28
      · have hm := mr_un c1 hm
        refine lv_aload_n hx hb dX7_behindBlanks_10 rfl (lv_at hl 0 rfl) ?_
        refine lv_iload_n hx hb dX7_behindBlanks_11 rfl (lv_at hl 1 rfl) ?_
        obtain ⟨r2, hz2, hm⟩ := mr_bind hm
        refine mr_pV (As := [.int x2]) (rest := []) (sr_okZ adK adV) ⟨hx, hb, hml, hown, hts⟩ (kX7_byteAt l htr dC dI adK adV cI cB cJ cZ cQ obT tq_tape tq_said tq_inner tq_next tq_amount obK t_length t_wrongPlace t_tape x2 r2 hz2) (cwV 1 hts (g7_42 _) rfl rfl rfl (by decide +kernel) ⟨(by show 0 + 1 ≤ 1; omega), (by show 8 + (2 + 11) + (0) ≤ 21; omega)⟩) hS hP hK hz0 [0, 1] rfl (va_recv hK hP (ci := 9) (q0 := 0) rfl rfl) rfl rfl hl.1 (Nat.le_of_ble_eq_true rfl) dX7_behindBlanks_12 ⟨Nat.zero_le _, Nat.zero_le _⟩ ?_
        obtain ⟨r3, hz3, hm⟩ := mr_bind hm
        refine mr_pS (As := [.int r2]) (rest := []) (sr_okZ adK adV) ⟨hx, hb, hml, hown, hts⟩ (kX7_isBlank l htr dC dI adK adV cI cB cJ cZ cQ  r2 r3 hz3) (va_cwS 1 hts (g7_97 _) rfl rfl rfl (by decide +kernel) ⟨(by show 0 + 1 ≤ 1; omega), (by show 8 + (1 + 11) + (0) ≤ 21; omega)⟩) hS hP hK hz0 [] rfl rfl rfl hl.1 (Nat.le_of_ble_eq_true rfl) dX7_behindBlanks_15 ⟨Nat.zero_le _, Nat.zero_le _⟩ ?_
        refine lv_if_eq (tgt := 27) hx hb dX7_behindBlanks_18 (by decide) (fun c4 => ?_) (fun c4 => ?_)
        · have hm := mr_if c4 hm
          refine lv_iload_n hx hb dX7_behindBlanks_27 rfl (lv_at hl 1 rfl) ?_
          obtain rfl := Option.some.inj hm
          subst hQ0
          exact W.iret (v := x2) hx hb hr (fun t ht hW => ⟨rfl, ht⟩) (fun q h => by cases h) dX7_behindBlanks_28
        · have hm := mr_un c4 hm
          refine lv_iinc (v := x2 + 1) (lv' := [(2, .int (x2 + 1)), (0, .ref obT)]) hx hb dX7_behindBlanks_21 hl (k := 1) rfl rfl (by decide) rfl (fun ls hl => ?_)
          refine lv_goto (tgt := 2) hx hb dX7_behindBlanks_24 (by decide) ?_
          exact ih2 (x2 + 1) ls (lv_sub hl [1, 0] rfl) hm
  refine lv_istore_n (lv' := [(2, .int a0), (0, .ref obT), (1, .int a0)]) hx hb dX7_behindBlanks_1 rfl hl (by decide) rfl (fun ls hl => ?_)
  exact j2 sr_fuel a0 ls (lv_sub hl [1, 0] rfl) hm
end
