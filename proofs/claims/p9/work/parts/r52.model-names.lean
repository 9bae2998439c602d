abbrev cX10_thrown : ByteArray := prog_12_method_2_code
def yX10_thrown : MethodName := ⟨RX10, "thrown", "()I"⟩
def wsX10_thrown : List Cond := .code yX10_thrown cX10_thrown 1 (some .int) :: sr_G
theorem dX10_thrown_0 : decode cX10_thrown 0 = .ok (.aload_n 0, 1) := by decide +kernel
theorem dX10_thrown_1 : decode cX10_thrown 1 = .ok (.getfield 45, 3) := by decide +kernel
theorem dX10_thrown_4 : decode cX10_thrown 4 = .ok (.ireturn, 1) := by decide +kernel
def rmX10_thrown (mc ms : Nat) : Room := { frames := 0, cells := mc, slots := ms, locals := 0 }
abbrev cX10_refused : ByteArray := prog_12_method_3_code
def yX10_refused : MethodName := ⟨RX10, "refused", "(ZZ)Z"⟩
def wsX10_refused : List Cond := .code yX10_refused cX10_refused 3 (some .boolean) :: sr_G
theorem dX10_refused_0 : decode cX10_refused 0 = .ok (.aload_n 0, 1) := by decide +kernel
theorem dX10_refused_1 : decode cX10_refused 1 = .ok (.iload_n 1, 1) := by decide +kernel
theorem dX10_refused_2 : decode cX10_refused 2 = .ok (.ifCond .eq 7, 3) := by decide +kernel
theorem dX10_refused_5 : decode cX10_refused 5 = .ok (.iconst 1, 1) := by decide +kernel
theorem dX10_refused_6 : decode cX10_refused 6 = .ok (.goto 12, 3) := by decide +kernel
theorem dX10_refused_9 : decode cX10_refused 9 = .ok (.iload_n 2, 1) := by decide +kernel
theorem dX10_refused_10 : decode cX10_refused 10 = .ok (.ifCond .eq 7, 3) := by decide +kernel
theorem dX10_refused_13 : decode cX10_refused 13 = .ok (.iconst 2, 1) := by decide +kernel
theorem dX10_refused_14 : decode cX10_refused 14 = .ok (.goto 4, 3) := by decide +kernel
theorem dX10_refused_17 : decode cX10_refused 17 = .ok (.iconst 0, 1) := by decide +kernel
theorem dX10_refused_18 : decode cX10_refused 18 = .ok (.putfield 45, 3) := by decide +kernel
theorem dX10_refused_21 : decode cX10_refused 21 = .ok (.aload_n 0, 1) := by decide +kernel
theorem dX10_refused_22 : decode cX10_refused 22 = .ok (.getfield 45, 3) := by decide +kernel
theorem dX10_refused_25 : decode cX10_refused 25 = .ok (.ifCond .le 7, 3) := by decide +kernel
theorem dX10_refused_28 : decode cX10_refused 28 = .ok (.iconst 1, 1) := by decide +kernel
theorem dX10_refused_29 : decode cX10_refused 29 = .ok (.goto 4, 3) := by decide +kernel
theorem dX10_refused_32 : decode cX10_refused 32 = .ok (.iconst 0, 1) := by decide +kernel
theorem dX10_refused_33 : decode cX10_refused 33 = .ok (.ireturn, 1) := by decide +kernel
def rmX10_refused (mc ms : Nat) : Room := { frames := 0, cells := mc, slots := ms, locals := 0 }
abbrev cX10_within : ByteArray := prog_12_method_4_code
def yX10_within : MethodName := ⟨RX10, "within", "(III)Z"⟩
def wsX10_within : List Cond := .code yX10_within cX10_within 3 (some .boolean) :: sr_G
theorem dX10_within_0 : decode cX10_within 0 = .ok (.iload_n 0, 1) := by decide +kernel
theorem dX10_within_1 : decode cX10_within 1 = .ok (.iload_n 1, 1) := by decide +kernel
theorem dX10_within_2 : decode cX10_within 2 = .ok (.if_icmp .lt 12, 3) := by decide +kernel
theorem dX10_within_5 : decode cX10_within 5 = .ok (.iload_n 0, 1) := by decide +kernel
theorem dX10_within_6 : decode cX10_within 6 = .ok (.iload_n 2, 1) := by decide +kernel
theorem dX10_within_7 : decode cX10_within 7 = .ok (.if_icmp .gt 7, 3) := by decide +kernel
theorem dX10_within_10 : decode cX10_within 10 = .ok (.iconst 1, 1) := by decide +kernel
theorem dX10_within_11 : decode cX10_within 11 = .ok (.goto 4, 3) := by decide +kernel
theorem dX10_within_14 : decode cX10_within 14 = .ok (.iconst 0, 1) := by decide +kernel
theorem dX10_within_15 : decode cX10_within 15 = .ok (.ireturn, 1) := by decide +kernel
def rmX10_within (mc ms : Nat) : Room := { frames := 0, cells := mc, slots := ms, locals := 0 }
abbrev cX10_addInt : ByteArray := prog_12_method_5_code
def yX10_addInt : MethodName := ⟨RX10, "addInt", "(I)V"⟩
def wsX10_addInt : List Cond := .code yX10_addInt cX10_addInt 3 none :: sr_G
theorem dX10_addInt_0 : decode cX10_addInt 0 = .ok (.bipush 24, 2) := by decide +kernel
theorem dX10_addInt_2 : decode cX10_addInt 2 = .ok (.istore_n 2, 1) := by decide +kernel
theorem dX10_addInt_3 : decode cX10_addInt 3 = .ok (.iload_n 2, 1) := by decide +kernel
theorem dX10_addInt_4 : decode cX10_addInt 4 = .ok (.ifCond .lt 32, 3) := by decide +kernel
theorem dX10_addInt_7 : decode cX10_addInt 7 = .ok (.aload_n 0, 1) := by decide +kernel
theorem dX10_addInt_8 : decode cX10_addInt 8 = .ok (.getfield 7, 3) := by decide +kernel
theorem dX10_addInt_11 : decode cX10_addInt 11 = .ok (.aload_n 0, 1) := by decide +kernel
theorem dX10_addInt_12 : decode cX10_addInt 12 = .ok (.getfield 48, 3) := by decide +kernel
theorem dX10_addInt_15 : decode cX10_addInt 15 = .ok (.iload_n 1, 1) := by decide +kernel
theorem dX10_addInt_16 : decode cX10_addInt 16 = .ok (.iload_n 2, 1) := by decide +kernel
theorem dX10_addInt_17 : decode cX10_addInt 17 = .ok (.ishr, 1) := by decide +kernel
theorem dX10_addInt_18 : decode cX10_addInt 18 = .ok (.i2b, 1) := by decide +kernel
theorem dX10_addInt_19 : decode cX10_addInt 19 = .ok (.bastore, 1) := by decide +kernel
theorem dX10_addInt_20 : decode cX10_addInt 20 = .ok (.aload_n 0, 1) := by decide +kernel
theorem dX10_addInt_21 : decode cX10_addInt 21 = .ok (.dup, 1) := by decide +kernel
theorem dX10_addInt_22 : decode cX10_addInt 22 = .ok (.getfield 48, 3) := by decide +kernel
theorem dX10_addInt_25 : decode cX10_addInt 25 = .ok (.iconst 1, 1) := by decide +kernel
theorem dX10_addInt_26 : decode cX10_addInt 26 = .ok (.iadd, 1) := by decide +kernel
theorem dX10_addInt_27 : decode cX10_addInt 27 = .ok (.putfield 48, 3) := by decide +kernel
theorem dX10_addInt_30 : decode cX10_addInt 30 = .ok (.iinc 2 (-8), 3) := by decide +kernel
theorem dX10_addInt_33 : decode cX10_addInt 33 = .ok (.goto (-30), 3) := by decide +kernel
theorem dX10_addInt_36 : decode cX10_addInt 36 = .ok (.return_, 1) := by decide +kernel
def rmX10_addInt (mc ms : Nat) : Room := { frames := 0, cells := mc, slots := ms, locals := 0 }
abbrev cX10_feed : ByteArray := prog_12_method_6_code
def yX10_feed : MethodName := ⟨RX10, "feed", "(IIIII)I"⟩
def wsX10_feed : List Cond := .code yX10_feed cX10_feed 6 (some .int) :: sr_G
theorem dX10_feed_0 : decode cX10_feed 0 = .ok (.aload_n 0, 1) := by decide +kernel
theorem dX10_feed_1 : decode cX10_feed 1 = .ok (.aload_n 0, 1) := by decide +kernel
theorem dX10_feed_2 : decode cX10_feed 2 = .ok (.getfield 48, 3) := by decide +kernel
theorem dX10_feed_5 : decode cX10_feed 5 = .ok (.bipush 20, 2) := by decide +kernel
theorem dX10_feed_7 : decode cX10_feed 7 = .ok (.iadd, 1) := by decide +kernel
theorem dX10_feed_8 : decode cX10_feed 8 = .ok (.sipush 4096, 3) := by decide +kernel
theorem dX10_feed_11 : decode cX10_feed 11 = .ok (.if_icmp .le 7, 3) := by decide +kernel
theorem dX10_feed_14 : decode cX10_feed 14 = .ok (.iconst 1, 1) := by decide +kernel
theorem dX10_feed_15 : decode cX10_feed 15 = .ok (.goto 4, 3) := by decide +kernel
theorem dX10_feed_18 : decode cX10_feed 18 = .ok (.iconst 0, 1) := by decide +kernel
theorem dX10_feed_19 : decode cX10_feed 19 = .ok (.iconst 0, 1) := by decide +kernel
theorem dX10_feed_20 : decode cX10_feed 20 = .ok (.invokevirtual 51, 3) := by decide +kernel
theorem dX10_feed_23 : decode cX10_feed 23 = .ok (.ifCond .eq 5, 3) := by decide +kernel
theorem dX10_feed_26 : decode cX10_feed 26 = .ok (.iconst 0, 1) := by decide +kernel
theorem dX10_feed_27 : decode cX10_feed 27 = .ok (.ireturn, 1) := by decide +kernel
theorem dX10_feed_28 : decode cX10_feed 28 = .ok (.aload_n 0, 1) := by decide +kernel
theorem dX10_feed_29 : decode cX10_feed 29 = .ok (.iload_n 1, 1) := by decide +kernel
theorem dX10_feed_30 : decode cX10_feed 30 = .ok (.invokevirtual 55, 3) := by decide +kernel
theorem dX10_feed_33 : decode cX10_feed 33 = .ok (.aload_n 0, 1) := by decide +kernel
theorem dX10_feed_34 : decode cX10_feed 34 = .ok (.iload_n 2, 1) := by decide +kernel
theorem dX10_feed_35 : decode cX10_feed 35 = .ok (.invokevirtual 55, 3) := by decide +kernel
theorem dX10_feed_38 : decode cX10_feed 38 = .ok (.aload_n 0, 1) := by decide +kernel
theorem dX10_feed_39 : decode cX10_feed 39 = .ok (.iload_n 3, 1) := by decide +kernel
theorem dX10_feed_40 : decode cX10_feed 40 = .ok (.invokevirtual 55, 3) := by decide +kernel
theorem dX10_feed_43 : decode cX10_feed 43 = .ok (.aload_n 0, 1) := by decide +kernel
theorem dX10_feed_44 : decode cX10_feed 44 = .ok (.iload 4, 2) := by decide +kernel
theorem dX10_feed_46 : decode cX10_feed 46 = .ok (.invokevirtual 55, 3) := by decide +kernel
theorem dX10_feed_49 : decode cX10_feed 49 = .ok (.aload_n 0, 1) := by decide +kernel
theorem dX10_feed_50 : decode cX10_feed 50 = .ok (.iload 5, 2) := by decide +kernel
theorem dX10_feed_52 : decode cX10_feed 52 = .ok (.invokevirtual 55, 3) := by decide +kernel
theorem dX10_feed_55 : decode cX10_feed 55 = .ok (.aload_n 0, 1) := by decide +kernel
theorem dX10_feed_56 : decode cX10_feed 56 = .ok (.getfield 48, 3) := by decide +kernel
theorem dX10_feed_59 : decode cX10_feed 59 = .ok (.ireturn, 1) := by decide +kernel
def rmX10_feed (mc ms : Nat) : Room := { frames := 1, cells := mc, slots := ms, locals := 22 }
abbrev cX10_end : ByteArray := prog_12_method_7_code
def yX10_end : MethodName := ⟨RX10, "end", "(I)V"⟩
def wsX10_end : List Cond := .code yX10_end cX10_end 2 none :: sr_G
theorem dX10_end_0 : decode cX10_end 0 = .ok (.aload_n 0, 1) := by decide +kernel
theorem dX10_end_1 : decode cX10_end 1 = .ok (.iload_n 1, 1) := by decide +kernel
theorem dX10_end_2 : decode cX10_end 2 = .ok (.iconst 0, 1) := by decide +kernel
theorem dX10_end_3 : decode cX10_end 3 = .ok (.aload_n 0, 1) := by decide +kernel
theorem dX10_end_4 : decode cX10_end 4 = .ok (.getfield 48, 3) := by decide +kernel
theorem dX10_end_7 : decode cX10_end 7 = .ok (.invokestatic 59, 3) := by decide +kernel
theorem dX10_end_10 : decode cX10_end 10 = .ok (.ifCond .ne 7, 3) := by decide +kernel
theorem dX10_end_13 : decode cX10_end 13 = .ok (.iconst 1, 1) := by decide +kernel
theorem dX10_end_14 : decode cX10_end 14 = .ok (.goto 4, 3) := by decide +kernel
theorem dX10_end_17 : decode cX10_end 17 = .ok (.iconst 0, 1) := by decide +kernel
theorem dX10_end_18 : decode cX10_end 18 = .ok (.iconst 0, 1) := by decide +kernel
theorem dX10_end_19 : decode cX10_end 19 = .ok (.invokevirtual 51, 3) := by decide +kernel
theorem dX10_end_22 : decode cX10_end 22 = .ok (.ifCond .ne 8, 3) := by decide +kernel
theorem dX10_end_25 : decode cX10_end 25 = .ok (.aload_n 0, 1) := by decide +kernel
theorem dX10_end_26 : decode cX10_end 26 = .ok (.iload_n 1, 1) := by decide +kernel
theorem dX10_end_27 : decode cX10_end 27 = .ok (.putfield 48, 3) := by decide +kernel
theorem dX10_end_30 : decode cX10_end 30 = .ok (.return_, 1) := by decide +kernel
def rmX10_end (mc ms : Nat) : Room := { frames := 1, cells := mc, slots := ms, locals := 22 }
abbrev cX10_isPlace : ByteArray := prog_12_method_8_code
def yX10_isPlace : MethodName := ⟨RX10, "isPlace", "(I)Z"⟩
def wsX10_isPlace : List Cond := .code yX10_isPlace cX10_isPlace 1 (some .boolean) :: sr_G
theorem dX10_isPlace_0 : decode cX10_isPlace 0 = .ok (.iload_n 0, 1) := by decide +kernel
theorem dX10_isPlace_1 : decode cX10_isPlace 1 = .ok (.iconst 0, 1) := by decide +kernel
theorem dX10_isPlace_2 : decode cX10_isPlace 2 = .ok (.bipush 7, 2) := by decide +kernel
theorem dX10_isPlace_4 : decode cX10_isPlace 4 = .ok (.invokestatic 59, 3) := by decide +kernel
theorem dX10_isPlace_7 : decode cX10_isPlace 7 = .ok (.ireturn, 1) := by decide +kernel
def rmX10_isPlace (mc ms : Nat) : Room := { frames := 1, cells := mc, slots := ms, locals := 22 }
abbrev cX10_place : ByteArray := prog_12_method_10_code
def yX10_place : MethodName := ⟨RX10, "place", "()I"⟩
def wsX10_place : List Cond := .code yX10_place cX10_place 1 (some .int) :: sr_G
theorem dX10_place_0 : decode cX10_place 0 = .ok (.aload_n 0, 1) := by decide +kernel
theorem dX10_place_1 : decode cX10_place 1 = .ok (.iconst 0, 1) := by decide +kernel
theorem dX10_place_2 : decode cX10_place 2 = .ok (.putfield 45, 3) := by decide +kernel
theorem dX10_place_5 : decode cX10_place 5 = .ok (.aload_n 0, 1) := by decide +kernel
theorem dX10_place_6 : decode cX10_place 6 = .ok (.getfield 26, 3) := by decide +kernel
theorem dX10_place_9 : decode cX10_place 9 = .ok (.ireturn, 1) := by decide +kernel
def rmX10_place (mc ms : Nat) : Room := { frames := 0, cells := mc, slots := ms, locals := 0 }
abbrev cX10_size : ByteArray := prog_12_method_11_code
def yX10_size : MethodName := ⟨RX10, "size", "()I"⟩
def wsX10_size : List Cond := .code yX10_size cX10_size 1 (some .int) :: sr_G
theorem dX10_size_0 : decode cX10_size 0 = .ok (.aload_n 0, 1) := by decide +kernel
theorem dX10_size_1 : decode cX10_size 1 = .ok (.iconst 0, 1) := by decide +kernel
theorem dX10_size_2 : decode cX10_size 2 = .ok (.putfield 45, 3) := by decide +kernel
theorem dX10_size_5 : decode cX10_size 5 = .ok (.aload_n 0, 1) := by decide +kernel
theorem dX10_size_6 : decode cX10_size 6 = .ok (.getfield 67, 3) := by decide +kernel
theorem dX10_size_9 : decode cX10_size 9 = .ok (.ifCond .eq 13, 3) := by decide +kernel
theorem dX10_size_12 : decode cX10_size 12 = .ok (.aload_n 0, 1) := by decide +kernel
theorem dX10_size_13 : decode cX10_size 13 = .ok (.getfield 16, 3) := by decide +kernel
theorem dX10_size_16 : decode cX10_size 16 = .ok (.getfield 72, 3) := by decide +kernel
theorem dX10_size_19 : decode cX10_size 19 = .ok (.goto 4, 3) := by decide +kernel
theorem dX10_size_22 : decode cX10_size 22 = .ok (.iconst 0, 1) := by decide +kernel
theorem dX10_size_23 : decode cX10_size 23 = .ok (.ireturn, 1) := by decide +kernel
def rmX10_size (mc ms : Nat) : Room := { frames := 0, cells := mc, slots := ms, locals := 0 }
abbrev cX10_letter : ByteArray := prog_12_method_12_code
def yX10_letter : MethodName := ⟨RX10, "letter", "(I)I"⟩
def wsX10_letter : List Cond := .code yX10_letter cX10_letter 2 (some .int) :: sr_G
theorem dX10_letter_0 : decode cX10_letter 0 = .ok (.aload_n 0, 1) := by decide +kernel
theorem dX10_letter_1 : decode cX10_letter 1 = .ok (.aload_n 0, 1) := by decide +kernel
theorem dX10_letter_2 : decode cX10_letter 2 = .ok (.getfield 67, 3) := by decide +kernel
theorem dX10_letter_5 : decode cX10_letter 5 = .ok (.ifCond .eq 20, 3) := by decide +kernel
theorem dX10_letter_8 : decode cX10_letter 8 = .ok (.iload_n 1, 1) := by decide +kernel
theorem dX10_letter_9 : decode cX10_letter 9 = .ok (.iconst 0, 1) := by decide +kernel
theorem dX10_letter_10 : decode cX10_letter 10 = .ok (.aload_n 0, 1) := by decide +kernel
theorem dX10_letter_11 : decode cX10_letter 11 = .ok (.getfield 16, 3) := by decide +kernel
theorem dX10_letter_14 : decode cX10_letter 14 = .ok (.getfield 72, 3) := by decide +kernel
theorem dX10_letter_17 : decode cX10_letter 17 = .ok (.iconst 1, 1) := by decide +kernel
theorem dX10_letter_18 : decode cX10_letter 18 = .ok (.isub, 1) := by decide +kernel
theorem dX10_letter_19 : decode cX10_letter 19 = .ok (.invokestatic 59, 3) := by decide +kernel
theorem dX10_letter_22 : decode cX10_letter 22 = .ok (.ifCond .ne 7, 3) := by decide +kernel
theorem dX10_letter_25 : decode cX10_letter 25 = .ok (.iconst 1, 1) := by decide +kernel
theorem dX10_letter_26 : decode cX10_letter 26 = .ok (.goto 4, 3) := by decide +kernel
theorem dX10_letter_29 : decode cX10_letter 29 = .ok (.iconst 0, 1) := by decide +kernel
theorem dX10_letter_30 : decode cX10_letter 30 = .ok (.iconst 0, 1) := by decide +kernel
theorem dX10_letter_31 : decode cX10_letter 31 = .ok (.invokevirtual 51, 3) := by decide +kernel
theorem dX10_letter_34 : decode cX10_letter 34 = .ok (.ifCond .eq 7, 3) := by decide +kernel
theorem dX10_letter_37 : decode cX10_letter 37 = .ok (.iconst 0, 1) := by decide +kernel
theorem dX10_letter_38 : decode cX10_letter 38 = .ok (.goto 16, 3) := by decide +kernel
theorem dX10_letter_41 : decode cX10_letter 41 = .ok (.aload_n 0, 1) := by decide +kernel
theorem dX10_letter_42 : decode cX10_letter 42 = .ok (.getfield 16, 3) := by decide +kernel
theorem dX10_letter_45 : decode cX10_letter 45 = .ok (.getfield 75, 3) := by decide +kernel
theorem dX10_letter_48 : decode cX10_letter 48 = .ok (.iload_n 1, 1) := by decide +kernel
theorem dX10_letter_49 : decode cX10_letter 49 = .ok (.baload, 1) := by decide +kernel
theorem dX10_letter_50 : decode cX10_letter 50 = .ok (.sipush 255, 3) := by decide +kernel
theorem dX10_letter_53 : decode cX10_letter 53 = .ok (.iand, 1) := by decide +kernel
theorem dX10_letter_54 : decode cX10_letter 54 = .ok (.ireturn, 1) := by decide +kernel
def rmX10_letter (mc ms : Nat) : Room := { frames := 1, cells := mc, slots := ms, locals := 22 }
abbrev cX10_print : ByteArray := prog_12_method_13_code
def yX10_print : MethodName := ⟨RX10, "print", "()J"⟩
def wsX10_print : List Cond := .code yX10_print cX10_print 1 (some .long) :: sr_G
theorem dX10_print_0 : decode cX10_print 0 = .ok (.aload_n 0, 1) := by decide +kernel
theorem dX10_print_1 : decode cX10_print 1 = .ok (.iconst 0, 1) := by decide +kernel
theorem dX10_print_2 : decode cX10_print 2 = .ok (.putfield 45, 3) := by decide +kernel
theorem dX10_print_5 : decode cX10_print 5 = .ok (.aload_n 0, 1) := by decide +kernel
theorem dX10_print_6 : decode cX10_print 6 = .ok (.getfield 67, 3) := by decide +kernel
theorem dX10_print_9 : decode cX10_print 9 = .ok (.ifCond .eq 13, 3) := by decide +kernel
theorem dX10_print_12 : decode cX10_print 12 = .ok (.aload_n 0, 1) := by decide +kernel
theorem dX10_print_13 : decode cX10_print 13 = .ok (.getfield 16, 3) := by decide +kernel
theorem dX10_print_16 : decode cX10_print 16 = .ok (.invokevirtual 78, 3) := by decide +kernel
theorem dX10_print_19 : decode cX10_print 19 = .ok (.goto 4, 3) := by decide +kernel
theorem dX10_print_22 : decode cX10_print 22 = .ok (.lconst 0, 1) := by decide +kernel
theorem dX10_print_23 : decode cX10_print 23 = .ok (.lreturn, 1) := by decide +kernel
def rmX10_print (mc ms : Nat) : Room := { frames := 1, cells := mc, slots := ms, locals := 26 }
abbrev cX10_keep : ByteArray := prog_12_method_14_code
def yX10_keep : MethodName := ⟨RX10, "keep", "(I)I"⟩
def wsX10_keep : List Cond := .code yX10_keep cX10_keep 4 (some .int) :: sr_G
theorem dX10_keep_0 : decode cX10_keep 0 = .ok (.aload_n 0, 1) := by decide +kernel
theorem dX10_keep_1 : decode cX10_keep 1 = .ok (.iload_n 1, 1) := by decide +kernel
theorem dX10_keep_2 : decode cX10_keep 2 = .ok (.invokestatic 82, 3) := by decide +kernel
theorem dX10_keep_5 : decode cX10_keep 5 = .ok (.ifCond .ne 7, 3) := by decide +kernel
theorem dX10_keep_8 : decode cX10_keep 8 = .ok (.iconst 1, 1) := by decide +kernel
theorem dX10_keep_9 : decode cX10_keep 9 = .ok (.goto 4, 3) := by decide +kernel
theorem dX10_keep_12 : decode cX10_keep 12 = .ok (.iconst 0, 1) := by decide +kernel
theorem dX10_keep_13 : decode cX10_keep 13 = .ok (.aload_n 0, 1) := by decide +kernel
theorem dX10_keep_14 : decode cX10_keep 14 = .ok (.getfield 67, 3) := by decide +kernel
theorem dX10_keep_17 : decode cX10_keep 17 = .ok (.ifCond .ne 7, 3) := by decide +kernel
theorem dX10_keep_20 : decode cX10_keep 20 = .ok (.iconst 1, 1) := by decide +kernel
theorem dX10_keep_21 : decode cX10_keep 21 = .ok (.goto 4, 3) := by decide +kernel
theorem dX10_keep_24 : decode cX10_keep 24 = .ok (.iconst 0, 1) := by decide +kernel
theorem dX10_keep_25 : decode cX10_keep 25 = .ok (.invokevirtual 51, 3) := by decide +kernel
theorem dX10_keep_28 : decode cX10_keep 28 = .ok (.ifCond .eq 5, 3) := by decide +kernel
theorem dX10_keep_31 : decode cX10_keep 31 = .ok (.iconst 0, 1) := by decide +kernel
theorem dX10_keep_32 : decode cX10_keep 32 = .ok (.ireturn, 1) := by decide +kernel
theorem dX10_keep_33 : decode cX10_keep 33 = .ok (.aload_n 0, 1) := by decide +kernel
theorem dX10_keep_34 : decode cX10_keep 34 = .ok (.iconst 0, 1) := by decide +kernel
theorem dX10_keep_35 : decode cX10_keep 35 = .ok (.putfield 67, 3) := by decide +kernel
theorem dX10_keep_38 : decode cX10_keep 38 = .ok (.aload_n 0, 1) := by decide +kernel
theorem dX10_keep_39 : decode cX10_keep 39 = .ok (.getfield 34, 3) := by decide +kernel
theorem dX10_keep_42 : decode cX10_keep 42 = .ok (.iload_n 1, 1) := by decide +kernel
theorem dX10_keep_43 : decode cX10_keep 43 = .ok (.aload_n 0, 1) := by decide +kernel
theorem dX10_keep_44 : decode cX10_keep 44 = .ok (.getfield 16, 3) := by decide +kernel
theorem dX10_keep_47 : decode cX10_keep 47 = .ok (.getfield 86, 3) := by decide +kernel
theorem dX10_keep_50 : decode cX10_keep 50 = .ok (.iastore, 1) := by decide +kernel
theorem dX10_keep_51 : decode cX10_keep 51 = .ok (.iconst 0, 1) := by decide +kernel
theorem dX10_keep_52 : decode cX10_keep 52 = .ok (.istore_n 2, 1) := by decide +kernel
theorem dX10_keep_53 : decode cX10_keep 53 = .ok (.iload_n 2, 1) := by decide +kernel
theorem dX10_keep_54 : decode cX10_keep 54 = .ok (.aload_n 0, 1) := by decide +kernel
theorem dX10_keep_55 : decode cX10_keep 55 = .ok (.getfield 16, 3) := by decide +kernel
theorem dX10_keep_58 : decode cX10_keep 58 = .ok (.getfield 86, 3) := by decide +kernel
theorem dX10_keep_61 : decode cX10_keep 61 = .ok (.if_icmp .ge 30, 3) := by decide +kernel
theorem dX10_keep_64 : decode cX10_keep 64 = .ok (.aload_n 0, 1) := by decide +kernel
theorem dX10_keep_65 : decode cX10_keep 65 = .ok (.getfield 31, 3) := by decide +kernel
theorem dX10_keep_68 : decode cX10_keep 68 = .ok (.sipush 4096, 3) := by decide +kernel
theorem dX10_keep_71 : decode cX10_keep 71 = .ok (.iload_n 1, 1) := by decide +kernel
theorem dX10_keep_72 : decode cX10_keep 72 = .ok (.imul, 1) := by decide +kernel
theorem dX10_keep_73 : decode cX10_keep 73 = .ok (.iload_n 2, 1) := by decide +kernel
theorem dX10_keep_74 : decode cX10_keep 74 = .ok (.iadd, 1) := by decide +kernel
theorem dX10_keep_75 : decode cX10_keep 75 = .ok (.aload_n 0, 1) := by decide +kernel
theorem dX10_keep_76 : decode cX10_keep 76 = .ok (.getfield 16, 3) := by decide +kernel
theorem dX10_keep_79 : decode cX10_keep 79 = .ok (.getfield 89, 3) := by decide +kernel
theorem dX10_keep_82 : decode cX10_keep 82 = .ok (.iload_n 2, 1) := by decide +kernel
theorem dX10_keep_83 : decode cX10_keep 83 = .ok (.baload, 1) := by decide +kernel
theorem dX10_keep_84 : decode cX10_keep 84 = .ok (.bastore, 1) := by decide +kernel
theorem dX10_keep_85 : decode cX10_keep 85 = .ok (.iinc 2 1, 3) := by decide +kernel
theorem dX10_keep_88 : decode cX10_keep 88 = .ok (.goto (-35), 3) := by decide +kernel
theorem dX10_keep_91 : decode cX10_keep 91 = .ok (.iconst 0, 1) := by decide +kernel
theorem dX10_keep_92 : decode cX10_keep 92 = .ok (.istore_n 2, 1) := by decide +kernel
theorem dX10_keep_93 : decode cX10_keep 93 = .ok (.iconst 0, 1) := by decide +kernel
theorem dX10_keep_94 : decode cX10_keep 94 = .ok (.istore_n 3, 1) := by decide +kernel
theorem dX10_keep_95 : decode cX10_keep 95 = .ok (.iload_n 3, 1) := by decide +kernel
theorem dX10_keep_96 : decode cX10_keep 96 = .ok (.bipush 8, 2) := by decide +kernel
theorem dX10_keep_98 : decode cX10_keep 98 = .ok (.if_icmp .ge 26, 3) := by decide +kernel
theorem dX10_keep_101 : decode cX10_keep 101 = .ok (.aload_n 0, 1) := by decide +kernel
theorem dX10_keep_102 : decode cX10_keep 102 = .ok (.getfield 34, 3) := by decide +kernel
theorem dX10_keep_105 : decode cX10_keep 105 = .ok (.iload_n 3, 1) := by decide +kernel
theorem dX10_keep_106 : decode cX10_keep 106 = .ok (.iaload, 1) := by decide +kernel
theorem dX10_keep_107 : decode cX10_keep 107 = .ok (.ifCond .lt 9, 3) := by decide +kernel
theorem dX10_keep_110 : decode cX10_keep 110 = .ok (.iload_n 2, 1) := by decide +kernel
theorem dX10_keep_111 : decode cX10_keep 111 = .ok (.iconst 1, 1) := by decide +kernel
theorem dX10_keep_112 : decode cX10_keep 112 = .ok (.iadd, 1) := by decide +kernel
theorem dX10_keep_113 : decode cX10_keep 113 = .ok (.goto 4, 3) := by decide +kernel
theorem dX10_keep_116 : decode cX10_keep 116 = .ok (.iload_n 2, 1) := by decide +kernel
theorem dX10_keep_117 : decode cX10_keep 117 = .ok (.istore_n 2, 1) := by decide +kernel
theorem dX10_keep_118 : decode cX10_keep 118 = .ok (.iinc 3 1, 3) := by decide +kernel
theorem dX10_keep_121 : decode cX10_keep 121 = .ok (.goto (-26), 3) := by decide +kernel
theorem dX10_keep_124 : decode cX10_keep 124 = .ok (.iload_n 2, 1) := by decide +kernel
theorem dX10_keep_125 : decode cX10_keep 125 = .ok (.ireturn, 1) := by decide +kernel
def rmX10_keep (mc ms : Nat) : Room := { frames := 2, cells := mc, slots := ms, locals := 42 }
abbrev cX10_sixOf : ByteArray := prog_12_method_16_code
def yX10_sixOf : MethodName := ⟨RX10, "sixOf", "(I)Z"⟩
def wsX10_sixOf : List Cond := .code yX10_sixOf cX10_sixOf 1 (some .boolean) :: sr_G
theorem dX10_sixOf_0 : decode cX10_sixOf 0 = .ok (.iload_n 0, 1) := by decide +kernel
theorem dX10_sixOf_1 : decode cX10_sixOf 1 = .ok (.bipush 6, 2) := by decide +kernel
theorem dX10_sixOf_3 : decode cX10_sixOf 3 = .ok (.if_icmp .ge 7, 3) := by decide +kernel
theorem dX10_sixOf_6 : decode cX10_sixOf 6 = .ok (.iconst 1, 1) := by decide +kernel
theorem dX10_sixOf_7 : decode cX10_sixOf 7 = .ok (.goto 4, 3) := by decide +kernel
theorem dX10_sixOf_10 : decode cX10_sixOf 10 = .ok (.iconst 0, 1) := by decide +kernel
theorem dX10_sixOf_11 : decode cX10_sixOf 11 = .ok (.ireturn, 1) := by decide +kernel
def rmX10_sixOf (mc ms : Nat) : Room := { frames := 0, cells := mc, slots := ms, locals := 0 }
abbrev cX10_matchesSix : ByteArray := prog_12_method_17_code
def yX10_matchesSix : MethodName := ⟨RX10, "matchesSix", "(II)Z"⟩
def wsX10_matchesSix : List Cond := .code yX10_matchesSix cX10_matchesSix 2 (some .boolean) :: sr_G
theorem dX10_matchesSix_0 : decode cX10_matchesSix 0 = .ok (.iload_n 0, 1) := by decide +kernel
theorem dX10_matchesSix_1 : decode cX10_matchesSix 1 = .ok (.iload_n 1, 1) := by decide +kernel
theorem dX10_matchesSix_2 : decode cX10_matchesSix 2 = .ok (.if_icmp .eq 33, 3) := by decide +kernel
theorem dX10_matchesSix_5 : decode cX10_matchesSix 5 = .ok (.iload_n 0, 1) := by decide +kernel
theorem dX10_matchesSix_6 : decode cX10_matchesSix 6 = .ok (.iconst 2, 1) := by decide +kernel
theorem dX10_matchesSix_7 : decode cX10_matchesSix 7 = .ok (.if_icmp .ne 8, 3) := by decide +kernel
theorem dX10_matchesSix_10 : decode cX10_matchesSix 10 = .ok (.iload_n 1, 1) := by decide +kernel
theorem dX10_matchesSix_11 : decode cX10_matchesSix 11 = .ok (.iconst 3, 1) := by decide +kernel
theorem dX10_matchesSix_12 : decode cX10_matchesSix 12 = .ok (.if_icmp .eq 23, 3) := by decide +kernel
theorem dX10_matchesSix_15 : decode cX10_matchesSix 15 = .ok (.iload_n 0, 1) := by decide +kernel
theorem dX10_matchesSix_16 : decode cX10_matchesSix 16 = .ok (.iconst 4, 1) := by decide +kernel
theorem dX10_matchesSix_17 : decode cX10_matchesSix 17 = .ok (.if_icmp .eq 8, 3) := by decide +kernel
theorem dX10_matchesSix_20 : decode cX10_matchesSix 20 = .ok (.iload_n 0, 1) := by decide +kernel
theorem dX10_matchesSix_21 : decode cX10_matchesSix 21 = .ok (.iconst 5, 1) := by decide +kernel
theorem dX10_matchesSix_22 : decode cX10_matchesSix 22 = .ok (.if_icmp .ne 17, 3) := by decide +kernel
theorem dX10_matchesSix_25 : decode cX10_matchesSix 25 = .ok (.iload_n 1, 1) := by decide +kernel
theorem dX10_matchesSix_26 : decode cX10_matchesSix 26 = .ok (.iconst 4, 1) := by decide +kernel
theorem dX10_matchesSix_27 : decode cX10_matchesSix 27 = .ok (.if_icmp .eq 8, 3) := by decide +kernel
theorem dX10_matchesSix_30 : decode cX10_matchesSix 30 = .ok (.iload_n 1, 1) := by decide +kernel
theorem dX10_matchesSix_31 : decode cX10_matchesSix 31 = .ok (.iconst 5, 1) := by decide +kernel
theorem dX10_matchesSix_32 : decode cX10_matchesSix 32 = .ok (.if_icmp .ne 7, 3) := by decide +kernel
theorem dX10_matchesSix_35 : decode cX10_matchesSix 35 = .ok (.iconst 1, 1) := by decide +kernel
theorem dX10_matchesSix_36 : decode cX10_matchesSix 36 = .ok (.goto 4, 3) := by decide +kernel
theorem dX10_matchesSix_39 : decode cX10_matchesSix 39 = .ok (.iconst 0, 1) := by decide +kernel
theorem dX10_matchesSix_40 : decode cX10_matchesSix 40 = .ok (.ireturn, 1) := by decide +kernel
def rmX10_matchesSix (mc ms : Nat) : Room := { frames := 0, cells := mc, slots := ms, locals := 0 }
abbrev cX10_fieldLike : ByteArray := prog_12_method_23_code
def yX10_fieldLike : MethodName := ⟨RX10, "fieldLike", "(LSchemaReaderModel$Text;ILSchemaReaderModel$Text;I)I"⟩
def wsX10_fieldLike : List Cond := .code yX10_fieldLike cX10_fieldLike 5 (some .int) :: sr_G
theorem dX10_fieldLike_0 : decode cX10_fieldLike 0 = .ok (.aload_n 0, 1) := by decide +kernel
theorem dX10_fieldLike_1 : decode cX10_fieldLike 1 = .ok (.getfield 105, 3) := by decide +kernel
theorem dX10_fieldLike_4 : decode cX10_fieldLike 4 = .ok (.iload_n 1, 1) := by decide +kernel
theorem dX10_fieldLike_5 : decode cX10_fieldLike 5 = .ok (.iaload, 1) := by decide +kernel
theorem dX10_fieldLike_6 : decode cX10_fieldLike 6 = .ok (.istore 4, 2) := by decide +kernel
theorem dX10_fieldLike_8 : decode cX10_fieldLike 8 = .ok (.iload 4, 2) := by decide +kernel
theorem dX10_fieldLike_10 : decode cX10_fieldLike 10 = .ok (.ifCond .lt 39, 3) := by decide +kernel
theorem dX10_fieldLike_13 : decode cX10_fieldLike 13 = .ok (.aload_n 0, 1) := by decide +kernel
theorem dX10_fieldLike_14 : decode cX10_fieldLike 14 = .ok (.aload_n 0, 1) := by decide +kernel
theorem dX10_fieldLike_15 : decode cX10_fieldLike 15 = .ok (.getfield 142, 3) := by decide +kernel
theorem dX10_fieldLike_18 : decode cX10_fieldLike 18 = .ok (.iload 4, 2) := by decide +kernel
theorem dX10_fieldLike_20 : decode cX10_fieldLike 20 = .ok (.iaload, 1) := by decide +kernel
theorem dX10_fieldLike_21 : decode cX10_fieldLike 21 = .ok (.aload_n 2, 1) := by decide +kernel
theorem dX10_fieldLike_22 : decode cX10_fieldLike 22 = .ok (.aload_n 2, 1) := by decide +kernel
theorem dX10_fieldLike_23 : decode cX10_fieldLike 23 = .ok (.getfield 142, 3) := by decide +kernel
theorem dX10_fieldLike_26 : decode cX10_fieldLike 26 = .ok (.iload_n 3, 1) := by decide +kernel
theorem dX10_fieldLike_27 : decode cX10_fieldLike 27 = .ok (.iaload, 1) := by decide +kernel
theorem dX10_fieldLike_28 : decode cX10_fieldLike 28 = .ok (.invokevirtual 115, 3) := by decide +kernel
theorem dX10_fieldLike_31 : decode cX10_fieldLike 31 = .ok (.ifCond .eq 6, 3) := by decide +kernel
theorem dX10_fieldLike_34 : decode cX10_fieldLike 34 = .ok (.iload 4, 2) := by decide +kernel
theorem dX10_fieldLike_36 : decode cX10_fieldLike 36 = .ok (.ireturn, 1) := by decide +kernel
theorem dX10_fieldLike_37 : decode cX10_fieldLike 37 = .ok (.aload_n 0, 1) := by decide +kernel
theorem dX10_fieldLike_38 : decode cX10_fieldLike 38 = .ok (.getfield 122, 3) := by decide +kernel
theorem dX10_fieldLike_41 : decode cX10_fieldLike 41 = .ok (.iload 4, 2) := by decide +kernel
theorem dX10_fieldLike_43 : decode cX10_fieldLike 43 = .ok (.iaload, 1) := by decide +kernel
theorem dX10_fieldLike_44 : decode cX10_fieldLike 44 = .ok (.istore 4, 2) := by decide +kernel
theorem dX10_fieldLike_46 : decode cX10_fieldLike 46 = .ok (.goto (-38), 3) := by decide +kernel
theorem dX10_fieldLike_49 : decode cX10_fieldLike 49 = .ok (.iconst (-1), 1) := by decide +kernel
theorem dX10_fieldLike_50 : decode cX10_fieldLike 50 = .ok (.ireturn, 1) := by decide +kernel
def rmX10_fieldLike (mc ms : Nat) : Room := { frames := 1, cells := mc, slots := ms, locals := 24 }
theorem g10_51 (c0 : Cond) : GoodIn (c0 :: sr_G) (wsV RX10 51 RX10 yX10_refused wsX10_refused) := sr_V c0 (sr_ins (by decide +kernel))
theorem g10_55 (c0 : Cond) : GoodIn (c0 :: sr_G) (wsV RX10 55 RX10 yX10_addInt wsX10_addInt) := sr_V c0 (sr_ins (by decide +kernel))
theorem g10_59 (c0 : Cond) : GoodIn (c0 :: sr_G) (va_wsS RX10 59 yX10_within wsX10_within) := sr_S c0 (sr_ins (by decide +kernel))
theorem g10_78 (c0 : Cond) : GoodIn (c0 :: sr_G) (wsV RX10 78 RX9 yX9_print wsX9_print) := sr_V c0 (sr_ins (by decide +kernel))
theorem g10_82 (c0 : Cond) : GoodIn (c0 :: sr_G) (va_wsS RX10 82 yX10_isPlace wsX10_isPlace) := sr_S c0 (sr_ins (by decide +kernel))
theorem gn10_115 : (∀ w ∈ ([.instanceMethod yX9_same, .selects RX9 yX9_same yX9_same, .initialized yX9_same.cls, .code yX9_same cX9_same 5 (some .boolean)] : List Cond), w ∈ sr_G) ∧ (.methodLinkNest RX10 115 yX9_same "SchemaReaderModel" : Cond) ∈ sr_N := ⟨sr_ins (by decide +kernel), List.mem_filter.mpr ⟨in_tables_1_7 _ (List.mem_of_getElem? (i := 68) rfl), rfl⟩⟩
