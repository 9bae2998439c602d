abbrev cX12_feed : ByteArray := method_3_code
def yX12_feed : MethodName := ⟨RX12, "feed", "(LSchemaReader;IIIII[J)I"⟩
def wsX12_feed : List Cond := .codeWith yX12_feed cX12_feed 8 (some .int) [(0, 16, 19, 13)] :: sr_G
theorem dX12_feed_0 : decode cX12_feed 0 = .ok (.aload 6, 2) := by decide +kernel
theorem dX12_feed_2 : decode cX12_feed 2 = .ok (.iconst 0, 1) := by decide +kernel
theorem dX12_feed_3 : decode cX12_feed 3 = .ok (.aload_n 0, 1) := by decide +kernel
theorem dX12_feed_4 : decode cX12_feed 4 = .ok (.iload_n 1, 1) := by decide +kernel
theorem dX12_feed_5 : decode cX12_feed 5 = .ok (.iload_n 2, 1) := by decide +kernel
theorem dX12_feed_6 : decode cX12_feed 6 = .ok (.iload_n 3, 1) := by decide +kernel
theorem dX12_feed_7 : decode cX12_feed 7 = .ok (.iload 4, 2) := by decide +kernel
theorem dX12_feed_9 : decode cX12_feed 9 = .ok (.iload 5, 2) := by decide +kernel
theorem dX12_feed_11 : decode cX12_feed 11 = .ok (.invokevirtual 7, 3) := by decide +kernel
theorem dX12_feed_14 : decode cX12_feed 14 = .ok (.i2l, 1) := by decide +kernel
theorem dX12_feed_15 : decode cX12_feed 15 = .ok (.lastore, 1) := by decide +kernel
theorem dX12_feed_16 : decode cX12_feed 16 = .ok (.goto 7, 3) := by decide +kernel
theorem dX12_feed_19 : decode cX12_feed 19 = .ok (.astore 7, 2) := by decide +kernel
theorem dX12_feed_21 : decode cX12_feed 21 = .ok (.iconst 1, 1) := by decide +kernel
theorem dX12_feed_22 : decode cX12_feed 22 = .ok (.ireturn, 1) := by decide +kernel
theorem dX12_feed_23 : decode cX12_feed 23 = .ok (.iconst 0, 1) := by decide +kernel
theorem dX12_feed_24 : decode cX12_feed 24 = .ok (.ireturn, 1) := by decide +kernel
def rmX12_feed (mc ms : Nat) : Room := { frames := 9, cells := mc, slots := ms, locals := 145 }
abbrev cX12_end : ByteArray := method_4_code
def yX12_end : MethodName := ⟨RX12, "end", "(LSchemaReader;I)I"⟩
def wsX12_end : List Cond := .codeWith yX12_end cX12_end 3 (some .int) [(0, 5, 8, 19)] :: sr_G
theorem dX12_end_0 : decode cX12_end 0 = .ok (.aload_n 0, 1) := by decide +kernel
theorem dX12_end_1 : decode cX12_end 1 = .ok (.iload_n 1, 1) := by decide +kernel
theorem dX12_end_2 : decode cX12_end 2 = .ok (.invokevirtual 15, 3) := by decide +kernel
theorem dX12_end_5 : decode cX12_end 5 = .ok (.goto 6, 3) := by decide +kernel
theorem dX12_end_8 : decode cX12_end 8 = .ok (.astore_n 2, 1) := by decide +kernel
theorem dX12_end_9 : decode cX12_end 9 = .ok (.iconst 1, 1) := by decide +kernel
theorem dX12_end_10 : decode cX12_end 10 = .ok (.ireturn, 1) := by decide +kernel
theorem dX12_end_11 : decode cX12_end 11 = .ok (.iconst 0, 1) := by decide +kernel
theorem dX12_end_12 : decode cX12_end 12 = .ok (.ireturn, 1) := by decide +kernel
def rmX12_end (mc ms : Nat) : Room := { frames := 9, cells := mc, slots := ms, locals := 141 }
abbrev cX12_letter : ByteArray := method_5_code
def yX12_letter : MethodName := ⟨RX12, "letter", "(LSchemaReader;I[J)I"⟩
def wsX12_letter : List Cond := .codeWith yX12_letter cX12_letter 4 (some .int) [(0, 9, 12, 25)] :: sr_G
theorem dX12_letter_0 : decode cX12_letter 0 = .ok (.aload_n 2, 1) := by decide +kernel
theorem dX12_letter_1 : decode cX12_letter 1 = .ok (.iconst 0, 1) := by decide +kernel
theorem dX12_letter_2 : decode cX12_letter 2 = .ok (.aload_n 0, 1) := by decide +kernel
theorem dX12_letter_3 : decode cX12_letter 3 = .ok (.iload_n 1, 1) := by decide +kernel
theorem dX12_letter_4 : decode cX12_letter 4 = .ok (.invokevirtual 21, 3) := by decide +kernel
theorem dX12_letter_7 : decode cX12_letter 7 = .ok (.i2l, 1) := by decide +kernel
theorem dX12_letter_8 : decode cX12_letter 8 = .ok (.lastore, 1) := by decide +kernel
theorem dX12_letter_9 : decode cX12_letter 9 = .ok (.goto 6, 3) := by decide +kernel
theorem dX12_letter_12 : decode cX12_letter 12 = .ok (.astore_n 3, 1) := by decide +kernel
theorem dX12_letter_13 : decode cX12_letter 13 = .ok (.iconst 1, 1) := by decide +kernel
theorem dX12_letter_14 : decode cX12_letter 14 = .ok (.ireturn, 1) := by decide +kernel
theorem dX12_letter_15 : decode cX12_letter 15 = .ok (.iconst 0, 1) := by decide +kernel
theorem dX12_letter_16 : decode cX12_letter 16 = .ok (.ireturn, 1) := by decide +kernel
def rmX12_letter (mc ms : Nat) : Room := { frames := 9, cells := mc, slots := ms, locals := 141 }
theorem g12_7 (c0 : Cond) : GoodIn (c0 :: sr_G) (wsV RX12 7 RX8 yX8_feed wsX8_feed) := sr_V c0 (sr_ins (by decide +kernel))
theorem g12_15 (c0 : Cond) : GoodIn (c0 :: sr_G) (wsV RX12 15 RX8 yX8_end wsX8_end) := sr_V c0 (sr_ins (by decide +kernel))
theorem g12_21 (c0 : Cond) : GoodIn (c0 :: sr_G) (wsV RX12 21 RX8 yX8_letter wsX8_letter) := sr_V c0 (sr_ins (by decide +kernel))
theorem ck12_13 : (.classLink RX12 13 "java/lang/IllegalStateException" : Cond) ∈ sr_G := sr_ins (ws := [_]) (by decide +kernel) _ List.mem_cons_self
theorem ck12_19 : (.classLink RX12 19 "java/lang/IllegalArgumentException" : Cond) ∈ sr_G := sr_ins (ws := [_]) (by decide +kernel) _ List.mem_cons_self
theorem ck12_25 : (.classLink RX12 25 "java/lang/IndexOutOfBoundsException" : Cond) ∈ sr_G := sr_ins (ws := [_]) (by decide +kernel) _ List.mem_cons_self
