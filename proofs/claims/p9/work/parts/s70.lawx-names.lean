def rmX12_x : Room := { frames := 14, cells := 1, slots := 6, locals := 400 }
def rmX12_ok : Room := { frames := 83, cells := 1, slots := 3, locals := 2516 }
def rmX12_some : Room := { frames := 14, cells := 0, slots := 0, locals := 400 }
def rmX12_none : Room := { frames := 14, cells := 11, slots := 5260, locals := 400 }
abbrev cX12_keep : ByteArray := method_6_code
def yX12_keep : MethodName := ⟨RX12, "keep", "(LSchemaReader;I[J)I"⟩
def wsX12_keep : List Cond := .codeWith yX12_keep cX12_keep 4 (some .int) [(0, 9, 12, 25), (0, 9, 15, 13)] :: sr_G
theorem dX12_keep_0 : decode cX12_keep 0 = .ok (.aload_n 2, 1) := by decide +kernel
theorem dX12_keep_1 : decode cX12_keep 1 = .ok (.iconst 0, 1) := by decide +kernel
theorem dX12_keep_2 : decode cX12_keep 2 = .ok (.aload_n 0, 1) := by decide +kernel
theorem dX12_keep_3 : decode cX12_keep 3 = .ok (.iload_n 1, 1) := by decide +kernel
theorem dX12_keep_4 : decode cX12_keep 4 = .ok (.invokevirtual 27, 3) := by decide +kernel
theorem dX12_keep_7 : decode cX12_keep 7 = .ok (.i2l, 1) := by decide +kernel
theorem dX12_keep_8 : decode cX12_keep 8 = .ok (.lastore, 1) := by decide +kernel
theorem dX12_keep_9 : decode cX12_keep 9 = .ok (.goto 9, 3) := by decide +kernel
theorem dX12_keep_12 : decode cX12_keep 12 = .ok (.astore_n 3, 1) := by decide +kernel
theorem dX12_keep_13 : decode cX12_keep 13 = .ok (.iconst 1, 1) := by decide +kernel
theorem dX12_keep_14 : decode cX12_keep 14 = .ok (.ireturn, 1) := by decide +kernel
theorem dX12_keep_15 : decode cX12_keep 15 = .ok (.astore_n 3, 1) := by decide +kernel
theorem dX12_keep_16 : decode cX12_keep 16 = .ok (.iconst 2, 1) := by decide +kernel
theorem dX12_keep_17 : decode cX12_keep 17 = .ok (.ireturn, 1) := by decide +kernel
theorem dX12_keep_18 : decode cX12_keep 18 = .ok (.iconst 0, 1) := by decide +kernel
theorem dX12_keep_19 : decode cX12_keep 19 = .ok (.ireturn, 1) := by decide +kernel
abbrev cX12_fits : ByteArray := method_7_code
def yX12_fits : MethodName := ⟨RX12, "fits", "(LSchemaReader;II[J)I"⟩
def wsX12_fits : List Cond := .codeWith yX12_fits cX12_fits 5 (some .int) [(0, 17, 20, 25), (0, 17, 24, 13)] :: sr_G
theorem dX12_fits_0 : decode cX12_fits 0 = .ok (.aload_n 3, 1) := by decide +kernel
theorem dX12_fits_1 : decode cX12_fits 1 = .ok (.iconst 0, 1) := by decide +kernel
theorem dX12_fits_2 : decode cX12_fits 2 = .ok (.aload_n 0, 1) := by decide +kernel
theorem dX12_fits_3 : decode cX12_fits 3 = .ok (.iload_n 1, 1) := by decide +kernel
theorem dX12_fits_4 : decode cX12_fits 4 = .ok (.iload_n 2, 1) := by decide +kernel
theorem dX12_fits_5 : decode cX12_fits 5 = .ok (.invokevirtual 30, 3) := by decide +kernel
theorem dX12_fits_8 : decode cX12_fits 8 = .ok (.ifCond .eq 7, 3) := by decide +kernel
theorem dX12_fits_11 : decode cX12_fits 11 = .ok (.lconst 1, 1) := by decide +kernel
theorem dX12_fits_12 : decode cX12_fits 12 = .ok (.goto 4, 3) := by decide +kernel
theorem dX12_fits_15 : decode cX12_fits 15 = .ok (.lconst 0, 1) := by decide +kernel
theorem dX12_fits_16 : decode cX12_fits 16 = .ok (.lastore, 1) := by decide +kernel
theorem dX12_fits_17 : decode cX12_fits 17 = .ok (.goto 11, 3) := by decide +kernel
theorem dX12_fits_20 : decode cX12_fits 20 = .ok (.astore 4, 2) := by decide +kernel
theorem dX12_fits_22 : decode cX12_fits 22 = .ok (.iconst 1, 1) := by decide +kernel
theorem dX12_fits_23 : decode cX12_fits 23 = .ok (.ireturn, 1) := by decide +kernel
theorem dX12_fits_24 : decode cX12_fits 24 = .ok (.astore 4, 2) := by decide +kernel
theorem dX12_fits_26 : decode cX12_fits 26 = .ok (.iconst 2, 1) := by decide +kernel
theorem dX12_fits_27 : decode cX12_fits 27 = .ok (.ireturn, 1) := by decide +kernel
theorem dX12_fits_28 : decode cX12_fits 28 = .ok (.iconst 0, 1) := by decide +kernel
theorem dX12_fits_29 : decode cX12_fits 29 = .ok (.ireturn, 1) := by decide +kernel
abbrev cX12_matches : ByteArray := method_8_code
def yX12_matches : MethodName := ⟨RX12, "matches", "(LSchemaReader;II[J)I"⟩
def wsX12_matches : List Cond := .codeWith yX12_matches cX12_matches 5 (some .int) [(0, 17, 20, 25), (0, 17, 24, 13)] :: sr_G
theorem dX12_matches_0 : decode cX12_matches 0 = .ok (.aload_n 3, 1) := by decide +kernel
theorem dX12_matches_1 : decode cX12_matches 1 = .ok (.iconst 0, 1) := by decide +kernel
theorem dX12_matches_2 : decode cX12_matches 2 = .ok (.aload_n 0, 1) := by decide +kernel
theorem dX12_matches_3 : decode cX12_matches 3 = .ok (.iload_n 1, 1) := by decide +kernel
theorem dX12_matches_4 : decode cX12_matches 4 = .ok (.iload_n 2, 1) := by decide +kernel
theorem dX12_matches_5 : decode cX12_matches 5 = .ok (.invokevirtual 34, 3) := by decide +kernel
theorem dX12_matches_8 : decode cX12_matches 8 = .ok (.ifCond .eq 7, 3) := by decide +kernel
theorem dX12_matches_11 : decode cX12_matches 11 = .ok (.lconst 1, 1) := by decide +kernel
theorem dX12_matches_12 : decode cX12_matches 12 = .ok (.goto 4, 3) := by decide +kernel
theorem dX12_matches_15 : decode cX12_matches 15 = .ok (.lconst 0, 1) := by decide +kernel
theorem dX12_matches_16 : decode cX12_matches 16 = .ok (.lastore, 1) := by decide +kernel
theorem dX12_matches_17 : decode cX12_matches 17 = .ok (.goto 11, 3) := by decide +kernel
theorem dX12_matches_20 : decode cX12_matches 20 = .ok (.astore 4, 2) := by decide +kernel
theorem dX12_matches_22 : decode cX12_matches 22 = .ok (.iconst 1, 1) := by decide +kernel
theorem dX12_matches_23 : decode cX12_matches 23 = .ok (.ireturn, 1) := by decide +kernel
theorem dX12_matches_24 : decode cX12_matches 24 = .ok (.astore 4, 2) := by decide +kernel
theorem dX12_matches_26 : decode cX12_matches 26 = .ok (.iconst 2, 1) := by decide +kernel
theorem dX12_matches_27 : decode cX12_matches 27 = .ok (.ireturn, 1) := by decide +kernel
theorem dX12_matches_28 : decode cX12_matches 28 = .ok (.iconst 0, 1) := by decide +kernel
theorem dX12_matches_29 : decode cX12_matches 29 = .ok (.ireturn, 1) := by decide +kernel
theorem g12_27 (c0 : Cond) : GoodIn (c0 :: sr_G) (wsV RX12 27 RX8 yX8_keep wsX8_keep) := sr_V c0 (sr_ins (by decide +kernel))
theorem g12_30 (c0 : Cond) : GoodIn (c0 :: sr_G) (wsV RX12 30 RX8 yX8_fits wsX8_fits) := sr_V c0 (sr_ins (by decide +kernel))
theorem g12_34 (c0 : Cond) : GoodIn (c0 :: sr_G) (wsV RX12 34 RX8 yX8_matches wsX8_matches) := sr_V c0 (sr_ins (by decide +kernel))
