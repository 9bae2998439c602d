def rmX8_fits_ok : Room := { frames := 82, cells := 1, slots := 3, locals := 2376 }
def rmX8_fits_x : Room := { frames := 12, cells := 1, slots := 6, locals := 300 }
abbrev cX8_fits : ByteArray := prog_1_method_10_code
def yX8_fits : MethodName := ⟨RX8, "fits", "(II)Z"⟩
def wsX8_fits : List Cond := .code yX8_fits cX8_fits 3 (some .boolean) :: sr_G
theorem dX8_fits_0 : decode cX8_fits 0 = .ok (.aload_n 0, 1) := by decide +kernel
theorem dX8_fits_1 : decode cX8_fits 1 = .ok (.iload_n 1, 1) := by decide +kernel
theorem dX8_fits_2 : decode cX8_fits 2 = .ok (.iload_n 2, 1) := by decide +kernel
theorem dX8_fits_3 : decode cX8_fits 3 = .ok (.invokevirtual 111, 3) := by decide +kernel
theorem dX8_fits_6 : decode cX8_fits 6 = .ok (.invokevirtual 115, 3) := by decide +kernel
theorem dX8_fits_9 : decode cX8_fits 9 = .ok (.ireturn, 1) := by decide +kernel
abbrev cX8_matches : ByteArray := prog_1_method_11_code
def yX8_matches : MethodName := ⟨RX8, "matches", "(II)Z"⟩
def wsX8_matches : List Cond := .code yX8_matches cX8_matches 3 (some .boolean) :: sr_G
theorem dX8_matches_0 : decode cX8_matches 0 = .ok (.aload_n 0, 1) := by decide +kernel
theorem dX8_matches_1 : decode cX8_matches 1 = .ok (.iload_n 1, 1) := by decide +kernel
theorem dX8_matches_2 : decode cX8_matches 2 = .ok (.iload_n 2, 1) := by decide +kernel
theorem dX8_matches_3 : decode cX8_matches 3 = .ok (.invokevirtual 111, 3) := by decide +kernel
theorem dX8_matches_6 : decode cX8_matches 6 = .ok (.iconst 0, 1) := by decide +kernel
theorem dX8_matches_7 : decode cX8_matches 7 = .ok (.iconst 0, 1) := by decide +kernel
theorem dX8_matches_8 : decode cX8_matches 8 = .ok (.invokevirtual 121, 3) := by decide +kernel
theorem dX8_matches_11 : decode cX8_matches 11 = .ok (.ireturn, 1) := by decide +kernel
abbrev t2_rR : Nat → Option Value := fun r => some (.ref r)
abbrev cX8_keep : ByteArray := prog_1_method_9_code
def yX8_keep : MethodName := ⟨RX8, "keep", "(I)I"⟩
def wsX8_keep : List Cond := .code yX8_keep cX8_keep 3 (some .int) :: sr_G
theorem dX8_keep_0 : decode cX8_keep 0 = .ok (.iload_n 1, 1) := by decide +kernel
theorem dX8_keep_1 : decode cX8_keep 1 = .ok (.invokestatic 103, 3) := by decide +kernel
theorem dX8_keep_4 : decode cX8_keep 4 = .ok (.ifCond .ne 13, 3) := by decide +kernel
theorem dX8_keep_7 : decode cX8_keep 7 = .ok (.new 92, 3) := by decide +kernel
theorem dX8_keep_10 : decode cX8_keep 10 = .ok (.dup, 1) := by decide +kernel
theorem dX8_keep_11 : decode cX8_keep 11 = .ok (.ldc 107, 2) := by decide +kernel
theorem dX8_keep_13 : decode cX8_keep 13 = .ok (.invokespecial 96, 3) := by decide +kernel
theorem dX8_keep_16 : decode cX8_keep 16 = .ok (.athrow, 1) := by decide +kernel
theorem dX8_keep_17 : decode cX8_keep 17 = .ok (.aload_n 0, 1) := by decide +kernel
theorem dX8_keep_18 : decode cX8_keep 18 = .ok (.getfield 45, 3) := by decide +kernel
theorem dX8_keep_21 : decode cX8_keep 21 = .ok (.ifCond .ne 13, 3) := by decide +kernel
theorem dX8_keep_24 : decode cX8_keep 24 = .ok (.new 60, 3) := by decide +kernel
theorem dX8_keep_27 : decode cX8_keep 27 = .ok (.dup, 1) := by decide +kernel
theorem dX8_keep_28 : decode cX8_keep 28 = .ok (.ldc 109, 2) := by decide +kernel
theorem dX8_keep_30 : decode cX8_keep 30 = .ok (.invokespecial 64, 3) := by decide +kernel
theorem dX8_keep_33 : decode cX8_keep 33 = .ok (.athrow, 1) := by decide +kernel
theorem dX8_keep_34 : decode cX8_keep 34 = .ok (.aload_n 0, 1) := by decide +kernel
theorem dX8_keep_35 : decode cX8_keep 35 = .ok (.getfield 18, 3) := by decide +kernel
theorem dX8_keep_38 : decode cX8_keep 38 = .ok (.iload_n 1, 1) := by decide +kernel
theorem dX8_keep_39 : decode cX8_keep 39 = .ok (.aaload, 1) := by decide +kernel
theorem dX8_keep_40 : decode cX8_keep 40 = .ok (.astore_n 2, 1) := by decide +kernel
theorem dX8_keep_41 : decode cX8_keep 41 = .ok (.aload_n 0, 1) := by decide +kernel
theorem dX8_keep_42 : decode cX8_keep 42 = .ok (.getfield 18, 3) := by decide +kernel
theorem dX8_keep_45 : decode cX8_keep 45 = .ok (.iload_n 1, 1) := by decide +kernel
theorem dX8_keep_46 : decode cX8_keep 46 = .ok (.aload_n 0, 1) := by decide +kernel
theorem dX8_keep_47 : decode cX8_keep 47 = .ok (.getfield 31, 3) := by decide +kernel
theorem dX8_keep_50 : decode cX8_keep 50 = .ok (.aastore, 1) := by decide +kernel
theorem dX8_keep_51 : decode cX8_keep 51 = .ok (.aload_n 0, 1) := by decide +kernel
theorem dX8_keep_52 : decode cX8_keep 52 = .ok (.iconst 0, 1) := by decide +kernel
theorem dX8_keep_53 : decode cX8_keep 53 = .ok (.putfield 45, 3) := by decide +kernel
theorem dX8_keep_56 : decode cX8_keep 56 = .ok (.aload_n 2, 1) := by decide +kernel
theorem dX8_keep_57 : decode cX8_keep 57 = .ok (.ifnonnull 27, 3) := by decide +kernel
theorem dX8_keep_60 : decode cX8_keep 60 = .ok (.aload_n 0, 1) := by decide +kernel
theorem dX8_keep_61 : decode cX8_keep 61 = .ok (.dup, 1) := by decide +kernel
theorem dX8_keep_62 : decode cX8_keep 62 = .ok (.getfield 53, 3) := by decide +kernel
theorem dX8_keep_65 : decode cX8_keep 65 = .ok (.iconst 1, 1) := by decide +kernel
theorem dX8_keep_66 : decode cX8_keep 66 = .ok (.iadd, 1) := by decide +kernel
theorem dX8_keep_67 : decode cX8_keep 67 = .ok (.putfield 53, 3) := by decide +kernel
theorem dX8_keep_70 : decode cX8_keep 70 = .ok (.aload_n 0, 1) := by decide +kernel
theorem dX8_keep_71 : decode cX8_keep 71 = .ok (.new 16, 3) := by decide +kernel
theorem dX8_keep_74 : decode cX8_keep 74 = .ok (.dup, 1) := by decide +kernel
theorem dX8_keep_75 : decode cX8_keep 75 = .ok (.invokespecial 30, 3) := by decide +kernel
theorem dX8_keep_78 : decode cX8_keep 78 = .ok (.putfield 31, 3) := by decide +kernel
theorem dX8_keep_81 : decode cX8_keep 81 = .ok (.goto 8, 3) := by decide +kernel
theorem dX8_keep_84 : decode cX8_keep 84 = .ok (.aload_n 0, 1) := by decide +kernel
theorem dX8_keep_85 : decode cX8_keep 85 = .ok (.aload_n 2, 1) := by decide +kernel
theorem dX8_keep_86 : decode cX8_keep 86 = .ok (.putfield 31, 3) := by decide +kernel
theorem dX8_keep_89 : decode cX8_keep 89 = .ok (.aload_n 0, 1) := by decide +kernel
theorem dX8_keep_90 : decode cX8_keep 90 = .ok (.getfield 53, 3) := by decide +kernel
theorem dX8_keep_93 : decode cX8_keep 93 = .ok (.ireturn, 1) := by decide +kernel
abbrev cX8_pairOf : ByteArray := prog_1_method_12_code
def yX8_pairOf : MethodName := ⟨RX8, "pairOf", "(II)LSchemaReader$Pair;"⟩
def wsX8_pairOf : List Cond := .code yX8_pairOf cX8_pairOf 5 (some (.object "SchemaReader$Pair")) :: sr_G
theorem dX8_pairOf_0 : decode cX8_pairOf 0 = .ok (.iload_n 1, 1) := by decide +kernel
theorem dX8_pairOf_1 : decode cX8_pairOf 1 = .ok (.invokestatic 103, 3) := by decide +kernel
theorem dX8_pairOf_4 : decode cX8_pairOf 4 = .ok (.ifCond .eq 10, 3) := by decide +kernel
theorem dX8_pairOf_7 : decode cX8_pairOf 7 = .ok (.iload_n 2, 1) := by decide +kernel
theorem dX8_pairOf_8 : decode cX8_pairOf 8 = .ok (.invokestatic 103, 3) := by decide +kernel
theorem dX8_pairOf_11 : decode cX8_pairOf 11 = .ok (.ifCond .ne 13, 3) := by decide +kernel
theorem dX8_pairOf_14 : decode cX8_pairOf 14 = .ok (.new 92, 3) := by decide +kernel
theorem dX8_pairOf_17 : decode cX8_pairOf 17 = .ok (.dup, 1) := by decide +kernel
theorem dX8_pairOf_18 : decode cX8_pairOf 18 = .ok (.ldc 107, 2) := by decide +kernel
theorem dX8_pairOf_20 : decode cX8_pairOf 20 = .ok (.invokespecial 96, 3) := by decide +kernel
theorem dX8_pairOf_23 : decode cX8_pairOf 23 = .ok (.athrow, 1) := by decide +kernel
theorem dX8_pairOf_24 : decode cX8_pairOf 24 = .ok (.aload_n 0, 1) := by decide +kernel
theorem dX8_pairOf_25 : decode cX8_pairOf 25 = .ok (.getfield 18, 3) := by decide +kernel
theorem dX8_pairOf_28 : decode cX8_pairOf 28 = .ok (.iload_n 1, 1) := by decide +kernel
theorem dX8_pairOf_29 : decode cX8_pairOf 29 = .ok (.aaload, 1) := by decide +kernel
theorem dX8_pairOf_30 : decode cX8_pairOf 30 = .ok (.astore_n 3, 1) := by decide +kernel
theorem dX8_pairOf_31 : decode cX8_pairOf 31 = .ok (.aload_n 0, 1) := by decide +kernel
theorem dX8_pairOf_32 : decode cX8_pairOf 32 = .ok (.getfield 18, 3) := by decide +kernel
theorem dX8_pairOf_35 : decode cX8_pairOf 35 = .ok (.iload_n 2, 1) := by decide +kernel
theorem dX8_pairOf_36 : decode cX8_pairOf 36 = .ok (.aaload, 1) := by decide +kernel
theorem dX8_pairOf_37 : decode cX8_pairOf 37 = .ok (.astore 4, 2) := by decide +kernel
theorem dX8_pairOf_39 : decode cX8_pairOf 39 = .ok (.aload_n 3, 1) := by decide +kernel
theorem dX8_pairOf_40 : decode cX8_pairOf 40 = .ok (.ifnull 8, 3) := by decide +kernel
theorem dX8_pairOf_43 : decode cX8_pairOf 43 = .ok (.aload 4, 2) := by decide +kernel
theorem dX8_pairOf_45 : decode cX8_pairOf 45 = .ok (.ifnonnull 13, 3) := by decide +kernel
theorem dX8_pairOf_48 : decode cX8_pairOf 48 = .ok (.new 60, 3) := by decide +kernel
theorem dX8_pairOf_51 : decode cX8_pairOf 51 = .ok (.dup, 1) := by decide +kernel
theorem dX8_pairOf_52 : decode cX8_pairOf 52 = .ok (.ldc 125, 2) := by decide +kernel
theorem dX8_pairOf_54 : decode cX8_pairOf 54 = .ok (.invokespecial 64, 3) := by decide +kernel
theorem dX8_pairOf_57 : decode cX8_pairOf 57 = .ok (.athrow, 1) := by decide +kernel
theorem dX8_pairOf_58 : decode cX8_pairOf 58 = .ok (.new 116, 3) := by decide +kernel
theorem dX8_pairOf_61 : decode cX8_pairOf 61 = .ok (.dup, 1) := by decide +kernel
theorem dX8_pairOf_62 : decode cX8_pairOf 62 = .ok (.aload_n 3, 1) := by decide +kernel
theorem dX8_pairOf_63 : decode cX8_pairOf 63 = .ok (.aload 4, 2) := by decide +kernel
theorem dX8_pairOf_65 : decode cX8_pairOf 65 = .ok (.aload_n 0, 1) := by decide +kernel
theorem dX8_pairOf_66 : decode cX8_pairOf 66 = .ok (.getfield 42, 3) := by decide +kernel
theorem dX8_pairOf_69 : decode cX8_pairOf 69 = .ok (.invokespecial 127, 3) := by decide +kernel
theorem dX8_pairOf_72 : decode cX8_pairOf 72 = .ok (.areturn, 1) := by decide +kernel
def rmX8_keep_io : Room := { frames := 10, cells := 1, slots := 6, locals := 200 }
def rmX8_keep_is : Room := { frames := 10, cells := 1, slots := 6, locals := 200 }
def rmX8_keep_some : Room := { frames := 10, cells := 0, slots := 0, locals := 200 }
def rmX8_keep_none : Room := { frames := 10, cells := 11, slots := 5260, locals := 200 }
def rmX8_pairOf_io1 : Room := { frames := 10, cells := 1, slots := 6, locals := 200 }
def rmX8_pairOf_io2 : Room := { frames := 10, cells := 1, slots := 6, locals := 200 }
def rmX8_pairOf_nn : Room := { frames := 10, cells := 1, slots := 6, locals := 200 }
def rmX8_pairOf_ns : Room := { frames := 10, cells := 1, slots := 6, locals := 200 }
def rmX8_pairOf_sn : Room := { frames := 10, cells := 1, slots := 6, locals := 200 }
def rmX8_pairOf_ok : Room := { frames := 10, cells := 1, slots := 3, locals := 200 }
theorem g8_103 (c0 : Cond) : GoodIn (c0 :: sr_G) (va_wsS RX8 103 yX8_isPlace wsX8_isPlace) := sr_S c0 (sr_ins (by decide +kernel))
theorem g8_111 (c0 : Cond) : GoodIn (c0 :: sr_G) (wsV RX8 111 RX8 yX8_pairOf wsX8_pairOf) := sr_V c0 (sr_ins (by decide +kernel))
theorem g8_115 (c0 : Cond) : GoodIn (c0 :: sr_G) (wsV RX8 115 RX5 yX5_isWholeFit1 wsX5_isWholeFit1) := sr_V c0 (sr_ins (by decide +kernel))
theorem g8_121 (c0 : Cond) : GoodIn (c0 :: sr_G) (wsV RX8 121 RX5 yX5_isMatch1 wsX5_isMatch1) := sr_V c0 (sr_ins (by decide +kernel))
theorem gI8_127 : ∀ w ∈ ([.instanceMethod yX5_init, .initialized yX5_init.cls, .code yX5_init cX5_init 4 none, .methodLink RX8 127 yX5_init] : List Cond), w ∈ sr_G := sr_ins (by decide +kernel)
theorem nw8_116 : ∀ w ∈ ([.classLink RX8 116 RX5, .instantiable RX5 3, .initialized RX5] : List Cond), w ∈ sr_G := sr_ins (by decide +kernel)
