abbrev cX10_fits : ByteArray := prog_12_method_24_code
def yX10_fits : MethodName := ⟨RX10, "fits", "(II)Z"⟩
def wsX10_fits : List Cond := .code yX10_fits cX10_fits 3 (some .boolean) :: sr_G
theorem dX10_fits_0 : decode cX10_fits 0 = .ok (.aload_n 0, 1) := by decide +kernel
theorem dX10_fits_1 : decode cX10_fits 1 = .ok (.iload_n 1, 1) := by decide +kernel
theorem dX10_fits_2 : decode cX10_fits 2 = .ok (.iload_n 2, 1) := by decide +kernel
theorem dX10_fits_3 : decode cX10_fits 3 = .ok (.invokevirtual 158, 3) := by decide +kernel
theorem dX10_fits_6 : decode cX10_fits 6 = .ok (.ifCond .eq 22, 3) := by decide +kernel
theorem dX10_fits_9 : decode cX10_fits 9 = .ok (.aload_n 0, 1) := by decide +kernel
theorem dX10_fits_10 : decode cX10_fits 10 = .ok (.aload_n 0, 1) := by decide +kernel
theorem dX10_fits_11 : decode cX10_fits 11 = .ok (.getfield 20, 3) := by decide +kernel
theorem dX10_fits_14 : decode cX10_fits 14 = .ok (.aload_n 0, 1) := by decide +kernel
theorem dX10_fits_15 : decode cX10_fits 15 = .ok (.getfield 23, 3) := by decide +kernel
theorem dX10_fits_18 : decode cX10_fits 18 = .ok (.invokevirtual 161, 3) := by decide +kernel
theorem dX10_fits_21 : decode cX10_fits 21 = .ok (.ifCond .eq 7, 3) := by decide +kernel
theorem dX10_fits_24 : decode cX10_fits 24 = .ok (.iconst 1, 1) := by decide +kernel
theorem dX10_fits_25 : decode cX10_fits 25 = .ok (.goto 4, 3) := by decide +kernel
theorem dX10_fits_28 : decode cX10_fits 28 = .ok (.iconst 0, 1) := by decide +kernel
theorem dX10_fits_29 : decode cX10_fits 29 = .ok (.ireturn, 1) := by decide +kernel
def rmX10_fits (mc ms : Nat) : Room := { frames := 155, cells := mc, slots := ms, locals := 3875 }
theorem g10_161 (c0 : Cond) : GoodIn (c0 :: sr_G) (wsV RX10 161 RX10 yX10_fitsAll wsX10_fitsAll) := sr_V c0 (sr_ins (by decide +kernel))
