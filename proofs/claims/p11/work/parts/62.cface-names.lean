section
abbrev cX8_place : ByteArray := prog_1_method_5_code
def yX8_place : MethodName := ⟨RX8, "place", "()I"⟩
def wsX8_place : List Cond := .code yX8_place cX8_place 1 (some .int) :: sr_G
theorem dX8_place_0 : decode cX8_place 0 = .ok (.aload_n 0, 1) := by decide +kernel
theorem dX8_place_1 : decode cX8_place 1 = .ok (.getfield 49, 3) := by decide +kernel
theorem dX8_place_4 : decode cX8_place 4 = .ok (.ireturn, 1) := by decide +kernel
def rmX8_place (mc ms : Nat) : Room := { frames := 0, cells := mc, slots := ms, locals := 0 }
abbrev cX8_size : ByteArray := prog_1_method_6_code
def yX8_size : MethodName := ⟨RX8, "size", "()I"⟩
def wsX8_size : List Cond := .code yX8_size cX8_size 1 (some .int) :: sr_G
def nq_cX8_size : Nat := 0xac030400a75900b61f00b42a0d00992d00b42a
theorem kq_cX8_size : qOk cX8_size nq_cX8_size 19 = true := by decide +kernel
theorem dX8_size_0 : decode cX8_size 0 = .ok (.aload_n 0, 1) := qd_42 kq_cX8_size (by decide +kernel)
theorem dX8_size_1 : decode cX8_size 1 = .ok (.getfield 45, 3) := qd_180 kq_cX8_size (by decide +kernel)
theorem dX8_size_4 : decode cX8_size 4 = .ok (.ifCond .eq 13, 3) := qd_153 kq_cX8_size (by decide +kernel)
theorem dX8_size_7 : decode cX8_size 7 = .ok (.aload_n 0, 1) := qd_42 kq_cX8_size (by decide +kernel)
theorem dX8_size_8 : decode cX8_size 8 = .ok (.getfield 31, 3) := qd_180 kq_cX8_size (by decide +kernel)
theorem dX8_size_11 : decode cX8_size 11 = .ok (.invokevirtual 89, 3) := qd_182 kq_cX8_size (by decide +kernel)
theorem dX8_size_14 : decode cX8_size 14 = .ok (.goto 4, 3) := qd_167 kq_cX8_size (by decide +kernel)
theorem dX8_size_17 : decode cX8_size 17 = .ok (.iconst 0, 1) := qd_3 kq_cX8_size (by decide +kernel)
theorem dX8_size_18 : decode cX8_size 18 = .ok (.ireturn, 1) := qd_172 kq_cX8_size (by decide +kernel)
def rmX8_size (mc ms : Nat) : Room := { frames := 1, cells := mc, slots := ms, locals := 20 }
abbrev cX8_print : ByteArray := prog_1_method_8_code
def yX8_print : MethodName := ⟨RX8, "print", "()J"⟩
def wsX8_print : List Cond := .code yX8_print cX8_print 5 (some .long) :: sr_G
def nq_cX8_print : Nat := 0xad1fd3ffa701038440832f04151600b42a7d08101f04367eff00118883856100b61d1f00b42a1f2800a25900b61f00b42a1d3e0340650014ad0905009a2d00b42a
theorem kq_cX8_print : qOk cX8_print nq_cX8_print 65 = true := by decide +kernel
theorem dX8_print_0 : decode cX8_print 0 = .ok (.aload_n 0, 1) := qd_42 kq_cX8_print (by decide +kernel)
theorem dX8_print_1 : decode cX8_print 1 = .ok (.getfield 45, 3) := qd_180 kq_cX8_print (by decide +kernel)
theorem dX8_print_4 : decode cX8_print 4 = .ok (.ifCond .ne 5, 3) := qd_154 kq_cX8_print (by decide +kernel)
theorem dX8_print_7 : decode cX8_print 7 = .ok (.lconst 0, 1) := qd_9 kq_cX8_print (by decide +kernel)
theorem dX8_print_8 : decode cX8_print 8 = .ok (.lreturn, 1) := qd_173 kq_cX8_print (by decide +kernel)
theorem dX8_print_9 : decode cX8_print 9 = .ok (.ldc2_w 101, 3) := qd_20 kq_cX8_print (by decide +kernel)
theorem dX8_print_12 : decode cX8_print 12 = .ok (.lstore_n 1, 1) := qd_64 kq_cX8_print (by decide +kernel)
theorem dX8_print_13 : decode cX8_print 13 = .ok (.iconst 0, 1) := qd_3 kq_cX8_print (by decide +kernel)
theorem dX8_print_14 : decode cX8_print 14 = .ok (.istore_n 3, 1) := qd_62 kq_cX8_print (by decide +kernel)
theorem dX8_print_15 : decode cX8_print 15 = .ok (.iload_n 3, 1) := qd_29 kq_cX8_print (by decide +kernel)
theorem dX8_print_16 : decode cX8_print 16 = .ok (.aload_n 0, 1) := qd_42 kq_cX8_print (by decide +kernel)
theorem dX8_print_17 : decode cX8_print 17 = .ok (.getfield 31, 3) := qd_180 kq_cX8_print (by decide +kernel)
theorem dX8_print_20 : decode cX8_print 20 = .ok (.invokevirtual 89, 3) := qd_182 kq_cX8_print (by decide +kernel)
theorem dX8_print_23 : decode cX8_print 23 = .ok (.if_icmp .ge 40, 3) := qd_162 kq_cX8_print (by decide +kernel)
theorem dX8_print_26 : decode cX8_print 26 = .ok (.lload_n 1, 1) := qd_31 kq_cX8_print (by decide +kernel)
theorem dX8_print_27 : decode cX8_print 27 = .ok (.aload_n 0, 1) := qd_42 kq_cX8_print (by decide +kernel)
theorem dX8_print_28 : decode cX8_print 28 = .ok (.getfield 31, 3) := qd_180 kq_cX8_print (by decide +kernel)
theorem dX8_print_31 : decode cX8_print 31 = .ok (.iload_n 3, 1) := qd_29 kq_cX8_print (by decide +kernel)
theorem dX8_print_32 : decode cX8_print 32 = .ok (.invokevirtual 97, 3) := qd_182 kq_cX8_print (by decide +kernel)
theorem dX8_print_35 : decode cX8_print 35 = .ok (.i2l, 1) := qd_133 kq_cX8_print (by decide +kernel)
theorem dX8_print_36 : decode cX8_print 36 = .ok (.lxor, 1) := qd_131 kq_cX8_print (by decide +kernel)
theorem dX8_print_37 : decode cX8_print 37 = .ok (.l2i, 1) := qd_136 kq_cX8_print (by decide +kernel)
theorem dX8_print_38 : decode cX8_print 38 = .ok (.sipush 255, 3) := qd_17 kq_cX8_print (by decide +kernel)
theorem dX8_print_41 : decode cX8_print 41 = .ok (.iand, 1) := qd_126 kq_cX8_print (by decide +kernel)
theorem dX8_print_42 : decode cX8_print 42 = .ok (.istore 4, 2) := qd_54 kq_cX8_print (by decide +kernel)
theorem dX8_print_44 : decode cX8_print 44 = .ok (.lload_n 1, 1) := qd_31 kq_cX8_print (by decide +kernel)
theorem dX8_print_45 : decode cX8_print 45 = .ok (.bipush 8, 2) := qd_16 kq_cX8_print (by decide +kernel)
theorem dX8_print_47 : decode cX8_print 47 = .ok (.lushr, 1) := qd_125 kq_cX8_print (by decide +kernel)
theorem dX8_print_48 : decode cX8_print 48 = .ok (.aload_n 0, 1) := qd_42 kq_cX8_print (by decide +kernel)
theorem dX8_print_49 : decode cX8_print 49 = .ok (.getfield 22, 3) := qd_180 kq_cX8_print (by decide +kernel)
theorem dX8_print_52 : decode cX8_print 52 = .ok (.iload 4, 2) := qd_21 kq_cX8_print (by decide +kernel)
theorem dX8_print_54 : decode cX8_print 54 = .ok (.laload, 1) := qd_47 kq_cX8_print (by decide +kernel)
theorem dX8_print_55 : decode cX8_print 55 = .ok (.lxor, 1) := qd_131 kq_cX8_print (by decide +kernel)
theorem dX8_print_56 : decode cX8_print 56 = .ok (.lstore_n 1, 1) := qd_64 kq_cX8_print (by decide +kernel)
theorem dX8_print_57 : decode cX8_print 57 = .ok (.iinc 3 1, 3) := qd_132 kq_cX8_print (by decide +kernel)
theorem dX8_print_60 : decode cX8_print 60 = .ok (.goto (-45), 3) := qd_167 kq_cX8_print (by decide +kernel)
theorem dX8_print_63 : decode cX8_print 63 = .ok (.lload_n 1, 1) := qd_31 kq_cX8_print (by decide +kernel)
theorem dX8_print_64 : decode cX8_print 64 = .ok (.lreturn, 1) := qd_173 kq_cX8_print (by decide +kernel)
def rmX8_print (mc ms : Nat) : Room := { frames := 1, cells := mc, slots := ms, locals := 21 }
abbrev cX8_schema : ByteArray := prog_1_method_4_code
def yX8_schema : MethodName := ⟨RX8, "schema", "()I"⟩
def wsX8_schema : List Cond := .code yX8_schema cX8_schema 3 (some .int) :: sr_G
def nq_cX8_schema : Nat := 0xac1c3100b55700b62b2a2d00b5030400a70407009a1c2a3d5400b62b4c5100b72600b42a1f00b42a0a00b42a594f00bb
theorem kq_cX8_schema : qOk cX8_schema nq_cX8_schema 48 = true := by decide +kernel
theorem dX8_schema_0 : decode cX8_schema 0 = .ok (.new 79, 3) := qd_187 kq_cX8_schema (by decide +kernel)
theorem dX8_schema_3 : decode cX8_schema 3 = .ok (.dup, 1) := qd_89 kq_cX8_schema (by decide +kernel)
theorem dX8_schema_4 : decode cX8_schema 4 = .ok (.aload_n 0, 1) := qd_42 kq_cX8_schema (by decide +kernel)
theorem dX8_schema_5 : decode cX8_schema 5 = .ok (.getfield 10, 3) := qd_180 kq_cX8_schema (by decide +kernel)
theorem dX8_schema_8 : decode cX8_schema 8 = .ok (.aload_n 0, 1) := qd_42 kq_cX8_schema (by decide +kernel)
theorem dX8_schema_9 : decode cX8_schema 9 = .ok (.getfield 31, 3) := qd_180 kq_cX8_schema (by decide +kernel)
theorem dX8_schema_12 : decode cX8_schema 12 = .ok (.aload_n 0, 1) := qd_42 kq_cX8_schema (by decide +kernel)
theorem dX8_schema_13 : decode cX8_schema 13 = .ok (.getfield 38, 3) := qd_180 kq_cX8_schema (by decide +kernel)
theorem dX8_schema_16 : decode cX8_schema 16 = .ok (.invokespecial 81, 3) := qd_183 kq_cX8_schema (by decide +kernel)
theorem dX8_schema_19 : decode cX8_schema 19 = .ok (.astore_n 1, 1) := qd_76 kq_cX8_schema (by decide +kernel)
theorem dX8_schema_20 : decode cX8_schema 20 = .ok (.aload_n 1, 1) := qd_43 kq_cX8_schema (by decide +kernel)
theorem dX8_schema_21 : decode cX8_schema 21 = .ok (.invokevirtual 84, 3) := qd_182 kq_cX8_schema (by decide +kernel)
theorem dX8_schema_24 : decode cX8_schema 24 = .ok (.istore_n 2, 1) := qd_61 kq_cX8_schema (by decide +kernel)
theorem dX8_schema_25 : decode cX8_schema 25 = .ok (.aload_n 0, 1) := qd_42 kq_cX8_schema (by decide +kernel)
theorem dX8_schema_26 : decode cX8_schema 26 = .ok (.iload_n 2, 1) := qd_28 kq_cX8_schema (by decide +kernel)
theorem dX8_schema_27 : decode cX8_schema 27 = .ok (.ifCond .ne 7, 3) := qd_154 kq_cX8_schema (by decide +kernel)
theorem dX8_schema_30 : decode cX8_schema 30 = .ok (.iconst 1, 1) := qd_4 kq_cX8_schema (by decide +kernel)
theorem dX8_schema_31 : decode cX8_schema 31 = .ok (.goto 4, 3) := qd_167 kq_cX8_schema (by decide +kernel)
theorem dX8_schema_34 : decode cX8_schema 34 = .ok (.iconst 0, 1) := qd_3 kq_cX8_schema (by decide +kernel)
theorem dX8_schema_35 : decode cX8_schema 35 = .ok (.putfield 45, 3) := qd_181 kq_cX8_schema (by decide +kernel)
theorem dX8_schema_38 : decode cX8_schema 38 = .ok (.aload_n 0, 1) := qd_42 kq_cX8_schema (by decide +kernel)
theorem dX8_schema_39 : decode cX8_schema 39 = .ok (.aload_n 1, 1) := qd_43 kq_cX8_schema (by decide +kernel)
theorem dX8_schema_40 : decode cX8_schema 40 = .ok (.invokevirtual 87, 3) := qd_182 kq_cX8_schema (by decide +kernel)
theorem dX8_schema_43 : decode cX8_schema 43 = .ok (.putfield 49, 3) := qd_181 kq_cX8_schema (by decide +kernel)
theorem dX8_schema_46 : decode cX8_schema 46 = .ok (.iload_n 2, 1) := qd_28 kq_cX8_schema (by decide +kernel)
theorem dX8_schema_47 : decode cX8_schema 47 = .ok (.ireturn, 1) := qd_172 kq_cX8_schema (by decide +kernel)
def rmX8_schema (mc ms : Nat) : Room := { frames := 81, cells := mc, slots := ms, locals := 2094 }
abbrev cX8_feed : ByteArray := prog_1_method_2_code
def yX8_feed : MethodName := ⟨RX8, "feed", "(IIIII)I"⟩
def wsX8_feed : List Cond := .code yX8_feed cX8_feed 6 (some .int) :: sr_G
def nq_cX8_feed : Nat := 0xac3800b60a00b42a4300b605150a00b42a4300b604150a00b42a4300b61d0a00b42a4300b61c0a00b42a4300b61b0a00b42abf4000b73e12593c00bb0d00a40010116014103800b60a00b42a
theorem kq_cX8_feed : qOk cX8_feed nq_cX8_feed 76 = true := by decide +kernel
theorem dX8_feed_0 : decode cX8_feed 0 = .ok (.aload_n 0, 1) := qd_42 kq_cX8_feed (by decide +kernel)
theorem dX8_feed_1 : decode cX8_feed 1 = .ok (.getfield 10, 3) := qd_180 kq_cX8_feed (by decide +kernel)
theorem dX8_feed_4 : decode cX8_feed 4 = .ok (.invokevirtual 56, 3) := qd_182 kq_cX8_feed (by decide +kernel)
theorem dX8_feed_7 : decode cX8_feed 7 = .ok (.bipush 20, 2) := qd_16 kq_cX8_feed (by decide +kernel)
theorem dX8_feed_9 : decode cX8_feed 9 = .ok (.iadd, 1) := qd_96 kq_cX8_feed (by decide +kernel)
theorem dX8_feed_10 : decode cX8_feed 10 = .ok (.sipush 4096, 3) := qd_17 kq_cX8_feed (by decide +kernel)
theorem dX8_feed_13 : decode cX8_feed 13 = .ok (.if_icmp .le 13, 3) := qd_164 kq_cX8_feed (by decide +kernel)
theorem dX8_feed_16 : decode cX8_feed 16 = .ok (.new 60, 3) := qd_187 kq_cX8_feed (by decide +kernel)
theorem dX8_feed_19 : decode cX8_feed 19 = .ok (.dup, 1) := qd_89 kq_cX8_feed (by decide +kernel)
theorem dX8_feed_20 : decode cX8_feed 20 = .ok (.ldc 62, 2) := qd_18 kq_cX8_feed (by decide +kernel)
theorem dX8_feed_22 : decode cX8_feed 22 = .ok (.invokespecial 64, 3) := qd_183 kq_cX8_feed (by decide +kernel)
theorem dX8_feed_25 : decode cX8_feed 25 = .ok (.athrow, 1) := qd_191 kq_cX8_feed (by decide +kernel)
theorem dX8_feed_26 : decode cX8_feed 26 = .ok (.aload_n 0, 1) := qd_42 kq_cX8_feed (by decide +kernel)
theorem dX8_feed_27 : decode cX8_feed 27 = .ok (.getfield 10, 3) := qd_180 kq_cX8_feed (by decide +kernel)
theorem dX8_feed_30 : decode cX8_feed 30 = .ok (.iload_n 1, 1) := qd_27 kq_cX8_feed (by decide +kernel)
theorem dX8_feed_31 : decode cX8_feed 31 = .ok (.invokevirtual 67, 3) := qd_182 kq_cX8_feed (by decide +kernel)
theorem dX8_feed_34 : decode cX8_feed 34 = .ok (.aload_n 0, 1) := qd_42 kq_cX8_feed (by decide +kernel)
theorem dX8_feed_35 : decode cX8_feed 35 = .ok (.getfield 10, 3) := qd_180 kq_cX8_feed (by decide +kernel)
theorem dX8_feed_38 : decode cX8_feed 38 = .ok (.iload_n 2, 1) := qd_28 kq_cX8_feed (by decide +kernel)
theorem dX8_feed_39 : decode cX8_feed 39 = .ok (.invokevirtual 67, 3) := qd_182 kq_cX8_feed (by decide +kernel)
theorem dX8_feed_42 : decode cX8_feed 42 = .ok (.aload_n 0, 1) := qd_42 kq_cX8_feed (by decide +kernel)
theorem dX8_feed_43 : decode cX8_feed 43 = .ok (.getfield 10, 3) := qd_180 kq_cX8_feed (by decide +kernel)
theorem dX8_feed_46 : decode cX8_feed 46 = .ok (.iload_n 3, 1) := qd_29 kq_cX8_feed (by decide +kernel)
theorem dX8_feed_47 : decode cX8_feed 47 = .ok (.invokevirtual 67, 3) := qd_182 kq_cX8_feed (by decide +kernel)
theorem dX8_feed_50 : decode cX8_feed 50 = .ok (.aload_n 0, 1) := qd_42 kq_cX8_feed (by decide +kernel)
theorem dX8_feed_51 : decode cX8_feed 51 = .ok (.getfield 10, 3) := qd_180 kq_cX8_feed (by decide +kernel)
theorem dX8_feed_54 : decode cX8_feed 54 = .ok (.iload 4, 2) := qd_21 kq_cX8_feed (by decide +kernel)
theorem dX8_feed_56 : decode cX8_feed 56 = .ok (.invokevirtual 67, 3) := qd_182 kq_cX8_feed (by decide +kernel)
theorem dX8_feed_59 : decode cX8_feed 59 = .ok (.aload_n 0, 1) := qd_42 kq_cX8_feed (by decide +kernel)
theorem dX8_feed_60 : decode cX8_feed 60 = .ok (.getfield 10, 3) := qd_180 kq_cX8_feed (by decide +kernel)
theorem dX8_feed_63 : decode cX8_feed 63 = .ok (.iload 5, 2) := qd_21 kq_cX8_feed (by decide +kernel)
theorem dX8_feed_65 : decode cX8_feed 65 = .ok (.invokevirtual 67, 3) := qd_182 kq_cX8_feed (by decide +kernel)
theorem dX8_feed_68 : decode cX8_feed 68 = .ok (.aload_n 0, 1) := qd_42 kq_cX8_feed (by decide +kernel)
theorem dX8_feed_69 : decode cX8_feed 69 = .ok (.getfield 10, 3) := qd_180 kq_cX8_feed (by decide +kernel)
theorem dX8_feed_72 : decode cX8_feed 72 = .ok (.invokevirtual 56, 3) := qd_182 kq_cX8_feed (by decide +kernel)
theorem dX8_feed_75 : decode cX8_feed 75 = .ok (.ireturn, 1) := qd_172 kq_cX8_feed (by decide +kernel)
def rmX8_feed (mc ms : Nat) : Room := { frames := 8, cells := mc, slots := ms, locals := 120 }
abbrev cX8_end : ByteArray := prog_1_method_3_code
def yX8_end : MethodName := ⟨RX8, "end", "(I)V"⟩
def wsX8_end : List Cond := .code yX8_end cX8_end 2 none :: sr_G
def nq_cX8_end : Nat := 0xb14c00b61b0a00b42abf4b00b74912594700bb0d00a43800b60a00b42a1b0e009b1b
theorem kq_cX8_end : qOk cX8_end nq_cX8_end 34 = true := by decide +kernel
theorem dX8_end_0 : decode cX8_end 0 = .ok (.iload_n 1, 1) := qd_27 kq_cX8_end (by decide +kernel)
theorem dX8_end_1 : decode cX8_end 1 = .ok (.ifCond .lt 14, 3) := qd_155 kq_cX8_end (by decide +kernel)
theorem dX8_end_4 : decode cX8_end 4 = .ok (.iload_n 1, 1) := qd_27 kq_cX8_end (by decide +kernel)
theorem dX8_end_5 : decode cX8_end 5 = .ok (.aload_n 0, 1) := qd_42 kq_cX8_end (by decide +kernel)
theorem dX8_end_6 : decode cX8_end 6 = .ok (.getfield 10, 3) := qd_180 kq_cX8_end (by decide +kernel)
theorem dX8_end_9 : decode cX8_end 9 = .ok (.invokevirtual 56, 3) := qd_182 kq_cX8_end (by decide +kernel)
theorem dX8_end_12 : decode cX8_end 12 = .ok (.if_icmp .le 13, 3) := qd_164 kq_cX8_end (by decide +kernel)
theorem dX8_end_15 : decode cX8_end 15 = .ok (.new 71, 3) := qd_187 kq_cX8_end (by decide +kernel)
theorem dX8_end_18 : decode cX8_end 18 = .ok (.dup, 1) := qd_89 kq_cX8_end (by decide +kernel)
theorem dX8_end_19 : decode cX8_end 19 = .ok (.ldc 73, 2) := qd_18 kq_cX8_end (by decide +kernel)
theorem dX8_end_21 : decode cX8_end 21 = .ok (.invokespecial 75, 3) := qd_183 kq_cX8_end (by decide +kernel)
theorem dX8_end_24 : decode cX8_end 24 = .ok (.athrow, 1) := qd_191 kq_cX8_end (by decide +kernel)
theorem dX8_end_25 : decode cX8_end 25 = .ok (.aload_n 0, 1) := qd_42 kq_cX8_end (by decide +kernel)
theorem dX8_end_26 : decode cX8_end 26 = .ok (.getfield 10, 3) := qd_180 kq_cX8_end (by decide +kernel)
theorem dX8_end_29 : decode cX8_end 29 = .ok (.iload_n 1, 1) := qd_27 kq_cX8_end (by decide +kernel)
theorem dX8_end_30 : decode cX8_end 30 = .ok (.invokevirtual 76, 3) := qd_182 kq_cX8_end (by decide +kernel)
theorem dX8_end_33 : decode cX8_end 33 = .ok (.return_, 1) := qd_177 kq_cX8_end (by decide +kernel)
def rmX8_end (mc ms : Nat) : Room := { frames := 8, cells := mc, slots := ms, locals := 120 }
abbrev cX8_letter : ByteArray := prog_1_method_7_code
def yX8_letter : MethodName := ⟨RX8, "letter", "(I)I"⟩
def wsX8_letter : List Cond := .code yX8_letter cX8_letter 2 (some .int) :: sr_G
def nq_cX8_letter : Nat := 0xac6100b61b1f00b42abf6000b75e12595c00bb0d00a15900b61f00b42a1b0e009b1b1200992d00b42a
theorem kq_cX8_letter : qOk cX8_letter nq_cX8_letter 41 = true := by decide +kernel
theorem dX8_letter_0 : decode cX8_letter 0 = .ok (.aload_n 0, 1) := qd_42 kq_cX8_letter (by decide +kernel)
theorem dX8_letter_1 : decode cX8_letter 1 = .ok (.getfield 45, 3) := qd_180 kq_cX8_letter (by decide +kernel)
theorem dX8_letter_4 : decode cX8_letter 4 = .ok (.ifCond .eq 18, 3) := qd_153 kq_cX8_letter (by decide +kernel)
theorem dX8_letter_7 : decode cX8_letter 7 = .ok (.iload_n 1, 1) := qd_27 kq_cX8_letter (by decide +kernel)
theorem dX8_letter_8 : decode cX8_letter 8 = .ok (.ifCond .lt 14, 3) := qd_155 kq_cX8_letter (by decide +kernel)
theorem dX8_letter_11 : decode cX8_letter 11 = .ok (.iload_n 1, 1) := qd_27 kq_cX8_letter (by decide +kernel)
theorem dX8_letter_12 : decode cX8_letter 12 = .ok (.aload_n 0, 1) := qd_42 kq_cX8_letter (by decide +kernel)
theorem dX8_letter_13 : decode cX8_letter 13 = .ok (.getfield 31, 3) := qd_180 kq_cX8_letter (by decide +kernel)
theorem dX8_letter_16 : decode cX8_letter 16 = .ok (.invokevirtual 89, 3) := qd_182 kq_cX8_letter (by decide +kernel)
theorem dX8_letter_19 : decode cX8_letter 19 = .ok (.if_icmp .lt 13, 3) := qd_161 kq_cX8_letter (by decide +kernel)
theorem dX8_letter_22 : decode cX8_letter 22 = .ok (.new 92, 3) := qd_187 kq_cX8_letter (by decide +kernel)
theorem dX8_letter_25 : decode cX8_letter 25 = .ok (.dup, 1) := qd_89 kq_cX8_letter (by decide +kernel)
theorem dX8_letter_26 : decode cX8_letter 26 = .ok (.ldc 94, 2) := qd_18 kq_cX8_letter (by decide +kernel)
theorem dX8_letter_28 : decode cX8_letter 28 = .ok (.invokespecial 96, 3) := qd_183 kq_cX8_letter (by decide +kernel)
theorem dX8_letter_31 : decode cX8_letter 31 = .ok (.athrow, 1) := qd_191 kq_cX8_letter (by decide +kernel)
theorem dX8_letter_32 : decode cX8_letter 32 = .ok (.aload_n 0, 1) := qd_42 kq_cX8_letter (by decide +kernel)
theorem dX8_letter_33 : decode cX8_letter 33 = .ok (.getfield 31, 3) := qd_180 kq_cX8_letter (by decide +kernel)
theorem dX8_letter_36 : decode cX8_letter 36 = .ok (.iload_n 1, 1) := qd_27 kq_cX8_letter (by decide +kernel)
theorem dX8_letter_37 : decode cX8_letter 37 = .ok (.invokevirtual 97, 3) := qd_182 kq_cX8_letter (by decide +kernel)
theorem dX8_letter_40 : decode cX8_letter 40 = .ok (.ireturn, 1) := qd_172 kq_cX8_letter (by decide +kernel)
def rmX8_letter (mc ms : Nat) : Room := { frames := 8, cells := mc, slots := ms, locals := 120 }
theorem g8_89 (c0 : Cond) : GoodIn (c0 :: sr_G) (wsV RX8 89 RX6 yX6_letterCount wsX6_letterCount) := sr_V c0 (sr_insI [(4, 8), (4, 9), (4, 10), (1, 4), (4, 11)] (by decide +kernel))
theorem g8_97 (c0 : Cond) : GoodIn (c0 :: sr_G) (wsV RX8 97 RX6 yX6_letterAt wsX6_letterAt) := sr_V c0 (sr_insI [(4, 16), (2, 202), (2, 203), (1, 4), (2, 204)] (by decide +kernel))
theorem g8_84 (c0 : Cond) : GoodIn (c0 :: sr_G) (wsV RX8 84 RX4 yX4_read wsX4_read) := sr_V c0 (sr_insI [(1, 208), (1, 209), (1, 210), (1, 13), (1, 211)] (by decide +kernel))
theorem g8_87 (c0 : Cond) : GoodIn (c0 :: sr_G) (wsV RX8 87 RX4 yX4_faultPlace wsX4_faultPlace) := sr_V c0 (sr_insI [(3, 236), (3, 237), (3, 238), (1, 13), (3, 239)] (by decide +kernel))
theorem g8_56 (c0 : Cond) : GoodIn (c0 :: sr_G) (wsV RX8 56 RX7 yX7_length wsX7_length) := sr_V c0 (sr_insI [(4, 25), (4, 26), (4, 27), (1, 2), (4, 28)] (by decide +kernel))
theorem g8_67 (c0 : Cond) : GoodIn (c0 :: sr_G) (wsV RX8 67 RX7 yX7_append wsX7_append) := sr_V c0 (sr_insI [(4, 96), (4, 97), (4, 98), (1, 2), (4, 99)] (by decide +kernel))
theorem g8_76 (c0 : Cond) : GoodIn (c0 :: sr_G) (wsV RX8 76 RX7 yX7_cut wsX7_cut) := sr_V c0 (sr_insI [(4, 124), (4, 125), (4, 126), (1, 2), (4, 127)] (by decide +kernel))
theorem gI8_81 : ∀ w ∈ ([.instanceMethod yX4_init, .initialized yX4_init.cls, .code yX4_init cX4_init 4 none, .methodLink RX8 81 yX4_init] : List Cond), w ∈ sr_G := sr_ins (by decide +kernel)
theorem nw8_79 : ∀ w ∈ ([.classLink RX8 79 RX4, .instantiable RX4 5, .initialized RX4] : List Cond), w ∈ sr_G := sr_ins (by decide +kernel)
theorem thr_w8_60 {c0 : Cond} {args : Array Value} {s : State} (hts : ∀ w ∈ c0 :: sr_G, w.before args s = true) : ∀ a' U, s.WarmedH U.vm → (Cond.classLink RX8 60 "java/lang/IllegalStateException").before a' U = true ∧ (Cond.instantiable "java/lang/IllegalStateException" 6).before a' U = true ∧ (Cond.initialized "java/lang/IllegalStateException").before a' U = true :=
  fun a' U hW => ⟨sr_pay hts (sr_ins (ws := [.classLink RX8 60 "java/lang/IllegalStateException"]) (by decide +kernel) _ List.mem_cons_self) a' U hW, sr_pay hts (sr_ins (ws := [.instantiable "java/lang/IllegalStateException" 6]) (by decide +kernel) _ List.mem_cons_self) a' U hW, sr_pay hts (sr_ins (ws := [.initialized "java/lang/IllegalStateException"]) (by decide +kernel) _ List.mem_cons_self) a' U hW⟩
theorem thr_all8_64 : (Bundle.ownAtoms RX8 64 "java/lang/IllegalStateException" thr_up).all (fun a => (decide (a = .isRef (.static "java/lang/Throwable" "UNASSIGNED_STACK" "[Ljava/lang/StackTraceElement;")) || decide (a = .isRef (.static "java/lang/Throwable" "SUPPRESSED_SENTINEL" "Ljava/util/List;"))) || (decide (a ∈ sr_Y) || decide (a ∈ sr_X) || (decide (a ∈ lw_tbl) && goodWord a))) = true := by decide +kernel
theorem thr_at8_64 {c0 : Cond} {args : Array Value} {s : State} (hts : ∀ w ∈ c0 :: sr_G, w.before args s = true) (hX : ∀ a ∈ sr_X, a.before #[] s = true) : ∀ a ∈ Bundle.ownAtoms RX8 64 "java/lang/IllegalStateException" thr_up, (a = .isRef (.static "java/lang/Throwable" "UNASSIGNED_STACK" "[Ljava/lang/StackTraceElement;") ∨ a = .isRef (.static "java/lang/Throwable" "SUPPRESSED_SENTINEL" "Ljava/util/List;")) ∨ a ∈ sr_Y ∨ ∀ a' U, s.WarmedH U.vm → a.before a' U = true := by
  intro a ha
  have h1 := List.all_eq_true.mp thr_all8_64 a ha
  simp only [Bool.or_eq_true, Bool.and_eq_true, decide_eq_true_eq] at h1
  rcases h1 with h1 | (h1 | h1) | h1
  · exact Or.inl h1
  · exact Or.inr (Or.inl h1)
  · exact Or.inr (Or.inr (fun a' U hW => sr_keep (sr_Xok a h1) hW (hX a h1)))
  · exact Or.inr (Or.inr (sr_pay hts (sr_in h1.1 h1.2)))
theorem thr_w8_71 {c0 : Cond} {args : Array Value} {s : State} (hts : ∀ w ∈ c0 :: sr_G, w.before args s = true) : ∀ a' U, s.WarmedH U.vm → (Cond.classLink RX8 71 "java/lang/IllegalArgumentException").before a' U = true ∧ (Cond.instantiable "java/lang/IllegalArgumentException" 6).before a' U = true ∧ (Cond.initialized "java/lang/IllegalArgumentException").before a' U = true :=
  fun a' U hW => ⟨sr_pay hts (sr_ins (ws := [.classLink RX8 71 "java/lang/IllegalArgumentException"]) (by decide +kernel) _ List.mem_cons_self) a' U hW, sr_pay hts (sr_ins (ws := [.instantiable "java/lang/IllegalArgumentException" 6]) (by decide +kernel) _ List.mem_cons_self) a' U hW, sr_pay hts (sr_ins (ws := [.initialized "java/lang/IllegalArgumentException"]) (by decide +kernel) _ List.mem_cons_self) a' U hW⟩
theorem thr_all8_75 : (Bundle.ownAtoms RX8 75 "java/lang/IllegalArgumentException" thr_up).all (fun a => (decide (a = .isRef (.static "java/lang/Throwable" "UNASSIGNED_STACK" "[Ljava/lang/StackTraceElement;")) || decide (a = .isRef (.static "java/lang/Throwable" "SUPPRESSED_SENTINEL" "Ljava/util/List;"))) || (decide (a ∈ sr_Y) || decide (a ∈ sr_X) || (decide (a ∈ lw_tbl) && goodWord a))) = true := by decide +kernel
theorem thr_at8_75 {c0 : Cond} {args : Array Value} {s : State} (hts : ∀ w ∈ c0 :: sr_G, w.before args s = true) (hX : ∀ a ∈ sr_X, a.before #[] s = true) : ∀ a ∈ Bundle.ownAtoms RX8 75 "java/lang/IllegalArgumentException" thr_up, (a = .isRef (.static "java/lang/Throwable" "UNASSIGNED_STACK" "[Ljava/lang/StackTraceElement;") ∨ a = .isRef (.static "java/lang/Throwable" "SUPPRESSED_SENTINEL" "Ljava/util/List;")) ∨ a ∈ sr_Y ∨ ∀ a' U, s.WarmedH U.vm → a.before a' U = true := by
  intro a ha
  have h1 := List.all_eq_true.mp thr_all8_75 a ha
  simp only [Bool.or_eq_true, Bool.and_eq_true, decide_eq_true_eq] at h1
  rcases h1 with h1 | (h1 | h1) | h1
  · exact Or.inl h1
  · exact Or.inr (Or.inl h1)
  · exact Or.inr (Or.inr (fun a' U hW => sr_keep (sr_Xok a h1) hW (hX a h1)))
  · exact Or.inr (Or.inr (sr_pay hts (sr_in h1.1 h1.2)))
theorem thr_w8_92 {c0 : Cond} {args : Array Value} {s : State} (hts : ∀ w ∈ c0 :: sr_G, w.before args s = true) : ∀ a' U, s.WarmedH U.vm → (Cond.classLink RX8 92 "java/lang/IndexOutOfBoundsException").before a' U = true ∧ (Cond.instantiable "java/lang/IndexOutOfBoundsException" 6).before a' U = true ∧ (Cond.initialized "java/lang/IndexOutOfBoundsException").before a' U = true :=
  fun a' U hW => ⟨sr_pay hts (sr_ins (ws := [.classLink RX8 92 "java/lang/IndexOutOfBoundsException"]) (by decide +kernel) _ List.mem_cons_self) a' U hW, sr_pay hts (sr_ins (ws := [.instantiable "java/lang/IndexOutOfBoundsException" 6]) (by decide +kernel) _ List.mem_cons_self) a' U hW, sr_pay hts (sr_ins (ws := [.initialized "java/lang/IndexOutOfBoundsException"]) (by decide +kernel) _ List.mem_cons_self) a' U hW⟩
theorem thr_all8_96 : (Bundle.ownAtoms RX8 96 "java/lang/IndexOutOfBoundsException" thr_up).all (fun a => (decide (a = .isRef (.static "java/lang/Throwable" "UNASSIGNED_STACK" "[Ljava/lang/StackTraceElement;")) || decide (a = .isRef (.static "java/lang/Throwable" "SUPPRESSED_SENTINEL" "Ljava/util/List;"))) || (decide (a ∈ sr_Y) || decide (a ∈ sr_X) || (decide (a ∈ lw_tbl) && goodWord a))) = true := by decide +kernel
theorem thr_at8_96 {c0 : Cond} {args : Array Value} {s : State} (hts : ∀ w ∈ c0 :: sr_G, w.before args s = true) (hX : ∀ a ∈ sr_X, a.before #[] s = true) : ∀ a ∈ Bundle.ownAtoms RX8 96 "java/lang/IndexOutOfBoundsException" thr_up, (a = .isRef (.static "java/lang/Throwable" "UNASSIGNED_STACK" "[Ljava/lang/StackTraceElement;") ∨ a = .isRef (.static "java/lang/Throwable" "SUPPRESSED_SENTINEL" "Ljava/util/List;")) ∨ a ∈ sr_Y ∨ ∀ a' U, s.WarmedH U.vm → a.before a' U = true := by
  intro a ha
  have h1 := List.all_eq_true.mp thr_all8_96 a ha
  simp only [Bool.or_eq_true, Bool.and_eq_true, decide_eq_true_eq] at h1
  rcases h1 with h1 | (h1 | h1) | h1
  · exact Or.inl h1
  · exact Or.inr (Or.inl h1)
  · exact Or.inr (Or.inr (fun a' U hW => sr_keep (sr_Xok a h1) hW (hX a h1)))
  · exact Or.inr (Or.inr (sr_pay hts (sr_in h1.1 h1.2)))
end
section
set_option maxHeartbeats 4000000 in
set_option maxRecDepth 100000 in
theorem kX8_place (l : Launch) (htr : l.stackTraces = false) (dC : Nat → ClassId) (dI : Nat → Nat → Nat) (adK adV : Nat → Nat) (cI cB cJ cZ cQ : ClassId) (obX obT obD obC xq_kept xq_printSteps obS : Nat) (x_hasLatest : Int32) (x_faultPlace : Int32) (x_keptCount : Int32) (res : Int32) (hm : m_X8_place x_faultPlace = some res) : Met l yX8_place wsX8_place (rmX8_place 0 0) (pcR (sr_Z adK adV) (dC, dI) srCl [(cI, .int), (cB, .byte), (cJ, .long), (cZ, .boolean), (cQ, .object "SchemaReader$Schema")] [.ref obX] [(obX, .inr (2, [.ref obT, .ref obD, .ref obC, .ref xq_kept, .ref xq_printSteps, .ref obS, .int x_hasLatest, .int x_faultPlace, .int x_keptCount]))]) (k2_QcV (.int res)) 0 0 (fun _ => False) := by
  refine Met.ofW (cc := cX8_place) (maxL := 1) (ret := (some .int)) (by decide) rfl ?_
  intro p e s m args below meth c s₁ B hml hv
  obtain ⟨rfl, hP, hK, hz0⟩ := hv
  have hx := B.exec
  have hb := B.bytes
  have hr := B.returns
  have hts := atoms_spec (ws := wsX8_place) B.pre
  have hown : s.vm.findClass RX8 = some m.cls := findClass_of_methodNamed B.named
  have hlocks := B.notSynchronized
  have hS : va_S (fun _ => False) s.heap s.heap [] := va_S.rf
  generalize hQ0 : MQ below (k2_QcV (.int res)) [.ref obX].toArray s 0 0 (fun _ => False) = Q0
  have hl := lv_entry [.ref obX] (n := 1) (Nat.le_of_ble_eq_true rfl)
  rw [lg_entry_eq]
  generalize (lg_sl [.ref obX] ++ List.replicate (1 - (lg_sl [.ref obX]).length) Slot.unset).toArray = ls at hl ⊢
  have hl : lv_has ls 1 [(0, .ref obX)] := hl
  unfold m_X8_place at hm
  refine lv_aload_n hx hb dX8_place_0 rfl (lv_at hl 0 rfl) ?_
  refine va_get (D := (dC, dI)) (ci := 2) (v := .int x_faultPlace) (C := RX8) (T := TX8) (N := 9) hx hb hts (inX8 _) hown hK hP 0 rfl rfl 7 (by decide) (hts _ (List.mem_cons_of_mem _ wf8_49)) (fun _ h9 => h9) rfl dX8_place_1 ?_
  obtain rfl := Option.some.inj hm
  subst hQ0
  exact W.iret (v := x_faultPlace) hx hb hr (fun t ht hW => ⟨rfl, ht⟩) (fun q h => by cases h) dX8_place_4
set_option maxHeartbeats 4000000 in
set_option maxRecDepth 100000 in
theorem kX8_size (l : Launch) (htr : l.stackTraces = false) (dC : Nat → ClassId) (dI : Nat → Nat → Nat) (adK adV : Nat → Nat) (cI cB cJ cZ cQ : ClassId) (obX obT obD obC xq_kept xq_printSteps obS sq_plain sq_kinds sq_meant sq_firsts sq_nexts sq_names sq_fieldNames sq_amounts sq_fieldDefaults sq_enumDefaults : Nat) (x_hasLatest : Int32) (x_faultPlace : Int32) (x_keptCount : Int32) (s_letterCount : Int32) (s_slotCount : Int32) (res : Int32) (hm : m_X8_size x_hasLatest s_letterCount = some res) : Met l yX8_size wsX8_size (rmX8_size 0 0) (pcR (sr_Z adK adV) (dC, dI) srCl [(cI, .int), (cB, .byte), (cJ, .long), (cZ, .boolean), (cQ, .object "SchemaReader$Schema")] [.ref obX] [(obX, .inr (2, [.ref obT, .ref obD, .ref obC, .ref xq_kept, .ref xq_printSteps, .ref obS, .int x_hasLatest, .int x_faultPlace, .int x_keptCount])), (obS, .inr (8, [.ref sq_plain, .ref sq_kinds, .ref sq_meant, .ref sq_firsts, .ref sq_nexts, .ref sq_names, .ref sq_fieldNames, .ref sq_amounts, .ref sq_fieldDefaults, .ref sq_enumDefaults, .int s_letterCount, .int s_slotCount]))]) (k2_QcV (.int res)) 0 0 (fun _ => False) := by
  refine Met.ofW (cc := cX8_size) (maxL := 1) (ret := (some .int)) (by decide) rfl ?_
  intro p e s m args below meth c s₁ B hml hv
  obtain ⟨rfl, hP, hK, hz0⟩ := hv
  have hx := B.exec
  have hb := B.bytes
  have hr := B.returns
  have hts := atoms_spec (ws := wsX8_size) B.pre
  have hown : s.vm.findClass RX8 = some m.cls := findClass_of_methodNamed B.named
  have hlocks := B.notSynchronized
  have hS : va_S (fun _ => False) s.heap s.heap [] := va_S.rf
  generalize hQ0 : MQ below (k2_QcV (.int res)) [.ref obX].toArray s 0 0 (fun _ => False) = Q0
  have hl := lv_entry [.ref obX] (n := 1) (Nat.le_of_ble_eq_true rfl)
  rw [lg_entry_eq]
  generalize (lg_sl [.ref obX] ++ List.replicate (1 - (lg_sl [.ref obX]).length) Slot.unset).toArray = ls at hl ⊢
  have hl : lv_has ls 1 [(0, .ref obX)] := hl
  unfold m_X8_size at hm
  refine lv_aload_n hx hb dX8_size_0 rfl (lv_at hl 0 rfl) ?_
  refine va_get (D := (dC, dI)) (ci := 2) (v := .int x_hasLatest) (C := RX8) (T := TX8) (N := 9) hx hb hts (inX8 _) hown hK hP 0 rfl rfl 6 (by decide) (hts _ (List.mem_cons_of_mem _ wf8_45)) (fun _ h9 => h9) rfl dX8_size_1 ?_
  refine lv_if_eq (tgt := 17) hx hb dX8_size_4 (by decide) (fun c1 => ?_) (fun c1 => ?_)
  · have hm := mr_if c1 hm
    refine lv_iconst (v := 0) hx hb dX8_size_17 (by decide) ?_
    obtain rfl := Option.some.inj hm
    subst hQ0
    exact W.iret (v := 0) hx hb hr (fun t ht hW => ⟨rfl, ht⟩) (fun q h => by cases h) dX8_size_18
  · have hm := mr_un c1 hm
    refine lv_aload_n hx hb dX8_size_7 rfl (lv_at hl 0 rfl) ?_
    refine va_get (D := (dC, dI)) (ci := 2) (v := .ref obS) (C := RX8) (T := TX8) (N := 9) hx hb hts (inX8 _) hown hK hP 0 rfl rfl 5 (by decide) (hts _ (List.mem_cons_of_mem _ wf8_31)) (fun _ h9 => h9) rfl dX8_size_8 ?_
    obtain ⟨r2, hz2, hm⟩ := mr_bind hm
    refine mr_pV (As := []) (rest := []) (sr_okZ adK adV) ⟨hx, hb, hml, hown, hts⟩ (kX6_letterCount l htr dC dI adK adV cI cB cJ cZ cQ obS sq_plain sq_kinds sq_meant sq_firsts sq_nexts sq_names sq_fieldNames sq_amounts sq_fieldDefaults sq_enumDefaults s_letterCount s_slotCount r2 hz2) (cwV 0 hts (g8_89 _) rfl rfl rfl (by decide +kernel) ⟨(by show 0 + 1 ≤ 1; omega), (by show 8 + (1 + 11) + (0) ≤ 20; omega)⟩) hS hP hK hz0 [1] rfl (va_recv hK hP (ci := 8) (q0 := 1) rfl rfl) rfl rfl hl.1 (Nat.le_of_ble_eq_true rfl) dX8_size_11 ⟨Nat.zero_le _, Nat.zero_le _⟩ ?_
    refine lv_goto (tgt := 18) hx hb dX8_size_14 (by decide) ?_
    obtain rfl := Option.some.inj hm
    subst hQ0
    exact W.iret (v := r2) hx hb hr (fun t ht hW => ⟨rfl, ht⟩) (fun q h => by cases h) dX8_size_18
set_option maxHeartbeats 4000000 in
set_option maxRecDepth 100000 in
theorem kX8_print (l : Launch) (htr : l.stackTraces = false) (dC : Nat → ClassId) (dI : Nat → Nat → Nat) (adK adV : Nat → Nat) (cI cB cJ cZ cQ : ClassId) (obX obT obD obC xq_kept xq_printSteps obS sq_plain sq_kinds sq_meant sq_firsts sq_nexts sq_names sq_fieldNames sq_amounts sq_fieldDefaults sq_enumDefaults : Nat) (x_hasLatest : Int32) (x_faultPlace : Int32) (x_keptCount : Int32) (s_letterCount : Int32) (s_slotCount : Int32) (x_printSteps : Nat → Int64) (s_plain : Nat → Int32) (res : Int64) (hm : m_X8_print x_printSteps x_hasLatest s_plain s_letterCount = some res) : Met l yX8_print wsX8_print (rmX8_print 0 0) (pcR (sr_Z adK adV) (dC, dI) srCl [(cI, .int), (cB, .byte), (cJ, .long), (cZ, .boolean), (cQ, .object "SchemaReader$Schema")] [.ref obX] [(obX, .inr (2, [.ref obT, .ref obD, .ref obC, .ref xq_kept, .ref xq_printSteps, .ref obS, .int x_hasLatest, .int x_faultPlace, .int x_keptCount])), (xq_printSteps, .inl (cJ, 256, .inr (.inl x_printSteps))), (obS, .inr (8, [.ref sq_plain, .ref sq_kinds, .ref sq_meant, .ref sq_firsts, .ref sq_nexts, .ref sq_names, .ref sq_fieldNames, .ref sq_amounts, .ref sq_fieldDefaults, .ref sq_enumDefaults, .int s_letterCount, .int s_slotCount])), (sq_plain, .inl (cB, 4096, .inl s_plain))]) (k2_QcV (.long res)) 0 0 (fun _ => False) := by
  refine Met.ofW (cc := cX8_print) (maxL := 5) (ret := (some .long)) (by decide) rfl ?_
  intro p e s m args below meth c s₁ B hml hv
  obtain ⟨rfl, hP, hK, hz0⟩ := hv
  have hx := B.exec
  have hb := B.bytes
  have hr := B.returns
  have hts := atoms_spec (ws := wsX8_print) B.pre
  have hown : s.vm.findClass RX8 = some m.cls := findClass_of_methodNamed B.named
  have hlocks := B.notSynchronized
  have hS : va_S (fun _ => False) s.heap s.heap [] := va_S.rf
  generalize hQ0 : MQ below (k2_QcV (.long res)) [.ref obX].toArray s 0 0 (fun _ => False) = Q0
  have hl := lv_entry [.ref obX] (n := 5) (Nat.le_of_ble_eq_true rfl)
  rw [lg_entry_eq]
  generalize (lg_sl [.ref obX] ++ List.replicate (5 - (lg_sl [.ref obX]).length) Slot.unset).toArray = ls at hl ⊢
  have hl : lv_has ls 5 [(0, .ref obX)] := hl
  unfold m_X8_print at hm
  refine lv_aload_n hx hb dX8_print_0 rfl (lv_at hl 0 rfl) ?_
  refine va_get (D := (dC, dI)) (ci := 2) (v := .int x_hasLatest) (C := RX8) (T := TX8) (N := 9) hx hb hts (inX8 _) hown hK hP 0 rfl rfl 6 (by decide) (hts _ (List.mem_cons_of_mem _ wf8_45)) (fun _ h9 => h9) rfl dX8_print_1 ?_
  refine lv_if_ne (tgt := 9) hx hb dX8_print_4 (by decide) (fun c1 => ?_) (fun c1 => ?_)
  · have hm := mr_un c1 hm
    refine lv_ldc2 (v := -4513414715797952619) hx hb hown (hts _ (List.mem_cons_of_mem _ wcl8_101)) dX8_print_9 ?_
    refine lv_lstore_n (lv' := [(1, .long (-4513414715797952619)), (0, .ref obX)]) hx hb dX8_print_12 rfl hl (by decide) rfl (fun ls hl => ?_)
    refine lv_iconst (v := 0) hx hb dX8_print_13 (by decide) ?_
    have j15 : ∀ (n15 : Nat) (x1 : Int64) (x3 : Int32) (ls : Array Slot), lv_has ls 5 [(0, .ref obX), (1, .long x1), (3, .int x3)] → m_X8_print_15 x_printSteps x_hasLatest s_plain s_letterCount n15 x1 x3 = some res → W p l e (headSpec wsX8_print (rmX8_print 0 0)).room s m [.ref obX].toArray below meth c s.heap [] 0 0 Q0 (F0 m 15 ls []) := by
      intro n15
      induction n15 with
      | zero => intro x1 x3 ls hl hm; exact nomatch (show (none : Option _) = some res from hm)
      | succ n15 ih15 =>
        intro x1 x3 ls hl hm
        rw [m_X8_print_15] at hm
        refine lv_iload_n hx hb dX8_print_15 rfl (lv_at hl 2 rfl) ?_
        refine lv_aload_n hx hb dX8_print_16 rfl (lv_at hl 0 rfl) ?_
        refine va_get (D := (dC, dI)) (ci := 2) (v := .ref obS) (C := RX8) (T := TX8) (N := 9) hx hb hts (inX8 _) hown hK hP 0 rfl rfl 5 (by decide) (hts _ (List.mem_cons_of_mem _ wf8_31)) (fun _ h9 => h9) rfl dX8_print_17 ?_
        obtain ⟨r2, hz2, hm⟩ := mr_bind hm
        refine mr_pV (As := []) (rest := [.int x3]) (sr_okZ adK adV) ⟨hx, hb, hml, hown, hts⟩ (kX6_letterCount l htr dC dI adK adV cI cB cJ cZ cQ obS sq_plain sq_kinds sq_meant sq_firsts sq_nexts sq_names sq_fieldNames sq_amounts sq_fieldDefaults sq_enumDefaults s_letterCount s_slotCount r2 hz2) (cwV 0 hts (g8_89 _) rfl rfl rfl (by decide +kernel) ⟨(by show 0 + 1 ≤ 1; omega), (by show 8 + (1 + 11) + (0) ≤ 21; omega)⟩) hS hP hK hz0 [2] rfl (va_recv hK hP (ci := 8) (q0 := 2) rfl rfl) rfl rfl hl.1 (Nat.le_of_ble_eq_true rfl) dX8_print_20 ⟨Nat.zero_le _, Nat.zero_le _⟩ ?_
        refine lv_icmp_ge (tgt := 63) hx hb dX8_print_23 (by decide) (fun c3 => ?_) (fun c3 => ?_)
        · have hm := mr_if c3 hm
          refine lv_lload_n hx hb dX8_print_63 rfl (lv_at hl 1 rfl) ?_
          obtain rfl := Option.some.inj hm
          subst hQ0
          exact W.lret (v := x1) hx hb hr (fun t ht hW => ⟨rfl, ht⟩) (fun q h => by cases h) dX8_print_64
        · have hm := mr_un c3 hm
          refine lv_lload_n hx hb dX8_print_26 rfl (lv_at hl 1 rfl) ?_
          refine lv_aload_n hx hb dX8_print_27 rfl (lv_at hl 0 rfl) ?_
          refine va_get (D := (dC, dI)) (ci := 2) (v := .ref obS) (C := RX8) (T := TX8) (N := 9) hx hb hts (inX8 _) hown hK hP 0 rfl rfl 5 (by decide) (hts _ (List.mem_cons_of_mem _ wf8_31)) (fun _ h9 => h9) rfl dX8_print_28 ?_
          refine lv_iload_n hx hb dX8_print_31 rfl (lv_at hl 2 rfl) ?_
          obtain ⟨r4, hz4, hm⟩ := mr_bind hm
          refine mr_pV (As := [.int x3]) (rest := [.long x1]) (sr_okZ adK adV) ⟨hx, hb, hml, hown, hts⟩ (kX6_letterAt l htr dC dI adK adV cI cB cJ cZ cQ obS sq_plain sq_kinds sq_meant sq_firsts sq_nexts sq_names sq_fieldNames sq_amounts sq_fieldDefaults sq_enumDefaults s_letterCount s_slotCount s_plain x3 r4 hz4) (cwV 1 hts (g8_97 _) rfl rfl rfl (by decide +kernel) ⟨(by show 0 + 1 ≤ 1; omega), (by show 8 + (2 + 11) + (0) ≤ 21; omega)⟩) hS hP hK hz0 [2, 3] rfl (va_recv hK hP (ci := 8) (q0 := 2) rfl rfl) rfl rfl hl.1 (Nat.le_of_ble_eq_true rfl) dX8_print_32 ⟨Nat.zero_le _, Nat.zero_le _⟩ ?_
          refine lv_i2l hx hb dX8_print_35 rfl ?_
          refine lv_lxor hx hb dX8_print_36 ?_
          refine lv_l2i hx hb dX8_print_37 rfl ?_
          refine lv_sipush (v := 255) hx hb dX8_print_38 (by decide) ?_
          refine lv_iand hx hb dX8_print_41 ?_
          refine lv_istore (lv' := [(4, .int ((((x1 ^^^ ((r4 : Int32).toInt64)) : Int64).toInt32) &&& 255)), (0, .ref obX), (1, .long x1), (3, .int x3)]) hx hb dX8_print_42 hl (by decide) rfl (fun ls hl => ?_)
          refine lv_lload_n hx hb dX8_print_44 rfl (lv_at hl 2 rfl) ?_
          refine lv_bipush (v := 8) hx hb dX8_print_45 (by decide) ?_
          refine lv_lushr hx hb dX8_print_47 rfl ?_
          refine lv_aload_n hx hb dX8_print_48 rfl (lv_at hl 1 rfl) ?_
          refine va_get (D := (dC, dI)) (ci := 2) (v := .ref xq_printSteps) (C := RX8) (T := TX8) (N := 9) hx hb hts (inX8 _) hown hK hP 0 rfl rfl 4 (by decide) (hts _ (List.mem_cons_of_mem _ wf8_22)) (fun _ h9 => h9) rfl dX8_print_49 ?_
          refine lv_iload hx hb dX8_print_52 (lv_at hl 0 rfl) ?_
          obtain ⟨h5, hm⟩ := mr_bd hm
          refine va_lald hx hb hK hP 1 2 rfl rfl h5 dX8_print_54 ?_
          refine lv_lxor hx hb dX8_print_55 ?_
          refine lv_lstore_n (lv' := [(1, .long ((((x1 : Int64).toUInt64 >>> ((8 : Int32).toInt64.toUInt64 &&& Int64.toUInt64 63)).toInt64) ^^^ (x_printSteps (((((x1 ^^^ ((r4 : Int32).toInt64)) : Int64).toInt32) &&& 255) : Int32).toNatClampNeg))), (4, .int ((((x1 ^^^ ((r4 : Int32).toInt64)) : Int64).toInt32) &&& 255)), (0, .ref obX), (3, .int x3)]) hx hb dX8_print_56 rfl hl (by decide) rfl (fun ls hl => ?_)
          refine lv_iinc (v := x3 + 1) (lv' := [(3, .int (x3 + 1)), (1, .long ((((x1 : Int64).toUInt64 >>> ((8 : Int32).toInt64.toUInt64 &&& Int64.toUInt64 63)).toInt64) ^^^ (x_printSteps (((((x1 ^^^ ((r4 : Int32).toInt64)) : Int64).toInt32) &&& 255) : Int32).toNatClampNeg))), (4, .int ((((x1 ^^^ ((r4 : Int32).toInt64)) : Int64).toInt32) &&& 255)), (0, .ref obX)]) hx hb dX8_print_57 hl (k := 3) rfl rfl (by decide) rfl (fun ls hl => ?_)
          refine lv_goto (tgt := 15) hx hb dX8_print_60 (by decide) ?_
          exact ih15 ((((x1 : Int64).toUInt64 >>> ((8 : Int32).toInt64.toUInt64 &&& Int64.toUInt64 63)).toInt64) ^^^ (x_printSteps (((((x1 ^^^ ((r4 : Int32).toInt64)) : Int64).toInt32) &&& 255) : Int32).toNatClampNeg)) (x3 + 1) ls (lv_sub hl [3, 1, 0] rfl) hm
    refine lv_istore_n (lv' := [(3, .int 0), (1, .long (-4513414715797952619)), (0, .ref obX)]) hx hb dX8_print_14 rfl hl (by decide) rfl (fun ls hl => ?_)
    exact j15 sr_fuel (-4513414715797952619) 0 ls (lv_sub hl [2, 1, 0] rfl) hm
  · have hm := mr_if c1 hm
    refine lv_lconst (v := 0) hx hb dX8_print_7 (by decide) ?_
    obtain rfl := Option.some.inj hm
    subst hQ0
    exact W.lret (v := 0) hx hb hr (fun t ht hW => ⟨rfl, ht⟩) (fun q h => by cases h) dX8_print_8
set_option maxHeartbeats 4000000 in
set_option maxRecDepth 100000 in
theorem kX8_schema (l : Launch) (htr : l.stackTraces = false) (dC : Nat → ClassId) (dI : Nat → Nat → Nat) (adK adV : Nat → Nat) (cI cB cJ cZ cQ : ClassId) (obX obT obD obC xq_kept xq_printSteps obS tq_tape tq_said tq_inner tq_next tq_amount obK sq_plain sq_kinds sq_meant sq_firsts sq_nexts sq_names sq_fieldNames sq_amounts sq_fieldDefaults sq_enumDefaults dq_firsts dq_seconds kq_heads kq_places kq_owners kq_nexts : Nat) (x_hasLatest : Int32) (x_faultPlace : Int32) (x_keptCount : Int32) (t_length : Int32) (t_wrongPlace : Int32) (s_letterCount : Int32) (s_slotCount : Int32) (d_count : Int32) (k_count : Int32) (t_tape : Nat → Int32) (t_said : Nat → Int32) (t_inner : Nat → Int32) (t_next : Nat → Int32) (t_amount : Nat → Int32) (s_plain : Nat → Int32) (s_kinds : Nat → Int32) (s_meant : Nat → Int32) (s_firsts : Nat → Int32) (s_nexts : Nat → Int32) (s_names : Nat → Int32) (s_fieldNames : Nat → Int32) (s_amounts : Nat → Int32) (s_fieldDefaults : Nat → Int32) (s_enumDefaults : Nat → Int32) (d_firsts : Nat → Int32) (d_seconds : Nat → Int32) (k_heads : Nat → Int32) (k_places : Nat → Int32) (k_owners : Nat → Int32) (k_nexts : Nat → Int32) (sz : Nat) (res : Int32 × Int32 × Int32 × (Nat → Int32) × (Nat → Int32) × (Nat → Int32) × (Nat → Int32) × Int32 × (Nat → Int32) × (Nat → Int32) × (Nat → Int32) × (Nat → Int32) × (Nat → Int32) × (Nat → Int32) × (Nat → Int32) × (Nat → Int32) × (Nat → Int32) × (Nat → Int32) × Int32 × Int32 × (Nat → Int32) × (Nat → Int32) × Int32 × (Nat → Int32) × (Nat → Int32) × (Nat → Int32) × (Nat → Int32) × Int32) (hm : m_X8_schema x_hasLatest x_faultPlace t_tape t_said t_inner t_next t_amount t_length t_wrongPlace s_plain s_kinds s_meant s_firsts s_nexts s_names s_fieldNames s_amounts s_fieldDefaults s_enumDefaults s_letterCount s_slotCount d_firsts d_seconds d_count k_heads k_places k_owners k_nexts k_count = some res) : Met l yX8_schema wsX8_schema (rmX8_schema 2 7) (pcW (sr_Z adK adV) (dC, dI) srCl [(cI, .int), (cB, .byte), (cJ, .long), (cZ, .boolean), (cQ, .object "SchemaReader$Schema")] [.ref obX] [(obX, .inr (2, [.ref obT, .ref obD, .ref obC, .ref xq_kept, .ref xq_printSteps, .ref obS, .int x_hasLatest, .int x_faultPlace, .int x_keptCount])), (obT, .inr (9, [.ref tq_tape, .ref tq_said, .ref tq_inner, .ref tq_next, .ref tq_amount, .ref obK, .int t_length, .int t_wrongPlace])), (tq_tape, .inl (cB, 4096, .inl t_tape)), (tq_said, .inl (cB, 4096, .inl t_said)), (tq_inner, .inl (cI, 4096, .inl t_inner)), (tq_next, .inl (cI, 4096, .inl t_next)), (tq_amount, .inl (cI, 4096, .inl t_amount)), (obS, .inr (8, [.ref sq_plain, .ref sq_kinds, .ref sq_meant, .ref sq_firsts, .ref sq_nexts, .ref sq_names, .ref sq_fieldNames, .ref sq_amounts, .ref sq_fieldDefaults, .ref sq_enumDefaults, .int s_letterCount, .int s_slotCount])), (sq_plain, .inl (cB, 4096, .inl s_plain)), (sq_kinds, .inl (cI, 128, .inl s_kinds)), (sq_meant, .inl (cI, 128, .inl s_meant)), (sq_firsts, .inl (cI, 128, .inl s_firsts)), (sq_nexts, .inl (cI, 128, .inl s_nexts)), (sq_names, .inl (cI, 128, .inl s_names)), (sq_fieldNames, .inl (cI, 128, .inl s_fieldNames)), (sq_amounts, .inl (cI, 128, .inl s_amounts)), (sq_fieldDefaults, .inl (cZ, 128, .inl s_fieldDefaults)), (sq_enumDefaults, .inl (cZ, 128, .inl s_enumDefaults)), (obD, .inr (3, [.ref dq_firsts, .ref dq_seconds, .int d_count])), (dq_firsts, .inl (cI, 128, .inl d_firsts)), (dq_seconds, .inl (cI, 128, .inl d_seconds)), (obK, .inr (5, [.ref kq_heads, .ref kq_places, .ref kq_owners, .ref kq_nexts, .int k_count])), (kq_heads, .inl (cI, 256, .inl k_heads)), (kq_places, .inl (cI, 1024, .inl k_places)), (kq_owners, .inl (cI, 1024, .inl k_owners)), (kq_nexts, .inl (cI, 1024, .inl k_nexts))] sz) (va_Qi (fun r' u' => r' = res.1 ∧ u' = res.2) (pcB (dC, dI) srCl [(cI, .int), (cB, .byte), (cJ, .long), (cZ, .boolean), (cQ, .object "SchemaReader$Schema")] (fun u : Int32 × Int32 × (Nat → Int32) × (Nat → Int32) × (Nat → Int32) × (Nat → Int32) × Int32 × (Nat → Int32) × (Nat → Int32) × (Nat → Int32) × (Nat → Int32) × (Nat → Int32) × (Nat → Int32) × (Nat → Int32) × (Nat → Int32) × (Nat → Int32) × (Nat → Int32) × Int32 × Int32 × (Nat → Int32) × (Nat → Int32) × Int32 × (Nat → Int32) × (Nat → Int32) × (Nat → Int32) × (Nat → Int32) × Int32 => [(obX, .inr (2, [.ref obT, .ref obD, .ref obC, .ref xq_kept, .ref xq_printSteps, .ref obS, .int u.1, .int u.2.1, .int x_keptCount])), (obT, .inr (9, [.ref tq_tape, .ref tq_said, .ref tq_inner, .ref tq_next, .ref tq_amount, .ref obK, .int t_length, .int u.2.2.2.2.2.2.1])), (tq_tape, .inl (cB, 4096, .inl t_tape)), (tq_said, .inl (cB, 4096, .inl u.2.2.1)), (tq_inner, .inl (cI, 4096, .inl u.2.2.2.1)), (tq_next, .inl (cI, 4096, .inl u.2.2.2.2.1)), (tq_amount, .inl (cI, 4096, .inl u.2.2.2.2.2.1)), (obS, .inr (8, [.ref sq_plain, .ref sq_kinds, .ref sq_meant, .ref sq_firsts, .ref sq_nexts, .ref sq_names, .ref sq_fieldNames, .ref sq_amounts, .ref sq_fieldDefaults, .ref sq_enumDefaults, .int u.2.2.2.2.2.2.2.2.2.2.2.2.2.2.2.2.2.1, .int u.2.2.2.2.2.2.2.2.2.2.2.2.2.2.2.2.2.2.1])), (sq_plain, .inl (cB, 4096, .inl u.2.2.2.2.2.2.2.1)), (sq_kinds, .inl (cI, 128, .inl u.2.2.2.2.2.2.2.2.1)), (sq_meant, .inl (cI, 128, .inl u.2.2.2.2.2.2.2.2.2.1)), (sq_firsts, .inl (cI, 128, .inl u.2.2.2.2.2.2.2.2.2.2.1)), (sq_nexts, .inl (cI, 128, .inl u.2.2.2.2.2.2.2.2.2.2.2.1)), (sq_names, .inl (cI, 128, .inl u.2.2.2.2.2.2.2.2.2.2.2.2.1)), (sq_fieldNames, .inl (cI, 128, .inl u.2.2.2.2.2.2.2.2.2.2.2.2.2.1)), (sq_amounts, .inl (cI, 128, .inl u.2.2.2.2.2.2.2.2.2.2.2.2.2.2.1)), (sq_fieldDefaults, .inl (cZ, 128, .inl u.2.2.2.2.2.2.2.2.2.2.2.2.2.2.2.1)), (sq_enumDefaults, .inl (cZ, 128, .inl u.2.2.2.2.2.2.2.2.2.2.2.2.2.2.2.2.1)), (obD, .inr (3, [.ref dq_firsts, .ref dq_seconds, .int u.2.2.2.2.2.2.2.2.2.2.2.2.2.2.2.2.2.2.2.2.2.1])), (dq_firsts, .inl (cI, 128, .inl u.2.2.2.2.2.2.2.2.2.2.2.2.2.2.2.2.2.2.2.1)), (dq_seconds, .inl (cI, 128, .inl u.2.2.2.2.2.2.2.2.2.2.2.2.2.2.2.2.2.2.2.2.1)), (obK, .inr (5, [.ref kq_heads, .ref kq_places, .ref kq_owners, .ref kq_nexts, .int u.2.2.2.2.2.2.2.2.2.2.2.2.2.2.2.2.2.2.2.2.2.2.2.2.2.2])), (kq_heads, .inl (cI, 256, .inl u.2.2.2.2.2.2.2.2.2.2.2.2.2.2.2.2.2.2.2.2.2.2.1)), (kq_places, .inl (cI, 1024, .inl u.2.2.2.2.2.2.2.2.2.2.2.2.2.2.2.2.2.2.2.2.2.2.2.1)), (kq_owners, .inl (cI, 1024, .inl u.2.2.2.2.2.2.2.2.2.2.2.2.2.2.2.2.2.2.2.2.2.2.2.2.1)), (kq_nexts, .inl (cI, 1024, .inl u.2.2.2.2.2.2.2.2.2.2.2.2.2.2.2.2.2.2.2.2.2.2.2.2.2.1))]) (va_A [(obX, .inr (2, [.ref obT, .ref obD, .ref obC, .ref xq_kept, .ref xq_printSteps, .ref obS, .int x_hasLatest, .int x_faultPlace, .int x_keptCount])), (obT, .inr (9, [.ref tq_tape, .ref tq_said, .ref tq_inner, .ref tq_next, .ref tq_amount, .ref obK, .int t_length, .int t_wrongPlace])), (tq_tape, .inl (cB, 4096, .inl t_tape)), (tq_said, .inl (cB, 4096, .inl t_said)), (tq_inner, .inl (cI, 4096, .inl t_inner)), (tq_next, .inl (cI, 4096, .inl t_next)), (tq_amount, .inl (cI, 4096, .inl t_amount)), (obS, .inr (8, [.ref sq_plain, .ref sq_kinds, .ref sq_meant, .ref sq_firsts, .ref sq_nexts, .ref sq_names, .ref sq_fieldNames, .ref sq_amounts, .ref sq_fieldDefaults, .ref sq_enumDefaults, .int s_letterCount, .int s_slotCount])), (sq_plain, .inl (cB, 4096, .inl s_plain)), (sq_kinds, .inl (cI, 128, .inl s_kinds)), (sq_meant, .inl (cI, 128, .inl s_meant)), (sq_firsts, .inl (cI, 128, .inl s_firsts)), (sq_nexts, .inl (cI, 128, .inl s_nexts)), (sq_names, .inl (cI, 128, .inl s_names)), (sq_fieldNames, .inl (cI, 128, .inl s_fieldNames)), (sq_amounts, .inl (cI, 128, .inl s_amounts)), (sq_fieldDefaults, .inl (cZ, 128, .inl s_fieldDefaults)), (sq_enumDefaults, .inl (cZ, 128, .inl s_enumDefaults)), (obD, .inr (3, [.ref dq_firsts, .ref dq_seconds, .int d_count])), (dq_firsts, .inl (cI, 128, .inl d_firsts)), (dq_seconds, .inl (cI, 128, .inl d_seconds)), (obK, .inr (5, [.ref kq_heads, .ref kq_places, .ref kq_owners, .ref kq_nexts, .int k_count])), (kq_heads, .inl (cI, 256, .inl k_heads)), (kq_places, .inl (cI, 1024, .inl k_places)), (kq_owners, .inl (cI, 1024, .inl k_owners)), (kq_nexts, .inl (cI, 1024, .inl k_nexts))] sz)) (va_A [(obX, .inr (2, [.ref obT, .ref obD, .ref obC, .ref xq_kept, .ref xq_printSteps, .ref obS, .int x_hasLatest, .int x_faultPlace, .int x_keptCount])), (obT, .inr (9, [.ref tq_tape, .ref tq_said, .ref tq_inner, .ref tq_next, .ref tq_amount, .ref obK, .int t_length, .int t_wrongPlace])), (tq_tape, .inl (cB, 4096, .inl t_tape)), (tq_said, .inl (cB, 4096, .inl t_said)), (tq_inner, .inl (cI, 4096, .inl t_inner)), (tq_next, .inl (cI, 4096, .inl t_next)), (tq_amount, .inl (cI, 4096, .inl t_amount)), (obS, .inr (8, [.ref sq_plain, .ref sq_kinds, .ref sq_meant, .ref sq_firsts, .ref sq_nexts, .ref sq_names, .ref sq_fieldNames, .ref sq_amounts, .ref sq_fieldDefaults, .ref sq_enumDefaults, .int s_letterCount, .int s_slotCount])), (sq_plain, .inl (cB, 4096, .inl s_plain)), (sq_kinds, .inl (cI, 128, .inl s_kinds)), (sq_meant, .inl (cI, 128, .inl s_meant)), (sq_firsts, .inl (cI, 128, .inl s_firsts)), (sq_nexts, .inl (cI, 128, .inl s_nexts)), (sq_names, .inl (cI, 128, .inl s_names)), (sq_fieldNames, .inl (cI, 128, .inl s_fieldNames)), (sq_amounts, .inl (cI, 128, .inl s_amounts)), (sq_fieldDefaults, .inl (cZ, 128, .inl s_fieldDefaults)), (sq_enumDefaults, .inl (cZ, 128, .inl s_enumDefaults)), (obD, .inr (3, [.ref dq_firsts, .ref dq_seconds, .int d_count])), (dq_firsts, .inl (cI, 128, .inl d_firsts)), (dq_seconds, .inl (cI, 128, .inl d_seconds)), (obK, .inr (5, [.ref kq_heads, .ref kq_places, .ref kq_owners, .ref kq_nexts, .int k_count])), (kq_heads, .inl (cI, 256, .inl k_heads)), (kq_places, .inl (cI, 1024, .inl k_places)), (kq_owners, .inl (cI, 1024, .inl k_owners)), (kq_nexts, .inl (cI, 1024, .inl k_nexts))] sz)) 2 7 (va_A [(obX, .inr (2, [.ref obT, .ref obD, .ref obC, .ref xq_kept, .ref xq_printSteps, .ref obS, .int x_hasLatest, .int x_faultPlace, .int x_keptCount])), (obT, .inr (9, [.ref tq_tape, .ref tq_said, .ref tq_inner, .ref tq_next, .ref tq_amount, .ref obK, .int t_length, .int t_wrongPlace])), (tq_tape, .inl (cB, 4096, .inl t_tape)), (tq_said, .inl (cB, 4096, .inl t_said)), (tq_inner, .inl (cI, 4096, .inl t_inner)), (tq_next, .inl (cI, 4096, .inl t_next)), (tq_amount, .inl (cI, 4096, .inl t_amount)), (obS, .inr (8, [.ref sq_plain, .ref sq_kinds, .ref sq_meant, .ref sq_firsts, .ref sq_nexts, .ref sq_names, .ref sq_fieldNames, .ref sq_amounts, .ref sq_fieldDefaults, .ref sq_enumDefaults, .int s_letterCount, .int s_slotCount])), (sq_plain, .inl (cB, 4096, .inl s_plain)), (sq_kinds, .inl (cI, 128, .inl s_kinds)), (sq_meant, .inl (cI, 128, .inl s_meant)), (sq_firsts, .inl (cI, 128, .inl s_firsts)), (sq_nexts, .inl (cI, 128, .inl s_nexts)), (sq_names, .inl (cI, 128, .inl s_names)), (sq_fieldNames, .inl (cI, 128, .inl s_fieldNames)), (sq_amounts, .inl (cI, 128, .inl s_amounts)), (sq_fieldDefaults, .inl (cZ, 128, .inl s_fieldDefaults)), (sq_enumDefaults, .inl (cZ, 128, .inl s_enumDefaults)), (obD, .inr (3, [.ref dq_firsts, .ref dq_seconds, .int d_count])), (dq_firsts, .inl (cI, 128, .inl d_firsts)), (dq_seconds, .inl (cI, 128, .inl d_seconds)), (obK, .inr (5, [.ref kq_heads, .ref kq_places, .ref kq_owners, .ref kq_nexts, .int k_count])), (kq_heads, .inl (cI, 256, .inl k_heads)), (kq_places, .inl (cI, 1024, .inl k_places)), (kq_owners, .inl (cI, 1024, .inl k_owners)), (kq_nexts, .inl (cI, 1024, .inl k_nexts))] sz) := by
  refine Met.ofW (cc := cX8_schema) (maxL := 3) (ret := (some .int)) (by decide) rfl ?_
  intro p e s m args below meth c s₁ B hml hv
  obtain ⟨rfl, hsz, hP, hK, hD0, hz0⟩ := hv
  have hx := B.exec
  have hb := B.bytes
  have hr := B.returns
  have hts := atoms_spec (ws := wsX8_schema) B.pre
  have hown : s.vm.findClass RX8 = some m.cls := findClass_of_methodNamed B.named
  have hlocks := B.notSynchronized
  subst hsz
  have hD := hD0.self (sz := s.heap.size)
  generalize hAe : va_A [(obX, .inr (2, [.ref obT, .ref obD, .ref obC, .ref xq_kept, .ref xq_printSteps, .ref obS, .int x_hasLatest, .int x_faultPlace, .int x_keptCount])), (obT, .inr (9, [.ref tq_tape, .ref tq_said, .ref tq_inner, .ref tq_next, .ref tq_amount, .ref obK, .int t_length, .int t_wrongPlace])), (tq_tape, .inl (cB, 4096, .inl t_tape)), (tq_said, .inl (cB, 4096, .inl t_said)), (tq_inner, .inl (cI, 4096, .inl t_inner)), (tq_next, .inl (cI, 4096, .inl t_next)), (tq_amount, .inl (cI, 4096, .inl t_amount)), (obS, .inr (8, [.ref sq_plain, .ref sq_kinds, .ref sq_meant, .ref sq_firsts, .ref sq_nexts, .ref sq_names, .ref sq_fieldNames, .ref sq_amounts, .ref sq_fieldDefaults, .ref sq_enumDefaults, .int s_letterCount, .int s_slotCount])), (sq_plain, .inl (cB, 4096, .inl s_plain)), (sq_kinds, .inl (cI, 128, .inl s_kinds)), (sq_meant, .inl (cI, 128, .inl s_meant)), (sq_firsts, .inl (cI, 128, .inl s_firsts)), (sq_nexts, .inl (cI, 128, .inl s_nexts)), (sq_names, .inl (cI, 128, .inl s_names)), (sq_fieldNames, .inl (cI, 128, .inl s_fieldNames)), (sq_amounts, .inl (cI, 128, .inl s_amounts)), (sq_fieldDefaults, .inl (cZ, 128, .inl s_fieldDefaults)), (sq_enumDefaults, .inl (cZ, 128, .inl s_enumDefaults)), (obD, .inr (3, [.ref dq_firsts, .ref dq_seconds, .int d_count])), (dq_firsts, .inl (cI, 128, .inl d_firsts)), (dq_seconds, .inl (cI, 128, .inl d_seconds)), (obK, .inr (5, [.ref kq_heads, .ref kq_places, .ref kq_owners, .ref kq_nexts, .int k_count])), (kq_heads, .inl (cI, 256, .inl k_heads)), (kq_places, .inl (cI, 1024, .inl k_places)), (kq_owners, .inl (cI, 1024, .inl k_owners)), (kq_nexts, .inl (cI, 1024, .inl k_nexts))] s.heap.size = A at hD hz0 ⊢
  have hA : ∀ q : Nat, s.heap.size ≤ q → A q := fun q h => by rw [← hAe]; exact Or.inr h
  have hS : va_S A s.heap s.heap [] := va_S.rf
  generalize hQ0 : MQ below (va_Qi (fun r' u' => r' = res.1 ∧ u' = res.2) (pcB (dC, dI) srCl [(cI, .int), (cB, .byte), (cJ, .long), (cZ, .boolean), (cQ, .object "SchemaReader$Schema")] (fun u : Int32 × Int32 × (Nat → Int32) × (Nat → Int32) × (Nat → Int32) × (Nat → Int32) × Int32 × (Nat → Int32) × (Nat → Int32) × (Nat → Int32) × (Nat → Int32) × (Nat → Int32) × (Nat → Int32) × (Nat → Int32) × (Nat → Int32) × (Nat → Int32) × (Nat → Int32) × Int32 × Int32 × (Nat → Int32) × (Nat → Int32) × Int32 × (Nat → Int32) × (Nat → Int32) × (Nat → Int32) × (Nat → Int32) × Int32 => [(obX, .inr (2, [.ref obT, .ref obD, .ref obC, .ref xq_kept, .ref xq_printSteps, .ref obS, .int u.1, .int u.2.1, .int x_keptCount])), (obT, .inr (9, [.ref tq_tape, .ref tq_said, .ref tq_inner, .ref tq_next, .ref tq_amount, .ref obK, .int t_length, .int u.2.2.2.2.2.2.1])), (tq_tape, .inl (cB, 4096, .inl t_tape)), (tq_said, .inl (cB, 4096, .inl u.2.2.1)), (tq_inner, .inl (cI, 4096, .inl u.2.2.2.1)), (tq_next, .inl (cI, 4096, .inl u.2.2.2.2.1)), (tq_amount, .inl (cI, 4096, .inl u.2.2.2.2.2.1)), (obS, .inr (8, [.ref sq_plain, .ref sq_kinds, .ref sq_meant, .ref sq_firsts, .ref sq_nexts, .ref sq_names, .ref sq_fieldNames, .ref sq_amounts, .ref sq_fieldDefaults, .ref sq_enumDefaults, .int u.2.2.2.2.2.2.2.2.2.2.2.2.2.2.2.2.2.1, .int u.2.2.2.2.2.2.2.2.2.2.2.2.2.2.2.2.2.2.1])), (sq_plain, .inl (cB, 4096, .inl u.2.2.2.2.2.2.2.1)), (sq_kinds, .inl (cI, 128, .inl u.2.2.2.2.2.2.2.2.1)), (sq_meant, .inl (cI, 128, .inl u.2.2.2.2.2.2.2.2.2.1)), (sq_firsts, .inl (cI, 128, .inl u.2.2.2.2.2.2.2.2.2.2.1)), (sq_nexts, .inl (cI, 128, .inl u.2.2.2.2.2.2.2.2.2.2.2.1)), (sq_names, .inl (cI, 128, .inl u.2.2.2.2.2.2.2.2.2.2.2.2.1)), (sq_fieldNames, .inl (cI, 128, .inl u.2.2.2.2.2.2.2.2.2.2.2.2.2.1)), (sq_amounts, .inl (cI, 128, .inl u.2.2.2.2.2.2.2.2.2.2.2.2.2.2.1)), (sq_fieldDefaults, .inl (cZ, 128, .inl u.2.2.2.2.2.2.2.2.2.2.2.2.2.2.2.1)), (sq_enumDefaults, .inl (cZ, 128, .inl u.2.2.2.2.2.2.2.2.2.2.2.2.2.2.2.2.1)), (obD, .inr (3, [.ref dq_firsts, .ref dq_seconds, .int u.2.2.2.2.2.2.2.2.2.2.2.2.2.2.2.2.2.2.2.2.2.1])), (dq_firsts, .inl (cI, 128, .inl u.2.2.2.2.2.2.2.2.2.2.2.2.2.2.2.2.2.2.2.1)), (dq_seconds, .inl (cI, 128, .inl u.2.2.2.2.2.2.2.2.2.2.2.2.2.2.2.2.2.2.2.2.1)), (obK, .inr (5, [.ref kq_heads, .ref kq_places, .ref kq_owners, .ref kq_nexts, .int u.2.2.2.2.2.2.2.2.2.2.2.2.2.2.2.2.2.2.2.2.2.2.2.2.2.2])), (kq_heads, .inl (cI, 256, .inl u.2.2.2.2.2.2.2.2.2.2.2.2.2.2.2.2.2.2.2.2.2.2.1)), (kq_places, .inl (cI, 1024, .inl u.2.2.2.2.2.2.2.2.2.2.2.2.2.2.2.2.2.2.2.2.2.2.2.1)), (kq_owners, .inl (cI, 1024, .inl u.2.2.2.2.2.2.2.2.2.2.2.2.2.2.2.2.2.2.2.2.2.2.2.2.1)), (kq_nexts, .inl (cI, 1024, .inl u.2.2.2.2.2.2.2.2.2.2.2.2.2.2.2.2.2.2.2.2.2.2.2.2.2.1))]) A) A) [.ref obX].toArray s 2 7 A = Q0
  have hl := lv_entry [.ref obX] (n := 3) (Nat.le_of_ble_eq_true rfl)
  rw [lg_entry_eq]
  generalize (lg_sl [.ref obX] ++ List.replicate (3 - (lg_sl [.ref obX]).length) Slot.unset).toArray = ls at hl ⊢
  have hl : lv_has ls 3 [(0, .ref obX)] := hl
  unfold m_X8_schema at hm
  refine va_new (ci := 6) (fs := [.null, .null, .null, .int 0, .int 0]) (C := RX4) (T := TX4) (N := 5) hx hb hts (inX4 _) tyX4 tyX4_ok hown (hts _ (List.mem_cons_of_mem _ (nw8_79 _ (List.mem_of_getElem? (i := 0) rfl)))) (hts _ (List.mem_cons_of_mem _ (nw8_79 _ (List.mem_of_getElem? (i := 1) rfl)))) (hts _ (List.mem_cons_of_mem _ (nw8_79 _ (List.mem_of_getElem? (i := 2) rfl)))) hK hP hD hS hA rfl (fun j hj => match j, hj with | 0, _ => rfl | 1, _ => rfl | 2, _ => rfl | 3, _ => rfl | 4, _ => rfl | n + 5, h => absurd h (Nat.not_lt_of_le (Nat.le_add_left 5 n))) (Nat.le_of_ble_eq_true rfl) (Nat.le_of_ble_eq_true rfl) dX8_schema_0 (fun nq0 H hP hD hS => ?_)
  refine lv_dup hx hb dX8_schema_3 rfl ?_
  refine lv_aload_n hx hb dX8_schema_4 rfl (lv_at hl 0 rfl) ?_
  refine va_get (D := (dC, dI)) (ci := 2) (v := .ref obT) (C := RX8) (T := TX8) (N := 9) hx hb hts (inX8 _) hown hK hP 0 rfl rfl 0 (by decide) (hts _ (List.mem_cons_of_mem _ wf8_10)) (fun _ h9 => h9) rfl dX8_schema_5 ?_
  refine lv_aload_n hx hb dX8_schema_8 rfl (lv_at hl 0 rfl) ?_
  refine va_get (D := (dC, dI)) (ci := 2) (v := .ref obS) (C := RX8) (T := TX8) (N := 9) hx hb hts (inX8 _) hown hK hP 0 rfl rfl 5 (by decide) (hts _ (List.mem_cons_of_mem _ wf8_31)) (fun _ h9 => h9) rfl dX8_schema_9 ?_
  refine lv_aload_n hx hb dX8_schema_12 rfl (lv_at hl 0 rfl) ?_
  refine va_get (D := (dC, dI)) (ci := 2) (v := .ref obD) (C := RX8) (T := TX8) (N := 9) hx hb hts (inX8 _) hown hK hP 0 rfl rfl 1 (by decide) (hts _ (List.mem_cons_of_mem _ wf8_38)) (fun _ h9 => h9) rfl dX8_schema_13 ?_
  refine mr_iv (wc := [(nq0, .inr (6, [.null, .null, .null, .int 0, .int 0]))]) (wr := [(obX, .inr (2, [.ref obT, .ref obD, .ref obC, .ref xq_kept, .ref xq_printSteps, .ref obS, .int x_hasLatest, .int x_faultPlace, .int x_keptCount])), (obT, .inr (9, [.ref tq_tape, .ref tq_said, .ref tq_inner, .ref tq_next, .ref tq_amount, .ref obK, .int t_length, .int t_wrongPlace])), (tq_tape, .inl (cB, 4096, .inl t_tape)), (tq_said, .inl (cB, 4096, .inl t_said)), (tq_inner, .inl (cI, 4096, .inl t_inner)), (tq_next, .inl (cI, 4096, .inl t_next)), (tq_amount, .inl (cI, 4096, .inl t_amount)), (obS, .inr (8, [.ref sq_plain, .ref sq_kinds, .ref sq_meant, .ref sq_firsts, .ref sq_nexts, .ref sq_names, .ref sq_fieldNames, .ref sq_amounts, .ref sq_fieldDefaults, .ref sq_enumDefaults, .int s_letterCount, .int s_slotCount])), (sq_plain, .inl (cB, 4096, .inl s_plain)), (sq_kinds, .inl (cI, 128, .inl s_kinds)), (sq_meant, .inl (cI, 128, .inl s_meant)), (sq_firsts, .inl (cI, 128, .inl s_firsts)), (sq_nexts, .inl (cI, 128, .inl s_nexts)), (sq_names, .inl (cI, 128, .inl s_names)), (sq_fieldNames, .inl (cI, 128, .inl s_fieldNames)), (sq_amounts, .inl (cI, 128, .inl s_amounts)), (sq_fieldDefaults, .inl (cZ, 128, .inl s_fieldDefaults)), (sq_enumDefaults, .inl (cZ, 128, .inl s_enumDefaults)), (obD, .inr (3, [.ref dq_firsts, .ref dq_seconds, .int d_count])), (dq_firsts, .inl (cI, 128, .inl d_firsts)), (dq_seconds, .inl (cI, 128, .inl d_seconds)), (obK, .inr (5, [.ref kq_heads, .ref kq_places, .ref kq_owners, .ref kq_nexts, .int k_count])), (kq_heads, .inl (cI, 256, .inl k_heads)), (kq_places, .inl (cI, 1024, .inl k_places)), (kq_owners, .inl (cI, 1024, .inl k_owners)), (kq_nexts, .inl (cI, 1024, .inl k_nexts))]) (c1 := 1) (s1 := 5) (va_runI (g := F0 m 16 ls [.ref obD, .ref obS, .ref obT, .ref nq0, .ref nq0]) (b := nq0) (As := [.ref obT, .ref obS, .ref obD]) (rest := [.ref nq0]) ⟨hx, hb, hml, hown, hts⟩ (kX4_init l htr dC dI adK adV cI cB cJ cZ cQ nq0 obT obS obD _) (sr_cwI 3 hts rfl gI8_81 rfl rfl rfl (by decide +kernel) ⟨(Nat.le_of_ble_eq_true rfl), (Nat.le_of_ble_eq_true rfl)⟩) ⟨pcW_blind (sr_okZ adK adV), pcW_at (sr_okZ adK adV) hS hA hP hD hK hz0 [26] rfl rfl rfl⟩ rfl rfl hl.1 rfl (lv_room (Nat.le_of_ble_eq_true rfl)) dX8_schema_16 ⟨(Nat.le_of_ble_eq_true rfl), (Nat.le_of_ble_eq_true rfl)⟩) hS hA hP hD [26] [0, 1, 2, 3, 4, 5, 6, 7, 8, 9, 10, 11, 12, 13, 14, 15, 16, 17, 18, 19, 20, 21, 22, 23, 24, 25] rfl rfl rfl (by decide) rfl rfl (fun _ H locs hP hD hS => ?_)
  have hP : va_P (dC, dI) srCl [(obX, .inr (2, [.ref obT, .ref obD, .ref obC, .ref xq_kept, .ref xq_printSteps, .ref obS, .int x_hasLatest, .int x_faultPlace, .int x_keptCount])), (obT, .inr (9, [.ref tq_tape, .ref tq_said, .ref tq_inner, .ref tq_next, .ref tq_amount, .ref obK, .int t_length, .int t_wrongPlace])), (tq_tape, .inl (cB, 4096, .inl t_tape)), (tq_said, .inl (cB, 4096, .inl t_said)), (tq_inner, .inl (cI, 4096, .inl t_inner)), (tq_next, .inl (cI, 4096, .inl t_next)), (tq_amount, .inl (cI, 4096, .inl t_amount)), (obS, .inr (8, [.ref sq_plain, .ref sq_kinds, .ref sq_meant, .ref sq_firsts, .ref sq_nexts, .ref sq_names, .ref sq_fieldNames, .ref sq_amounts, .ref sq_fieldDefaults, .ref sq_enumDefaults, .int s_letterCount, .int s_slotCount])), (sq_plain, .inl (cB, 4096, .inl s_plain)), (sq_kinds, .inl (cI, 128, .inl s_kinds)), (sq_meant, .inl (cI, 128, .inl s_meant)), (sq_firsts, .inl (cI, 128, .inl s_firsts)), (sq_nexts, .inl (cI, 128, .inl s_nexts)), (sq_names, .inl (cI, 128, .inl s_names)), (sq_fieldNames, .inl (cI, 128, .inl s_fieldNames)), (sq_amounts, .inl (cI, 128, .inl s_amounts)), (sq_fieldDefaults, .inl (cZ, 128, .inl s_fieldDefaults)), (sq_enumDefaults, .inl (cZ, 128, .inl s_enumDefaults)), (obD, .inr (3, [.ref dq_firsts, .ref dq_seconds, .int d_count])), (dq_firsts, .inl (cI, 128, .inl d_firsts)), (dq_seconds, .inl (cI, 128, .inl d_seconds)), (obK, .inr (5, [.ref kq_heads, .ref kq_places, .ref kq_owners, .ref kq_nexts, .int k_count])), (kq_heads, .inl (cI, 256, .inl k_heads)), (kq_places, .inl (cI, 1024, .inl k_places)), (kq_owners, .inl (cI, 1024, .inl k_owners)), (kq_nexts, .inl (cI, 1024, .inl k_nexts)), (nq0, .inr (6, [.ref obT, .ref obS, .ref obD, .int 0, .int (-1)]))] H := hP
  have hD : va_D A [(obX, .inr (2, [.ref obT, .ref obD, .ref obC, .ref xq_kept, .ref xq_printSteps, .ref obS, .int x_hasLatest, .int x_faultPlace, .int x_keptCount])), (obT, .inr (9, [.ref tq_tape, .ref tq_said, .ref tq_inner, .ref tq_next, .ref tq_amount, .ref obK, .int t_length, .int t_wrongPlace])), (tq_tape, .inl (cB, 4096, .inl t_tape)), (tq_said, .inl (cB, 4096, .inl t_said)), (tq_inner, .inl (cI, 4096, .inl t_inner)), (tq_next, .inl (cI, 4096, .inl t_next)), (tq_amount, .inl (cI, 4096, .inl t_amount)), (obS, .inr (8, [.ref sq_plain, .ref sq_kinds, .ref sq_meant, .ref sq_firsts, .ref sq_nexts, .ref sq_names, .ref sq_fieldNames, .ref sq_amounts, .ref sq_fieldDefaults, .ref sq_enumDefaults, .int s_letterCount, .int s_slotCount])), (sq_plain, .inl (cB, 4096, .inl s_plain)), (sq_kinds, .inl (cI, 128, .inl s_kinds)), (sq_meant, .inl (cI, 128, .inl s_meant)), (sq_firsts, .inl (cI, 128, .inl s_firsts)), (sq_nexts, .inl (cI, 128, .inl s_nexts)), (sq_names, .inl (cI, 128, .inl s_names)), (sq_fieldNames, .inl (cI, 128, .inl s_fieldNames)), (sq_amounts, .inl (cI, 128, .inl s_amounts)), (sq_fieldDefaults, .inl (cZ, 128, .inl s_fieldDefaults)), (sq_enumDefaults, .inl (cZ, 128, .inl s_enumDefaults)), (obD, .inr (3, [.ref dq_firsts, .ref dq_seconds, .int d_count])), (dq_firsts, .inl (cI, 128, .inl d_firsts)), (dq_seconds, .inl (cI, 128, .inl d_seconds)), (obK, .inr (5, [.ref kq_heads, .ref kq_places, .ref kq_owners, .ref kq_nexts, .int k_count])), (kq_heads, .inl (cI, 256, .inl k_heads)), (kq_places, .inl (cI, 1024, .inl k_places)), (kq_owners, .inl (cI, 1024, .inl k_owners)), (kq_nexts, .inl (cI, 1024, .inl k_nexts)), (nq0, .inr (6, [.ref obT, .ref obS, .ref obD, .int 0, .int (-1)]))] := hD
  refine lv_astore_n (lv' := [(1, .ref nq0), (0, .ref obX)]) hx hb dX8_schema_19 rfl hl (by decide) rfl (fun ls hl => ?_)
  refine lv_aload_n hx hb dX8_schema_20 rfl (lv_at hl 0 rfl) ?_
  obtain ⟨⟨r1, n0_fault_1, n0_faultPlace_1, t_said_1, t_inner_1, t_next_1, t_amount_1, t_wrongPlace_1, s_plain_1, s_kinds_1, s_meant_1, s_firsts_1, s_nexts_1, s_names_1, s_fieldNames_1, s_amounts_1, s_fieldDefaults_1, s_enumDefaults_1, s_letterCount_1, s_slotCount_1, d_firsts_1, d_seconds_1, d_count_1, k_heads_1, k_places_1, k_owners_1, k_nexts_1, k_count_1⟩, hz1, hm⟩ := mr_bind hm
  try dsimp only at hm
  refine mr_ki (wc := [(nq0, .inr (6, [.ref obT, .ref obS, .ref obD, .int 0, .int (-1)])), (obT, .inr (9, [.ref tq_tape, .ref tq_said, .ref tq_inner, .ref tq_next, .ref tq_amount, .ref obK, .int t_length, .int t_wrongPlace])), (tq_tape, .inl (cB, 4096, .inl t_tape)), (tq_said, .inl (cB, 4096, .inl t_said)), (tq_inner, .inl (cI, 4096, .inl t_inner)), (tq_next, .inl (cI, 4096, .inl t_next)), (tq_amount, .inl (cI, 4096, .inl t_amount)), (obS, .inr (8, [.ref sq_plain, .ref sq_kinds, .ref sq_meant, .ref sq_firsts, .ref sq_nexts, .ref sq_names, .ref sq_fieldNames, .ref sq_amounts, .ref sq_fieldDefaults, .ref sq_enumDefaults, .int s_letterCount, .int s_slotCount])), (sq_plain, .inl (cB, 4096, .inl s_plain)), (sq_kinds, .inl (cI, 128, .inl s_kinds)), (sq_meant, .inl (cI, 128, .inl s_meant)), (sq_firsts, .inl (cI, 128, .inl s_firsts)), (sq_nexts, .inl (cI, 128, .inl s_nexts)), (sq_names, .inl (cI, 128, .inl s_names)), (sq_fieldNames, .inl (cI, 128, .inl s_fieldNames)), (sq_amounts, .inl (cI, 128, .inl s_amounts)), (sq_fieldDefaults, .inl (cZ, 128, .inl s_fieldDefaults)), (sq_enumDefaults, .inl (cZ, 128, .inl s_enumDefaults)), (obD, .inr (3, [.ref dq_firsts, .ref dq_seconds, .int d_count])), (dq_firsts, .inl (cI, 128, .inl d_firsts)), (dq_seconds, .inl (cI, 128, .inl d_seconds)), (obK, .inr (5, [.ref kq_heads, .ref kq_places, .ref kq_owners, .ref kq_nexts, .int k_count])), (kq_heads, .inl (cI, 256, .inl k_heads)), (kq_places, .inl (cI, 1024, .inl k_places)), (kq_owners, .inl (cI, 1024, .inl k_owners)), (kq_nexts, .inl (cI, 1024, .inl k_nexts))]) (wr := [(obX, .inr (2, [.ref obT, .ref obD, .ref obC, .ref xq_kept, .ref xq_printSteps, .ref obS, .int x_hasLatest, .int x_faultPlace, .int x_keptCount]))]) (w1 := [(obX, .inr (2, [.ref obT, .ref obD, .ref obC, .ref xq_kept, .ref xq_printSteps, .ref obS, .int x_hasLatest, .int x_faultPlace, .int x_keptCount])), (obT, .inr (9, [.ref tq_tape, .ref tq_said, .ref tq_inner, .ref tq_next, .ref tq_amount, .ref obK, .int t_length, .int t_wrongPlace_1])), (tq_tape, .inl (cB, 4096, .inl t_tape)), (tq_said, .inl (cB, 4096, .inl t_said_1)), (tq_inner, .inl (cI, 4096, .inl t_inner_1)), (tq_next, .inl (cI, 4096, .inl t_next_1)), (tq_amount, .inl (cI, 4096, .inl t_amount_1)), (obS, .inr (8, [.ref sq_plain, .ref sq_kinds, .ref sq_meant, .ref sq_firsts, .ref sq_nexts, .ref sq_names, .ref sq_fieldNames, .ref sq_amounts, .ref sq_fieldDefaults, .ref sq_enumDefaults, .int s_letterCount_1, .int s_slotCount_1])), (sq_plain, .inl (cB, 4096, .inl s_plain_1)), (sq_kinds, .inl (cI, 128, .inl s_kinds_1)), (sq_meant, .inl (cI, 128, .inl s_meant_1)), (sq_firsts, .inl (cI, 128, .inl s_firsts_1)), (sq_nexts, .inl (cI, 128, .inl s_nexts_1)), (sq_names, .inl (cI, 128, .inl s_names_1)), (sq_fieldNames, .inl (cI, 128, .inl s_fieldNames_1)), (sq_amounts, .inl (cI, 128, .inl s_amounts_1)), (sq_fieldDefaults, .inl (cZ, 128, .inl s_fieldDefaults_1)), (sq_enumDefaults, .inl (cZ, 128, .inl s_enumDefaults_1)), (obD, .inr (3, [.ref dq_firsts, .ref dq_seconds, .int d_count_1])), (dq_firsts, .inl (cI, 128, .inl d_firsts_1)), (dq_seconds, .inl (cI, 128, .inl d_seconds_1)), (obK, .inr (5, [.ref kq_heads, .ref kq_places, .ref kq_owners, .ref kq_nexts, .int k_count_1])), (kq_heads, .inl (cI, 256, .inl k_heads_1)), (kq_places, .inl (cI, 1024, .inl k_places_1)), (kq_owners, .inl (cI, 1024, .inl k_owners_1)), (kq_nexts, .inl (cI, 1024, .inl k_nexts_1)), (nq0, .inr (6, [.ref obT, .ref obS, .ref obD, .int n0_fault_1, .int n0_faultPlace_1]))]) (c1 := 2) (s1 := 7) (va_runV (g := F0 m 21 ls [.ref nq0]) (As := []) (rest := []) ⟨hx, hb, hml, hown, hts⟩ (kX4_read l htr dC dI adK adV cI cB cJ cZ cQ nq0 obT obS obD tq_tape tq_said tq_inner tq_next tq_amount obK sq_plain sq_kinds sq_meant sq_firsts sq_nexts sq_names sq_fieldNames sq_amounts sq_fieldDefaults sq_enumDefaults dq_firsts dq_seconds kq_heads kq_places kq_owners kq_nexts 0 (-1) t_length t_wrongPlace s_letterCount s_slotCount d_count k_count t_tape t_said t_inner t_next t_amount s_plain s_kinds s_meant s_firsts s_nexts s_names s_fieldNames s_amounts s_fieldDefaults s_enumDefaults d_firsts d_seconds k_heads k_places k_owners k_nexts _ _ hz1) (cwV 0 hts (g8_84 _) rfl rfl rfl (by decide +kernel) ⟨(by show 80 + 1 ≤ 81; omega), (by show 8 + (2 + 11) + (2073) ≤ 2094; omega)⟩) ⟨pcW_blind (sr_okZ adK adV), (va_recv hK hP (ci := 6) (q0 := 26) rfl rfl), pcW_at (sr_okZ adK adV) hS hA hP hD hK hz0 [26, 1, 2, 3, 4, 5, 6, 7, 8, 9, 10, 11, 12, 13, 14, 15, 16, 17, 18, 19, 20, 21, 22, 23, 24, 25] rfl rfl rfl⟩ rfl rfl hl.1 rfl (lv_room (Nat.le_of_ble_eq_true rfl)) dX8_schema_21 ⟨Nat.le_of_ble_eq_true rfl, Nat.le_of_ble_eq_true rfl⟩) hS hA hP hD [26, 1, 2, 3, 4, 5, 6, 7, 8, 9, 10, 11, 12, 13, 14, 15, 16, 17, 18, 19, 20, 21, 22, 23, 24, 25] [0] [0, 2, 3, 4, 5, 6, 7, 8, 9, 10, 11, 12, 13, 14, 15, 16, 17, 18, 19, 20, 21, 22, 23, 24, 25, 26, 1] rfl rfl rfl (by decide) rfl rfl rfl rfl rfl (fun H locs hP hD hS => ?_)
  refine lv_istore_n (lv' := [(2, .int r1), (1, .ref nq0), (0, .ref obX)]) hx hb dX8_schema_24 rfl hl (by decide) rfl (fun ls hl => ?_)
  refine lv_aload_n hx hb dX8_schema_25 rfl (lv_at hl 2 rfl) ?_
  refine lv_iload_n hx hb dX8_schema_26 rfl (lv_at hl 0 rfl) ?_
  have j35 : ∀ (x_hasLatest : Int32) (x_faultPlace : Int32) (t_said : Nat → Int32) (t_inner : Nat → Int32) (t_next : Nat → Int32) (t_amount : Nat → Int32) (t_wrongPlace : Int32) (s_plain : Nat → Int32) (s_kinds : Nat → Int32) (s_meant : Nat → Int32) (s_firsts : Nat → Int32) (s_nexts : Nat → Int32) (s_names : Nat → Int32) (s_fieldNames : Nat → Int32) (s_amounts : Nat → Int32) (s_fieldDefaults : Nat → Int32) (s_enumDefaults : Nat → Int32) (s_letterCount : Int32) (s_slotCount : Int32) (d_firsts : Nat → Int32) (d_seconds : Nat → Int32) (d_count : Int32) (k_heads : Nat → Int32) (k_places : Nat → Int32) (k_owners : Nat → Int32) (k_nexts : Nat → Int32) (k_count : Int32) (n0_fault : Int32) (n0_faultPlace : Int32) (x2 : Int32) (y0 : Int32) (H : Heap) (locs : List Loc) (ls : Array Slot), va_P (dC, dI) srCl [(obX, .inr (2, [.ref obT, .ref obD, .ref obC, .ref xq_kept, .ref xq_printSteps, .ref obS, .int x_hasLatest, .int x_faultPlace, .int x_keptCount])), (obT, .inr (9, [.ref tq_tape, .ref tq_said, .ref tq_inner, .ref tq_next, .ref tq_amount, .ref obK, .int t_length, .int t_wrongPlace])), (tq_tape, .inl (cB, 4096, .inl t_tape)), (tq_said, .inl (cB, 4096, .inl t_said)), (tq_inner, .inl (cI, 4096, .inl t_inner)), (tq_next, .inl (cI, 4096, .inl t_next)), (tq_amount, .inl (cI, 4096, .inl t_amount)), (obS, .inr (8, [.ref sq_plain, .ref sq_kinds, .ref sq_meant, .ref sq_firsts, .ref sq_nexts, .ref sq_names, .ref sq_fieldNames, .ref sq_amounts, .ref sq_fieldDefaults, .ref sq_enumDefaults, .int s_letterCount, .int s_slotCount])), (sq_plain, .inl (cB, 4096, .inl s_plain)), (sq_kinds, .inl (cI, 128, .inl s_kinds)), (sq_meant, .inl (cI, 128, .inl s_meant)), (sq_firsts, .inl (cI, 128, .inl s_firsts)), (sq_nexts, .inl (cI, 128, .inl s_nexts)), (sq_names, .inl (cI, 128, .inl s_names)), (sq_fieldNames, .inl (cI, 128, .inl s_fieldNames)), (sq_amounts, .inl (cI, 128, .inl s_amounts)), (sq_fieldDefaults, .inl (cZ, 128, .inl s_fieldDefaults)), (sq_enumDefaults, .inl (cZ, 128, .inl s_enumDefaults)), (obD, .inr (3, [.ref dq_firsts, .ref dq_seconds, .int d_count])), (dq_firsts, .inl (cI, 128, .inl d_firsts)), (dq_seconds, .inl (cI, 128, .inl d_seconds)), (obK, .inr (5, [.ref kq_heads, .ref kq_places, .ref kq_owners, .ref kq_nexts, .int k_count])), (kq_heads, .inl (cI, 256, .inl k_heads)), (kq_places, .inl (cI, 1024, .inl k_places)), (kq_owners, .inl (cI, 1024, .inl k_owners)), (kq_nexts, .inl (cI, 1024, .inl k_nexts)), (nq0, .inr (6, [.ref obT, .ref obS, .ref obD, .int n0_fault, .int n0_faultPlace]))] H → va_D A [(obX, .inr (2, [.ref obT, .ref obD, .ref obC, .ref xq_kept, .ref xq_printSteps, .ref obS, .int x_hasLatest, .int x_faultPlace, .int x_keptCount])), (obT, .inr (9, [.ref tq_tape, .ref tq_said, .ref tq_inner, .ref tq_next, .ref tq_amount, .ref obK, .int t_length, .int t_wrongPlace])), (tq_tape, .inl (cB, 4096, .inl t_tape)), (tq_said, .inl (cB, 4096, .inl t_said)), (tq_inner, .inl (cI, 4096, .inl t_inner)), (tq_next, .inl (cI, 4096, .inl t_next)), (tq_amount, .inl (cI, 4096, .inl t_amount)), (obS, .inr (8, [.ref sq_plain, .ref sq_kinds, .ref sq_meant, .ref sq_firsts, .ref sq_nexts, .ref sq_names, .ref sq_fieldNames, .ref sq_amounts, .ref sq_fieldDefaults, .ref sq_enumDefaults, .int s_letterCount, .int s_slotCount])), (sq_plain, .inl (cB, 4096, .inl s_plain)), (sq_kinds, .inl (cI, 128, .inl s_kinds)), (sq_meant, .inl (cI, 128, .inl s_meant)), (sq_firsts, .inl (cI, 128, .inl s_firsts)), (sq_nexts, .inl (cI, 128, .inl s_nexts)), (sq_names, .inl (cI, 128, .inl s_names)), (sq_fieldNames, .inl (cI, 128, .inl s_fieldNames)), (sq_amounts, .inl (cI, 128, .inl s_amounts)), (sq_fieldDefaults, .inl (cZ, 128, .inl s_fieldDefaults)), (sq_enumDefaults, .inl (cZ, 128, .inl s_enumDefaults)), (obD, .inr (3, [.ref dq_firsts, .ref dq_seconds, .int d_count])), (dq_firsts, .inl (cI, 128, .inl d_firsts)), (dq_seconds, .inl (cI, 128, .inl d_seconds)), (obK, .inr (5, [.ref kq_heads, .ref kq_places, .ref kq_owners, .ref kq_nexts, .int k_count])), (kq_heads, .inl (cI, 256, .inl k_heads)), (kq_places, .inl (cI, 1024, .inl k_places)), (kq_owners, .inl (cI, 1024, .inl k_owners)), (kq_nexts, .inl (cI, 1024, .inl k_nexts)), (nq0, .inr (6, [.ref obT, .ref obS, .ref obD, .int n0_fault, .int n0_faultPlace]))] → va_S A s.heap H locs → lv_has ls 3 [(0, .ref obX), (1, .ref nq0), (2, .int x2)] → m_X8_schema_35 t_tape t_length x_hasLatest x_faultPlace t_said t_inner t_next t_amount t_wrongPlace s_plain s_kinds s_meant s_firsts s_nexts s_names s_fieldNames s_amounts s_fieldDefaults s_enumDefaults s_letterCount s_slotCount d_firsts d_seconds d_count k_heads k_places k_owners k_nexts k_count n0_fault n0_faultPlace x2 y0 = some res → W p l e (headSpec wsX8_schema (rmX8_schema 2 7)).room s m [.ref obX].toArray below meth c H locs 2 7 Q0 (F0 m 35 ls [.int y0, .ref obX]) := by
    intro x_hasLatest x_faultPlace t_said t_inner t_next t_amount t_wrongPlace s_plain s_kinds s_meant s_firsts s_nexts s_names s_fieldNames s_amounts s_fieldDefaults s_enumDefaults s_letterCount s_slotCount d_firsts d_seconds d_count k_heads k_places k_owners k_nexts k_count n0_fault n0_faultPlace x2 y0 H locs ls hP hD hS hl hm
    unfold m_X8_schema_35 at hm
    obtain ⟨h2, hm⟩ := mr_by hm
    refine va_put (D := (dC, dI)) (ci := 2) (v := .int y0) (ty := .boolean) (C := RX8) (T := TX8) (N := 9) hx hb hts (inX8 _) tyX8 tyX8_ok nmX8 hown hK hP hD hS 0 rfl rfl 6 (by decide) (hts _ (List.mem_cons_of_mem _ wf8_45)) (fun _ h9 => h9) rfl (by decide +kernel) h2.1 h2.2 (Nat.le_of_ble_eq_true rfl) dX8_schema_35 (fun H locs hP hD hS => ?_)
    have hP : va_P (dC, dI) srCl [(obX, .inr (2, [.ref obT, .ref obD, .ref obC, .ref xq_kept, .ref xq_printSteps, .ref obS, .int y0, .int x_faultPlace, .int x_keptCount])), (obT, .inr (9, [.ref tq_tape, .ref tq_said, .ref tq_inner, .ref tq_next, .ref tq_amount, .ref obK, .int t_length, .int t_wrongPlace])), (tq_tape, .inl (cB, 4096, .inl t_tape)), (tq_said, .inl (cB, 4096, .inl t_said)), (tq_inner, .inl (cI, 4096, .inl t_inner)), (tq_next, .inl (cI, 4096, .inl t_next)), (tq_amount, .inl (cI, 4096, .inl t_amount)), (obS, .inr (8, [.ref sq_plain, .ref sq_kinds, .ref sq_meant, .ref sq_firsts, .ref sq_nexts, .ref sq_names, .ref sq_fieldNames, .ref sq_amounts, .ref sq_fieldDefaults, .ref sq_enumDefaults, .int s_letterCount, .int s_slotCount])), (sq_plain, .inl (cB, 4096, .inl s_plain)), (sq_kinds, .inl (cI, 128, .inl s_kinds)), (sq_meant, .inl (cI, 128, .inl s_meant)), (sq_firsts, .inl (cI, 128, .inl s_firsts)), (sq_nexts, .inl (cI, 128, .inl s_nexts)), (sq_names, .inl (cI, 128, .inl s_names)), (sq_fieldNames, .inl (cI, 128, .inl s_fieldNames)), (sq_amounts, .inl (cI, 128, .inl s_amounts)), (sq_fieldDefaults, .inl (cZ, 128, .inl s_fieldDefaults)), (sq_enumDefaults, .inl (cZ, 128, .inl s_enumDefaults)), (obD, .inr (3, [.ref dq_firsts, .ref dq_seconds, .int d_count])), (dq_firsts, .inl (cI, 128, .inl d_firsts)), (dq_seconds, .inl (cI, 128, .inl d_seconds)), (obK, .inr (5, [.ref kq_heads, .ref kq_places, .ref kq_owners, .ref kq_nexts, .int k_count])), (kq_heads, .inl (cI, 256, .inl k_heads)), (kq_places, .inl (cI, 1024, .inl k_places)), (kq_owners, .inl (cI, 1024, .inl k_owners)), (kq_nexts, .inl (cI, 1024, .inl k_nexts)), (nq0, .inr (6, [.ref obT, .ref obS, .ref obD, .int n0_fault, .int n0_faultPlace]))] H := hP
    have hD : va_D A [(obX, .inr (2, [.ref obT, .ref obD, .ref obC, .ref xq_kept, .ref xq_printSteps, .ref obS, .int y0, .int x_faultPlace, .int x_keptCount])), (obT, .inr (9, [.ref tq_tape, .ref tq_said, .ref tq_inner, .ref tq_next, .ref tq_amount, .ref obK, .int t_length, .int t_wrongPlace])), (tq_tape, .inl (cB, 4096, .inl t_tape)), (tq_said, .inl (cB, 4096, .inl t_said)), (tq_inner, .inl (cI, 4096, .inl t_inner)), (tq_next, .inl (cI, 4096, .inl t_next)), (tq_amount, .inl (cI, 4096, .inl t_amount)), (obS, .inr (8, [.ref sq_plain, .ref sq_kinds, .ref sq_meant, .ref sq_firsts, .ref sq_nexts, .ref sq_names, .ref sq_fieldNames, .ref sq_amounts, .ref sq_fieldDefaults, .ref sq_enumDefaults, .int s_letterCount, .int s_slotCount])), (sq_plain, .inl (cB, 4096, .inl s_plain)), (sq_kinds, .inl (cI, 128, .inl s_kinds)), (sq_meant, .inl (cI, 128, .inl s_meant)), (sq_firsts, .inl (cI, 128, .inl s_firsts)), (sq_nexts, .inl (cI, 128, .inl s_nexts)), (sq_names, .inl (cI, 128, .inl s_names)), (sq_fieldNames, .inl (cI, 128, .inl s_fieldNames)), (sq_amounts, .inl (cI, 128, .inl s_amounts)), (sq_fieldDefaults, .inl (cZ, 128, .inl s_fieldDefaults)), (sq_enumDefaults, .inl (cZ, 128, .inl s_enumDefaults)), (obD, .inr (3, [.ref dq_firsts, .ref dq_seconds, .int d_count])), (dq_firsts, .inl (cI, 128, .inl d_firsts)), (dq_seconds, .inl (cI, 128, .inl d_seconds)), (obK, .inr (5, [.ref kq_heads, .ref kq_places, .ref kq_owners, .ref kq_nexts, .int k_count])), (kq_heads, .inl (cI, 256, .inl k_heads)), (kq_places, .inl (cI, 1024, .inl k_places)), (kq_owners, .inl (cI, 1024, .inl k_owners)), (kq_nexts, .inl (cI, 1024, .inl k_nexts)), (nq0, .inr (6, [.ref obT, .ref obS, .ref obD, .int n0_fault, .int n0_faultPlace]))] := hD
    refine lv_aload_n hx hb dX8_schema_38 rfl (lv_at hl 0 rfl) ?_
    refine lv_aload_n hx hb dX8_schema_39 rfl (lv_at hl 1 rfl) ?_
    obtain ⟨r3, hz3, hm⟩ := mr_bind hm
    refine mr_pV (As := []) (rest := [.ref obX]) (sr_okZ adK adV) ⟨hx, hb, hml, hown, hts⟩ (kX4_faultPlace l htr dC dI adK adV cI cB cJ cZ cQ nq0 obT obS obD n0_fault n0_faultPlace r3 hz3) (cwV 0 hts (g8_87 _) rfl rfl rfl (by decide +kernel) ⟨(by show 0 + 1 ≤ 81; omega), (by show 8 + (1 + 11) + (0) ≤ 2094; omega)⟩) hS hP hK hz0 [26] rfl (va_recv hK hP (ci := 6) (q0 := 26) rfl rfl) rfl rfl hl.1 (Nat.le_of_ble_eq_true rfl) dX8_schema_40 ⟨Nat.le_of_ble_eq_true rfl, Nat.le_of_ble_eq_true rfl⟩ ?_
    refine va_put (D := (dC, dI)) (ci := 2) (v := .int r3) (ty := .int) (C := RX8) (T := TX8) (N := 9) hx hb hts (inX8 _) tyX8 tyX8_ok nmX8 hown hK hP hD hS 0 rfl rfl 7 (by decide) (hts _ (List.mem_cons_of_mem _ wf8_49)) (fun _ h9 => h9) rfl (by decide +kernel) rfl rfl (Nat.le_of_ble_eq_true rfl) dX8_schema_43 (fun H locs hP hD hS => ?_)
    have hP : va_P (dC, dI) srCl [(obX, .inr (2, [.ref obT, .ref obD, .ref obC, .ref xq_kept, .ref xq_printSteps, .ref obS, .int y0, .int r3, .int x_keptCount])), (obT, .inr (9, [.ref tq_tape, .ref tq_said, .ref tq_inner, .ref tq_next, .ref tq_amount, .ref obK, .int t_length, .int t_wrongPlace])), (tq_tape, .inl (cB, 4096, .inl t_tape)), (tq_said, .inl (cB, 4096, .inl t_said)), (tq_inner, .inl (cI, 4096, .inl t_inner)), (tq_next, .inl (cI, 4096, .inl t_next)), (tq_amount, .inl (cI, 4096, .inl t_amount)), (obS, .inr (8, [.ref sq_plain, .ref sq_kinds, .ref sq_meant, .ref sq_firsts, .ref sq_nexts, .ref sq_names, .ref sq_fieldNames, .ref sq_amounts, .ref sq_fieldDefaults, .ref sq_enumDefaults, .int s_letterCount, .int s_slotCount])), (sq_plain, .inl (cB, 4096, .inl s_plain)), (sq_kinds, .inl (cI, 128, .inl s_kinds)), (sq_meant, .inl (cI, 128, .inl s_meant)), (sq_firsts, .inl (cI, 128, .inl s_firsts)), (sq_nexts, .inl (cI, 128, .inl s_nexts)), (sq_names, .inl (cI, 128, .inl s_names)), (sq_fieldNames, .inl (cI, 128, .inl s_fieldNames)), (sq_amounts, .inl (cI, 128, .inl s_amounts)), (sq_fieldDefaults, .inl (cZ, 128, .inl s_fieldDefaults)), (sq_enumDefaults, .inl (cZ, 128, .inl s_enumDefaults)), (obD, .inr (3, [.ref dq_firsts, .ref dq_seconds, .int d_count])), (dq_firsts, .inl (cI, 128, .inl d_firsts)), (dq_seconds, .inl (cI, 128, .inl d_seconds)), (obK, .inr (5, [.ref kq_heads, .ref kq_places, .ref kq_owners, .ref kq_nexts, .int k_count])), (kq_heads, .inl (cI, 256, .inl k_heads)), (kq_places, .inl (cI, 1024, .inl k_places)), (kq_owners, .inl (cI, 1024, .inl k_owners)), (kq_nexts, .inl (cI, 1024, .inl k_nexts)), (nq0, .inr (6, [.ref obT, .ref obS, .ref obD, .int n0_fault, .int n0_faultPlace]))] H := hP
    have hD : va_D A [(obX, .inr (2, [.ref obT, .ref obD, .ref obC, .ref xq_kept, .ref xq_printSteps, .ref obS, .int y0, .int r3, .int x_keptCount])), (obT, .inr (9, [.ref tq_tape, .ref tq_said, .ref tq_inner, .ref tq_next, .ref tq_amount, .ref obK, .int t_length, .int t_wrongPlace])), (tq_tape, .inl (cB, 4096, .inl t_tape)), (tq_said, .inl (cB, 4096, .inl t_said)), (tq_inner, .inl (cI, 4096, .inl t_inner)), (tq_next, .inl (cI, 4096, .inl t_next)), (tq_amount, .inl (cI, 4096, .inl t_amount)), (obS, .inr (8, [.ref sq_plain, .ref sq_kinds, .ref sq_meant, .ref sq_firsts, .ref sq_nexts, .ref sq_names, .ref sq_fieldNames, .ref sq_amounts, .ref sq_fieldDefaults, .ref sq_enumDefaults, .int s_letterCount, .int s_slotCount])), (sq_plain, .inl (cB, 4096, .inl s_plain)), (sq_kinds, .inl (cI, 128, .inl s_kinds)), (sq_meant, .inl (cI, 128, .inl s_meant)), (sq_firsts, .inl (cI, 128, .inl s_firsts)), (sq_nexts, .inl (cI, 128, .inl s_nexts)), (sq_names, .inl (cI, 128, .inl s_names)), (sq_fieldNames, .inl (cI, 128, .inl s_fieldNames)), (sq_amounts, .inl (cI, 128, .inl s_amounts)), (sq_fieldDefaults, .inl (cZ, 128, .inl s_fieldDefaults)), (sq_enumDefaults, .inl (cZ, 128, .inl s_enumDefaults)), (obD, .inr (3, [.ref dq_firsts, .ref dq_seconds, .int d_count])), (dq_firsts, .inl (cI, 128, .inl d_firsts)), (dq_seconds, .inl (cI, 128, .inl d_seconds)), (obK, .inr (5, [.ref kq_heads, .ref kq_places, .ref kq_owners, .ref kq_nexts, .int k_count])), (kq_heads, .inl (cI, 256, .inl k_heads)), (kq_places, .inl (cI, 1024, .inl k_places)), (kq_owners, .inl (cI, 1024, .inl k_owners)), (kq_nexts, .inl (cI, 1024, .inl k_nexts)), (nq0, .inr (6, [.ref obT, .ref obS, .ref obD, .int n0_fault, .int n0_faultPlace]))] := hD
    refine lv_iload_n hx hb dX8_schema_46 rfl (lv_at hl 2 rfl) ?_
    have hP : va_P (dC, dI) srCl [(obX, .inr (2, [.ref obT, .ref obD, .ref obC, .ref xq_kept, .ref xq_printSteps, .ref obS, .int y0, .int r3, .int x_keptCount])), (obT, .inr (9, [.ref tq_tape, .ref tq_said, .ref tq_inner, .ref tq_next, .ref tq_amount, .ref obK, .int t_length, .int t_wrongPlace])), (tq_tape, .inl (cB, 4096, .inl t_tape)), (tq_said, .inl (cB, 4096, .inl t_said)), (tq_inner, .inl (cI, 4096, .inl t_inner)), (tq_next, .inl (cI, 4096, .inl t_next)), (tq_amount, .inl (cI, 4096, .inl t_amount)), (obS, .inr (8, [.ref sq_plain, .ref sq_kinds, .ref sq_meant, .ref sq_firsts, .ref sq_nexts, .ref sq_names, .ref sq_fieldNames, .ref sq_amounts, .ref sq_fieldDefaults, .ref sq_enumDefaults, .int s_letterCount, .int s_slotCount])), (sq_plain, .inl (cB, 4096, .inl s_plain)), (sq_kinds, .inl (cI, 128, .inl s_kinds)), (sq_meant, .inl (cI, 128, .inl s_meant)), (sq_firsts, .inl (cI, 128, .inl s_firsts)), (sq_nexts, .inl (cI, 128, .inl s_nexts)), (sq_names, .inl (cI, 128, .inl s_names)), (sq_fieldNames, .inl (cI, 128, .inl s_fieldNames)), (sq_amounts, .inl (cI, 128, .inl s_amounts)), (sq_fieldDefaults, .inl (cZ, 128, .inl s_fieldDefaults)), (sq_enumDefaults, .inl (cZ, 128, .inl s_enumDefaults)), (obD, .inr (3, [.ref dq_firsts, .ref dq_seconds, .int d_count])), (dq_firsts, .inl (cI, 128, .inl d_firsts)), (dq_seconds, .inl (cI, 128, .inl d_seconds)), (obK, .inr (5, [.ref kq_heads, .ref kq_places, .ref kq_owners, .ref kq_nexts, .int k_count])), (kq_heads, .inl (cI, 256, .inl k_heads)), (kq_places, .inl (cI, 1024, .inl k_places)), (kq_owners, .inl (cI, 1024, .inl k_owners)), (kq_nexts, .inl (cI, 1024, .inl k_nexts))] H := hP.sub [0, 1, 2, 3, 4, 5, 6, 7, 8, 9, 10, 11, 12, 13, 14, 15, 16, 17, 18, 19, 20, 21, 22, 23, 24, 25] rfl
    have hD : va_D A [(obX, .inr (2, [.ref obT, .ref obD, .ref obC, .ref xq_kept, .ref xq_printSteps, .ref obS, .int y0, .int r3, .int x_keptCount])), (obT, .inr (9, [.ref tq_tape, .ref tq_said, .ref tq_inner, .ref tq_next, .ref tq_amount, .ref obK, .int t_length, .int t_wrongPlace])), (tq_tape, .inl (cB, 4096, .inl t_tape)), (tq_said, .inl (cB, 4096, .inl t_said)), (tq_inner, .inl (cI, 4096, .inl t_inner)), (tq_next, .inl (cI, 4096, .inl t_next)), (tq_amount, .inl (cI, 4096, .inl t_amount)), (obS, .inr (8, [.ref sq_plain, .ref sq_kinds, .ref sq_meant, .ref sq_firsts, .ref sq_nexts, .ref sq_names, .ref sq_fieldNames, .ref sq_amounts, .ref sq_fieldDefaults, .ref sq_enumDefaults, .int s_letterCount, .int s_slotCount])), (sq_plain, .inl (cB, 4096, .inl s_plain)), (sq_kinds, .inl (cI, 128, .inl s_kinds)), (sq_meant, .inl (cI, 128, .inl s_meant)), (sq_firsts, .inl (cI, 128, .inl s_firsts)), (sq_nexts, .inl (cI, 128, .inl s_nexts)), (sq_names, .inl (cI, 128, .inl s_names)), (sq_fieldNames, .inl (cI, 128, .inl s_fieldNames)), (sq_amounts, .inl (cI, 128, .inl s_amounts)), (sq_fieldDefaults, .inl (cZ, 128, .inl s_fieldDefaults)), (sq_enumDefaults, .inl (cZ, 128, .inl s_enumDefaults)), (obD, .inr (3, [.ref dq_firsts, .ref dq_seconds, .int d_count])), (dq_firsts, .inl (cI, 128, .inl d_firsts)), (dq_seconds, .inl (cI, 128, .inl d_seconds)), (obK, .inr (5, [.ref kq_heads, .ref kq_places, .ref kq_owners, .ref kq_nexts, .int k_count])), (kq_heads, .inl (cI, 256, .inl k_heads)), (kq_places, .inl (cI, 1024, .inl k_places)), (kq_owners, .inl (cI, 1024, .inl k_owners)), (kq_nexts, .inl (cI, 1024, .inl k_nexts))] := hD.sub [0, 1, 2, 3, 4, 5, 6, 7, 8, 9, 10, 11, 12, 13, 14, 15, 16, 17, 18, 19, 20, 21, 22, 23, 24, 25] rfl rfl
    obtain rfl := Option.some.inj hm
    subst hQ0
    exact W.iret (v := x2) hx hb hr (fun t ht hW => ⟨⟨x2, (y0, r3, t_said, t_inner, t_next, t_amount, t_wrongPlace, s_plain, s_kinds, s_meant, s_firsts, s_nexts, s_names, s_fieldNames, s_amounts, s_fieldDefaults, s_enumDefaults, s_letterCount, s_slotCount, d_firsts, d_seconds, d_count, k_heads, k_places, k_owners, k_nexts, k_count), rfl, ⟨rfl, rfl⟩, by rw [ht]; exact hP, va_K.moved hW.alike hK, hD⟩, hS.F ht⟩) hS.2.2 dX8_schema_47
  refine lv_if_ne (tgt := 34) hx hb dX8_schema_27 (by decide) (fun c4 => ?_) (fun c4 => ?_)
  · have hm := mr_un c4 hm
    refine lv_iconst (v := 0) hx hb dX8_schema_34 (by decide) ?_
    exact j35 x_hasLatest x_faultPlace t_said_1 t_inner_1 t_next_1 t_amount_1 t_wrongPlace_1 s_plain_1 s_kinds_1 s_meant_1 s_firsts_1 s_nexts_1 s_names_1 s_fieldNames_1 s_amounts_1 s_fieldDefaults_1 s_enumDefaults_1 s_letterCount_1 s_slotCount_1 d_firsts_1 d_seconds_1 d_count_1 k_heads_1 k_places_1 k_owners_1 k_nexts_1 k_count_1 n0_fault_1 n0_faultPlace_1 r1 0 _ _ ls hP hD hS (lv_sub hl [2, 1, 0] rfl) hm
  · have hm := mr_if c4 hm
    refine lv_iconst (v := 1) hx hb dX8_schema_30 (by decide) ?_
    refine lv_goto (tgt := 35) hx hb dX8_schema_31 (by decide) ?_
    exact j35 x_hasLatest x_faultPlace t_said_1 t_inner_1 t_next_1 t_amount_1 t_wrongPlace_1 s_plain_1 s_kinds_1 s_meant_1 s_firsts_1 s_nexts_1 s_names_1 s_fieldNames_1 s_amounts_1 s_fieldDefaults_1 s_enumDefaults_1 s_letterCount_1 s_slotCount_1 d_firsts_1 d_seconds_1 d_count_1 k_heads_1 k_places_1 k_owners_1 k_nexts_1 k_count_1 n0_fault_1 n0_faultPlace_1 r1 1 _ _ ls hP hD hS (lv_sub hl [2, 1, 0] rfl) hm
set_option maxHeartbeats 4000000 in
set_option maxRecDepth 100000 in
theorem kX8_feed (l : Launch) (htr : l.stackTraces = false) (dC : Nat → ClassId) (dI : Nat → Nat → Nat) (adK adV : Nat → Nat) (cI cB cJ cZ cQ : ClassId) (obX obT obD obC xq_kept xq_printSteps obS tq_tape tq_said tq_inner tq_next tq_amount obK : Nat) (x_hasLatest : Int32) (x_faultPlace : Int32) (x_keptCount : Int32) (t_length : Int32) (t_wrongPlace : Int32) (t_tape : Nat → Int32) (sz : Nat) (a0 : Int32) (a1 : Int32) (a2 : Int32) (a3 : Int32) (a4 : Int32) (res : Except ((Nat → Int32) × Int32) (Int32 × ((Nat → Int32) × Int32))) (hm : m_X8_feed t_tape t_length a0 a1 a2 a3 a4 = some res) : t2_Met l yX8_feed wsX8_feed (rmX8_feed (t2_mc res) (t2_ms res)) (pcW (sr_Z adK adV) (dC, dI) srCl [(cI, .int), (cB, .byte), (cJ, .long), (cZ, .boolean), (cQ, .object "SchemaReader$Schema")] [.ref obX, .int a0, .int a1, .int a2, .int a3, .int a4] [(obX, .inr (2, [.ref obT, .ref obD, .ref obC, .ref xq_kept, .ref xq_printSteps, .ref obS, .int x_hasLatest, .int x_faultPlace, .int x_keptCount])), (obT, .inr (9, [.ref tq_tape, .ref tq_said, .ref tq_inner, .ref tq_next, .ref tq_amount, .ref obK, .int t_length, .int t_wrongPlace])), (tq_tape, .inl (cB, 4096, .inl t_tape))] sz) (t2_Q t2_rI (pcB (dC, dI) srCl [(cI, .int), (cB, .byte), (cJ, .long), (cZ, .boolean), (cQ, .object "SchemaReader$Schema")] (fun u : (Nat → Int32) × Int32 => [(obX, .inr (2, [.ref obT, .ref obD, .ref obC, .ref xq_kept, .ref xq_printSteps, .ref obS, .int x_hasLatest, .int x_faultPlace, .int x_keptCount])), (obT, .inr (9, [.ref tq_tape, .ref tq_said, .ref tq_inner, .ref tq_next, .ref tq_amount, .ref obK, .int u.2, .int t_wrongPlace])), (tq_tape, .inl (cB, 4096, .inl u.1))]) (va_A [(obX, .inr (2, [.ref obT, .ref obD, .ref obC, .ref xq_kept, .ref xq_printSteps, .ref obS, .int x_hasLatest, .int x_faultPlace, .int x_keptCount])), (obT, .inr (9, [.ref tq_tape, .ref tq_said, .ref tq_inner, .ref tq_next, .ref tq_amount, .ref obK, .int t_length, .int t_wrongPlace])), (tq_tape, .inl (cB, 4096, .inl t_tape))] sz)) (va_A [(obX, .inr (2, [.ref obT, .ref obD, .ref obC, .ref xq_kept, .ref xq_printSteps, .ref obS, .int x_hasLatest, .int x_faultPlace, .int x_keptCount])), (obT, .inr (9, [.ref tq_tape, .ref tq_said, .ref tq_inner, .ref tq_next, .ref tq_amount, .ref obK, .int t_length, .int t_wrongPlace])), (tq_tape, .inl (cB, 4096, .inl t_tape))] sz) "java/lang/IllegalStateException" res) (t2_mc res) (t2_ms res) (va_A [(obX, .inr (2, [.ref obT, .ref obD, .ref obC, .ref xq_kept, .ref xq_printSteps, .ref obS, .int x_hasLatest, .int x_faultPlace, .int x_keptCount])), (obT, .inr (9, [.ref tq_tape, .ref tq_said, .ref tq_inner, .ref tq_next, .ref tq_amount, .ref obK, .int t_length, .int t_wrongPlace])), (tq_tape, .inl (cB, 4096, .inl t_tape))] sz) := by
  refine t2_ofW (cc := cX8_feed) (maxL := 6) (ret := (some .int)) (by decide) rfl ?_
  intro p e s m args below meth c s₁ B hml hex had hv
  obtain ⟨rfl, hsz, hP, hK, hD0, hz0⟩ := hv
  have hx := B.exec
  have hb := B.bytes
  have hr := B.returns
  have hts := atoms_spec (ws := wsX8_feed) B.pre
  have hown : s.vm.findClass RX8 = some m.cls := findClass_of_methodNamed B.named
  have hlocks := B.notSynchronized
  subst hsz
  have hD := hD0.self (sz := s.heap.size)
  generalize hAe : va_A [(obX, .inr (2, [.ref obT, .ref obD, .ref obC, .ref xq_kept, .ref xq_printSteps, .ref obS, .int x_hasLatest, .int x_faultPlace, .int x_keptCount])), (obT, .inr (9, [.ref tq_tape, .ref tq_said, .ref tq_inner, .ref tq_next, .ref tq_amount, .ref obK, .int t_length, .int t_wrongPlace])), (tq_tape, .inl (cB, 4096, .inl t_tape))] s.heap.size = A at hD hz0 ⊢
  have hA : ∀ q : Nat, s.heap.size ≤ q → A q := fun q h => by rw [← hAe]; exact Or.inr h
  have hS : va_S A s.heap s.heap [] := va_S.rf
  generalize hQ0 : t2_MQ below (t2_Q t2_rI (pcB (dC, dI) srCl [(cI, .int), (cB, .byte), (cJ, .long), (cZ, .boolean), (cQ, .object "SchemaReader$Schema")] (fun u : (Nat → Int32) × Int32 => [(obX, .inr (2, [.ref obT, .ref obD, .ref obC, .ref xq_kept, .ref xq_printSteps, .ref obS, .int x_hasLatest, .int x_faultPlace, .int x_keptCount])), (obT, .inr (9, [.ref tq_tape, .ref tq_said, .ref tq_inner, .ref tq_next, .ref tq_amount, .ref obK, .int u.2, .int t_wrongPlace])), (tq_tape, .inl (cB, 4096, .inl u.1))]) A) A "java/lang/IllegalStateException" res) [.ref obX, .int a0, .int a1, .int a2, .int a3, .int a4].toArray s (t2_mc res) (t2_ms res) A = Q0
  have hl := lv_entry [.ref obX, .int a0, .int a1, .int a2, .int a3, .int a4] (n := 6) (Nat.le_of_ble_eq_true rfl)
  rw [lg_entry_eq]
  generalize (lg_sl [.ref obX, .int a0, .int a1, .int a2, .int a3, .int a4] ++ List.replicate (6 - (lg_sl [.ref obX, .int a0, .int a1, .int a2, .int a3, .int a4]).length) Slot.unset).toArray = ls at hl ⊢
  have hl : lv_has ls 6 [(0, .ref obX), (1, .int a0), (2, .int a1), (3, .int a2), (4, .int a3), (5, .int a4)] := hl
  unfold m_X8_feed at hm
  refine lv_aload_n hx hb dX8_feed_0 rfl (lv_at hl 0 rfl) ?_
  refine va_get (D := (dC, dI)) (ci := 2) (v := .ref obT) (C := RX8) (T := TX8) (N := 9) hx hb hts (inX8 _) hown hK hP 0 rfl rfl 0 (by decide) (hts _ (List.mem_cons_of_mem _ wf8_10)) (fun _ h9 => h9) rfl dX8_feed_1 ?_
  obtain ⟨r1, hz1, hm⟩ := mr_bind hm
  refine mr_pV (As := []) (rest := []) (sr_okZ adK adV) ⟨hx, hb, hml, hown, hts⟩ (kX7_length l htr dC dI adK adV cI cB cJ cZ cQ obT tq_tape tq_said tq_inner tq_next tq_amount obK t_length t_wrongPlace r1 hz1) (cwV 0 hts (g8_56 _) rfl rfl rfl (by decide +kernel) ⟨(by show 0 + 1 ≤ 8; omega), (by show 8 + (1 + 11) + (0) ≤ 120; omega)⟩) hS hP hK hz0 [1] rfl (va_recv hK hP (ci := 9) (q0 := 1) rfl rfl) rfl rfl hl.1 (Nat.le_of_ble_eq_true rfl) dX8_feed_4 ⟨Nat.zero_le _, Nat.zero_le _⟩ ?_
  refine lv_bipush (v := 20) hx hb dX8_feed_7 (by decide) ?_
  refine lv_iadd hx hb dX8_feed_9 ?_
  refine lv_sipush (v := 4096) hx hb dX8_feed_10 (by decide) ?_
  refine lv_icmp_le (tgt := 26) hx hb dX8_feed_13 (by decide) (fun c2 => ?_) (fun c2 => ?_)
  · have hm := mr_if c2 hm
    refine lv_aload_n hx hb dX8_feed_26 rfl (lv_at hl 0 rfl) ?_
    refine va_get (D := (dC, dI)) (ci := 2) (v := .ref obT) (C := RX8) (T := TX8) (N := 9) hx hb hts (inX8 _) hown hK hP 0 rfl rfl 0 (by decide) (hts _ (List.mem_cons_of_mem _ wf8_10)) (fun _ h9 => h9) rfl dX8_feed_27 ?_
    refine lv_iload_n hx hb dX8_feed_30 rfl (lv_at hl 1 rfl) ?_
    obtain ⟨⟨t_tape_3, t_length_3⟩, hz3, hm⟩ := mr_bind hm
    try dsimp only at hm
    refine mr_wVv (As := [.int a0]) (rest := []) (sr_okZ adK adV) ⟨hx, hb, hml, hown, hts⟩ (kX7_append l htr dC dI adK adV cI cB cJ cZ cQ obT tq_tape tq_said tq_inner tq_next tq_amount obK t_length t_wrongPlace t_tape _ a0 _ hz3) (cwV 1 hts (g8_67 _) rfl rfl rfl (by decide +kernel) ⟨(by show 0 + 1 ≤ 8; omega), (by show 8 + (3 + 11) + (0) ≤ 120; omega)⟩) hS hA hP hD hK hz0 (wr := [(obX, .inr (2, [.ref obT, .ref obD, .ref obC, .ref xq_kept, .ref xq_printSteps, .ref obS, .int x_hasLatest, .int x_faultPlace, .int x_keptCount]))]) (w1 := [(obX, .inr (2, [.ref obT, .ref obD, .ref obC, .ref xq_kept, .ref xq_printSteps, .ref obS, .int x_hasLatest, .int x_faultPlace, .int x_keptCount])), (obT, .inr (9, [.ref tq_tape, .ref tq_said, .ref tq_inner, .ref tq_next, .ref tq_amount, .ref obK, .int t_length_3, .int t_wrongPlace])), (tq_tape, .inl (cB, 4096, .inl t_tape_3))]) [1, 2] [0] [0, 1, 2] rfl rfl rfl rfl rfl (by decide) rfl rfl rfl (va_recv hK hP (ci := 9) (q0 := 1) rfl rfl) rfl rfl hl.1 (Nat.le_of_ble_eq_true rfl) dX8_feed_31 ⟨Nat.zero_le _, Nat.zero_le _⟩ (fun H locs hP hD hS => ?_)
    refine lv_aload_n hx hb dX8_feed_34 rfl (lv_at hl 0 rfl) ?_
    refine va_get (D := (dC, dI)) (ci := 2) (v := .ref obT) (C := RX8) (T := TX8) (N := 9) hx hb hts (inX8 _) hown hK hP 0 rfl rfl 0 (by decide) (hts _ (List.mem_cons_of_mem _ wf8_10)) (fun _ h9 => h9) rfl dX8_feed_35 ?_
    refine lv_iload_n hx hb dX8_feed_38 rfl (lv_at hl 2 rfl) ?_
    obtain ⟨⟨t_tape_4, t_length_4⟩, hz4, hm⟩ := mr_bind hm
    try dsimp only at hm
    refine mr_wVv (As := [.int a1]) (rest := []) (sr_okZ adK adV) ⟨hx, hb, hml, hown, hts⟩ (kX7_append l htr dC dI adK adV cI cB cJ cZ cQ obT tq_tape tq_said tq_inner tq_next tq_amount obK t_length_3 t_wrongPlace t_tape_3 _ a1 _ hz4) (cwV 1 hts (g8_67 _) rfl rfl rfl (by decide +kernel) ⟨(by show 0 + 1 ≤ 8; omega), (by show 8 + (3 + 11) + (0) ≤ 120; omega)⟩) hS hA hP hD hK hz0 (wr := [(obX, .inr (2, [.ref obT, .ref obD, .ref obC, .ref xq_kept, .ref xq_printSteps, .ref obS, .int x_hasLatest, .int x_faultPlace, .int x_keptCount]))]) (w1 := [(obX, .inr (2, [.ref obT, .ref obD, .ref obC, .ref xq_kept, .ref xq_printSteps, .ref obS, .int x_hasLatest, .int x_faultPlace, .int x_keptCount])), (obT, .inr (9, [.ref tq_tape, .ref tq_said, .ref tq_inner, .ref tq_next, .ref tq_amount, .ref obK, .int t_length_4, .int t_wrongPlace])), (tq_tape, .inl (cB, 4096, .inl t_tape_4))]) [1, 2] [0] [0, 1, 2] rfl rfl rfl rfl rfl (by decide) rfl rfl rfl (va_recv hK hP (ci := 9) (q0 := 1) rfl rfl) rfl rfl hl.1 (Nat.le_of_ble_eq_true rfl) dX8_feed_39 ⟨Nat.zero_le _, Nat.zero_le _⟩ (fun H locs hP hD hS => ?_)
    refine lv_aload_n hx hb dX8_feed_42 rfl (lv_at hl 0 rfl) ?_
    refine va_get (D := (dC, dI)) (ci := 2) (v := .ref obT) (C := RX8) (T := TX8) (N := 9) hx hb hts (inX8 _) hown hK hP 0 rfl rfl 0 (by decide) (hts _ (List.mem_cons_of_mem _ wf8_10)) (fun _ h9 => h9) rfl dX8_feed_43 ?_
    refine lv_iload_n hx hb dX8_feed_46 rfl (lv_at hl 3 rfl) ?_
    obtain ⟨⟨t_tape_5, t_length_5⟩, hz5, hm⟩ := mr_bind hm
    try dsimp only at hm
    refine mr_wVv (As := [.int a2]) (rest := []) (sr_okZ adK adV) ⟨hx, hb, hml, hown, hts⟩ (kX7_append l htr dC dI adK adV cI cB cJ cZ cQ obT tq_tape tq_said tq_inner tq_next tq_amount obK t_length_4 t_wrongPlace t_tape_4 _ a2 _ hz5) (cwV 1 hts (g8_67 _) rfl rfl rfl (by decide +kernel) ⟨(by show 0 + 1 ≤ 8; omega), (by show 8 + (3 + 11) + (0) ≤ 120; omega)⟩) hS hA hP hD hK hz0 (wr := [(obX, .inr (2, [.ref obT, .ref obD, .ref obC, .ref xq_kept, .ref xq_printSteps, .ref obS, .int x_hasLatest, .int x_faultPlace, .int x_keptCount]))]) (w1 := [(obX, .inr (2, [.ref obT, .ref obD, .ref obC, .ref xq_kept, .ref xq_printSteps, .ref obS, .int x_hasLatest, .int x_faultPlace, .int x_keptCount])), (obT, .inr (9, [.ref tq_tape, .ref tq_said, .ref tq_inner, .ref tq_next, .ref tq_amount, .ref obK, .int t_length_5, .int t_wrongPlace])), (tq_tape, .inl (cB, 4096, .inl t_tape_5))]) [1, 2] [0] [0, 1, 2] rfl rfl rfl rfl rfl (by decide) rfl rfl rfl (va_recv hK hP (ci := 9) (q0 := 1) rfl rfl) rfl rfl hl.1 (Nat.le_of_ble_eq_true rfl) dX8_feed_47 ⟨Nat.zero_le _, Nat.zero_le _⟩ (fun H locs hP hD hS => ?_)
    refine lv_aload_n hx hb dX8_feed_50 rfl (lv_at hl 0 rfl) ?_
    refine va_get (D := (dC, dI)) (ci := 2) (v := .ref obT) (C := RX8) (T := TX8) (N := 9) hx hb hts (inX8 _) hown hK hP 0 rfl rfl 0 (by decide) (hts _ (List.mem_cons_of_mem _ wf8_10)) (fun _ h9 => h9) rfl dX8_feed_51 ?_
    refine lv_iload hx hb dX8_feed_54 (lv_at hl 4 rfl) ?_
    obtain ⟨⟨t_tape_6, t_length_6⟩, hz6, hm⟩ := mr_bind hm
    try dsimp only at hm
    refine mr_wVv (As := [.int a3]) (rest := []) (sr_okZ adK adV) ⟨hx, hb, hml, hown, hts⟩ (kX7_append l htr dC dI adK adV cI cB cJ cZ cQ obT tq_tape tq_said tq_inner tq_next tq_amount obK t_length_5 t_wrongPlace t_tape_5 _ a3 _ hz6) (cwV 1 hts (g8_67 _) rfl rfl rfl (by decide +kernel) ⟨(by show 0 + 1 ≤ 8; omega), (by show 8 + (3 + 11) + (0) ≤ 120; omega)⟩) hS hA hP hD hK hz0 (wr := [(obX, .inr (2, [.ref obT, .ref obD, .ref obC, .ref xq_kept, .ref xq_printSteps, .ref obS, .int x_hasLatest, .int x_faultPlace, .int x_keptCount]))]) (w1 := [(obX, .inr (2, [.ref obT, .ref obD, .ref obC, .ref xq_kept, .ref xq_printSteps, .ref obS, .int x_hasLatest, .int x_faultPlace, .int x_keptCount])), (obT, .inr (9, [.ref tq_tape, .ref tq_said, .ref tq_inner, .ref tq_next, .ref tq_amount, .ref obK, .int t_length_6, .int t_wrongPlace])), (tq_tape, .inl (cB, 4096, .inl t_tape_6))]) [1, 2] [0] [0, 1, 2] rfl rfl rfl rfl rfl (by decide) rfl rfl rfl (va_recv hK hP (ci := 9) (q0 := 1) rfl rfl) rfl rfl hl.1 (Nat.le_of_ble_eq_true rfl) dX8_feed_56 ⟨Nat.zero_le _, Nat.zero_le _⟩ (fun H locs hP hD hS => ?_)
    refine lv_aload_n hx hb dX8_feed_59 rfl (lv_at hl 0 rfl) ?_
    refine va_get (D := (dC, dI)) (ci := 2) (v := .ref obT) (C := RX8) (T := TX8) (N := 9) hx hb hts (inX8 _) hown hK hP 0 rfl rfl 0 (by decide) (hts _ (List.mem_cons_of_mem _ wf8_10)) (fun _ h9 => h9) rfl dX8_feed_60 ?_
    refine lv_iload hx hb dX8_feed_63 (lv_at hl 5 rfl) ?_
    obtain ⟨⟨t_tape_7, t_length_7⟩, hz7, hm⟩ := mr_bind hm
    try dsimp only at hm
    refine mr_wVv (As := [.int a4]) (rest := []) (sr_okZ adK adV) ⟨hx, hb, hml, hown, hts⟩ (kX7_append l htr dC dI adK adV cI cB cJ cZ cQ obT tq_tape tq_said tq_inner tq_next tq_amount obK t_length_6 t_wrongPlace t_tape_6 _ a4 _ hz7) (cwV 1 hts (g8_67 _) rfl rfl rfl (by decide +kernel) ⟨(by show 0 + 1 ≤ 8; omega), (by show 8 + (3 + 11) + (0) ≤ 120; omega)⟩) hS hA hP hD hK hz0 (wr := [(obX, .inr (2, [.ref obT, .ref obD, .ref obC, .ref xq_kept, .ref xq_printSteps, .ref obS, .int x_hasLatest, .int x_faultPlace, .int x_keptCount]))]) (w1 := [(obX, .inr (2, [.ref obT, .ref obD, .ref obC, .ref xq_kept, .ref xq_printSteps, .ref obS, .int x_hasLatest, .int x_faultPlace, .int x_keptCount])), (obT, .inr (9, [.ref tq_tape, .ref tq_said, .ref tq_inner, .ref tq_next, .ref tq_amount, .ref obK, .int t_length_7, .int t_wrongPlace])), (tq_tape, .inl (cB, 4096, .inl t_tape_7))]) [1, 2] [0] [0, 1, 2] rfl rfl rfl rfl rfl (by decide) rfl rfl rfl (va_recv hK hP (ci := 9) (q0 := 1) rfl rfl) rfl rfl hl.1 (Nat.le_of_ble_eq_true rfl) dX8_feed_65 ⟨Nat.zero_le _, Nat.zero_le _⟩ (fun H locs hP hD hS => ?_)
    refine lv_aload_n hx hb dX8_feed_68 rfl (lv_at hl 0 rfl) ?_
    refine va_get (D := (dC, dI)) (ci := 2) (v := .ref obT) (C := RX8) (T := TX8) (N := 9) hx hb hts (inX8 _) hown hK hP 0 rfl rfl 0 (by decide) (hts _ (List.mem_cons_of_mem _ wf8_10)) (fun _ h9 => h9) rfl dX8_feed_69 ?_
    obtain ⟨r8, hz8, hm⟩ := mr_bind hm
    refine mr_pV (As := []) (rest := []) (sr_okZ adK adV) ⟨hx, hb, hml, hown, hts⟩ (kX7_length l htr dC dI adK adV cI cB cJ cZ cQ obT tq_tape tq_said tq_inner tq_next tq_amount obK t_length_7 t_wrongPlace r8 hz8) (cwV 0 hts (g8_56 _) rfl rfl rfl (by decide +kernel) ⟨(by show 0 + 1 ≤ 8; omega), (by show 8 + (1 + 11) + (0) ≤ 120; omega)⟩) hS hP hK hz0 [1] rfl (va_recv hK hP (ci := 9) (q0 := 1) rfl rfl) rfl rfl hl.1 (Nat.le_of_ble_eq_true rfl) dX8_feed_72 ⟨Nat.zero_le _, Nat.zero_le _⟩ ?_
    obtain rfl := Option.some.inj hm
    subst hQ0
    exact t2_iret (v := r8) hx hb hr (fun t ht hW => ⟨⟨rfl, by rw [ht]; exact hP, va_K.moved hW.alike hK, hD⟩, hS.F ht⟩) hS.2.2 dX8_feed_75 hlocks
  · have hm := mr_un c2 hm
    obtain rfl := Option.some.inj hm
    subst hQ0
    exact t2_throw (up := thr_up) hx hb htr hown (thr_w8_60 hts) (thr_at8_64 hts hz0.2.2.2.2.2.1) (fun a ha T hT hW => sr_lay ((sr_okZ adK adV).2.1 A s s.heap _ hS.2.1 hz0).2.2.1 ((sr_okZ adK adV).2.1 A s s.heap _ hS.2.1 hz0).2.2.2.1 a ha T hT hW) ((sr_okZ adK adV).2.1 A s s.heap _ hS.2.1 hz0).2.2.1.1 ((sr_okZ adK adV).2.1 A s s.heap _ hS.2.1 hz0).2.2.2.1.1 (by decide) (by decide) (hz0.1 32 (by decide)).2 hex hlocks (hml.trans hl.1.symm) dX8_feed_16 dX8_feed_19 dX8_feed_20 dX8_feed_22 dX8_feed_25 (Nat.le_refl _) (Nat.le_refl _) (Nat.le_of_ble_eq_true rfl) (Nat.le_of_ble_eq_true rfl) hS (fun t hW hz1 hk => ⟨hP.kept (fun k q hq => hk q.1 (hP k q hq).lt), va_K.moved hW.alike hK, hD⟩)
set_option maxHeartbeats 4000000 in
set_option maxRecDepth 100000 in
theorem kX8_end (l : Launch) (htr : l.stackTraces = false) (dC : Nat → ClassId) (dI : Nat → Nat → Nat) (adK adV : Nat → Nat) (cI cB cJ cZ cQ : ClassId) (obX obT obD obC xq_kept xq_printSteps obS tq_tape tq_said tq_inner tq_next tq_amount obK : Nat) (x_hasLatest : Int32) (x_faultPlace : Int32) (x_keptCount : Int32) (t_length : Int32) (t_wrongPlace : Int32) (sz : Nat) (a0 : Int32) (res : Except (Int32) (Unit × (Int32))) (hm : m_X8_end t_length a0 = some res) : t2_Met l yX8_end wsX8_end (rmX8_end (t2_mc res) (t2_ms res)) (pcW (sr_Z adK adV) (dC, dI) srCl [(cI, .int), (cB, .byte), (cJ, .long), (cZ, .boolean), (cQ, .object "SchemaReader$Schema")] [.ref obX, .int a0] [(obX, .inr (2, [.ref obT, .ref obD, .ref obC, .ref xq_kept, .ref xq_printSteps, .ref obS, .int x_hasLatest, .int x_faultPlace, .int x_keptCount])), (obT, .inr (9, [.ref tq_tape, .ref tq_said, .ref tq_inner, .ref tq_next, .ref tq_amount, .ref obK, .int t_length, .int t_wrongPlace]))] sz) (t2_Q t2_rV (pcB (dC, dI) srCl [(cI, .int), (cB, .byte), (cJ, .long), (cZ, .boolean), (cQ, .object "SchemaReader$Schema")] (fun u : Int32 => [(obX, .inr (2, [.ref obT, .ref obD, .ref obC, .ref xq_kept, .ref xq_printSteps, .ref obS, .int x_hasLatest, .int x_faultPlace, .int x_keptCount])), (obT, .inr (9, [.ref tq_tape, .ref tq_said, .ref tq_inner, .ref tq_next, .ref tq_amount, .ref obK, .int u, .int t_wrongPlace]))]) (va_A [(obX, .inr (2, [.ref obT, .ref obD, .ref obC, .ref xq_kept, .ref xq_printSteps, .ref obS, .int x_hasLatest, .int x_faultPlace, .int x_keptCount])), (obT, .inr (9, [.ref tq_tape, .ref tq_said, .ref tq_inner, .ref tq_next, .ref tq_amount, .ref obK, .int t_length, .int t_wrongPlace]))] sz)) (va_A [(obX, .inr (2, [.ref obT, .ref obD, .ref obC, .ref xq_kept, .ref xq_printSteps, .ref obS, .int x_hasLatest, .int x_faultPlace, .int x_keptCount])), (obT, .inr (9, [.ref tq_tape, .ref tq_said, .ref tq_inner, .ref tq_next, .ref tq_amount, .ref obK, .int t_length, .int t_wrongPlace]))] sz) "java/lang/IllegalArgumentException" res) (t2_mc res) (t2_ms res) (va_A [(obX, .inr (2, [.ref obT, .ref obD, .ref obC, .ref xq_kept, .ref xq_printSteps, .ref obS, .int x_hasLatest, .int x_faultPlace, .int x_keptCount])), (obT, .inr (9, [.ref tq_tape, .ref tq_said, .ref tq_inner, .ref tq_next, .ref tq_amount, .ref obK, .int t_length, .int t_wrongPlace]))] sz) := by
  refine t2_ofW (cc := cX8_end) (maxL := 2) (ret := none) (by decide) rfl ?_
  intro p e s m args below meth c s₁ B hml hex had hv
  obtain ⟨rfl, hsz, hP, hK, hD0, hz0⟩ := hv
  have hx := B.exec
  have hb := B.bytes
  have hr := B.returns
  have hts := atoms_spec (ws := wsX8_end) B.pre
  have hown : s.vm.findClass RX8 = some m.cls := findClass_of_methodNamed B.named
  have hlocks := B.notSynchronized
  subst hsz
  have hD := hD0.self (sz := s.heap.size)
  generalize hAe : va_A [(obX, .inr (2, [.ref obT, .ref obD, .ref obC, .ref xq_kept, .ref xq_printSteps, .ref obS, .int x_hasLatest, .int x_faultPlace, .int x_keptCount])), (obT, .inr (9, [.ref tq_tape, .ref tq_said, .ref tq_inner, .ref tq_next, .ref tq_amount, .ref obK, .int t_length, .int t_wrongPlace]))] s.heap.size = A at hD hz0 ⊢
  have hA : ∀ q : Nat, s.heap.size ≤ q → A q := fun q h => by rw [← hAe]; exact Or.inr h
  have hS : va_S A s.heap s.heap [] := va_S.rf
  generalize hQ0 : t2_MQ below (t2_Q t2_rV (pcB (dC, dI) srCl [(cI, .int), (cB, .byte), (cJ, .long), (cZ, .boolean), (cQ, .object "SchemaReader$Schema")] (fun u : Int32 => [(obX, .inr (2, [.ref obT, .ref obD, .ref obC, .ref xq_kept, .ref xq_printSteps, .ref obS, .int x_hasLatest, .int x_faultPlace, .int x_keptCount])), (obT, .inr (9, [.ref tq_tape, .ref tq_said, .ref tq_inner, .ref tq_next, .ref tq_amount, .ref obK, .int u, .int t_wrongPlace]))]) A) A "java/lang/IllegalArgumentException" res) [.ref obX, .int a0].toArray s (t2_mc res) (t2_ms res) A = Q0
  have hl := lv_entry [.ref obX, .int a0] (n := 2) (Nat.le_of_ble_eq_true rfl)
  rw [lg_entry_eq]
  generalize (lg_sl [.ref obX, .int a0] ++ List.replicate (2 - (lg_sl [.ref obX, .int a0]).length) Slot.unset).toArray = ls at hl ⊢
  have hl : lv_has ls 2 [(0, .ref obX), (1, .int a0)] := hl
  unfold m_X8_end at hm
  refine lv_iload_n hx hb dX8_end_0 rfl (lv_at hl 1 rfl) ?_
  have j15 : ∀ (t_length : Int32) (H : Heap) (locs : List Loc) (ls : Array Slot), va_P (dC, dI) srCl [(obX, .inr (2, [.ref obT, .ref obD, .ref obC, .ref xq_kept, .ref xq_printSteps, .ref obS, .int x_hasLatest, .int x_faultPlace, .int x_keptCount])), (obT, .inr (9, [.ref tq_tape, .ref tq_said, .ref tq_inner, .ref tq_next, .ref tq_amount, .ref obK, .int t_length, .int t_wrongPlace]))] H → va_D A [(obX, .inr (2, [.ref obT, .ref obD, .ref obC, .ref xq_kept, .ref xq_printSteps, .ref obS, .int x_hasLatest, .int x_faultPlace, .int x_keptCount])), (obT, .inr (9, [.ref tq_tape, .ref tq_said, .ref tq_inner, .ref tq_next, .ref tq_amount, .ref obK, .int t_length, .int t_wrongPlace]))] → va_S A s.heap H locs → lv_has ls 2 [] → m_X8_end_15 t_length = some res → W p l e (headSpec wsX8_end (rmX8_end (t2_mc res) (t2_ms res))).room s m [.ref obX, .int a0].toArray below meth c H locs 0 0 Q0 (F0 m 15 ls []) := by
    intro t_length H locs ls hP hD hS hl hm
    unfold m_X8_end_15 at hm
    obtain rfl := Option.some.inj hm
    subst hQ0
    exact t2_throw (up := thr_up) hx hb htr hown (thr_w8_71 hts) (thr_at8_75 hts hz0.2.2.2.2.2.1) (fun a ha T hT hW => sr_lay ((sr_okZ adK adV).2.1 A s s.heap _ hS.2.1 hz0).2.2.1 ((sr_okZ adK adV).2.1 A s s.heap _ hS.2.1 hz0).2.2.2.1 a ha T hT hW) ((sr_okZ adK adV).2.1 A s s.heap _ hS.2.1 hz0).2.2.1.1 ((sr_okZ adK adV).2.1 A s s.heap _ hS.2.1 hz0).2.2.2.1.1 (by decide) (by decide) (hz0.1 33 (by decide)).2 hex hlocks (hml.trans hl.1.symm) dX8_end_15 dX8_end_18 dX8_end_19 dX8_end_21 dX8_end_24 (Nat.le_refl _) (Nat.le_refl _) (Nat.le_of_ble_eq_true rfl) (Nat.le_of_ble_eq_true rfl) hS (fun t hW hz1 hk => ⟨hP.kept (fun k q hq => hk q.1 (hP k q hq).lt), va_K.moved hW.alike hK, hD⟩)
  refine lv_if_lt (tgt := 15) hx hb dX8_end_1 (by decide) (fun c1 => ?_) (fun c1 => ?_)
  · have hm := mr_if c1 hm
    exact j15 t_length _ _ ls hP hD hS (lv_sub hl [] rfl) hm
  · have hm := mr_un c1 hm
    refine lv_iload_n hx hb dX8_end_4 rfl (lv_at hl 1 rfl) ?_
    refine lv_aload_n hx hb dX8_end_5 rfl (lv_at hl 0 rfl) ?_
    refine va_get (D := (dC, dI)) (ci := 2) (v := .ref obT) (C := RX8) (T := TX8) (N := 9) hx hb hts (inX8 _) hown hK hP 0 rfl rfl 0 (by decide) (hts _ (List.mem_cons_of_mem _ wf8_10)) (fun _ h9 => h9) rfl dX8_end_6 ?_
    obtain ⟨r2, hz2, hm⟩ := mr_bind hm
    refine mr_pV (As := []) (rest := [.int a0]) (sr_okZ adK adV) ⟨hx, hb, hml, hown, hts⟩ (kX7_length l htr dC dI adK adV cI cB cJ cZ cQ obT tq_tape tq_said tq_inner tq_next tq_amount obK t_length t_wrongPlace r2 hz2) (cwV 0 hts (g8_56 _) rfl rfl rfl (by decide +kernel) ⟨(by show 0 + 1 ≤ 8; omega), (by show 8 + (1 + 11) + (0) ≤ 120; omega)⟩) hS hP hK hz0 [1] rfl (va_recv hK hP (ci := 9) (q0 := 1) rfl rfl) rfl rfl hl.1 (Nat.le_of_ble_eq_true rfl) dX8_end_9 ⟨Nat.zero_le _, Nat.zero_le _⟩ ?_
    refine lv_icmp_le (tgt := 25) hx hb dX8_end_12 (by decide) (fun c3 => ?_) (fun c3 => ?_)
    · have hm := mr_if c3 hm
      refine lv_aload_n hx hb dX8_end_25 rfl (lv_at hl 0 rfl) ?_
      refine va_get (D := (dC, dI)) (ci := 2) (v := .ref obT) (C := RX8) (T := TX8) (N := 9) hx hb hts (inX8 _) hown hK hP 0 rfl rfl 0 (by decide) (hts _ (List.mem_cons_of_mem _ wf8_10)) (fun _ h9 => h9) rfl dX8_end_26 ?_
      refine lv_iload_n hx hb dX8_end_29 rfl (lv_at hl 1 rfl) ?_
      obtain ⟨t_length_4, hz4, hm⟩ := mr_bind hm
      try dsimp only at hm
      refine mr_wVv (As := [.int a0]) (rest := []) (sr_okZ adK adV) ⟨hx, hb, hml, hown, hts⟩ (kX7_cut l htr dC dI adK adV cI cB cJ cZ cQ obT tq_tape tq_said tq_inner tq_next tq_amount obK t_length t_wrongPlace _ a0 _ hz4) (cwV 1 hts (g8_76 _) rfl rfl rfl (by decide +kernel) ⟨(by show 0 + 1 ≤ 8; omega), (by show 8 + (2 + 11) + (0) ≤ 120; omega)⟩) hS hA hP hD hK hz0 (wr := [(obX, .inr (2, [.ref obT, .ref obD, .ref obC, .ref xq_kept, .ref xq_printSteps, .ref obS, .int x_hasLatest, .int x_faultPlace, .int x_keptCount]))]) (w1 := [(obX, .inr (2, [.ref obT, .ref obD, .ref obC, .ref xq_kept, .ref xq_printSteps, .ref obS, .int x_hasLatest, .int x_faultPlace, .int x_keptCount])), (obT, .inr (9, [.ref tq_tape, .ref tq_said, .ref tq_inner, .ref tq_next, .ref tq_amount, .ref obK, .int t_length_4, .int t_wrongPlace]))]) [1] [0] [0, 1] rfl rfl rfl rfl rfl (by decide) rfl rfl rfl (va_recv hK hP (ci := 9) (q0 := 1) rfl rfl) rfl rfl hl.1 (Nat.le_of_ble_eq_true rfl) dX8_end_30 ⟨Nat.zero_le _, Nat.zero_le _⟩ (fun H locs hP hD hS => ?_)
      obtain rfl := Option.some.inj hm
      subst hQ0
      exact t2_vret hx hb hr (fun t ht hW => ⟨⟨rfl, by rw [ht]; exact hP, va_K.moved hW.alike hK, hD⟩, hS.F ht⟩) hS.2.2 dX8_end_33 hlocks
    · have hm := mr_un c3 hm
      exact j15 t_length _ _ ls hP hD hS (lv_sub hl [] rfl) hm
set_option maxHeartbeats 4000000 in
set_option maxRecDepth 100000 in
theorem kX8_letter (l : Launch) (htr : l.stackTraces = false) (dC : Nat → ClassId) (dI : Nat → Nat → Nat) (adK adV : Nat → Nat) (cI cB cJ cZ cQ : ClassId) (obX obT obD obC xq_kept xq_printSteps obS sq_plain sq_kinds sq_meant sq_firsts sq_nexts sq_names sq_fieldNames sq_amounts sq_fieldDefaults sq_enumDefaults : Nat) (x_hasLatest : Int32) (x_faultPlace : Int32) (x_keptCount : Int32) (s_letterCount : Int32) (s_slotCount : Int32) (s_plain : Nat → Int32) (sz : Nat) (a0 : Int32) (res : Except (Unit) (Int32 × (Unit))) (hm : m_X8_letter x_hasLatest s_plain s_letterCount a0 = some res) : t2_Met l yX8_letter wsX8_letter (rmX8_letter (t2_mc res) (t2_ms res)) (pcW (sr_Z adK adV) (dC, dI) srCl [(cI, .int), (cB, .byte), (cJ, .long), (cZ, .boolean), (cQ, .object "SchemaReader$Schema")] [.ref obX, .int a0] [(obX, .inr (2, [.ref obT, .ref obD, .ref obC, .ref xq_kept, .ref xq_printSteps, .ref obS, .int x_hasLatest, .int x_faultPlace, .int x_keptCount])), (obS, .inr (8, [.ref sq_plain, .ref sq_kinds, .ref sq_meant, .ref sq_firsts, .ref sq_nexts, .ref sq_names, .ref sq_fieldNames, .ref sq_amounts, .ref sq_fieldDefaults, .ref sq_enumDefaults, .int s_letterCount, .int s_slotCount])), (sq_plain, .inl (cB, 4096, .inl s_plain))] sz) (t2_Q t2_rI (pcB (dC, dI) srCl [(cI, .int), (cB, .byte), (cJ, .long), (cZ, .boolean), (cQ, .object "SchemaReader$Schema")] (fun u : Unit => [(obX, .inr (2, [.ref obT, .ref obD, .ref obC, .ref xq_kept, .ref xq_printSteps, .ref obS, .int x_hasLatest, .int x_faultPlace, .int x_keptCount])), (obS, .inr (8, [.ref sq_plain, .ref sq_kinds, .ref sq_meant, .ref sq_firsts, .ref sq_nexts, .ref sq_names, .ref sq_fieldNames, .ref sq_amounts, .ref sq_fieldDefaults, .ref sq_enumDefaults, .int s_letterCount, .int s_slotCount])), (sq_plain, .inl (cB, 4096, .inl s_plain))]) (va_A [(obX, .inr (2, [.ref obT, .ref obD, .ref obC, .ref xq_kept, .ref xq_printSteps, .ref obS, .int x_hasLatest, .int x_faultPlace, .int x_keptCount])), (obS, .inr (8, [.ref sq_plain, .ref sq_kinds, .ref sq_meant, .ref sq_firsts, .ref sq_nexts, .ref sq_names, .ref sq_fieldNames, .ref sq_amounts, .ref sq_fieldDefaults, .ref sq_enumDefaults, .int s_letterCount, .int s_slotCount])), (sq_plain, .inl (cB, 4096, .inl s_plain))] sz)) (va_A [(obX, .inr (2, [.ref obT, .ref obD, .ref obC, .ref xq_kept, .ref xq_printSteps, .ref obS, .int x_hasLatest, .int x_faultPlace, .int x_keptCount])), (obS, .inr (8, [.ref sq_plain, .ref sq_kinds, .ref sq_meant, .ref sq_firsts, .ref sq_nexts, .ref sq_names, .ref sq_fieldNames, .ref sq_amounts, .ref sq_fieldDefaults, .ref sq_enumDefaults, .int s_letterCount, .int s_slotCount])), (sq_plain, .inl (cB, 4096, .inl s_plain))] sz) "java/lang/IndexOutOfBoundsException" res) (t2_mc res) (t2_ms res) (va_A [(obX, .inr (2, [.ref obT, .ref obD, .ref obC, .ref xq_kept, .ref xq_printSteps, .ref obS, .int x_hasLatest, .int x_faultPlace, .int x_keptCount])), (obS, .inr (8, [.ref sq_plain, .ref sq_kinds, .ref sq_meant, .ref sq_firsts, .ref sq_nexts, .ref sq_names, .ref sq_fieldNames, .ref sq_amounts, .ref sq_fieldDefaults, .ref sq_enumDefaults, .int s_letterCount, .int s_slotCount])), (sq_plain, .inl (cB, 4096, .inl s_plain))] sz) := by
  refine t2_ofW (cc := cX8_letter) (maxL := 2) (ret := (some .int)) (by decide) rfl ?_
  intro p e s m args below meth c s₁ B hml hex had hv
  obtain ⟨rfl, hsz, hP, hK, hD0, hz0⟩ := hv
  have hx := B.exec
  have hb := B.bytes
  have hr := B.returns
  have hts := atoms_spec (ws := wsX8_letter) B.pre
  have hown : s.vm.findClass RX8 = some m.cls := findClass_of_methodNamed B.named
  have hlocks := B.notSynchronized
  subst hsz
  have hD := hD0.self (sz := s.heap.size)
  generalize hAe : va_A [(obX, .inr (2, [.ref obT, .ref obD, .ref obC, .ref xq_kept, .ref xq_printSteps, .ref obS, .int x_hasLatest, .int x_faultPlace, .int x_keptCount])), (obS, .inr (8, [.ref sq_plain, .ref sq_kinds, .ref sq_meant, .ref sq_firsts, .ref sq_nexts, .ref sq_names, .ref sq_fieldNames, .ref sq_amounts, .ref sq_fieldDefaults, .ref sq_enumDefaults, .int s_letterCount, .int s_slotCount])), (sq_plain, .inl (cB, 4096, .inl s_plain))] s.heap.size = A at hD hz0 ⊢
  have hA : ∀ q : Nat, s.heap.size ≤ q → A q := fun q h => by rw [← hAe]; exact Or.inr h
  have hS : va_S A s.heap s.heap [] := va_S.rf
  generalize hQ0 : t2_MQ below (t2_Q t2_rI (pcB (dC, dI) srCl [(cI, .int), (cB, .byte), (cJ, .long), (cZ, .boolean), (cQ, .object "SchemaReader$Schema")] (fun u : Unit => [(obX, .inr (2, [.ref obT, .ref obD, .ref obC, .ref xq_kept, .ref xq_printSteps, .ref obS, .int x_hasLatest, .int x_faultPlace, .int x_keptCount])), (obS, .inr (8, [.ref sq_plain, .ref sq_kinds, .ref sq_meant, .ref sq_firsts, .ref sq_nexts, .ref sq_names, .ref sq_fieldNames, .ref sq_amounts, .ref sq_fieldDefaults, .ref sq_enumDefaults, .int s_letterCount, .int s_slotCount])), (sq_plain, .inl (cB, 4096, .inl s_plain))]) A) A "java/lang/IndexOutOfBoundsException" res) [.ref obX, .int a0].toArray s (t2_mc res) (t2_ms res) A = Q0
  have hl := lv_entry [.ref obX, .int a0] (n := 2) (Nat.le_of_ble_eq_true rfl)
  rw [lg_entry_eq]
  generalize (lg_sl [.ref obX, .int a0] ++ List.replicate (2 - (lg_sl [.ref obX, .int a0]).length) Slot.unset).toArray = ls at hl ⊢
  have hl : lv_has ls 2 [(0, .ref obX), (1, .int a0)] := hl
  unfold m_X8_letter at hm
  refine lv_aload_n hx hb dX8_letter_0 rfl (lv_at hl 0 rfl) ?_
  refine va_get (D := (dC, dI)) (ci := 2) (v := .int x_hasLatest) (C := RX8) (T := TX8) (N := 9) hx hb hts (inX8 _) hown hK hP 0 rfl rfl 6 (by decide) (hts _ (List.mem_cons_of_mem _ wf8_45)) (fun _ h9 => h9) rfl dX8_letter_1 ?_
  have j22 : ∀  (H : Heap) (locs : List Loc) (ls : Array Slot), va_P (dC, dI) srCl [(obX, .inr (2, [.ref obT, .ref obD, .ref obC, .ref xq_kept, .ref xq_printSteps, .ref obS, .int x_hasLatest, .int x_faultPlace, .int x_keptCount])), (obS, .inr (8, [.ref sq_plain, .ref sq_kinds, .ref sq_meant, .ref sq_firsts, .ref sq_nexts, .ref sq_names, .ref sq_fieldNames, .ref sq_amounts, .ref sq_fieldDefaults, .ref sq_enumDefaults, .int s_letterCount, .int s_slotCount])), (sq_plain, .inl (cB, 4096, .inl s_plain))] H → va_D A [(obX, .inr (2, [.ref obT, .ref obD, .ref obC, .ref xq_kept, .ref xq_printSteps, .ref obS, .int x_hasLatest, .int x_faultPlace, .int x_keptCount])), (obS, .inr (8, [.ref sq_plain, .ref sq_kinds, .ref sq_meant, .ref sq_firsts, .ref sq_nexts, .ref sq_names, .ref sq_fieldNames, .ref sq_amounts, .ref sq_fieldDefaults, .ref sq_enumDefaults, .int s_letterCount, .int s_slotCount])), (sq_plain, .inl (cB, 4096, .inl s_plain))] → va_S A s.heap H locs → lv_has ls 2 [] → m_X8_letter_22 x_hasLatest s_plain s_letterCount  = some res → W p l e (headSpec wsX8_letter (rmX8_letter (t2_mc res) (t2_ms res))).room s m [.ref obX, .int a0].toArray below meth c H locs 0 0 Q0 (F0 m 22 ls []) := by
    intro  H locs ls hP hD hS hl hm
    unfold m_X8_letter_22 at hm
    obtain rfl := Option.some.inj hm
    subst hQ0
    exact t2_throw (up := thr_up) hx hb htr hown (thr_w8_92 hts) (thr_at8_96 hts hz0.2.2.2.2.2.1) (fun a ha T hT hW => sr_lay ((sr_okZ adK adV).2.1 A s s.heap _ hS.2.1 hz0).2.2.1 ((sr_okZ adK adV).2.1 A s s.heap _ hS.2.1 hz0).2.2.2.1 a ha T hT hW) ((sr_okZ adK adV).2.1 A s s.heap _ hS.2.1 hz0).2.2.1.1 ((sr_okZ adK adV).2.1 A s s.heap _ hS.2.1 hz0).2.2.2.1.1 (by decide) (by decide) (hz0.1 34 (by decide)).2 hex hlocks (hml.trans hl.1.symm) dX8_letter_22 dX8_letter_25 dX8_letter_26 dX8_letter_28 dX8_letter_31 (Nat.le_refl _) (Nat.le_refl _) (Nat.le_of_ble_eq_true rfl) (Nat.le_of_ble_eq_true rfl) hS (fun t hW hz1 hk => ⟨hP.kept (fun k q hq => hk q.1 (hP k q hq).lt), va_K.moved hW.alike hK, hD⟩)
  refine lv_if_eq (tgt := 22) hx hb dX8_letter_4 (by decide) (fun c1 => ?_) (fun c1 => ?_)
  · have hm := mr_if c1 hm
    exact j22  _ _ ls hP hD hS (lv_sub hl [] rfl) hm
  · have hm := mr_un c1 hm
    refine lv_iload_n hx hb dX8_letter_7 rfl (lv_at hl 1 rfl) ?_
    refine lv_if_lt (tgt := 22) hx hb dX8_letter_8 (by decide) (fun c2 => ?_) (fun c2 => ?_)
    · have hm := mr_if c2 hm
      exact j22  _ _ ls hP hD hS (lv_sub hl [] rfl) hm
    · have hm := mr_un c2 hm
      refine lv_iload_n hx hb dX8_letter_11 rfl (lv_at hl 1 rfl) ?_
      refine lv_aload_n hx hb dX8_letter_12 rfl (lv_at hl 0 rfl) ?_
      refine va_get (D := (dC, dI)) (ci := 2) (v := .ref obS) (C := RX8) (T := TX8) (N := 9) hx hb hts (inX8 _) hown hK hP 0 rfl rfl 5 (by decide) (hts _ (List.mem_cons_of_mem _ wf8_31)) (fun _ h9 => h9) rfl dX8_letter_13 ?_
      obtain ⟨r3, hz3, hm⟩ := mr_bind hm
      refine mr_pV (As := []) (rest := [.int a0]) (sr_okZ adK adV) ⟨hx, hb, hml, hown, hts⟩ (kX6_letterCount l htr dC dI adK adV cI cB cJ cZ cQ obS sq_plain sq_kinds sq_meant sq_firsts sq_nexts sq_names sq_fieldNames sq_amounts sq_fieldDefaults sq_enumDefaults s_letterCount s_slotCount r3 hz3) (cwV 0 hts (g8_89 _) rfl rfl rfl (by decide +kernel) ⟨(by show 0 + 1 ≤ 8; omega), (by show 8 + (1 + 11) + (0) ≤ 120; omega)⟩) hS hP hK hz0 [1] rfl (va_recv hK hP (ci := 8) (q0 := 1) rfl rfl) rfl rfl hl.1 (Nat.le_of_ble_eq_true rfl) dX8_letter_16 ⟨Nat.zero_le _, Nat.zero_le _⟩ ?_
      refine lv_icmp_lt (tgt := 32) hx hb dX8_letter_19 (by decide) (fun c4 => ?_) (fun c4 => ?_)
      · have hm := mr_if c4 hm
        refine lv_aload_n hx hb dX8_letter_32 rfl (lv_at hl 0 rfl) ?_
        refine va_get (D := (dC, dI)) (ci := 2) (v := .ref obS) (C := RX8) (T := TX8) (N := 9) hx hb hts (inX8 _) hown hK hP 0 rfl rfl 5 (by decide) (hts _ (List.mem_cons_of_mem _ wf8_31)) (fun _ h9 => h9) rfl dX8_letter_33 ?_
        refine lv_iload_n hx hb dX8_letter_36 rfl (lv_at hl 1 rfl) ?_
        obtain ⟨r5, hz5, hm⟩ := mr_bind hm
        refine mr_pV (As := [.int a0]) (rest := []) (sr_okZ adK adV) ⟨hx, hb, hml, hown, hts⟩ (kX6_letterAt l htr dC dI adK adV cI cB cJ cZ cQ obS sq_plain sq_kinds sq_meant sq_firsts sq_nexts sq_names sq_fieldNames sq_amounts sq_fieldDefaults sq_enumDefaults s_letterCount s_slotCount s_plain a0 r5 hz5) (cwV 1 hts (g8_97 _) rfl rfl rfl (by decide +kernel) ⟨(by show 0 + 1 ≤ 8; omega), (by show 8 + (2 + 11) + (0) ≤ 120; omega)⟩) hS hP hK hz0 [1, 2] rfl (va_recv hK hP (ci := 8) (q0 := 1) rfl rfl) rfl rfl hl.1 (Nat.le_of_ble_eq_true rfl) dX8_letter_37 ⟨Nat.zero_le _, Nat.zero_le _⟩ ?_
        obtain rfl := Option.some.inj hm
        subst hQ0
        exact t2_iret (v := r5) hx hb hr (fun t ht hW => ⟨⟨rfl, by rw [ht]; exact hP, va_K.moved hW.alike hK, hD⟩, hS.F ht⟩) hS.2.2 dX8_letter_40 hlocks
      · have hm := mr_un c4 hm
        exact j22  _ _ ls hP hD hS (lv_sub hl [] rfl) hm
end
