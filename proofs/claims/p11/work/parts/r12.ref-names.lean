section
abbrev cX9_look : ByteArray := prog_13_method_4_code
def yX9_look : MethodName := ⟨RX9, "look", "()I"⟩
def wsX9_look : List Cond := .code yX9_look cX9_look 1 (some .int) :: sr_G
def nq_cX9_look : Nat := 0xac020400a7335f00b42a0900b42a0f00a26200b42a5f00b42a
theorem kq_cX9_look : qOk cX9_look nq_cX9_look 25 = true := by decide +kernel
theorem dX9_look_0 : decode cX9_look 0 = .ok (.aload_n 0, 1) := qd_42 kq_cX9_look (by decide +kernel)
theorem dX9_look_1 : decode cX9_look 1 = .ok (.getfield 95, 3) := qd_180 kq_cX9_look (by decide +kernel)
theorem dX9_look_4 : decode cX9_look 4 = .ok (.aload_n 0, 1) := qd_42 kq_cX9_look (by decide +kernel)
theorem dX9_look_5 : decode cX9_look 5 = .ok (.getfield 98, 3) := qd_180 kq_cX9_look (by decide +kernel)
theorem dX9_look_8 : decode cX9_look 8 = .ok (.if_icmp .ge 15, 3) := qd_162 kq_cX9_look (by decide +kernel)
theorem dX9_look_11 : decode cX9_look 11 = .ok (.aload_n 0, 1) := qd_42 kq_cX9_look (by decide +kernel)
theorem dX9_look_12 : decode cX9_look 12 = .ok (.getfield 9, 3) := qd_180 kq_cX9_look (by decide +kernel)
theorem dX9_look_15 : decode cX9_look 15 = .ok (.aload_n 0, 1) := qd_42 kq_cX9_look (by decide +kernel)
theorem dX9_look_16 : decode cX9_look 16 = .ok (.getfield 95, 3) := qd_180 kq_cX9_look (by decide +kernel)
theorem dX9_look_19 : decode cX9_look 19 = .ok (.baload, 1) := qd_51 kq_cX9_look (by decide +kernel)
theorem dX9_look_20 : decode cX9_look 20 = .ok (.goto 4, 3) := qd_167 kq_cX9_look (by decide +kernel)
theorem dX9_look_23 : decode cX9_look 23 = .ok (.iconst (-1), 1) := qd_2 kq_cX9_look (by decide +kernel)
theorem dX9_look_24 : decode cX9_look 24 = .ok (.ireturn, 1) := qd_172 kq_cX9_look (by decide +kernel)
def rmX9_look (mc ms : Nat) : Room := { frames := 0, cells := mc, slots := ms, locals := 0 }
abbrev cX9_blanks : ByteArray := prog_13_method_5_code
def yX9_blanks : MethodName := ⟨RX9, "blanks", "()V"⟩
def wsX9_blanks : List Cond := .code yX9_blanks cX9_blanks 1 none :: sr_G
def nq_cX9_blanks : Nat := 0xb1d2ffa75f00b560045f00b4592a1000a00d106500b62a0c009f0a106500b62a15009f09106500b62a1e009f20106500b62a
theorem kq_cX9_blanks : qOk cX9_blanks nq_cX9_blanks 50 = true := by decide +kernel
theorem dX9_blanks_0 : decode cX9_blanks 0 = .ok (.aload_n 0, 1) := qd_42 kq_cX9_blanks (by decide +kernel)
theorem dX9_blanks_1 : decode cX9_blanks 1 = .ok (.invokevirtual 101, 3) := qd_182 kq_cX9_blanks (by decide +kernel)
theorem dX9_blanks_4 : decode cX9_blanks 4 = .ok (.bipush 32, 2) := qd_16 kq_cX9_blanks (by decide +kernel)
theorem dX9_blanks_6 : decode cX9_blanks 6 = .ok (.if_icmp .eq 30, 3) := qd_159 kq_cX9_blanks (by decide +kernel)
theorem dX9_blanks_9 : decode cX9_blanks 9 = .ok (.aload_n 0, 1) := qd_42 kq_cX9_blanks (by decide +kernel)
theorem dX9_blanks_10 : decode cX9_blanks 10 = .ok (.invokevirtual 101, 3) := qd_182 kq_cX9_blanks (by decide +kernel)
theorem dX9_blanks_13 : decode cX9_blanks 13 = .ok (.bipush 9, 2) := qd_16 kq_cX9_blanks (by decide +kernel)
theorem dX9_blanks_15 : decode cX9_blanks 15 = .ok (.if_icmp .eq 21, 3) := qd_159 kq_cX9_blanks (by decide +kernel)
theorem dX9_blanks_18 : decode cX9_blanks 18 = .ok (.aload_n 0, 1) := qd_42 kq_cX9_blanks (by decide +kernel)
theorem dX9_blanks_19 : decode cX9_blanks 19 = .ok (.invokevirtual 101, 3) := qd_182 kq_cX9_blanks (by decide +kernel)
theorem dX9_blanks_22 : decode cX9_blanks 22 = .ok (.bipush 10, 2) := qd_16 kq_cX9_blanks (by decide +kernel)
theorem dX9_blanks_24 : decode cX9_blanks 24 = .ok (.if_icmp .eq 12, 3) := qd_159 kq_cX9_blanks (by decide +kernel)
theorem dX9_blanks_27 : decode cX9_blanks 27 = .ok (.aload_n 0, 1) := qd_42 kq_cX9_blanks (by decide +kernel)
theorem dX9_blanks_28 : decode cX9_blanks 28 = .ok (.invokevirtual 101, 3) := qd_182 kq_cX9_blanks (by decide +kernel)
theorem dX9_blanks_31 : decode cX9_blanks 31 = .ok (.bipush 13, 2) := qd_16 kq_cX9_blanks (by decide +kernel)
theorem dX9_blanks_33 : decode cX9_blanks 33 = .ok (.if_icmp .ne 16, 3) := qd_160 kq_cX9_blanks (by decide +kernel)
theorem dX9_blanks_36 : decode cX9_blanks 36 = .ok (.aload_n 0, 1) := qd_42 kq_cX9_blanks (by decide +kernel)
theorem dX9_blanks_37 : decode cX9_blanks 37 = .ok (.dup, 1) := qd_89 kq_cX9_blanks (by decide +kernel)
theorem dX9_blanks_38 : decode cX9_blanks 38 = .ok (.getfield 95, 3) := qd_180 kq_cX9_blanks (by decide +kernel)
theorem dX9_blanks_41 : decode cX9_blanks 41 = .ok (.iconst 1, 1) := qd_4 kq_cX9_blanks (by decide +kernel)
theorem dX9_blanks_42 : decode cX9_blanks 42 = .ok (.iadd, 1) := qd_96 kq_cX9_blanks (by decide +kernel)
theorem dX9_blanks_43 : decode cX9_blanks 43 = .ok (.putfield 95, 3) := qd_181 kq_cX9_blanks (by decide +kernel)
theorem dX9_blanks_46 : decode cX9_blanks 46 = .ok (.goto (-46), 3) := qd_167 kq_cX9_blanks (by decide +kernel)
theorem dX9_blanks_49 : decode cX9_blanks 49 = .ok (.return_, 1) := qd_177 kq_cX9_blanks (by decide +kernel)
def rmX9_blanks (mc ms : Nat) : Room := { frames := 1, cells := mc, slots := ms, locals := 20 }
abbrev cX9_node : ByteArray := prog_13_method_7_code
def yX9_node : MethodName := ⟨RX9, "node", "(I)I"⟩
def wsX9_node : List Cond := .code yX9_node cX9_node 2 (some .int) :: sr_G
def nq_cX9_node : Nat := 0xac64046d00b42a6d00b560046d00b4592a4f026d00b42a2000b42a4f026d00b42a1d00b42a4f036d00b42a1a00b42a50096d00b42a1600b42a4f5f00b42a6d00b42a1300b42a4f1b6d00b42a0f00b42a
theorem kq_cX9_node : qOk cX9_node nq_cX9_node 80 = true := by decide +kernel
theorem dX9_node_0 : decode cX9_node 0 = .ok (.aload_n 0, 1) := qd_42 kq_cX9_node (by decide +kernel)
theorem dX9_node_1 : decode cX9_node 1 = .ok (.getfield 15, 3) := qd_180 kq_cX9_node (by decide +kernel)
theorem dX9_node_4 : decode cX9_node 4 = .ok (.aload_n 0, 1) := qd_42 kq_cX9_node (by decide +kernel)
theorem dX9_node_5 : decode cX9_node 5 = .ok (.getfield 109, 3) := qd_180 kq_cX9_node (by decide +kernel)
theorem dX9_node_8 : decode cX9_node 8 = .ok (.iload_n 1, 1) := qd_27 kq_cX9_node (by decide +kernel)
theorem dX9_node_9 : decode cX9_node 9 = .ok (.iastore, 1) := qd_79 kq_cX9_node (by decide +kernel)
theorem dX9_node_10 : decode cX9_node 10 = .ok (.aload_n 0, 1) := qd_42 kq_cX9_node (by decide +kernel)
theorem dX9_node_11 : decode cX9_node 11 = .ok (.getfield 19, 3) := qd_180 kq_cX9_node (by decide +kernel)
theorem dX9_node_14 : decode cX9_node 14 = .ok (.aload_n 0, 1) := qd_42 kq_cX9_node (by decide +kernel)
theorem dX9_node_15 : decode cX9_node 15 = .ok (.getfield 109, 3) := qd_180 kq_cX9_node (by decide +kernel)
theorem dX9_node_18 : decode cX9_node 18 = .ok (.aload_n 0, 1) := qd_42 kq_cX9_node (by decide +kernel)
theorem dX9_node_19 : decode cX9_node 19 = .ok (.getfield 95, 3) := qd_180 kq_cX9_node (by decide +kernel)
theorem dX9_node_22 : decode cX9_node 22 = .ok (.iastore, 1) := qd_79 kq_cX9_node (by decide +kernel)
theorem dX9_node_23 : decode cX9_node 23 = .ok (.aload_n 0, 1) := qd_42 kq_cX9_node (by decide +kernel)
theorem dX9_node_24 : decode cX9_node 24 = .ok (.getfield 22, 3) := qd_180 kq_cX9_node (by decide +kernel)
theorem dX9_node_27 : decode cX9_node 27 = .ok (.aload_n 0, 1) := qd_42 kq_cX9_node (by decide +kernel)
theorem dX9_node_28 : decode cX9_node 28 = .ok (.getfield 109, 3) := qd_180 kq_cX9_node (by decide +kernel)
theorem dX9_node_31 : decode cX9_node 31 = .ok (.lconst 0, 1) := qd_9 kq_cX9_node (by decide +kernel)
theorem dX9_node_32 : decode cX9_node 32 = .ok (.lastore, 1) := qd_80 kq_cX9_node (by decide +kernel)
theorem dX9_node_33 : decode cX9_node 33 = .ok (.aload_n 0, 1) := qd_42 kq_cX9_node (by decide +kernel)
theorem dX9_node_34 : decode cX9_node 34 = .ok (.getfield 26, 3) := qd_180 kq_cX9_node (by decide +kernel)
theorem dX9_node_37 : decode cX9_node 37 = .ok (.aload_n 0, 1) := qd_42 kq_cX9_node (by decide +kernel)
theorem dX9_node_38 : decode cX9_node 38 = .ok (.getfield 109, 3) := qd_180 kq_cX9_node (by decide +kernel)
theorem dX9_node_41 : decode cX9_node 41 = .ok (.iconst 0, 1) := qd_3 kq_cX9_node (by decide +kernel)
theorem dX9_node_42 : decode cX9_node 42 = .ok (.iastore, 1) := qd_79 kq_cX9_node (by decide +kernel)
theorem dX9_node_43 : decode cX9_node 43 = .ok (.aload_n 0, 1) := qd_42 kq_cX9_node (by decide +kernel)
theorem dX9_node_44 : decode cX9_node 44 = .ok (.getfield 29, 3) := qd_180 kq_cX9_node (by decide +kernel)
theorem dX9_node_47 : decode cX9_node 47 = .ok (.aload_n 0, 1) := qd_42 kq_cX9_node (by decide +kernel)
theorem dX9_node_48 : decode cX9_node 48 = .ok (.getfield 109, 3) := qd_180 kq_cX9_node (by decide +kernel)
theorem dX9_node_51 : decode cX9_node 51 = .ok (.iconst (-1), 1) := qd_2 kq_cX9_node (by decide +kernel)
theorem dX9_node_52 : decode cX9_node 52 = .ok (.iastore, 1) := qd_79 kq_cX9_node (by decide +kernel)
theorem dX9_node_53 : decode cX9_node 53 = .ok (.aload_n 0, 1) := qd_42 kq_cX9_node (by decide +kernel)
theorem dX9_node_54 : decode cX9_node 54 = .ok (.getfield 32, 3) := qd_180 kq_cX9_node (by decide +kernel)
theorem dX9_node_57 : decode cX9_node 57 = .ok (.aload_n 0, 1) := qd_42 kq_cX9_node (by decide +kernel)
theorem dX9_node_58 : decode cX9_node 58 = .ok (.getfield 109, 3) := qd_180 kq_cX9_node (by decide +kernel)
theorem dX9_node_61 : decode cX9_node 61 = .ok (.iconst (-1), 1) := qd_2 kq_cX9_node (by decide +kernel)
theorem dX9_node_62 : decode cX9_node 62 = .ok (.iastore, 1) := qd_79 kq_cX9_node (by decide +kernel)
theorem dX9_node_63 : decode cX9_node 63 = .ok (.aload_n 0, 1) := qd_42 kq_cX9_node (by decide +kernel)
theorem dX9_node_64 : decode cX9_node 64 = .ok (.dup, 1) := qd_89 kq_cX9_node (by decide +kernel)
theorem dX9_node_65 : decode cX9_node 65 = .ok (.getfield 109, 3) := qd_180 kq_cX9_node (by decide +kernel)
theorem dX9_node_68 : decode cX9_node 68 = .ok (.iconst 1, 1) := qd_4 kq_cX9_node (by decide +kernel)
theorem dX9_node_69 : decode cX9_node 69 = .ok (.iadd, 1) := qd_96 kq_cX9_node (by decide +kernel)
theorem dX9_node_70 : decode cX9_node 70 = .ok (.putfield 109, 3) := qd_181 kq_cX9_node (by decide +kernel)
theorem dX9_node_73 : decode cX9_node 73 = .ok (.aload_n 0, 1) := qd_42 kq_cX9_node (by decide +kernel)
theorem dX9_node_74 : decode cX9_node 74 = .ok (.getfield 109, 3) := qd_180 kq_cX9_node (by decide +kernel)
theorem dX9_node_77 : decode cX9_node 77 = .ok (.iconst 1, 1) := qd_4 kq_cX9_node (by decide +kernel)
theorem dX9_node_78 : decode cX9_node 78 = .ok (.isub, 1) := qd_100 kq_cX9_node (by decide +kernel)
theorem dX9_node_79 : decode cX9_node 79 = .ok (.ireturn, 1) := qd_172 kq_cX9_node (by decide +kernel)
def rmX9_node (mc ms : Nat) : Room := { frames := 0, cells := mc, slots := ms, locals := 0 }
abbrev cX9_hex : ByteArray := prog_13_method_11_code
def yX9_hex : MethodName := ⟨RX9, "hex", "(I)I"⟩
def wsX9_hex : List Cond := .code yX9_hex cX9_hex 1 (some .int) :: sr_G
def nq_cX9_hex : Nat := 0xac020400a7600a106441101a0d00a346101a1300a141101a1a00a7600a106461101a0d00a366101a1300a161101a3000a76430101a0a00a339101a1000a130101a
theorem kq_cX9_hex : qOk cX9_hex nq_cX9_hex 65 = true := by decide +kernel
theorem dX9_hex_0 : decode cX9_hex 0 = .ok (.iload_n 0, 1) := qd_26 kq_cX9_hex (by decide +kernel)
theorem dX9_hex_1 : decode cX9_hex 1 = .ok (.bipush 48, 2) := qd_16 kq_cX9_hex (by decide +kernel)
theorem dX9_hex_3 : decode cX9_hex 3 = .ok (.if_icmp .lt 16, 3) := qd_161 kq_cX9_hex (by decide +kernel)
theorem dX9_hex_6 : decode cX9_hex 6 = .ok (.iload_n 0, 1) := qd_26 kq_cX9_hex (by decide +kernel)
theorem dX9_hex_7 : decode cX9_hex 7 = .ok (.bipush 57, 2) := qd_16 kq_cX9_hex (by decide +kernel)
theorem dX9_hex_9 : decode cX9_hex 9 = .ok (.if_icmp .gt 10, 3) := qd_163 kq_cX9_hex (by decide +kernel)
theorem dX9_hex_12 : decode cX9_hex 12 = .ok (.iload_n 0, 1) := qd_26 kq_cX9_hex (by decide +kernel)
theorem dX9_hex_13 : decode cX9_hex 13 = .ok (.bipush 48, 2) := qd_16 kq_cX9_hex (by decide +kernel)
theorem dX9_hex_15 : decode cX9_hex 15 = .ok (.isub, 1) := qd_100 kq_cX9_hex (by decide +kernel)
theorem dX9_hex_16 : decode cX9_hex 16 = .ok (.goto 48, 3) := qd_167 kq_cX9_hex (by decide +kernel)
theorem dX9_hex_19 : decode cX9_hex 19 = .ok (.iload_n 0, 1) := qd_26 kq_cX9_hex (by decide +kernel)
theorem dX9_hex_20 : decode cX9_hex 20 = .ok (.bipush 97, 2) := qd_16 kq_cX9_hex (by decide +kernel)
theorem dX9_hex_22 : decode cX9_hex 22 = .ok (.if_icmp .lt 19, 3) := qd_161 kq_cX9_hex (by decide +kernel)
theorem dX9_hex_25 : decode cX9_hex 25 = .ok (.iload_n 0, 1) := qd_26 kq_cX9_hex (by decide +kernel)
theorem dX9_hex_26 : decode cX9_hex 26 = .ok (.bipush 102, 2) := qd_16 kq_cX9_hex (by decide +kernel)
theorem dX9_hex_28 : decode cX9_hex 28 = .ok (.if_icmp .gt 13, 3) := qd_163 kq_cX9_hex (by decide +kernel)
theorem dX9_hex_31 : decode cX9_hex 31 = .ok (.iload_n 0, 1) := qd_26 kq_cX9_hex (by decide +kernel)
theorem dX9_hex_32 : decode cX9_hex 32 = .ok (.bipush 97, 2) := qd_16 kq_cX9_hex (by decide +kernel)
theorem dX9_hex_34 : decode cX9_hex 34 = .ok (.isub, 1) := qd_100 kq_cX9_hex (by decide +kernel)
theorem dX9_hex_35 : decode cX9_hex 35 = .ok (.bipush 10, 2) := qd_16 kq_cX9_hex (by decide +kernel)
theorem dX9_hex_37 : decode cX9_hex 37 = .ok (.iadd, 1) := qd_96 kq_cX9_hex (by decide +kernel)
theorem dX9_hex_38 : decode cX9_hex 38 = .ok (.goto 26, 3) := qd_167 kq_cX9_hex (by decide +kernel)
theorem dX9_hex_41 : decode cX9_hex 41 = .ok (.iload_n 0, 1) := qd_26 kq_cX9_hex (by decide +kernel)
theorem dX9_hex_42 : decode cX9_hex 42 = .ok (.bipush 65, 2) := qd_16 kq_cX9_hex (by decide +kernel)
theorem dX9_hex_44 : decode cX9_hex 44 = .ok (.if_icmp .lt 19, 3) := qd_161 kq_cX9_hex (by decide +kernel)
theorem dX9_hex_47 : decode cX9_hex 47 = .ok (.iload_n 0, 1) := qd_26 kq_cX9_hex (by decide +kernel)
theorem dX9_hex_48 : decode cX9_hex 48 = .ok (.bipush 70, 2) := qd_16 kq_cX9_hex (by decide +kernel)
theorem dX9_hex_50 : decode cX9_hex 50 = .ok (.if_icmp .gt 13, 3) := qd_163 kq_cX9_hex (by decide +kernel)
theorem dX9_hex_53 : decode cX9_hex 53 = .ok (.iload_n 0, 1) := qd_26 kq_cX9_hex (by decide +kernel)
theorem dX9_hex_54 : decode cX9_hex 54 = .ok (.bipush 65, 2) := qd_16 kq_cX9_hex (by decide +kernel)
theorem dX9_hex_56 : decode cX9_hex 56 = .ok (.isub, 1) := qd_100 kq_cX9_hex (by decide +kernel)
theorem dX9_hex_57 : decode cX9_hex 57 = .ok (.bipush 10, 2) := qd_16 kq_cX9_hex (by decide +kernel)
theorem dX9_hex_59 : decode cX9_hex 59 = .ok (.iadd, 1) := qd_96 kq_cX9_hex (by decide +kernel)
theorem dX9_hex_60 : decode cX9_hex 60 = .ok (.goto 4, 3) := qd_167 kq_cX9_hex (by decide +kernel)
theorem dX9_hex_63 : decode cX9_hex 63 = .ok (.iconst (-1), 1) := qd_2 kq_cX9_hex (by decide +kernel)
theorem dX9_hex_64 : decode cX9_hex 64 = .ok (.ireturn, 1) := qd_172 kq_cX9_hex (by decide +kernel)
def rmX9_hex (mc ms : Nat) : Room := { frames := 0, cells := mc, slots := ms, locals := 0 }
abbrev cX9_same : ByteArray := prog_13_method_15_code
def yX9_same : MethodName := ⟨RX9, "same", "(ILSchemaReaderModel$Text;I)Z"⟩
def wsX9_same : List Cond := .code yX9_same cX9_same 5 (some .boolean) :: sr_G
def nq_cX9_same : Nat := 0xac04cfffa7010484ac0305009f33600415882f1d1600b42c2300b42c33600415882f1b1600b42a2300b42a2c00a22e1b1a00b42a0415043603ac0305009f2e1d1a00b42c2e1b1a00b42a
theorem kq_cX9_same : qOk cX9_same nq_cX9_same 74 = true := by decide +kernel
theorem dX9_same_0 : decode cX9_same 0 = .ok (.aload_n 0, 1) := qd_42 kq_cX9_same (by decide +kernel)
theorem dX9_same_1 : decode cX9_same 1 = .ok (.getfield 26, 3) := qd_180 kq_cX9_same (by decide +kernel)
theorem dX9_same_4 : decode cX9_same 4 = .ok (.iload_n 1, 1) := qd_27 kq_cX9_same (by decide +kernel)
theorem dX9_same_5 : decode cX9_same 5 = .ok (.iaload, 1) := qd_46 kq_cX9_same (by decide +kernel)
theorem dX9_same_6 : decode cX9_same 6 = .ok (.aload_n 2, 1) := qd_44 kq_cX9_same (by decide +kernel)
theorem dX9_same_7 : decode cX9_same 7 = .ok (.getfield 26, 3) := qd_180 kq_cX9_same (by decide +kernel)
theorem dX9_same_10 : decode cX9_same 10 = .ok (.iload_n 3, 1) := qd_29 kq_cX9_same (by decide +kernel)
theorem dX9_same_11 : decode cX9_same 11 = .ok (.iaload, 1) := qd_46 kq_cX9_same (by decide +kernel)
theorem dX9_same_12 : decode cX9_same 12 = .ok (.if_icmp .eq 5, 3) := qd_159 kq_cX9_same (by decide +kernel)
theorem dX9_same_15 : decode cX9_same 15 = .ok (.iconst 0, 1) := qd_3 kq_cX9_same (by decide +kernel)
theorem dX9_same_16 : decode cX9_same 16 = .ok (.ireturn, 1) := qd_172 kq_cX9_same (by decide +kernel)
theorem dX9_same_17 : decode cX9_same 17 = .ok (.iconst 0, 1) := qd_3 kq_cX9_same (by decide +kernel)
theorem dX9_same_18 : decode cX9_same 18 = .ok (.istore 4, 2) := qd_54 kq_cX9_same (by decide +kernel)
theorem dX9_same_20 : decode cX9_same 20 = .ok (.iload 4, 2) := qd_21 kq_cX9_same (by decide +kernel)
theorem dX9_same_22 : decode cX9_same 22 = .ok (.aload_n 0, 1) := qd_42 kq_cX9_same (by decide +kernel)
theorem dX9_same_23 : decode cX9_same 23 = .ok (.getfield 26, 3) := qd_180 kq_cX9_same (by decide +kernel)
theorem dX9_same_26 : decode cX9_same 26 = .ok (.iload_n 1, 1) := qd_27 kq_cX9_same (by decide +kernel)
theorem dX9_same_27 : decode cX9_same 27 = .ok (.iaload, 1) := qd_46 kq_cX9_same (by decide +kernel)
theorem dX9_same_28 : decode cX9_same 28 = .ok (.if_icmp .ge 44, 3) := qd_162 kq_cX9_same (by decide +kernel)
theorem dX9_same_31 : decode cX9_same 31 = .ok (.aload_n 0, 1) := qd_42 kq_cX9_same (by decide +kernel)
theorem dX9_same_32 : decode cX9_same 32 = .ok (.getfield 35, 3) := qd_180 kq_cX9_same (by decide +kernel)
theorem dX9_same_35 : decode cX9_same 35 = .ok (.aload_n 0, 1) := qd_42 kq_cX9_same (by decide +kernel)
theorem dX9_same_36 : decode cX9_same 36 = .ok (.getfield 22, 3) := qd_180 kq_cX9_same (by decide +kernel)
theorem dX9_same_39 : decode cX9_same 39 = .ok (.iload_n 1, 1) := qd_27 kq_cX9_same (by decide +kernel)
theorem dX9_same_40 : decode cX9_same 40 = .ok (.laload, 1) := qd_47 kq_cX9_same (by decide +kernel)
theorem dX9_same_41 : decode cX9_same 41 = .ok (.l2i, 1) := qd_136 kq_cX9_same (by decide +kernel)
theorem dX9_same_42 : decode cX9_same 42 = .ok (.iload 4, 2) := qd_21 kq_cX9_same (by decide +kernel)
theorem dX9_same_44 : decode cX9_same 44 = .ok (.iadd, 1) := qd_96 kq_cX9_same (by decide +kernel)
theorem dX9_same_45 : decode cX9_same 45 = .ok (.baload, 1) := qd_51 kq_cX9_same (by decide +kernel)
theorem dX9_same_46 : decode cX9_same 46 = .ok (.aload_n 2, 1) := qd_44 kq_cX9_same (by decide +kernel)
theorem dX9_same_47 : decode cX9_same 47 = .ok (.getfield 35, 3) := qd_180 kq_cX9_same (by decide +kernel)
theorem dX9_same_50 : decode cX9_same 50 = .ok (.aload_n 2, 1) := qd_44 kq_cX9_same (by decide +kernel)
theorem dX9_same_51 : decode cX9_same 51 = .ok (.getfield 22, 3) := qd_180 kq_cX9_same (by decide +kernel)
theorem dX9_same_54 : decode cX9_same 54 = .ok (.iload_n 3, 1) := qd_29 kq_cX9_same (by decide +kernel)
theorem dX9_same_55 : decode cX9_same 55 = .ok (.laload, 1) := qd_47 kq_cX9_same (by decide +kernel)
theorem dX9_same_56 : decode cX9_same 56 = .ok (.l2i, 1) := qd_136 kq_cX9_same (by decide +kernel)
theorem dX9_same_57 : decode cX9_same 57 = .ok (.iload 4, 2) := qd_21 kq_cX9_same (by decide +kernel)
theorem dX9_same_59 : decode cX9_same 59 = .ok (.iadd, 1) := qd_96 kq_cX9_same (by decide +kernel)
theorem dX9_same_60 : decode cX9_same 60 = .ok (.baload, 1) := qd_51 kq_cX9_same (by decide +kernel)
theorem dX9_same_61 : decode cX9_same 61 = .ok (.if_icmp .eq 5, 3) := qd_159 kq_cX9_same (by decide +kernel)
theorem dX9_same_64 : decode cX9_same 64 = .ok (.iconst 0, 1) := qd_3 kq_cX9_same (by decide +kernel)
theorem dX9_same_65 : decode cX9_same 65 = .ok (.ireturn, 1) := qd_172 kq_cX9_same (by decide +kernel)
theorem dX9_same_66 : decode cX9_same 66 = .ok (.iinc 4 1, 3) := qd_132 kq_cX9_same (by decide +kernel)
theorem dX9_same_69 : decode cX9_same 69 = .ok (.goto (-49), 3) := qd_167 kq_cX9_same (by decide +kernel)
theorem dX9_same_72 : decode cX9_same 72 = .ok (.iconst 1, 1) := qd_4 kq_cX9_same (by decide +kernel)
theorem dX9_same_73 : decode cX9_same 73 = .ok (.ireturn, 1) := qd_172 kq_cX9_same (by decide +kernel)
def rmX9_same (mc ms : Nat) : Room := { frames := 0, cells := mc, slots := ms, locals := 0 }
abbrev cX9_isName : ByteArray := prog_13_method_18_code
def yX9_isName : MethodName := ⟨RX9, "isName", "(I)Z"⟩
def wsX9_isName : List Cond := .code yX9_isName cX9_isName 6 (some .boolean) :: sr_G
def nq_cX9_isName : Nat := 0xac1c98ffa70103843d030400a70407009e1d0b009905150c009f5f1004151300a45a1004150a00a1411004152100a47a1004150a00a1611004150536030400a7040700a3391004150e00a130100415043633601d882f1b1600b42a2300b42a6000991c6400a22e1b1a00b42a1d3e033d030400a7040700a221102e1b1a00b42a12009e2e1b1a00b42a1b00a0052e1b0f00b42a
theorem kq_cX9_isName : qOk cX9_isName nq_cX9_isName 147 = true := by decide +kernel
theorem dX9_isName_0 : decode cX9_isName 0 = .ok (.aload_n 0, 1) := qd_42 kq_cX9_isName (by decide +kernel)
theorem dX9_isName_1 : decode cX9_isName 1 = .ok (.getfield 15, 3) := qd_180 kq_cX9_isName (by decide +kernel)
theorem dX9_isName_4 : decode cX9_isName 4 = .ok (.iload_n 1, 1) := qd_27 kq_cX9_isName (by decide +kernel)
theorem dX9_isName_5 : decode cX9_isName 5 = .ok (.iaload, 1) := qd_46 kq_cX9_isName (by decide +kernel)
theorem dX9_isName_6 : decode cX9_isName 6 = .ok (.iconst 2, 1) := qd_5 kq_cX9_isName (by decide +kernel)
theorem dX9_isName_7 : decode cX9_isName 7 = .ok (.if_icmp .ne 27, 3) := qd_160 kq_cX9_isName (by decide +kernel)
theorem dX9_isName_10 : decode cX9_isName 10 = .ok (.aload_n 0, 1) := qd_42 kq_cX9_isName (by decide +kernel)
theorem dX9_isName_11 : decode cX9_isName 11 = .ok (.getfield 26, 3) := qd_180 kq_cX9_isName (by decide +kernel)
theorem dX9_isName_14 : decode cX9_isName 14 = .ok (.iload_n 1, 1) := qd_27 kq_cX9_isName (by decide +kernel)
theorem dX9_isName_15 : decode cX9_isName 15 = .ok (.iaload, 1) := qd_46 kq_cX9_isName (by decide +kernel)
theorem dX9_isName_16 : decode cX9_isName 16 = .ok (.ifCond .le 18, 3) := qd_158 kq_cX9_isName (by decide +kernel)
theorem dX9_isName_19 : decode cX9_isName 19 = .ok (.aload_n 0, 1) := qd_42 kq_cX9_isName (by decide +kernel)
theorem dX9_isName_20 : decode cX9_isName 20 = .ok (.getfield 26, 3) := qd_180 kq_cX9_isName (by decide +kernel)
theorem dX9_isName_23 : decode cX9_isName 23 = .ok (.iload_n 1, 1) := qd_27 kq_cX9_isName (by decide +kernel)
theorem dX9_isName_24 : decode cX9_isName 24 = .ok (.iaload, 1) := qd_46 kq_cX9_isName (by decide +kernel)
theorem dX9_isName_25 : decode cX9_isName 25 = .ok (.bipush 33, 2) := qd_16 kq_cX9_isName (by decide +kernel)
theorem dX9_isName_27 : decode cX9_isName 27 = .ok (.if_icmp .ge 7, 3) := qd_162 kq_cX9_isName (by decide +kernel)
theorem dX9_isName_30 : decode cX9_isName 30 = .ok (.iconst 1, 1) := qd_4 kq_cX9_isName (by decide +kernel)
theorem dX9_isName_31 : decode cX9_isName 31 = .ok (.goto 4, 3) := qd_167 kq_cX9_isName (by decide +kernel)
theorem dX9_isName_34 : decode cX9_isName 34 = .ok (.iconst 0, 1) := qd_3 kq_cX9_isName (by decide +kernel)
theorem dX9_isName_35 : decode cX9_isName 35 = .ok (.istore_n 2, 1) := qd_61 kq_cX9_isName (by decide +kernel)
theorem dX9_isName_36 : decode cX9_isName 36 = .ok (.iconst 0, 1) := qd_3 kq_cX9_isName (by decide +kernel)
theorem dX9_isName_37 : decode cX9_isName 37 = .ok (.istore_n 3, 1) := qd_62 kq_cX9_isName (by decide +kernel)
theorem dX9_isName_38 : decode cX9_isName 38 = .ok (.iload_n 3, 1) := qd_29 kq_cX9_isName (by decide +kernel)
theorem dX9_isName_39 : decode cX9_isName 39 = .ok (.aload_n 0, 1) := qd_42 kq_cX9_isName (by decide +kernel)
theorem dX9_isName_40 : decode cX9_isName 40 = .ok (.getfield 26, 3) := qd_180 kq_cX9_isName (by decide +kernel)
theorem dX9_isName_43 : decode cX9_isName 43 = .ok (.iload_n 1, 1) := qd_27 kq_cX9_isName (by decide +kernel)
theorem dX9_isName_44 : decode cX9_isName 44 = .ok (.iaload, 1) := qd_46 kq_cX9_isName (by decide +kernel)
theorem dX9_isName_45 : decode cX9_isName 45 = .ok (.if_icmp .ge 100, 3) := qd_162 kq_cX9_isName (by decide +kernel)
theorem dX9_isName_48 : decode cX9_isName 48 = .ok (.iload_n 2, 1) := qd_28 kq_cX9_isName (by decide +kernel)
theorem dX9_isName_49 : decode cX9_isName 49 = .ok (.ifCond .eq 96, 3) := qd_153 kq_cX9_isName (by decide +kernel)
theorem dX9_isName_52 : decode cX9_isName 52 = .ok (.aload_n 0, 1) := qd_42 kq_cX9_isName (by decide +kernel)
theorem dX9_isName_53 : decode cX9_isName 53 = .ok (.getfield 35, 3) := qd_180 kq_cX9_isName (by decide +kernel)
theorem dX9_isName_56 : decode cX9_isName 56 = .ok (.aload_n 0, 1) := qd_42 kq_cX9_isName (by decide +kernel)
theorem dX9_isName_57 : decode cX9_isName 57 = .ok (.getfield 22, 3) := qd_180 kq_cX9_isName (by decide +kernel)
theorem dX9_isName_60 : decode cX9_isName 60 = .ok (.iload_n 1, 1) := qd_27 kq_cX9_isName (by decide +kernel)
theorem dX9_isName_61 : decode cX9_isName 61 = .ok (.laload, 1) := qd_47 kq_cX9_isName (by decide +kernel)
theorem dX9_isName_62 : decode cX9_isName 62 = .ok (.l2i, 1) := qd_136 kq_cX9_isName (by decide +kernel)
theorem dX9_isName_63 : decode cX9_isName 63 = .ok (.iload_n 3, 1) := qd_29 kq_cX9_isName (by decide +kernel)
theorem dX9_isName_64 : decode cX9_isName 64 = .ok (.iadd, 1) := qd_96 kq_cX9_isName (by decide +kernel)
theorem dX9_isName_65 : decode cX9_isName 65 = .ok (.baload, 1) := qd_51 kq_cX9_isName (by decide +kernel)
theorem dX9_isName_66 : decode cX9_isName 66 = .ok (.istore 4, 2) := qd_54 kq_cX9_isName (by decide +kernel)
theorem dX9_isName_68 : decode cX9_isName 68 = .ok (.iload 4, 2) := qd_21 kq_cX9_isName (by decide +kernel)
theorem dX9_isName_70 : decode cX9_isName 70 = .ok (.bipush 48, 2) := qd_16 kq_cX9_isName (by decide +kernel)
theorem dX9_isName_72 : decode cX9_isName 72 = .ok (.if_icmp .lt 14, 3) := qd_161 kq_cX9_isName (by decide +kernel)
theorem dX9_isName_75 : decode cX9_isName 75 = .ok (.iload 4, 2) := qd_21 kq_cX9_isName (by decide +kernel)
theorem dX9_isName_77 : decode cX9_isName 77 = .ok (.bipush 57, 2) := qd_16 kq_cX9_isName (by decide +kernel)
theorem dX9_isName_79 : decode cX9_isName 79 = .ok (.if_icmp .gt 7, 3) := qd_163 kq_cX9_isName (by decide +kernel)
theorem dX9_isName_82 : decode cX9_isName 82 = .ok (.iconst 1, 1) := qd_4 kq_cX9_isName (by decide +kernel)
theorem dX9_isName_83 : decode cX9_isName 83 = .ok (.goto 4, 3) := qd_167 kq_cX9_isName (by decide +kernel)
theorem dX9_isName_86 : decode cX9_isName 86 = .ok (.iconst 0, 1) := qd_3 kq_cX9_isName (by decide +kernel)
theorem dX9_isName_87 : decode cX9_isName 87 = .ok (.istore 5, 2) := qd_54 kq_cX9_isName (by decide +kernel)
theorem dX9_isName_89 : decode cX9_isName 89 = .ok (.iload 4, 2) := qd_21 kq_cX9_isName (by decide +kernel)
theorem dX9_isName_91 : decode cX9_isName 91 = .ok (.bipush 97, 2) := qd_16 kq_cX9_isName (by decide +kernel)
theorem dX9_isName_93 : decode cX9_isName 93 = .ok (.if_icmp .lt 10, 3) := qd_161 kq_cX9_isName (by decide +kernel)
theorem dX9_isName_96 : decode cX9_isName 96 = .ok (.iload 4, 2) := qd_21 kq_cX9_isName (by decide +kernel)
theorem dX9_isName_98 : decode cX9_isName 98 = .ok (.bipush 122, 2) := qd_16 kq_cX9_isName (by decide +kernel)
theorem dX9_isName_100 : decode cX9_isName 100 = .ok (.if_icmp .le 33, 3) := qd_164 kq_cX9_isName (by decide +kernel)
theorem dX9_isName_103 : decode cX9_isName 103 = .ok (.iload 4, 2) := qd_21 kq_cX9_isName (by decide +kernel)
theorem dX9_isName_105 : decode cX9_isName 105 = .ok (.bipush 65, 2) := qd_16 kq_cX9_isName (by decide +kernel)
theorem dX9_isName_107 : decode cX9_isName 107 = .ok (.if_icmp .lt 10, 3) := qd_161 kq_cX9_isName (by decide +kernel)
theorem dX9_isName_110 : decode cX9_isName 110 = .ok (.iload 4, 2) := qd_21 kq_cX9_isName (by decide +kernel)
theorem dX9_isName_112 : decode cX9_isName 112 = .ok (.bipush 90, 2) := qd_16 kq_cX9_isName (by decide +kernel)
theorem dX9_isName_114 : decode cX9_isName 114 = .ok (.if_icmp .le 19, 3) := qd_164 kq_cX9_isName (by decide +kernel)
theorem dX9_isName_117 : decode cX9_isName 117 = .ok (.iload 4, 2) := qd_21 kq_cX9_isName (by decide +kernel)
theorem dX9_isName_119 : decode cX9_isName 119 = .ok (.bipush 95, 2) := qd_16 kq_cX9_isName (by decide +kernel)
theorem dX9_isName_121 : decode cX9_isName 121 = .ok (.if_icmp .eq 12, 3) := qd_159 kq_cX9_isName (by decide +kernel)
theorem dX9_isName_124 : decode cX9_isName 124 = .ok (.iload 5, 2) := qd_21 kq_cX9_isName (by decide +kernel)
theorem dX9_isName_126 : decode cX9_isName 126 = .ok (.ifCond .eq 11, 3) := qd_153 kq_cX9_isName (by decide +kernel)
theorem dX9_isName_129 : decode cX9_isName 129 = .ok (.iload_n 3, 1) := qd_29 kq_cX9_isName (by decide +kernel)
theorem dX9_isName_130 : decode cX9_isName 130 = .ok (.ifCond .le 7, 3) := qd_158 kq_cX9_isName (by decide +kernel)
theorem dX9_isName_133 : decode cX9_isName 133 = .ok (.iconst 1, 1) := qd_4 kq_cX9_isName (by decide +kernel)
theorem dX9_isName_134 : decode cX9_isName 134 = .ok (.goto 4, 3) := qd_167 kq_cX9_isName (by decide +kernel)
theorem dX9_isName_137 : decode cX9_isName 137 = .ok (.iconst 0, 1) := qd_3 kq_cX9_isName (by decide +kernel)
theorem dX9_isName_138 : decode cX9_isName 138 = .ok (.istore_n 2, 1) := qd_61 kq_cX9_isName (by decide +kernel)
theorem dX9_isName_139 : decode cX9_isName 139 = .ok (.iinc 3 1, 3) := qd_132 kq_cX9_isName (by decide +kernel)
theorem dX9_isName_142 : decode cX9_isName 142 = .ok (.goto (-104), 3) := qd_167 kq_cX9_isName (by decide +kernel)
theorem dX9_isName_145 : decode cX9_isName 145 = .ok (.iload_n 2, 1) := qd_28 kq_cX9_isName (by decide +kernel)
theorem dX9_isName_146 : decode cX9_isName 146 = .ok (.ireturn, 1) := qd_172 kq_cX9_isName (by decide +kernel)
def rmX9_isName (mc ms : Nat) : Room := { frames := 0, cells := mc, slots := ms, locals := 0 }
abbrev cX9_memberLike : ByteArray := prog_13_method_32_code
def yX9_memberLike : MethodName := ⟨RX9, "memberLike", "(II)I"⟩
def wsX9_memberLike : List Cond := .code yX9_memberLike cX9_memberLike 4 (some .int) :: sr_G
def nq_cX9_memberLike : Nat := 0xac02dfffa73e2e2e1d2000b42a2000b42aac2e1d2000b42a0a00999b00b61c2a1d2a23009b1d3e2e1b1d00b42a
theorem kq_cX9_memberLike : qOk cX9_memberLike nq_cX9_memberLike 45 = true := by decide +kernel
theorem dX9_memberLike_0 : decode cX9_memberLike 0 = .ok (.aload_n 0, 1) := qd_42 kq_cX9_memberLike (by decide +kernel)
theorem dX9_memberLike_1 : decode cX9_memberLike 1 = .ok (.getfield 29, 3) := qd_180 kq_cX9_memberLike (by decide +kernel)
theorem dX9_memberLike_4 : decode cX9_memberLike 4 = .ok (.iload_n 1, 1) := qd_27 kq_cX9_memberLike (by decide +kernel)
theorem dX9_memberLike_5 : decode cX9_memberLike 5 = .ok (.iaload, 1) := qd_46 kq_cX9_memberLike (by decide +kernel)
theorem dX9_memberLike_6 : decode cX9_memberLike 6 = .ok (.istore_n 3, 1) := qd_62 kq_cX9_memberLike (by decide +kernel)
theorem dX9_memberLike_7 : decode cX9_memberLike 7 = .ok (.iload_n 3, 1) := qd_29 kq_cX9_memberLike (by decide +kernel)
theorem dX9_memberLike_8 : decode cX9_memberLike 8 = .ok (.ifCond .lt 35, 3) := qd_155 kq_cX9_memberLike (by decide +kernel)
theorem dX9_memberLike_11 : decode cX9_memberLike 11 = .ok (.aload_n 0, 1) := qd_42 kq_cX9_memberLike (by decide +kernel)
theorem dX9_memberLike_12 : decode cX9_memberLike 12 = .ok (.iload_n 3, 1) := qd_29 kq_cX9_memberLike (by decide +kernel)
theorem dX9_memberLike_13 : decode cX9_memberLike 13 = .ok (.aload_n 0, 1) := qd_42 kq_cX9_memberLike (by decide +kernel)
theorem dX9_memberLike_14 : decode cX9_memberLike 14 = .ok (.iload_n 2, 1) := qd_28 kq_cX9_memberLike (by decide +kernel)
theorem dX9_memberLike_15 : decode cX9_memberLike 15 = .ok (.invokevirtual 155, 3) := qd_182 kq_cX9_memberLike (by decide +kernel)
theorem dX9_memberLike_18 : decode cX9_memberLike 18 = .ok (.ifCond .eq 10, 3) := qd_153 kq_cX9_memberLike (by decide +kernel)
theorem dX9_memberLike_21 : decode cX9_memberLike 21 = .ok (.aload_n 0, 1) := qd_42 kq_cX9_memberLike (by decide +kernel)
theorem dX9_memberLike_22 : decode cX9_memberLike 22 = .ok (.getfield 32, 3) := qd_180 kq_cX9_memberLike (by decide +kernel)
theorem dX9_memberLike_25 : decode cX9_memberLike 25 = .ok (.iload_n 3, 1) := qd_29 kq_cX9_memberLike (by decide +kernel)
theorem dX9_memberLike_26 : decode cX9_memberLike 26 = .ok (.iaload, 1) := qd_46 kq_cX9_memberLike (by decide +kernel)
theorem dX9_memberLike_27 : decode cX9_memberLike 27 = .ok (.ireturn, 1) := qd_172 kq_cX9_memberLike (by decide +kernel)
theorem dX9_memberLike_28 : decode cX9_memberLike 28 = .ok (.aload_n 0, 1) := qd_42 kq_cX9_memberLike (by decide +kernel)
theorem dX9_memberLike_29 : decode cX9_memberLike 29 = .ok (.getfield 32, 3) := qd_180 kq_cX9_memberLike (by decide +kernel)
theorem dX9_memberLike_32 : decode cX9_memberLike 32 = .ok (.aload_n 0, 1) := qd_42 kq_cX9_memberLike (by decide +kernel)
theorem dX9_memberLike_33 : decode cX9_memberLike 33 = .ok (.getfield 32, 3) := qd_180 kq_cX9_memberLike (by decide +kernel)
theorem dX9_memberLike_36 : decode cX9_memberLike 36 = .ok (.iload_n 3, 1) := qd_29 kq_cX9_memberLike (by decide +kernel)
theorem dX9_memberLike_37 : decode cX9_memberLike 37 = .ok (.iaload, 1) := qd_46 kq_cX9_memberLike (by decide +kernel)
theorem dX9_memberLike_38 : decode cX9_memberLike 38 = .ok (.iaload, 1) := qd_46 kq_cX9_memberLike (by decide +kernel)
theorem dX9_memberLike_39 : decode cX9_memberLike 39 = .ok (.istore_n 3, 1) := qd_62 kq_cX9_memberLike (by decide +kernel)
theorem dX9_memberLike_40 : decode cX9_memberLike 40 = .ok (.goto (-33), 3) := qd_167 kq_cX9_memberLike (by decide +kernel)
theorem dX9_memberLike_43 : decode cX9_memberLike 43 = .ok (.iconst (-1), 1) := qd_2 kq_cX9_memberLike (by decide +kernel)
theorem dX9_memberLike_44 : decode cX9_memberLike 44 = .ok (.ireturn, 1) := qd_172 kq_cX9_memberLike (by decide +kernel)
def rmX9_memberLike (mc ms : Nat) : Room := { frames := 1, cells := mc, slots := ms, locals := 24 }
abbrev cX9_defined : ByteArray := prog_13_method_20_code
def yX9_defined : MethodName := ⟨RX9, "defined", "(I)I"⟩
def wsX9_defined : List Cond := .code yX9_defined cX9_defined 3 (some .int) :: sr_G
def nq_cX9_defined : Nat := 0xac02dbffa7010284ac1c0500999b00b61b2a2e1c2900b42a2a14009b2e1c2900b42a2300a2bd00b42a1c3d0610
theorem kq_cX9_defined : qOk cX9_defined nq_cX9_defined 45 = true := by decide +kernel
theorem dX9_defined_0 : decode cX9_defined 0 = .ok (.bipush 6, 2) := qd_16 kq_cX9_defined (by decide +kernel)
theorem dX9_defined_2 : decode cX9_defined 2 = .ok (.istore_n 2, 1) := qd_61 kq_cX9_defined (by decide +kernel)
theorem dX9_defined_3 : decode cX9_defined 3 = .ok (.iload_n 2, 1) := qd_28 kq_cX9_defined (by decide +kernel)
theorem dX9_defined_4 : decode cX9_defined 4 = .ok (.aload_n 0, 1) := qd_42 kq_cX9_defined (by decide +kernel)
theorem dX9_defined_5 : decode cX9_defined 5 = .ok (.getfield 189, 3) := qd_180 kq_cX9_defined (by decide +kernel)
theorem dX9_defined_8 : decode cX9_defined 8 = .ok (.if_icmp .ge 35, 3) := qd_162 kq_cX9_defined (by decide +kernel)
theorem dX9_defined_11 : decode cX9_defined 11 = .ok (.aload_n 0, 1) := qd_42 kq_cX9_defined (by decide +kernel)
theorem dX9_defined_12 : decode cX9_defined 12 = .ok (.getfield 41, 3) := qd_180 kq_cX9_defined (by decide +kernel)
theorem dX9_defined_15 : decode cX9_defined 15 = .ok (.iload_n 2, 1) := qd_28 kq_cX9_defined (by decide +kernel)
theorem dX9_defined_16 : decode cX9_defined 16 = .ok (.iaload, 1) := qd_46 kq_cX9_defined (by decide +kernel)
theorem dX9_defined_17 : decode cX9_defined 17 = .ok (.ifCond .lt 20, 3) := qd_155 kq_cX9_defined (by decide +kernel)
theorem dX9_defined_20 : decode cX9_defined 20 = .ok (.aload_n 0, 1) := qd_42 kq_cX9_defined (by decide +kernel)
theorem dX9_defined_21 : decode cX9_defined 21 = .ok (.aload_n 0, 1) := qd_42 kq_cX9_defined (by decide +kernel)
theorem dX9_defined_22 : decode cX9_defined 22 = .ok (.getfield 41, 3) := qd_180 kq_cX9_defined (by decide +kernel)
theorem dX9_defined_25 : decode cX9_defined 25 = .ok (.iload_n 2, 1) := qd_28 kq_cX9_defined (by decide +kernel)
theorem dX9_defined_26 : decode cX9_defined 26 = .ok (.iaload, 1) := qd_46 kq_cX9_defined (by decide +kernel)
theorem dX9_defined_27 : decode cX9_defined 27 = .ok (.aload_n 0, 1) := qd_42 kq_cX9_defined (by decide +kernel)
theorem dX9_defined_28 : decode cX9_defined 28 = .ok (.iload_n 1, 1) := qd_27 kq_cX9_defined (by decide +kernel)
theorem dX9_defined_29 : decode cX9_defined 29 = .ok (.invokevirtual 155, 3) := qd_182 kq_cX9_defined (by decide +kernel)
theorem dX9_defined_32 : decode cX9_defined 32 = .ok (.ifCond .eq 5, 3) := qd_153 kq_cX9_defined (by decide +kernel)
theorem dX9_defined_35 : decode cX9_defined 35 = .ok (.iload_n 2, 1) := qd_28 kq_cX9_defined (by decide +kernel)
theorem dX9_defined_36 : decode cX9_defined 36 = .ok (.ireturn, 1) := qd_172 kq_cX9_defined (by decide +kernel)
theorem dX9_defined_37 : decode cX9_defined 37 = .ok (.iinc 2 1, 3) := qd_132 kq_cX9_defined (by decide +kernel)
theorem dX9_defined_40 : decode cX9_defined 40 = .ok (.goto (-37), 3) := qd_167 kq_cX9_defined (by decide +kernel)
theorem dX9_defined_43 : decode cX9_defined 43 = .ok (.iconst (-1), 1) := qd_2 kq_cX9_defined (by decide +kernel)
theorem dX9_defined_44 : decode cX9_defined 44 = .ok (.ireturn, 1) := qd_172 kq_cX9_defined (by decide +kernel)
def rmX9_defined (mc ms : Nat) : Room := { frames := 1, cells := mc, slots := ms, locals := 24 }
abbrev cX9_shape : ByteArray := prog_13_method_21_code
def yX9_shape : MethodName := ⟨RX9, "shape", "(I)I"⟩
def wsX9_shape : List Cond := .code yX9_shape cX9_shape 2 (some .int) :: sr_G
def nq_cX9_shape : Nat := 0xac6404bd00b42abd00b56004bd00b4592a4f02bd00b42a3500b42a4f03bd00b42a3200b42a4f02bd00b42a2f00b42a4f03bd00b42a2c00b42a4f02bd00b42a2900b42a4f1bbd00b42a2600b42a
theorem kq_cX9_shape : qOk cX9_shape nq_cX9_shape 77 = true := by decide +kernel
theorem dX9_shape_0 : decode cX9_shape 0 = .ok (.aload_n 0, 1) := qd_42 kq_cX9_shape (by decide +kernel)
theorem dX9_shape_1 : decode cX9_shape 1 = .ok (.getfield 38, 3) := qd_180 kq_cX9_shape (by decide +kernel)
theorem dX9_shape_4 : decode cX9_shape 4 = .ok (.aload_n 0, 1) := qd_42 kq_cX9_shape (by decide +kernel)
theorem dX9_shape_5 : decode cX9_shape 5 = .ok (.getfield 189, 3) := qd_180 kq_cX9_shape (by decide +kernel)
theorem dX9_shape_8 : decode cX9_shape 8 = .ok (.iload_n 1, 1) := qd_27 kq_cX9_shape (by decide +kernel)
theorem dX9_shape_9 : decode cX9_shape 9 = .ok (.iastore, 1) := qd_79 kq_cX9_shape (by decide +kernel)
theorem dX9_shape_10 : decode cX9_shape 10 = .ok (.aload_n 0, 1) := qd_42 kq_cX9_shape (by decide +kernel)
theorem dX9_shape_11 : decode cX9_shape 11 = .ok (.getfield 41, 3) := qd_180 kq_cX9_shape (by decide +kernel)
theorem dX9_shape_14 : decode cX9_shape 14 = .ok (.aload_n 0, 1) := qd_42 kq_cX9_shape (by decide +kernel)
theorem dX9_shape_15 : decode cX9_shape 15 = .ok (.getfield 189, 3) := qd_180 kq_cX9_shape (by decide +kernel)
theorem dX9_shape_18 : decode cX9_shape 18 = .ok (.iconst (-1), 1) := qd_2 kq_cX9_shape (by decide +kernel)
theorem dX9_shape_19 : decode cX9_shape 19 = .ok (.iastore, 1) := qd_79 kq_cX9_shape (by decide +kernel)
theorem dX9_shape_20 : decode cX9_shape 20 = .ok (.aload_n 0, 1) := qd_42 kq_cX9_shape (by decide +kernel)
theorem dX9_shape_21 : decode cX9_shape 21 = .ok (.getfield 44, 3) := qd_180 kq_cX9_shape (by decide +kernel)
theorem dX9_shape_24 : decode cX9_shape 24 = .ok (.aload_n 0, 1) := qd_42 kq_cX9_shape (by decide +kernel)
theorem dX9_shape_25 : decode cX9_shape 25 = .ok (.getfield 189, 3) := qd_180 kq_cX9_shape (by decide +kernel)
theorem dX9_shape_28 : decode cX9_shape 28 = .ok (.iconst 0, 1) := qd_3 kq_cX9_shape (by decide +kernel)
theorem dX9_shape_29 : decode cX9_shape 29 = .ok (.iastore, 1) := qd_79 kq_cX9_shape (by decide +kernel)
theorem dX9_shape_30 : decode cX9_shape 30 = .ok (.aload_n 0, 1) := qd_42 kq_cX9_shape (by decide +kernel)
theorem dX9_shape_31 : decode cX9_shape 31 = .ok (.getfield 47, 3) := qd_180 kq_cX9_shape (by decide +kernel)
theorem dX9_shape_34 : decode cX9_shape 34 = .ok (.aload_n 0, 1) := qd_42 kq_cX9_shape (by decide +kernel)
theorem dX9_shape_35 : decode cX9_shape 35 = .ok (.getfield 189, 3) := qd_180 kq_cX9_shape (by decide +kernel)
theorem dX9_shape_38 : decode cX9_shape 38 = .ok (.iconst (-1), 1) := qd_2 kq_cX9_shape (by decide +kernel)
theorem dX9_shape_39 : decode cX9_shape 39 = .ok (.iastore, 1) := qd_79 kq_cX9_shape (by decide +kernel)
theorem dX9_shape_40 : decode cX9_shape 40 = .ok (.aload_n 0, 1) := qd_42 kq_cX9_shape (by decide +kernel)
theorem dX9_shape_41 : decode cX9_shape 41 = .ok (.getfield 50, 3) := qd_180 kq_cX9_shape (by decide +kernel)
theorem dX9_shape_44 : decode cX9_shape 44 = .ok (.aload_n 0, 1) := qd_42 kq_cX9_shape (by decide +kernel)
theorem dX9_shape_45 : decode cX9_shape 45 = .ok (.getfield 189, 3) := qd_180 kq_cX9_shape (by decide +kernel)
theorem dX9_shape_48 : decode cX9_shape 48 = .ok (.iconst 0, 1) := qd_3 kq_cX9_shape (by decide +kernel)
theorem dX9_shape_49 : decode cX9_shape 49 = .ok (.iastore, 1) := qd_79 kq_cX9_shape (by decide +kernel)
theorem dX9_shape_50 : decode cX9_shape 50 = .ok (.aload_n 0, 1) := qd_42 kq_cX9_shape (by decide +kernel)
theorem dX9_shape_51 : decode cX9_shape 51 = .ok (.getfield 53, 3) := qd_180 kq_cX9_shape (by decide +kernel)
theorem dX9_shape_54 : decode cX9_shape 54 = .ok (.aload_n 0, 1) := qd_42 kq_cX9_shape (by decide +kernel)
theorem dX9_shape_55 : decode cX9_shape 55 = .ok (.getfield 189, 3) := qd_180 kq_cX9_shape (by decide +kernel)
theorem dX9_shape_58 : decode cX9_shape 58 = .ok (.iconst (-1), 1) := qd_2 kq_cX9_shape (by decide +kernel)
theorem dX9_shape_59 : decode cX9_shape 59 = .ok (.iastore, 1) := qd_79 kq_cX9_shape (by decide +kernel)
theorem dX9_shape_60 : decode cX9_shape 60 = .ok (.aload_n 0, 1) := qd_42 kq_cX9_shape (by decide +kernel)
theorem dX9_shape_61 : decode cX9_shape 61 = .ok (.dup, 1) := qd_89 kq_cX9_shape (by decide +kernel)
theorem dX9_shape_62 : decode cX9_shape 62 = .ok (.getfield 189, 3) := qd_180 kq_cX9_shape (by decide +kernel)
theorem dX9_shape_65 : decode cX9_shape 65 = .ok (.iconst 1, 1) := qd_4 kq_cX9_shape (by decide +kernel)
theorem dX9_shape_66 : decode cX9_shape 66 = .ok (.iadd, 1) := qd_96 kq_cX9_shape (by decide +kernel)
theorem dX9_shape_67 : decode cX9_shape 67 = .ok (.putfield 189, 3) := qd_181 kq_cX9_shape (by decide +kernel)
theorem dX9_shape_70 : decode cX9_shape 70 = .ok (.aload_n 0, 1) := qd_42 kq_cX9_shape (by decide +kernel)
theorem dX9_shape_71 : decode cX9_shape 71 = .ok (.getfield 189, 3) := qd_180 kq_cX9_shape (by decide +kernel)
theorem dX9_shape_74 : decode cX9_shape 74 = .ok (.iconst 1, 1) := qd_4 kq_cX9_shape (by decide +kernel)
theorem dX9_shape_75 : decode cX9_shape 75 = .ok (.isub, 1) := qd_100 kq_cX9_shape (by decide +kernel)
theorem dX9_shape_76 : decode cX9_shape 76 = .ok (.ireturn, 1) := qd_172 kq_cX9_shape (by decide +kernel)
def rmX9_shape (mc ms : Nat) : Room := { frames := 0, cells := mc, slots := ms, locals := 0 }
abbrev cX9_addKid : ByteArray := prog_13_method_22_code
def yX9_addKid : MethodName := ⟨RX9, "addKid", "(II)I"⟩
def wsX9_addKid : List Cond := .code yX9_addKid cX9_addKid 4 (some .int) :: sr_G
def nq_cX9_addKid : Nat := 0xac1d4f60042e5c1b3200b42a4f1d1c4100b42a0a00a74f1d1b2f00b42a0d009c1c4f021d4100b42a4f021d3e00b42a4f021d3b00b42a4f021d3800b42ac000b56004c000b4592a3ec000b42a
theorem kq_cX9_addKid : qOk cX9_addKid nq_cX9_addKid 76 = true := by decide +kernel
theorem dX9_addKid_0 : decode cX9_addKid 0 = .ok (.aload_n 0, 1) := qd_42 kq_cX9_addKid (by decide +kernel)
theorem dX9_addKid_1 : decode cX9_addKid 1 = .ok (.getfield 192, 3) := qd_180 kq_cX9_addKid (by decide +kernel)
theorem dX9_addKid_4 : decode cX9_addKid 4 = .ok (.istore_n 3, 1) := qd_62 kq_cX9_addKid (by decide +kernel)
theorem dX9_addKid_5 : decode cX9_addKid 5 = .ok (.aload_n 0, 1) := qd_42 kq_cX9_addKid (by decide +kernel)
theorem dX9_addKid_6 : decode cX9_addKid 6 = .ok (.dup, 1) := qd_89 kq_cX9_addKid (by decide +kernel)
theorem dX9_addKid_7 : decode cX9_addKid 7 = .ok (.getfield 192, 3) := qd_180 kq_cX9_addKid (by decide +kernel)
theorem dX9_addKid_10 : decode cX9_addKid 10 = .ok (.iconst 1, 1) := qd_4 kq_cX9_addKid (by decide +kernel)
theorem dX9_addKid_11 : decode cX9_addKid 11 = .ok (.iadd, 1) := qd_96 kq_cX9_addKid (by decide +kernel)
theorem dX9_addKid_12 : decode cX9_addKid 12 = .ok (.putfield 192, 3) := qd_181 kq_cX9_addKid (by decide +kernel)
theorem dX9_addKid_15 : decode cX9_addKid 15 = .ok (.aload_n 0, 1) := qd_42 kq_cX9_addKid (by decide +kernel)
theorem dX9_addKid_16 : decode cX9_addKid 16 = .ok (.getfield 56, 3) := qd_180 kq_cX9_addKid (by decide +kernel)
theorem dX9_addKid_19 : decode cX9_addKid 19 = .ok (.iload_n 3, 1) := qd_29 kq_cX9_addKid (by decide +kernel)
theorem dX9_addKid_20 : decode cX9_addKid 20 = .ok (.iconst (-1), 1) := qd_2 kq_cX9_addKid (by decide +kernel)
theorem dX9_addKid_21 : decode cX9_addKid 21 = .ok (.iastore, 1) := qd_79 kq_cX9_addKid (by decide +kernel)
theorem dX9_addKid_22 : decode cX9_addKid 22 = .ok (.aload_n 0, 1) := qd_42 kq_cX9_addKid (by decide +kernel)
theorem dX9_addKid_23 : decode cX9_addKid 23 = .ok (.getfield 59, 3) := qd_180 kq_cX9_addKid (by decide +kernel)
theorem dX9_addKid_26 : decode cX9_addKid 26 = .ok (.iload_n 3, 1) := qd_29 kq_cX9_addKid (by decide +kernel)
theorem dX9_addKid_27 : decode cX9_addKid 27 = .ok (.iconst (-1), 1) := qd_2 kq_cX9_addKid (by decide +kernel)
theorem dX9_addKid_28 : decode cX9_addKid 28 = .ok (.iastore, 1) := qd_79 kq_cX9_addKid (by decide +kernel)
theorem dX9_addKid_29 : decode cX9_addKid 29 = .ok (.aload_n 0, 1) := qd_42 kq_cX9_addKid (by decide +kernel)
theorem dX9_addKid_30 : decode cX9_addKid 30 = .ok (.getfield 62, 3) := qd_180 kq_cX9_addKid (by decide +kernel)
theorem dX9_addKid_33 : decode cX9_addKid 33 = .ok (.iload_n 3, 1) := qd_29 kq_cX9_addKid (by decide +kernel)
theorem dX9_addKid_34 : decode cX9_addKid 34 = .ok (.iconst (-1), 1) := qd_2 kq_cX9_addKid (by decide +kernel)
theorem dX9_addKid_35 : decode cX9_addKid 35 = .ok (.iastore, 1) := qd_79 kq_cX9_addKid (by decide +kernel)
theorem dX9_addKid_36 : decode cX9_addKid 36 = .ok (.aload_n 0, 1) := qd_42 kq_cX9_addKid (by decide +kernel)
theorem dX9_addKid_37 : decode cX9_addKid 37 = .ok (.getfield 65, 3) := qd_180 kq_cX9_addKid (by decide +kernel)
theorem dX9_addKid_40 : decode cX9_addKid 40 = .ok (.iload_n 3, 1) := qd_29 kq_cX9_addKid (by decide +kernel)
theorem dX9_addKid_41 : decode cX9_addKid 41 = .ok (.iconst (-1), 1) := qd_2 kq_cX9_addKid (by decide +kernel)
theorem dX9_addKid_42 : decode cX9_addKid 42 = .ok (.iastore, 1) := qd_79 kq_cX9_addKid (by decide +kernel)
theorem dX9_addKid_43 : decode cX9_addKid 43 = .ok (.iload_n 2, 1) := qd_28 kq_cX9_addKid (by decide +kernel)
theorem dX9_addKid_44 : decode cX9_addKid 44 = .ok (.ifCond .ge 13, 3) := qd_156 kq_cX9_addKid (by decide +kernel)
theorem dX9_addKid_47 : decode cX9_addKid 47 = .ok (.aload_n 0, 1) := qd_42 kq_cX9_addKid (by decide +kernel)
theorem dX9_addKid_48 : decode cX9_addKid 48 = .ok (.getfield 47, 3) := qd_180 kq_cX9_addKid (by decide +kernel)
theorem dX9_addKid_51 : decode cX9_addKid 51 = .ok (.iload_n 1, 1) := qd_27 kq_cX9_addKid (by decide +kernel)
theorem dX9_addKid_52 : decode cX9_addKid 52 = .ok (.iload_n 3, 1) := qd_29 kq_cX9_addKid (by decide +kernel)
theorem dX9_addKid_53 : decode cX9_addKid 53 = .ok (.iastore, 1) := qd_79 kq_cX9_addKid (by decide +kernel)
theorem dX9_addKid_54 : decode cX9_addKid 54 = .ok (.goto 10, 3) := qd_167 kq_cX9_addKid (by decide +kernel)
theorem dX9_addKid_57 : decode cX9_addKid 57 = .ok (.aload_n 0, 1) := qd_42 kq_cX9_addKid (by decide +kernel)
theorem dX9_addKid_58 : decode cX9_addKid 58 = .ok (.getfield 65, 3) := qd_180 kq_cX9_addKid (by decide +kernel)
theorem dX9_addKid_61 : decode cX9_addKid 61 = .ok (.iload_n 2, 1) := qd_28 kq_cX9_addKid (by decide +kernel)
theorem dX9_addKid_62 : decode cX9_addKid 62 = .ok (.iload_n 3, 1) := qd_29 kq_cX9_addKid (by decide +kernel)
theorem dX9_addKid_63 : decode cX9_addKid 63 = .ok (.iastore, 1) := qd_79 kq_cX9_addKid (by decide +kernel)
theorem dX9_addKid_64 : decode cX9_addKid 64 = .ok (.aload_n 0, 1) := qd_42 kq_cX9_addKid (by decide +kernel)
theorem dX9_addKid_65 : decode cX9_addKid 65 = .ok (.getfield 50, 3) := qd_180 kq_cX9_addKid (by decide +kernel)
theorem dX9_addKid_68 : decode cX9_addKid 68 = .ok (.iload_n 1, 1) := qd_27 kq_cX9_addKid (by decide +kernel)
theorem dX9_addKid_69 : decode cX9_addKid 69 = .ok (.dup2, 1) := qd_92 kq_cX9_addKid (by decide +kernel)
theorem dX9_addKid_70 : decode cX9_addKid 70 = .ok (.iaload, 1) := qd_46 kq_cX9_addKid (by decide +kernel)
theorem dX9_addKid_71 : decode cX9_addKid 71 = .ok (.iconst 1, 1) := qd_4 kq_cX9_addKid (by decide +kernel)
theorem dX9_addKid_72 : decode cX9_addKid 72 = .ok (.iadd, 1) := qd_96 kq_cX9_addKid (by decide +kernel)
theorem dX9_addKid_73 : decode cX9_addKid 73 = .ok (.iastore, 1) := qd_79 kq_cX9_addKid (by decide +kernel)
theorem dX9_addKid_74 : decode cX9_addKid 74 = .ok (.iload_n 3, 1) := qd_29 kq_cX9_addKid (by decide +kernel)
theorem dX9_addKid_75 : decode cX9_addKid 75 = .ok (.ireturn, 1) := qd_172 kq_cX9_addKid (by decide +kernel)
def rmX9_addKid (mc ms : Nat) : Room := { frames := 0, cells := mc, slots := ms, locals := 0 }
abbrev cX9_alike : ByteArray := prog_13_method_24_code
def yX9_alike : MethodName := ⟨RX9, "alike", "(II)Z"⟩
def wsX9_alike : List Cond := .code yX9_alike cX9_alike 3 (some .boolean) :: sr_G
def nq_cX9_alike : Nat := 0xac030400a7040700a007102e1b2600b42a0e009f06102e1b2600b42a1d00a02e1c2600b42a2e1b2600b42aac040500a01c1b
theorem kq_cX9_alike : qOk cX9_alike nq_cX9_alike 50 = true := by decide +kernel
theorem dX9_alike_0 : decode cX9_alike 0 = .ok (.iload_n 1, 1) := qd_27 kq_cX9_alike (by decide +kernel)
theorem dX9_alike_1 : decode cX9_alike 1 = .ok (.iload_n 2, 1) := qd_28 kq_cX9_alike (by decide +kernel)
theorem dX9_alike_2 : decode cX9_alike 2 = .ok (.if_icmp .ne 5, 3) := qd_160 kq_cX9_alike (by decide +kernel)
theorem dX9_alike_5 : decode cX9_alike 5 = .ok (.iconst 1, 1) := qd_4 kq_cX9_alike (by decide +kernel)
theorem dX9_alike_6 : decode cX9_alike 6 = .ok (.ireturn, 1) := qd_172 kq_cX9_alike (by decide +kernel)
theorem dX9_alike_7 : decode cX9_alike 7 = .ok (.aload_n 0, 1) := qd_42 kq_cX9_alike (by decide +kernel)
theorem dX9_alike_8 : decode cX9_alike 8 = .ok (.getfield 38, 3) := qd_180 kq_cX9_alike (by decide +kernel)
theorem dX9_alike_11 : decode cX9_alike 11 = .ok (.iload_n 1, 1) := qd_27 kq_cX9_alike (by decide +kernel)
theorem dX9_alike_12 : decode cX9_alike 12 = .ok (.iaload, 1) := qd_46 kq_cX9_alike (by decide +kernel)
theorem dX9_alike_13 : decode cX9_alike 13 = .ok (.aload_n 0, 1) := qd_42 kq_cX9_alike (by decide +kernel)
theorem dX9_alike_14 : decode cX9_alike 14 = .ok (.getfield 38, 3) := qd_180 kq_cX9_alike (by decide +kernel)
theorem dX9_alike_17 : decode cX9_alike 17 = .ok (.iload_n 2, 1) := qd_28 kq_cX9_alike (by decide +kernel)
theorem dX9_alike_18 : decode cX9_alike 18 = .ok (.iaload, 1) := qd_46 kq_cX9_alike (by decide +kernel)
theorem dX9_alike_19 : decode cX9_alike 19 = .ok (.if_icmp .ne 29, 3) := qd_160 kq_cX9_alike (by decide +kernel)
theorem dX9_alike_22 : decode cX9_alike 22 = .ok (.aload_n 0, 1) := qd_42 kq_cX9_alike (by decide +kernel)
theorem dX9_alike_23 : decode cX9_alike 23 = .ok (.getfield 38, 3) := qd_180 kq_cX9_alike (by decide +kernel)
theorem dX9_alike_26 : decode cX9_alike 26 = .ok (.iload_n 1, 1) := qd_27 kq_cX9_alike (by decide +kernel)
theorem dX9_alike_27 : decode cX9_alike 27 = .ok (.iaload, 1) := qd_46 kq_cX9_alike (by decide +kernel)
theorem dX9_alike_28 : decode cX9_alike 28 = .ok (.bipush 6, 2) := qd_16 kq_cX9_alike (by decide +kernel)
theorem dX9_alike_30 : decode cX9_alike 30 = .ok (.if_icmp .eq 14, 3) := qd_159 kq_cX9_alike (by decide +kernel)
theorem dX9_alike_33 : decode cX9_alike 33 = .ok (.aload_n 0, 1) := qd_42 kq_cX9_alike (by decide +kernel)
theorem dX9_alike_34 : decode cX9_alike 34 = .ok (.getfield 38, 3) := qd_180 kq_cX9_alike (by decide +kernel)
theorem dX9_alike_37 : decode cX9_alike 37 = .ok (.iload_n 1, 1) := qd_27 kq_cX9_alike (by decide +kernel)
theorem dX9_alike_38 : decode cX9_alike 38 = .ok (.iaload, 1) := qd_46 kq_cX9_alike (by decide +kernel)
theorem dX9_alike_39 : decode cX9_alike 39 = .ok (.bipush 7, 2) := qd_16 kq_cX9_alike (by decide +kernel)
theorem dX9_alike_41 : decode cX9_alike 41 = .ok (.if_icmp .ne 7, 3) := qd_160 kq_cX9_alike (by decide +kernel)
theorem dX9_alike_44 : decode cX9_alike 44 = .ok (.iconst 1, 1) := qd_4 kq_cX9_alike (by decide +kernel)
theorem dX9_alike_45 : decode cX9_alike 45 = .ok (.goto 4, 3) := qd_167 kq_cX9_alike (by decide +kernel)
theorem dX9_alike_48 : decode cX9_alike 48 = .ok (.iconst 0, 1) := qd_3 kq_cX9_alike (by decide +kernel)
theorem dX9_alike_49 : decode cX9_alike 49 = .ok (.ireturn, 1) := qd_172 kq_cX9_alike (by decide +kernel)
def rmX9_alike (mc ms : Nat) : Room := { frames := 0, cells := mc, slots := ms, locals := 0 }
abbrev cX9_symbol : ByteArray := prog_13_method_28_code
def yX9_symbol : MethodName := ⟨RX9, "symbol", "(ILSchemaReaderModel$Text;I)I"⟩
def wsX9_symbol : List Cond := .code yX9_symbol cX9_symbol 6 (some .int) :: sr_G
def nq_cX9_symbol : Nat := 0xac02dcffa705362e05154100b42a010484ac04150600999b00b61d2c2e05153b00b42a2a25009b051505362e1b2f00b42a043603
theorem kq_cX9_symbol : qOk cX9_symbol nq_cX9_symbol 52 = true := by decide +kernel
theorem dX9_symbol_0 : decode cX9_symbol 0 = .ok (.iconst 0, 1) := qd_3 kq_cX9_symbol (by decide +kernel)
theorem dX9_symbol_1 : decode cX9_symbol 1 = .ok (.istore 4, 2) := qd_54 kq_cX9_symbol (by decide +kernel)
theorem dX9_symbol_3 : decode cX9_symbol 3 = .ok (.aload_n 0, 1) := qd_42 kq_cX9_symbol (by decide +kernel)
theorem dX9_symbol_4 : decode cX9_symbol 4 = .ok (.getfield 47, 3) := qd_180 kq_cX9_symbol (by decide +kernel)
theorem dX9_symbol_7 : decode cX9_symbol 7 = .ok (.iload_n 1, 1) := qd_27 kq_cX9_symbol (by decide +kernel)
theorem dX9_symbol_8 : decode cX9_symbol 8 = .ok (.iaload, 1) := qd_46 kq_cX9_symbol (by decide +kernel)
theorem dX9_symbol_9 : decode cX9_symbol 9 = .ok (.istore 5, 2) := qd_54 kq_cX9_symbol (by decide +kernel)
theorem dX9_symbol_11 : decode cX9_symbol 11 = .ok (.iload 5, 2) := qd_21 kq_cX9_symbol (by decide +kernel)
theorem dX9_symbol_13 : decode cX9_symbol 13 = .ok (.ifCond .lt 37, 3) := qd_155 kq_cX9_symbol (by decide +kernel)
theorem dX9_symbol_16 : decode cX9_symbol 16 = .ok (.aload_n 0, 1) := qd_42 kq_cX9_symbol (by decide +kernel)
theorem dX9_symbol_17 : decode cX9_symbol 17 = .ok (.aload_n 0, 1) := qd_42 kq_cX9_symbol (by decide +kernel)
theorem dX9_symbol_18 : decode cX9_symbol 18 = .ok (.getfield 59, 3) := qd_180 kq_cX9_symbol (by decide +kernel)
theorem dX9_symbol_21 : decode cX9_symbol 21 = .ok (.iload 5, 2) := qd_21 kq_cX9_symbol (by decide +kernel)
theorem dX9_symbol_23 : decode cX9_symbol 23 = .ok (.iaload, 1) := qd_46 kq_cX9_symbol (by decide +kernel)
theorem dX9_symbol_24 : decode cX9_symbol 24 = .ok (.aload_n 2, 1) := qd_44 kq_cX9_symbol (by decide +kernel)
theorem dX9_symbol_25 : decode cX9_symbol 25 = .ok (.iload_n 3, 1) := qd_29 kq_cX9_symbol (by decide +kernel)
theorem dX9_symbol_26 : decode cX9_symbol 26 = .ok (.invokevirtual 155, 3) := qd_182 kq_cX9_symbol (by decide +kernel)
theorem dX9_symbol_29 : decode cX9_symbol 29 = .ok (.ifCond .eq 6, 3) := qd_153 kq_cX9_symbol (by decide +kernel)
theorem dX9_symbol_32 : decode cX9_symbol 32 = .ok (.iload 4, 2) := qd_21 kq_cX9_symbol (by decide +kernel)
theorem dX9_symbol_34 : decode cX9_symbol 34 = .ok (.ireturn, 1) := qd_172 kq_cX9_symbol (by decide +kernel)
theorem dX9_symbol_35 : decode cX9_symbol 35 = .ok (.iinc 4 1, 3) := qd_132 kq_cX9_symbol (by decide +kernel)
theorem dX9_symbol_38 : decode cX9_symbol 38 = .ok (.aload_n 0, 1) := qd_42 kq_cX9_symbol (by decide +kernel)
theorem dX9_symbol_39 : decode cX9_symbol 39 = .ok (.getfield 65, 3) := qd_180 kq_cX9_symbol (by decide +kernel)
theorem dX9_symbol_42 : decode cX9_symbol 42 = .ok (.iload 5, 2) := qd_21 kq_cX9_symbol (by decide +kernel)
theorem dX9_symbol_44 : decode cX9_symbol 44 = .ok (.iaload, 1) := qd_46 kq_cX9_symbol (by decide +kernel)
theorem dX9_symbol_45 : decode cX9_symbol 45 = .ok (.istore 5, 2) := qd_54 kq_cX9_symbol (by decide +kernel)
theorem dX9_symbol_47 : decode cX9_symbol 47 = .ok (.goto (-36), 3) := qd_167 kq_cX9_symbol (by decide +kernel)
theorem dX9_symbol_50 : decode cX9_symbol 50 = .ok (.iconst (-1), 1) := qd_2 kq_cX9_symbol (by decide +kernel)
theorem dX9_symbol_51 : decode cX9_symbol 51 = .ok (.ireturn, 1) := qd_172 kq_cX9_symbol (by decide +kernel)
def rmX9_symbol (mc ms : Nat) : Room := { frames := 1, cells := mc, slots := ms, locals := 24 }
abbrev cX9_figure : ByteArray := prog_13_method_38_code
def yX9_figure : MethodName := ⟨RX9, "figure", "(I)V"⟩
def wsX9_figure : List Cond := .code yX9_figure cX9_figure 2 none :: sr_G
def nq_cX9_figure : Nat := 0xb11801b560041801b4592a5491601b30101801b42a4700b42a
theorem kq_cX9_figure : qOk cX9_figure nq_cX9_figure 25 = true := by decide +kernel
theorem dX9_figure_0 : decode cX9_figure 0 = .ok (.aload_n 0, 1) := qd_42 kq_cX9_figure (by decide +kernel)
theorem dX9_figure_1 : decode cX9_figure 1 = .ok (.getfield 71, 3) := qd_180 kq_cX9_figure (by decide +kernel)
theorem dX9_figure_4 : decode cX9_figure 4 = .ok (.aload_n 0, 1) := qd_42 kq_cX9_figure (by decide +kernel)
theorem dX9_figure_5 : decode cX9_figure 5 = .ok (.getfield 280, 3) := qd_180 kq_cX9_figure (by decide +kernel)
theorem dX9_figure_8 : decode cX9_figure 8 = .ok (.bipush 48, 2) := qd_16 kq_cX9_figure (by decide +kernel)
theorem dX9_figure_10 : decode cX9_figure 10 = .ok (.iload_n 1, 1) := qd_27 kq_cX9_figure (by decide +kernel)
theorem dX9_figure_11 : decode cX9_figure 11 = .ok (.iadd, 1) := qd_96 kq_cX9_figure (by decide +kernel)
theorem dX9_figure_12 : decode cX9_figure 12 = .ok (.i2b, 1) := qd_145 kq_cX9_figure (by decide +kernel)
theorem dX9_figure_13 : decode cX9_figure 13 = .ok (.bastore, 1) := qd_84 kq_cX9_figure (by decide +kernel)
theorem dX9_figure_14 : decode cX9_figure 14 = .ok (.aload_n 0, 1) := qd_42 kq_cX9_figure (by decide +kernel)
theorem dX9_figure_15 : decode cX9_figure 15 = .ok (.dup, 1) := qd_89 kq_cX9_figure (by decide +kernel)
theorem dX9_figure_16 : decode cX9_figure 16 = .ok (.getfield 280, 3) := qd_180 kq_cX9_figure (by decide +kernel)
theorem dX9_figure_19 : decode cX9_figure 19 = .ok (.iconst 1, 1) := qd_4 kq_cX9_figure (by decide +kernel)
theorem dX9_figure_20 : decode cX9_figure 20 = .ok (.iadd, 1) := qd_96 kq_cX9_figure (by decide +kernel)
theorem dX9_figure_21 : decode cX9_figure 21 = .ok (.putfield 280, 3) := qd_181 kq_cX9_figure (by decide +kernel)
theorem dX9_figure_24 : decode cX9_figure 24 = .ok (.return_, 1) := qd_177 kq_cX9_figure (by decide +kernel)
def rmX9_figure (mc ms : Nat) : Room := { frames := 0, cells := mc, slots := ms, locals := 0 }
abbrev cX9_print : ByteArray := prog_13_method_40_code
def yX9_print : MethodName := ⟨RX9, "print", "()J"⟩
def wsX9_print : List Cond := .code yX9_print cX9_print 7 (some .long) :: sr_G
def nq_cX9_print : Nat := 0xad1fb7ffa7010384408304167d08101fdfffa7010684043783090400a74f011409009a940a7f0a04167d0404162000a20810061506360304377f5101148385331d4700b42a1f4700a21801b42a1d3e03404f0114
theorem kq_cX9_print : qOk cX9_print nq_cX9_print 84 = true := by decide +kernel
theorem dX9_print_0 : decode cX9_print 0 = .ok (.ldc2_w 335, 3) := qd_20 kq_cX9_print (by decide +kernel)
theorem dX9_print_3 : decode cX9_print 3 = .ok (.lstore_n 1, 1) := qd_64 kq_cX9_print (by decide +kernel)
theorem dX9_print_4 : decode cX9_print 4 = .ok (.iconst 0, 1) := qd_3 kq_cX9_print (by decide +kernel)
theorem dX9_print_5 : decode cX9_print 5 = .ok (.istore_n 3, 1) := qd_62 kq_cX9_print (by decide +kernel)
theorem dX9_print_6 : decode cX9_print 6 = .ok (.iload_n 3, 1) := qd_29 kq_cX9_print (by decide +kernel)
theorem dX9_print_7 : decode cX9_print 7 = .ok (.aload_n 0, 1) := qd_42 kq_cX9_print (by decide +kernel)
theorem dX9_print_8 : decode cX9_print 8 = .ok (.getfield 280, 3) := qd_180 kq_cX9_print (by decide +kernel)
theorem dX9_print_11 : decode cX9_print 11 = .ok (.if_icmp .ge 71, 3) := qd_162 kq_cX9_print (by decide +kernel)
theorem dX9_print_14 : decode cX9_print 14 = .ok (.lload_n 1, 1) := qd_31 kq_cX9_print (by decide +kernel)
theorem dX9_print_15 : decode cX9_print 15 = .ok (.aload_n 0, 1) := qd_42 kq_cX9_print (by decide +kernel)
theorem dX9_print_16 : decode cX9_print 16 = .ok (.getfield 71, 3) := qd_180 kq_cX9_print (by decide +kernel)
theorem dX9_print_19 : decode cX9_print 19 = .ok (.iload_n 3, 1) := qd_29 kq_cX9_print (by decide +kernel)
theorem dX9_print_20 : decode cX9_print 20 = .ok (.baload, 1) := qd_51 kq_cX9_print (by decide +kernel)
theorem dX9_print_21 : decode cX9_print 21 = .ok (.i2l, 1) := qd_133 kq_cX9_print (by decide +kernel)
theorem dX9_print_22 : decode cX9_print 22 = .ok (.lxor, 1) := qd_131 kq_cX9_print (by decide +kernel)
theorem dX9_print_23 : decode cX9_print 23 = .ok (.ldc2_w 337, 3) := qd_20 kq_cX9_print (by decide +kernel)
theorem dX9_print_26 : decode cX9_print 26 = .ok (.land, 1) := qd_127 kq_cX9_print (by decide +kernel)
theorem dX9_print_27 : decode cX9_print 27 = .ok (.lstore 4, 2) := qd_55 kq_cX9_print (by decide +kernel)
theorem dX9_print_29 : decode cX9_print 29 = .ok (.iconst 0, 1) := qd_3 kq_cX9_print (by decide +kernel)
theorem dX9_print_30 : decode cX9_print 30 = .ok (.istore 6, 2) := qd_54 kq_cX9_print (by decide +kernel)
theorem dX9_print_32 : decode cX9_print 32 = .ok (.iload 6, 2) := qd_21 kq_cX9_print (by decide +kernel)
theorem dX9_print_34 : decode cX9_print 34 = .ok (.bipush 8, 2) := qd_16 kq_cX9_print (by decide +kernel)
theorem dX9_print_36 : decode cX9_print 36 = .ok (.if_icmp .ge 32, 3) := qd_162 kq_cX9_print (by decide +kernel)
theorem dX9_print_39 : decode cX9_print 39 = .ok (.lload 4, 2) := qd_22 kq_cX9_print (by decide +kernel)
theorem dX9_print_41 : decode cX9_print 41 = .ok (.iconst 1, 1) := qd_4 kq_cX9_print (by decide +kernel)
theorem dX9_print_42 : decode cX9_print 42 = .ok (.lushr, 1) := qd_125 kq_cX9_print (by decide +kernel)
theorem dX9_print_43 : decode cX9_print 43 = .ok (.lload 4, 2) := qd_22 kq_cX9_print (by decide +kernel)
theorem dX9_print_45 : decode cX9_print 45 = .ok (.lconst 1, 1) := qd_10 kq_cX9_print (by decide +kernel)
theorem dX9_print_46 : decode cX9_print 46 = .ok (.land, 1) := qd_127 kq_cX9_print (by decide +kernel)
theorem dX9_print_47 : decode cX9_print 47 = .ok (.lconst 1, 1) := qd_10 kq_cX9_print (by decide +kernel)
theorem dX9_print_48 : decode cX9_print 48 = .ok (.lcmp, 1) := qd_148 kq_cX9_print (by decide +kernel)
theorem dX9_print_49 : decode cX9_print 49 = .ok (.ifCond .ne 9, 3) := qd_154 kq_cX9_print (by decide +kernel)
theorem dX9_print_52 : decode cX9_print 52 = .ok (.ldc2_w 335, 3) := qd_20 kq_cX9_print (by decide +kernel)
theorem dX9_print_55 : decode cX9_print 55 = .ok (.goto 4, 3) := qd_167 kq_cX9_print (by decide +kernel)
theorem dX9_print_58 : decode cX9_print 58 = .ok (.lconst 0, 1) := qd_9 kq_cX9_print (by decide +kernel)
theorem dX9_print_59 : decode cX9_print 59 = .ok (.lxor, 1) := qd_131 kq_cX9_print (by decide +kernel)
theorem dX9_print_60 : decode cX9_print 60 = .ok (.lstore 4, 2) := qd_55 kq_cX9_print (by decide +kernel)
theorem dX9_print_62 : decode cX9_print 62 = .ok (.iinc 6 1, 3) := qd_132 kq_cX9_print (by decide +kernel)
theorem dX9_print_65 : decode cX9_print 65 = .ok (.goto (-33), 3) := qd_167 kq_cX9_print (by decide +kernel)
theorem dX9_print_68 : decode cX9_print 68 = .ok (.lload_n 1, 1) := qd_31 kq_cX9_print (by decide +kernel)
theorem dX9_print_69 : decode cX9_print 69 = .ok (.bipush 8, 2) := qd_16 kq_cX9_print (by decide +kernel)
theorem dX9_print_71 : decode cX9_print 71 = .ok (.lushr, 1) := qd_125 kq_cX9_print (by decide +kernel)
theorem dX9_print_72 : decode cX9_print 72 = .ok (.lload 4, 2) := qd_22 kq_cX9_print (by decide +kernel)
theorem dX9_print_74 : decode cX9_print 74 = .ok (.lxor, 1) := qd_131 kq_cX9_print (by decide +kernel)
theorem dX9_print_75 : decode cX9_print 75 = .ok (.lstore_n 1, 1) := qd_64 kq_cX9_print (by decide +kernel)
theorem dX9_print_76 : decode cX9_print 76 = .ok (.iinc 3 1, 3) := qd_132 kq_cX9_print (by decide +kernel)
theorem dX9_print_79 : decode cX9_print 79 = .ok (.goto (-73), 3) := qd_167 kq_cX9_print (by decide +kernel)
theorem dX9_print_82 : decode cX9_print 82 = .ok (.lload_n 1, 1) := qd_31 kq_cX9_print (by decide +kernel)
theorem dX9_print_83 : decode cX9_print 83 = .ok (.lreturn, 1) := qd_173 kq_cX9_print (by decide +kernel)
def rmX9_print (mc ms : Nat) : Room := { frames := 0, cells := mc, slots := ms, locals := 0 }
theorem g9_101 (c0 : Cond) : GoodIn (c0 :: sr_G) (wsV RX9 101 RX9 yX9_look wsX9_look) := sr_V c0 (sr_insI [(6, 10), (6, 12), (0, 48), (1, 7), (6, 13)] (by decide +kernel))
theorem g9_155 (c0 : Cond) : GoodIn (c0 :: sr_G) (wsV RX9 155 RX9 yX9_same wsX9_same) := sr_V c0 (sr_insI [(6, 111), (6, 113), (0, 57), (1, 7), (6, 114)] (by decide +kernel))
end
section
set_option maxHeartbeats 4000000 in
set_option maxRecDepth 100000 in
theorem kX9_look (l : Launch) (htr : l.stackTraces = false) (dC : Nat → ClassId) (dI : Nat → Nat → Nat) (adK adV : Nat → Nat) (cI cB cJ cZ cQ : ClassId) (ob0 tq_bytes tq_kinds tq_firsts tq_numbers tq_sizes tq_inner tq_nexts tq_letters tq_sorts tq_names tq_wide tq_kids tq_many tq_fallback tq_kidShape tq_kidName tq_kidDefault tq_kidNext tq_finished tq_plain tq_told : Nat) (t_length : Int32) (t_at : Int32) (t_deep : Int32) (t_fault : Int32) (t_place : Int32) (t_end : Int32) (t_nodes : Int32) (t_lettered : Int32) (t_shapes : Int32) (t_looked : Int32) (t_kidCount : Int32) (t_done : Int32) (t_root : Int32) (t_plainSize : Int32) (t_bytes : Nat → Int32) (res : Int32) (hm : m_X9_look t_bytes t_length t_at = some res) : Met l yX9_look wsX9_look (rmX9_look 0 0) (pcR (sr_Z adK adV) (dC, dI) srCl [(cI, .int), (cB, .byte), (cJ, .long), (cZ, .boolean), (cQ, .object "SchemaReader$Schema")] [.ref ob0] [(ob0, .inr (0, [.ref tq_bytes, .int t_length, .int t_at, .int t_deep, .int t_fault, .int t_place, .int t_end, .int t_nodes, .ref tq_kinds, .ref tq_firsts, .ref tq_numbers, .ref tq_sizes, .ref tq_inner, .ref tq_nexts, .ref tq_letters, .int t_lettered, .int t_shapes, .int t_looked, .ref tq_sorts, .ref tq_names, .ref tq_wide, .ref tq_kids, .ref tq_many, .ref tq_fallback, .int t_kidCount, .ref tq_kidShape, .ref tq_kidName, .ref tq_kidDefault, .ref tq_kidNext, .int t_done, .ref tq_finished, .int t_root, .ref tq_plain, .int t_plainSize, .ref tq_told])), (tq_bytes, .inl (cB, 4096, .inl t_bytes))]) (k2_QcV (.int res)) 0 0 (fun _ => False) := by
  refine Met.ofW (cc := cX9_look) (maxL := 1) (ret := (some .int)) (by decide) rfl ?_
  intro p e s m args below meth c s₁ B hml hv
  obtain ⟨rfl, hP, hK, hz0⟩ := hv
  have hx := B.exec
  have hb := B.bytes
  have hr := B.returns
  have hts := atoms_spec (ws := wsX9_look) B.pre
  have hown : s.vm.findClass RX9 = some m.cls := findClass_of_methodNamed B.named
  have hlocks := B.notSynchronized
  have hS : va_S (fun _ => False) s.heap s.heap [] := va_S.rf
  generalize hQ0 : MQ below (k2_QcV (.int res)) [.ref ob0].toArray s 0 0 (fun _ => False) = Q0
  have hl := lv_entry [.ref ob0] (n := 1) (Nat.le_of_ble_eq_true rfl)
  rw [lg_entry_eq]
  generalize (lg_sl [.ref ob0] ++ List.replicate (1 - (lg_sl [.ref ob0]).length) Slot.unset).toArray = ls at hl ⊢
  have hl : lv_has ls 1 [(0, .ref ob0)] := hl
  unfold m_X9_look at hm
  refine lv_aload_n hx hb dX9_look_0 rfl (lv_at hl 0 rfl) ?_
  refine va_get (D := (dC, dI)) (ci := 0) (v := .int t_at) (C := RX9) (T := TX9) (N := 35) hx hb hts (inX9 _) hown hK hP 0 rfl rfl 2 (by decide) (hts _ (List.mem_cons_of_mem _ wf9_95)) (fun _ h9 => h9) rfl dX9_look_1 ?_
  refine lv_aload_n hx hb dX9_look_4 rfl (lv_at hl 0 rfl) ?_
  refine va_get (D := (dC, dI)) (ci := 0) (v := .int t_length) (C := RX9) (T := TX9) (N := 35) hx hb hts (inX9 _) hown hK hP 0 rfl rfl 1 (by decide) (hts _ (List.mem_cons_of_mem _ wf9_98)) (fun _ h9 => h9) rfl dX9_look_5 ?_
  refine lv_icmp_ge (tgt := 23) hx hb dX9_look_8 (by decide) (fun c1 => ?_) (fun c1 => ?_)
  · have hm := mr_if c1 hm
    refine lv_iconst (v := -1) hx hb dX9_look_23 (by decide) ?_
    obtain rfl := Option.some.inj hm
    subst hQ0
    exact W.iret (v := (-1)) hx hb hr (fun t ht hW => ⟨rfl, ht⟩) (fun q h => by cases h) dX9_look_24
  · have hm := mr_un c1 hm
    refine lv_aload_n hx hb dX9_look_11 rfl (lv_at hl 0 rfl) ?_
    refine va_get (D := (dC, dI)) (ci := 0) (v := .ref tq_bytes) (C := RX9) (T := TX9) (N := 35) hx hb hts (inX9 _) hown hK hP 0 rfl rfl 0 (by decide) (hts _ (List.mem_cons_of_mem _ wf9_9)) (fun _ h9 => h9) rfl dX9_look_12 ?_
    refine lv_aload_n hx hb dX9_look_15 rfl (lv_at hl 0 rfl) ?_
    refine va_get (D := (dC, dI)) (ci := 0) (v := .int t_at) (C := RX9) (T := TX9) (N := 35) hx hb hts (inX9 _) hown hK hP 0 rfl rfl 2 (by decide) (hts _ (List.mem_cons_of_mem _ wf9_95)) (fun _ h9 => h9) rfl dX9_look_16 ?_
    obtain ⟨h2, hm⟩ := mr_bd hm
    refine va_bald hx hb hK hP 1 1 rfl rfl h2 dX9_look_19 ?_
    refine lv_goto (tgt := 24) hx hb dX9_look_20 (by decide) ?_
    obtain rfl := Option.some.inj hm
    subst hQ0
    exact W.iret (v := (t_bytes (t_at : Int32).toNatClampNeg)) hx hb hr (fun t ht hW => ⟨rfl, ht⟩) (fun q h => by cases h) dX9_look_24
set_option maxHeartbeats 4000000 in
set_option maxRecDepth 100000 in
theorem kX9_blanks (l : Launch) (htr : l.stackTraces = false) (dC : Nat → ClassId) (dI : Nat → Nat → Nat) (adK adV : Nat → Nat) (cI cB cJ cZ cQ : ClassId) (ob0 tq_bytes tq_kinds tq_firsts tq_numbers tq_sizes tq_inner tq_nexts tq_letters tq_sorts tq_names tq_wide tq_kids tq_many tq_fallback tq_kidShape tq_kidName tq_kidDefault tq_kidNext tq_finished tq_plain tq_told : Nat) (t_length : Int32) (t_at : Int32) (t_deep : Int32) (t_fault : Int32) (t_place : Int32) (t_end : Int32) (t_nodes : Int32) (t_lettered : Int32) (t_shapes : Int32) (t_looked : Int32) (t_kidCount : Int32) (t_done : Int32) (t_root : Int32) (t_plainSize : Int32) (t_bytes : Nat → Int32) (sz : Nat) (res : Int32) (hm : m_X9_blanks t_bytes t_length t_at = some res) : Met l yX9_blanks wsX9_blanks (rmX9_blanks 0 0) (pcW (sr_Z adK adV) (dC, dI) srCl [(cI, .int), (cB, .byte), (cJ, .long), (cZ, .boolean), (cQ, .object "SchemaReader$Schema")] [.ref ob0] [(ob0, .inr (0, [.ref tq_bytes, .int t_length, .int t_at, .int t_deep, .int t_fault, .int t_place, .int t_end, .int t_nodes, .ref tq_kinds, .ref tq_firsts, .ref tq_numbers, .ref tq_sizes, .ref tq_inner, .ref tq_nexts, .ref tq_letters, .int t_lettered, .int t_shapes, .int t_looked, .ref tq_sorts, .ref tq_names, .ref tq_wide, .ref tq_kids, .ref tq_many, .ref tq_fallback, .int t_kidCount, .ref tq_kidShape, .ref tq_kidName, .ref tq_kidDefault, .ref tq_kidNext, .int t_done, .ref tq_finished, .int t_root, .ref tq_plain, .int t_plainSize, .ref tq_told])), (tq_bytes, .inl (cB, 4096, .inl t_bytes))] sz) (va_Qv (fun u' => u' = res) (pcB (dC, dI) srCl [(cI, .int), (cB, .byte), (cJ, .long), (cZ, .boolean), (cQ, .object "SchemaReader$Schema")] (fun u : Int32 => [(ob0, .inr (0, [.ref tq_bytes, .int t_length, .int u, .int t_deep, .int t_fault, .int t_place, .int t_end, .int t_nodes, .ref tq_kinds, .ref tq_firsts, .ref tq_numbers, .ref tq_sizes, .ref tq_inner, .ref tq_nexts, .ref tq_letters, .int t_lettered, .int t_shapes, .int t_looked, .ref tq_sorts, .ref tq_names, .ref tq_wide, .ref tq_kids, .ref tq_many, .ref tq_fallback, .int t_kidCount, .ref tq_kidShape, .ref tq_kidName, .ref tq_kidDefault, .ref tq_kidNext, .int t_done, .ref tq_finished, .int t_root, .ref tq_plain, .int t_plainSize, .ref tq_told])), (tq_bytes, .inl (cB, 4096, .inl t_bytes))]) (va_A [(ob0, .inr (0, [.ref tq_bytes, .int t_length, .int t_at, .int t_deep, .int t_fault, .int t_place, .int t_end, .int t_nodes, .ref tq_kinds, .ref tq_firsts, .ref tq_numbers, .ref tq_sizes, .ref tq_inner, .ref tq_nexts, .ref tq_letters, .int t_lettered, .int t_shapes, .int t_looked, .ref tq_sorts, .ref tq_names, .ref tq_wide, .ref tq_kids, .ref tq_many, .ref tq_fallback, .int t_kidCount, .ref tq_kidShape, .ref tq_kidName, .ref tq_kidDefault, .ref tq_kidNext, .int t_done, .ref tq_finished, .int t_root, .ref tq_plain, .int t_plainSize, .ref tq_told])), (tq_bytes, .inl (cB, 4096, .inl t_bytes))] sz)) (va_A [(ob0, .inr (0, [.ref tq_bytes, .int t_length, .int t_at, .int t_deep, .int t_fault, .int t_place, .int t_end, .int t_nodes, .ref tq_kinds, .ref tq_firsts, .ref tq_numbers, .ref tq_sizes, .ref tq_inner, .ref tq_nexts, .ref tq_letters, .int t_lettered, .int t_shapes, .int t_looked, .ref tq_sorts, .ref tq_names, .ref tq_wide, .ref tq_kids, .ref tq_many, .ref tq_fallback, .int t_kidCount, .ref tq_kidShape, .ref tq_kidName, .ref tq_kidDefault, .ref tq_kidNext, .int t_done, .ref tq_finished, .int t_root, .ref tq_plain, .int t_plainSize, .ref tq_told])), (tq_bytes, .inl (cB, 4096, .inl t_bytes))] sz)) 0 0 (va_A [(ob0, .inr (0, [.ref tq_bytes, .int t_length, .int t_at, .int t_deep, .int t_fault, .int t_place, .int t_end, .int t_nodes, .ref tq_kinds, .ref tq_firsts, .ref tq_numbers, .ref tq_sizes, .ref tq_inner, .ref tq_nexts, .ref tq_letters, .int t_lettered, .int t_shapes, .int t_looked, .ref tq_sorts, .ref tq_names, .ref tq_wide, .ref tq_kids, .ref tq_many, .ref tq_fallback, .int t_kidCount, .ref tq_kidShape, .ref tq_kidName, .ref tq_kidDefault, .ref tq_kidNext, .int t_done, .ref tq_finished, .int t_root, .ref tq_plain, .int t_plainSize, .ref tq_told])), (tq_bytes, .inl (cB, 4096, .inl t_bytes))] sz) := by
  refine Met.ofW (cc := cX9_blanks) (maxL := 1) (ret := none) (by decide) rfl ?_
  intro p e s m args below meth c s₁ B hml hv
  obtain ⟨rfl, hsz, hP, hK, hD0, hz0⟩ := hv
  have hx := B.exec
  have hb := B.bytes
  have hr := B.returns
  have hts := atoms_spec (ws := wsX9_blanks) B.pre
  have hown : s.vm.findClass RX9 = some m.cls := findClass_of_methodNamed B.named
  have hlocks := B.notSynchronized
  subst hsz
  have hD := hD0.self (sz := s.heap.size)
  generalize hAe : va_A [(ob0, .inr (0, [.ref tq_bytes, .int t_length, .int t_at, .int t_deep, .int t_fault, .int t_place, .int t_end, .int t_nodes, .ref tq_kinds, .ref tq_firsts, .ref tq_numbers, .ref tq_sizes, .ref tq_inner, .ref tq_nexts, .ref tq_letters, .int t_lettered, .int t_shapes, .int t_looked, .ref tq_sorts, .ref tq_names, .ref tq_wide, .ref tq_kids, .ref tq_many, .ref tq_fallback, .int t_kidCount, .ref tq_kidShape, .ref tq_kidName, .ref tq_kidDefault, .ref tq_kidNext, .int t_done, .ref tq_finished, .int t_root, .ref tq_plain, .int t_plainSize, .ref tq_told])), (tq_bytes, .inl (cB, 4096, .inl t_bytes))] s.heap.size = A at hD hz0 ⊢
  have hA : ∀ q : Nat, s.heap.size ≤ q → A q := fun q h => by rw [← hAe]; exact Or.inr h
  have hS : va_S A s.heap s.heap [] := va_S.rf
  generalize hQ0 : MQ below (va_Qv (fun u' => u' = res) (pcB (dC, dI) srCl [(cI, .int), (cB, .byte), (cJ, .long), (cZ, .boolean), (cQ, .object "SchemaReader$Schema")] (fun u : Int32 => [(ob0, .inr (0, [.ref tq_bytes, .int t_length, .int u, .int t_deep, .int t_fault, .int t_place, .int t_end, .int t_nodes, .ref tq_kinds, .ref tq_firsts, .ref tq_numbers, .ref tq_sizes, .ref tq_inner, .ref tq_nexts, .ref tq_letters, .int t_lettered, .int t_shapes, .int t_looked, .ref tq_sorts, .ref tq_names, .ref tq_wide, .ref tq_kids, .ref tq_many, .ref tq_fallback, .int t_kidCount, .ref tq_kidShape, .ref tq_kidName, .ref tq_kidDefault, .ref tq_kidNext, .int t_done, .ref tq_finished, .int t_root, .ref tq_plain, .int t_plainSize, .ref tq_told])), (tq_bytes, .inl (cB, 4096, .inl t_bytes))]) A) A) [.ref ob0].toArray s 0 0 A = Q0
  have hl := lv_entry [.ref ob0] (n := 1) (Nat.le_of_ble_eq_true rfl)
  rw [lg_entry_eq]
  generalize (lg_sl [.ref ob0] ++ List.replicate (1 - (lg_sl [.ref ob0]).length) Slot.unset).toArray = ls at hl ⊢
  have hl : lv_has ls 1 [(0, .ref ob0)] := hl
  unfold m_X9_blanks at hm
  have j0 : ∀ (n0 : Nat) (t_at : Int32) (H : Heap) (locs : List Loc) (ls : Array Slot), va_P (dC, dI) srCl [(ob0, .inr (0, [.ref tq_bytes, .int t_length, .int t_at, .int t_deep, .int t_fault, .int t_place, .int t_end, .int t_nodes, .ref tq_kinds, .ref tq_firsts, .ref tq_numbers, .ref tq_sizes, .ref tq_inner, .ref tq_nexts, .ref tq_letters, .int t_lettered, .int t_shapes, .int t_looked, .ref tq_sorts, .ref tq_names, .ref tq_wide, .ref tq_kids, .ref tq_many, .ref tq_fallback, .int t_kidCount, .ref tq_kidShape, .ref tq_kidName, .ref tq_kidDefault, .ref tq_kidNext, .int t_done, .ref tq_finished, .int t_root, .ref tq_plain, .int t_plainSize, .ref tq_told])), (tq_bytes, .inl (cB, 4096, .inl t_bytes))] H → va_D A [(ob0, .inr (0, [.ref tq_bytes, .int t_length, .int t_at, .int t_deep, .int t_fault, .int t_place, .int t_end, .int t_nodes, .ref tq_kinds, .ref tq_firsts, .ref tq_numbers, .ref tq_sizes, .ref tq_inner, .ref tq_nexts, .ref tq_letters, .int t_lettered, .int t_shapes, .int t_looked, .ref tq_sorts, .ref tq_names, .ref tq_wide, .ref tq_kids, .ref tq_many, .ref tq_fallback, .int t_kidCount, .ref tq_kidShape, .ref tq_kidName, .ref tq_kidDefault, .ref tq_kidNext, .int t_done, .ref tq_finished, .int t_root, .ref tq_plain, .int t_plainSize, .ref tq_told])), (tq_bytes, .inl (cB, 4096, .inl t_bytes))] → va_S A s.heap H locs → lv_has ls 1 [(0, .ref ob0)] → m_X9_blanks_0 t_bytes t_length n0 t_at = some res → W p l e (headSpec wsX9_blanks (rmX9_blanks 0 0)).room s m [.ref ob0].toArray below meth c H locs 0 0 Q0 (F0 m 0 ls []) := by
    intro n0
    induction n0 with
    | zero => intro t_at H locs ls hP hD hS hl hm; exact nomatch (show (none : Option _) = some res from hm)
    | succ n0 ih0 =>
      intro t_at H locs ls hP hD hS hl hm
      rw [m_X9_blanks_0] at hm
      refine lv_aload_n hx hb dX9_blanks_0 rfl (lv_at hl 0 rfl) ?_
      obtain ⟨r1, hz1, hm⟩ := mr_bind hm
      refine mr_pV (As := []) (rest := []) (sr_okZ adK adV) ⟨hx, hb, hml, hown, hts⟩ (kX9_look l htr dC dI adK adV cI cB cJ cZ cQ ob0 tq_bytes tq_kinds tq_firsts tq_numbers tq_sizes tq_inner tq_nexts tq_letters tq_sorts tq_names tq_wide tq_kids tq_many tq_fallback tq_kidShape tq_kidName tq_kidDefault tq_kidNext tq_finished tq_plain tq_told t_length t_at t_deep t_fault t_place t_end t_nodes t_lettered t_shapes t_looked t_kidCount t_done t_root t_plainSize t_bytes r1 hz1) (cwV 0 hts (g9_101 _) rfl rfl rfl (by decide +kernel) ⟨(by show 0 + 1 ≤ 1; omega), (by show 8 + (1 + 11) + (0) ≤ 20; omega)⟩) hS hP hK hz0 [0, 1] rfl (va_recv hK hP (ci := 0) (q0 := 0) rfl rfl) rfl rfl hl.1 (Nat.le_of_ble_eq_true rfl) dX9_blanks_1 ⟨Nat.zero_le _, Nat.zero_le _⟩ ?_
      refine lv_bipush (v := 32) hx hb dX9_blanks_4 (by decide) ?_
      have j36 : ∀ (t_at : Int32) (H : Heap) (locs : List Loc) (ls : Array Slot), va_P (dC, dI) srCl [(ob0, .inr (0, [.ref tq_bytes, .int t_length, .int t_at, .int t_deep, .int t_fault, .int t_place, .int t_end, .int t_nodes, .ref tq_kinds, .ref tq_firsts, .ref tq_numbers, .ref tq_sizes, .ref tq_inner, .ref tq_nexts, .ref tq_letters, .int t_lettered, .int t_shapes, .int t_looked, .ref tq_sorts, .ref tq_names, .ref tq_wide, .ref tq_kids, .ref tq_many, .ref tq_fallback, .int t_kidCount, .ref tq_kidShape, .ref tq_kidName, .ref tq_kidDefault, .ref tq_kidNext, .int t_done, .ref tq_finished, .int t_root, .ref tq_plain, .int t_plainSize, .ref tq_told])), (tq_bytes, .inl (cB, 4096, .inl t_bytes))] H → va_D A [(ob0, .inr (0, [.ref tq_bytes, .int t_length, .int t_at, .int t_deep, .int t_fault, .int t_place, .int t_end, .int t_nodes, .ref tq_kinds, .ref tq_firsts, .ref tq_numbers, .ref tq_sizes, .ref tq_inner, .ref tq_nexts, .ref tq_letters, .int t_lettered, .int t_shapes, .int t_looked, .ref tq_sorts, .ref tq_names, .ref tq_wide, .ref tq_kids, .ref tq_many, .ref tq_fallback, .int t_kidCount, .ref tq_kidShape, .ref tq_kidName, .ref tq_kidDefault, .ref tq_kidNext, .int t_done, .ref tq_finished, .int t_root, .ref tq_plain, .int t_plainSize, .ref tq_told])), (tq_bytes, .inl (cB, 4096, .inl t_bytes))] → va_S A s.heap H locs → lv_has ls 1 [(0, .ref ob0)] → m_X9_blanks_36 t_bytes t_length (m_X9_blanks_0 t_bytes t_length n0) t_at = some res → W p l e (headSpec wsX9_blanks (rmX9_blanks 0 0)).room s m [.ref ob0].toArray below meth c H locs 0 0 Q0 (F0 m 36 ls []) := by
        intro t_at H locs ls hP hD hS hl hm
        unfold m_X9_blanks_36 at hm
        refine lv_aload_n hx hb dX9_blanks_36 rfl (lv_at hl 0 rfl) ?_
        refine lv_dup hx hb dX9_blanks_37 rfl ?_
        refine va_get (D := (dC, dI)) (ci := 0) (v := .int t_at) (C := RX9) (T := TX9) (N := 35) hx hb hts (inX9 _) hown hK hP 0 rfl rfl 2 (by decide) (hts _ (List.mem_cons_of_mem _ wf9_95)) (fun _ h9 => h9) rfl dX9_blanks_38 ?_
        refine lv_iconst (v := 1) hx hb dX9_blanks_41 (by decide) ?_
        refine lv_iadd hx hb dX9_blanks_42 ?_
        refine va_put (D := (dC, dI)) (ci := 0) (v := .int (t_at + 1)) (ty := .int) (C := RX9) (T := TX9) (N := 35) hx hb hts (inX9 _) tyX9 tyX9_ok nmX9 hown hK hP hD hS 0 rfl rfl 2 (by decide) (hts _ (List.mem_cons_of_mem _ wf9_95)) (fun _ h9 => h9) rfl (by decide +kernel) rfl rfl (Nat.le_of_ble_eq_true rfl) dX9_blanks_43 (fun H locs hP hD hS => ?_)
        have hP : va_P (dC, dI) srCl [(ob0, .inr (0, [.ref tq_bytes, .int t_length, .int (t_at + 1), .int t_deep, .int t_fault, .int t_place, .int t_end, .int t_nodes, .ref tq_kinds, .ref tq_firsts, .ref tq_numbers, .ref tq_sizes, .ref tq_inner, .ref tq_nexts, .ref tq_letters, .int t_lettered, .int t_shapes, .int t_looked, .ref tq_sorts, .ref tq_names, .ref tq_wide, .ref tq_kids, .ref tq_many, .ref tq_fallback, .int t_kidCount, .ref tq_kidShape, .ref tq_kidName, .ref tq_kidDefault, .ref tq_kidNext, .int t_done, .ref tq_finished, .int t_root, .ref tq_plain, .int t_plainSize, .ref tq_told])), (tq_bytes, .inl (cB, 4096, .inl t_bytes))] H := hP
        have hD : va_D A [(ob0, .inr (0, [.ref tq_bytes, .int t_length, .int (t_at + 1), .int t_deep, .int t_fault, .int t_place, .int t_end, .int t_nodes, .ref tq_kinds, .ref tq_firsts, .ref tq_numbers, .ref tq_sizes, .ref tq_inner, .ref tq_nexts, .ref tq_letters, .int t_lettered, .int t_shapes, .int t_looked, .ref tq_sorts, .ref tq_names, .ref tq_wide, .ref tq_kids, .ref tq_many, .ref tq_fallback, .int t_kidCount, .ref tq_kidShape, .ref tq_kidName, .ref tq_kidDefault, .ref tq_kidNext, .int t_done, .ref tq_finished, .int t_root, .ref tq_plain, .int t_plainSize, .ref tq_told])), (tq_bytes, .inl (cB, 4096, .inl t_bytes))] := hD
        refine lv_goto (tgt := 0) hx hb dX9_blanks_46 (by decide) ?_
        exact ih0 (t_at + 1) _ _ ls hP hD hS (lv_sub hl [0] rfl) hm
      refine lv_icmp_eq (tgt := 36) hx hb dX9_blanks_6 (by decide) (fun c2 => ?_) (fun c2 => ?_)
      · have hm := mr_if c2 hm
        exact j36 t_at _ _ ls hP hD hS (lv_sub hl [0] rfl) hm
      · have hm := mr_un c2 hm
        refine lv_aload_n hx hb dX9_blanks_9 rfl (lv_at hl 0 rfl) ?_
        obtain ⟨r3, hz3, hm⟩ := mr_bind hm
        refine mr_pV (As := []) (rest := []) (sr_okZ adK adV) ⟨hx, hb, hml, hown, hts⟩ (kX9_look l htr dC dI adK adV cI cB cJ cZ cQ ob0 tq_bytes tq_kinds tq_firsts tq_numbers tq_sizes tq_inner tq_nexts tq_letters tq_sorts tq_names tq_wide tq_kids tq_many tq_fallback tq_kidShape tq_kidName tq_kidDefault tq_kidNext tq_finished tq_plain tq_told t_length t_at t_deep t_fault t_place t_end t_nodes t_lettered t_shapes t_looked t_kidCount t_done t_root t_plainSize t_bytes r3 hz3) (cwV 0 hts (g9_101 _) rfl rfl rfl (by decide +kernel) ⟨(by show 0 + 1 ≤ 1; omega), (by show 8 + (1 + 11) + (0) ≤ 20; omega)⟩) hS hP hK hz0 [0, 1] rfl (va_recv hK hP (ci := 0) (q0 := 0) rfl rfl) rfl rfl hl.1 (Nat.le_of_ble_eq_true rfl) dX9_blanks_10 ⟨Nat.zero_le _, Nat.zero_le _⟩ ?_
        refine lv_bipush (v := 9) hx hb dX9_blanks_13 (by decide) ?_
        refine lv_icmp_eq (tgt := 36) hx hb dX9_blanks_15 (by decide) (fun c4 => ?_) (fun c4 => ?_)
        · have hm := mr_if c4 hm
          exact j36 t_at _ _ ls hP hD hS (lv_sub hl [0] rfl) hm
        · have hm := mr_un c4 hm
          refine lv_aload_n hx hb dX9_blanks_18 rfl (lv_at hl 0 rfl) ?_
          obtain ⟨r5, hz5, hm⟩ := mr_bind hm
          refine mr_pV (As := []) (rest := []) (sr_okZ adK adV) ⟨hx, hb, hml, hown, hts⟩ (kX9_look l htr dC dI adK adV cI cB cJ cZ cQ ob0 tq_bytes tq_kinds tq_firsts tq_numbers tq_sizes tq_inner tq_nexts tq_letters tq_sorts tq_names tq_wide tq_kids tq_many tq_fallback tq_kidShape tq_kidName tq_kidDefault tq_kidNext tq_finished tq_plain tq_told t_length t_at t_deep t_fault t_place t_end t_nodes t_lettered t_shapes t_looked t_kidCount t_done t_root t_plainSize t_bytes r5 hz5) (cwV 0 hts (g9_101 _) rfl rfl rfl (by decide +kernel) ⟨(by show 0 + 1 ≤ 1; omega), (by show 8 + (1 + 11) + (0) ≤ 20; omega)⟩) hS hP hK hz0 [0, 1] rfl (va_recv hK hP (ci := 0) (q0 := 0) rfl rfl) rfl rfl hl.1 (Nat.le_of_ble_eq_true rfl) dX9_blanks_19 ⟨Nat.zero_le _, Nat.zero_le _⟩ ?_
          refine lv_bipush (v := 10) hx hb dX9_blanks_22 (by decide) ?_
          refine lv_icmp_eq (tgt := 36) hx hb dX9_blanks_24 (by decide) (fun c6 => ?_) (fun c6 => ?_)
          · have hm := mr_if c6 hm
            exact j36 t_at _ _ ls hP hD hS (lv_sub hl [0] rfl) hm
          · have hm := mr_un c6 hm
            refine lv_aload_n hx hb dX9_blanks_27 rfl (lv_at hl 0 rfl) ?_
            obtain ⟨r7, hz7, hm⟩ := mr_bind hm
            refine mr_pV (As := []) (rest := []) (sr_okZ adK adV) ⟨hx, hb, hml, hown, hts⟩ (kX9_look l htr dC dI adK adV cI cB cJ cZ cQ ob0 tq_bytes tq_kinds tq_firsts tq_numbers tq_sizes tq_inner tq_nexts tq_letters tq_sorts tq_names tq_wide tq_kids tq_many tq_fallback tq_kidShape tq_kidName tq_kidDefault tq_kidNext tq_finished tq_plain tq_told t_length t_at t_deep t_fault t_place t_end t_nodes t_lettered t_shapes t_looked t_kidCount t_done t_root t_plainSize t_bytes r7 hz7) (cwV 0 hts (g9_101 _) rfl rfl rfl (by decide +kernel) ⟨(by show 0 + 1 ≤ 1; omega), (by show 8 + (1 + 11) + (0) ≤ 20; omega)⟩) hS hP hK hz0 [0, 1] rfl (va_recv hK hP (ci := 0) (q0 := 0) rfl rfl) rfl rfl hl.1 (Nat.le_of_ble_eq_true rfl) dX9_blanks_28 ⟨Nat.zero_le _, Nat.zero_le _⟩ ?_
            refine lv_bipush (v := 13) hx hb dX9_blanks_31 (by decide) ?_
            refine lv_icmp_ne (tgt := 49) hx hb dX9_blanks_33 (by decide) (fun c8 => ?_) (fun c8 => ?_)
            · have hm := mr_un c8 hm
              obtain rfl := Option.some.inj hm
              subst hQ0
              exact W.vret hx hb hr (fun t ht hW => ⟨⟨t_at, rfl, rfl, by rw [ht]; exact hP, va_K.moved hW.alike hK, hD⟩, hS.F ht⟩) hS.2.2 dX9_blanks_49
            · have hm := mr_if c8 hm
              exact j36 t_at _ _ ls hP hD hS (lv_sub hl [0] rfl) hm
  exact j0 sr_fuel t_at _ _ ls hP hD hS (lv_sub hl [0] rfl) hm
set_option maxHeartbeats 4000000 in
set_option maxRecDepth 100000 in
theorem kX9_node (l : Launch) (htr : l.stackTraces = false) (dC : Nat → ClassId) (dI : Nat → Nat → Nat) (adK adV : Nat → Nat) (cI cB cJ cZ cQ : ClassId) (ob0 tq_bytes tq_kinds tq_firsts tq_numbers tq_sizes tq_inner tq_nexts tq_letters tq_sorts tq_names tq_wide tq_kids tq_many tq_fallback tq_kidShape tq_kidName tq_kidDefault tq_kidNext tq_finished tq_plain tq_told : Nat) (t_length : Int32) (t_at : Int32) (t_deep : Int32) (t_fault : Int32) (t_place : Int32) (t_end : Int32) (t_nodes : Int32) (t_lettered : Int32) (t_shapes : Int32) (t_looked : Int32) (t_kidCount : Int32) (t_done : Int32) (t_root : Int32) (t_plainSize : Int32) (t_kinds : Nat → Int32) (t_firsts : Nat → Int32) (t_numbers : Nat → Int64) (t_sizes : Nat → Int32) (t_inner : Nat → Int32) (t_nexts : Nat → Int32) (sz : Nat) (a0 : Int32) (res : Int32 × Int32 × (Nat → Int32) × (Nat → Int32) × (Nat → Int64) × (Nat → Int32) × (Nat → Int32) × (Nat → Int32)) (hm : m_X9_node t_at t_nodes t_kinds t_firsts t_numbers t_sizes t_inner t_nexts a0 = some res) : Met l yX9_node wsX9_node (rmX9_node 0 0) (pcW (sr_Z adK adV) (dC, dI) srCl [(cI, .int), (cB, .byte), (cJ, .long), (cZ, .boolean), (cQ, .object "SchemaReader$Schema")] [.ref ob0, .int a0] [(ob0, .inr (0, [.ref tq_bytes, .int t_length, .int t_at, .int t_deep, .int t_fault, .int t_place, .int t_end, .int t_nodes, .ref tq_kinds, .ref tq_firsts, .ref tq_numbers, .ref tq_sizes, .ref tq_inner, .ref tq_nexts, .ref tq_letters, .int t_lettered, .int t_shapes, .int t_looked, .ref tq_sorts, .ref tq_names, .ref tq_wide, .ref tq_kids, .ref tq_many, .ref tq_fallback, .int t_kidCount, .ref tq_kidShape, .ref tq_kidName, .ref tq_kidDefault, .ref tq_kidNext, .int t_done, .ref tq_finished, .int t_root, .ref tq_plain, .int t_plainSize, .ref tq_told])), (tq_kinds, .inl (cI, 4200, .inl t_kinds)), (tq_firsts, .inl (cI, 4200, .inl t_firsts)), (tq_numbers, .inl (cJ, 4200, .inr (.inl t_numbers))), (tq_sizes, .inl (cI, 4200, .inl t_sizes)), (tq_inner, .inl (cI, 4200, .inl t_inner)), (tq_nexts, .inl (cI, 4200, .inl t_nexts))] sz) (va_Qi (fun r' u' => r' = res.1 ∧ u' = res.2) (pcB (dC, dI) srCl [(cI, .int), (cB, .byte), (cJ, .long), (cZ, .boolean), (cQ, .object "SchemaReader$Schema")] (fun u : Int32 × (Nat → Int32) × (Nat → Int32) × (Nat → Int64) × (Nat → Int32) × (Nat → Int32) × (Nat → Int32) => [(ob0, .inr (0, [.ref tq_bytes, .int t_length, .int t_at, .int t_deep, .int t_fault, .int t_place, .int t_end, .int u.1, .ref tq_kinds, .ref tq_firsts, .ref tq_numbers, .ref tq_sizes, .ref tq_inner, .ref tq_nexts, .ref tq_letters, .int t_lettered, .int t_shapes, .int t_looked, .ref tq_sorts, .ref tq_names, .ref tq_wide, .ref tq_kids, .ref tq_many, .ref tq_fallback, .int t_kidCount, .ref tq_kidShape, .ref tq_kidName, .ref tq_kidDefault, .ref tq_kidNext, .int t_done, .ref tq_finished, .int t_root, .ref tq_plain, .int t_plainSize, .ref tq_told])), (tq_kinds, .inl (cI, 4200, .inl u.2.1)), (tq_firsts, .inl (cI, 4200, .inl u.2.2.1)), (tq_numbers, .inl (cJ, 4200, .inr (.inl u.2.2.2.1))), (tq_sizes, .inl (cI, 4200, .inl u.2.2.2.2.1)), (tq_inner, .inl (cI, 4200, .inl u.2.2.2.2.2.1)), (tq_nexts, .inl (cI, 4200, .inl u.2.2.2.2.2.2))]) (va_A [(ob0, .inr (0, [.ref tq_bytes, .int t_length, .int t_at, .int t_deep, .int t_fault, .int t_place, .int t_end, .int t_nodes, .ref tq_kinds, .ref tq_firsts, .ref tq_numbers, .ref tq_sizes, .ref tq_inner, .ref tq_nexts, .ref tq_letters, .int t_lettered, .int t_shapes, .int t_looked, .ref tq_sorts, .ref tq_names, .ref tq_wide, .ref tq_kids, .ref tq_many, .ref tq_fallback, .int t_kidCount, .ref tq_kidShape, .ref tq_kidName, .ref tq_kidDefault, .ref tq_kidNext, .int t_done, .ref tq_finished, .int t_root, .ref tq_plain, .int t_plainSize, .ref tq_told])), (tq_kinds, .inl (cI, 4200, .inl t_kinds)), (tq_firsts, .inl (cI, 4200, .inl t_firsts)), (tq_numbers, .inl (cJ, 4200, .inr (.inl t_numbers))), (tq_sizes, .inl (cI, 4200, .inl t_sizes)), (tq_inner, .inl (cI, 4200, .inl t_inner)), (tq_nexts, .inl (cI, 4200, .inl t_nexts))] sz)) (va_A [(ob0, .inr (0, [.ref tq_bytes, .int t_length, .int t_at, .int t_deep, .int t_fault, .int t_place, .int t_end, .int t_nodes, .ref tq_kinds, .ref tq_firsts, .ref tq_numbers, .ref tq_sizes, .ref tq_inner, .ref tq_nexts, .ref tq_letters, .int t_lettered, .int t_shapes, .int t_looked, .ref tq_sorts, .ref tq_names, .ref tq_wide, .ref tq_kids, .ref tq_many, .ref tq_fallback, .int t_kidCount, .ref tq_kidShape, .ref tq_kidName, .ref tq_kidDefault, .ref tq_kidNext, .int t_done, .ref tq_finished, .int t_root, .ref tq_plain, .int t_plainSize, .ref tq_told])), (tq_kinds, .inl (cI, 4200, .inl t_kinds)), (tq_firsts, .inl (cI, 4200, .inl t_firsts)), (tq_numbers, .inl (cJ, 4200, .inr (.inl t_numbers))), (tq_sizes, .inl (cI, 4200, .inl t_sizes)), (tq_inner, .inl (cI, 4200, .inl t_inner)), (tq_nexts, .inl (cI, 4200, .inl t_nexts))] sz)) 0 0 (va_A [(ob0, .inr (0, [.ref tq_bytes, .int t_length, .int t_at, .int t_deep, .int t_fault, .int t_place, .int t_end, .int t_nodes, .ref tq_kinds, .ref tq_firsts, .ref tq_numbers, .ref tq_sizes, .ref tq_inner, .ref tq_nexts, .ref tq_letters, .int t_lettered, .int t_shapes, .int t_looked, .ref tq_sorts, .ref tq_names, .ref tq_wide, .ref tq_kids, .ref tq_many, .ref tq_fallback, .int t_kidCount, .ref tq_kidShape, .ref tq_kidName, .ref tq_kidDefault, .ref tq_kidNext, .int t_done, .ref tq_finished, .int t_root, .ref tq_plain, .int t_plainSize, .ref tq_told])), (tq_kinds, .inl (cI, 4200, .inl t_kinds)), (tq_firsts, .inl (cI, 4200, .inl t_firsts)), (tq_numbers, .inl (cJ, 4200, .inr (.inl t_numbers))), (tq_sizes, .inl (cI, 4200, .inl t_sizes)), (tq_inner, .inl (cI, 4200, .inl t_inner)), (tq_nexts, .inl (cI, 4200, .inl t_nexts))] sz) := by
  refine Met.ofW (cc := cX9_node) (maxL := 2) (ret := (some .int)) (by decide) rfl ?_
  intro p e s m args below meth c s₁ B hml hv
  obtain ⟨rfl, hsz, hP, hK, hD0, hz0⟩ := hv
  have hx := B.exec
  have hb := B.bytes
  have hr := B.returns
  have hts := atoms_spec (ws := wsX9_node) B.pre
  have hown : s.vm.findClass RX9 = some m.cls := findClass_of_methodNamed B.named
  have hlocks := B.notSynchronized
  subst hsz
  have hD := hD0.self (sz := s.heap.size)
  generalize hAe : va_A [(ob0, .inr (0, [.ref tq_bytes, .int t_length, .int t_at, .int t_deep, .int t_fault, .int t_place, .int t_end, .int t_nodes, .ref tq_kinds, .ref tq_firsts, .ref tq_numbers, .ref tq_sizes, .ref tq_inner, .ref tq_nexts, .ref tq_letters, .int t_lettered, .int t_shapes, .int t_looked, .ref tq_sorts, .ref tq_names, .ref tq_wide, .ref tq_kids, .ref tq_many, .ref tq_fallback, .int t_kidCount, .ref tq_kidShape, .ref tq_kidName, .ref tq_kidDefault, .ref tq_kidNext, .int t_done, .ref tq_finished, .int t_root, .ref tq_plain, .int t_plainSize, .ref tq_told])), (tq_kinds, .inl (cI, 4200, .inl t_kinds)), (tq_firsts, .inl (cI, 4200, .inl t_firsts)), (tq_numbers, .inl (cJ, 4200, .inr (.inl t_numbers))), (tq_sizes, .inl (cI, 4200, .inl t_sizes)), (tq_inner, .inl (cI, 4200, .inl t_inner)), (tq_nexts, .inl (cI, 4200, .inl t_nexts))] s.heap.size = A at hD hz0 ⊢
  have hA : ∀ q : Nat, s.heap.size ≤ q → A q := fun q h => by rw [← hAe]; exact Or.inr h
  have hS : va_S A s.heap s.heap [] := va_S.rf
  generalize hQ0 : MQ below (va_Qi (fun r' u' => r' = res.1 ∧ u' = res.2) (pcB (dC, dI) srCl [(cI, .int), (cB, .byte), (cJ, .long), (cZ, .boolean), (cQ, .object "SchemaReader$Schema")] (fun u : Int32 × (Nat → Int32) × (Nat → Int32) × (Nat → Int64) × (Nat → Int32) × (Nat → Int32) × (Nat → Int32) => [(ob0, .inr (0, [.ref tq_bytes, .int t_length, .int t_at, .int t_deep, .int t_fault, .int t_place, .int t_end, .int u.1, .ref tq_kinds, .ref tq_firsts, .ref tq_numbers, .ref tq_sizes, .ref tq_inner, .ref tq_nexts, .ref tq_letters, .int t_lettered, .int t_shapes, .int t_looked, .ref tq_sorts, .ref tq_names, .ref tq_wide, .ref tq_kids, .ref tq_many, .ref tq_fallback, .int t_kidCount, .ref tq_kidShape, .ref tq_kidName, .ref tq_kidDefault, .ref tq_kidNext, .int t_done, .ref tq_finished, .int t_root, .ref tq_plain, .int t_plainSize, .ref tq_told])), (tq_kinds, .inl (cI, 4200, .inl u.2.1)), (tq_firsts, .inl (cI, 4200, .inl u.2.2.1)), (tq_numbers, .inl (cJ, 4200, .inr (.inl u.2.2.2.1))), (tq_sizes, .inl (cI, 4200, .inl u.2.2.2.2.1)), (tq_inner, .inl (cI, 4200, .inl u.2.2.2.2.2.1)), (tq_nexts, .inl (cI, 4200, .inl u.2.2.2.2.2.2))]) A) A) [.ref ob0, .int a0].toArray s 0 0 A = Q0
  have hl := lv_entry [.ref ob0, .int a0] (n := 2) (Nat.le_of_ble_eq_true rfl)
  rw [lg_entry_eq]
  generalize (lg_sl [.ref ob0, .int a0] ++ List.replicate (2 - (lg_sl [.ref ob0, .int a0]).length) Slot.unset).toArray = ls at hl ⊢
  have hl : lv_has ls 2 [(0, .ref ob0), (1, .int a0)] := hl
  unfold m_X9_node at hm
  refine lv_aload_n hx hb dX9_node_0 rfl (lv_at hl 0 rfl) ?_
  refine va_get (D := (dC, dI)) (ci := 0) (v := .ref tq_kinds) (C := RX9) (T := TX9) (N := 35) hx hb hts (inX9 _) hown hK hP 0 rfl rfl 8 (by decide) (hts _ (List.mem_cons_of_mem _ wf9_15)) (fun _ h9 => h9) rfl dX9_node_1 ?_
  refine lv_aload_n hx hb dX9_node_4 rfl (lv_at hl 0 rfl) ?_
  refine va_get (D := (dC, dI)) (ci := 0) (v := .int t_nodes) (C := RX9) (T := TX9) (N := 35) hx hb hts (inX9 _) hown hK hP 0 rfl rfl 7 (by decide) (hts _ (List.mem_cons_of_mem _ wf9_109)) (fun _ h9 => h9) rfl dX9_node_5 ?_
  refine lv_iload_n hx hb dX9_node_8 rfl (lv_at hl 1 rfl) ?_
  obtain ⟨h1, hm⟩ := mr_bd hm
  refine va_iast hx hb hK hP hD hS 1 0 rfl rfl h1 dX9_node_9 (fun H locs hP hD hS => ?_)
  have hP : va_P (dC, dI) srCl [(ob0, .inr (0, [.ref tq_bytes, .int t_length, .int t_at, .int t_deep, .int t_fault, .int t_place, .int t_end, .int t_nodes, .ref tq_kinds, .ref tq_firsts, .ref tq_numbers, .ref tq_sizes, .ref tq_inner, .ref tq_nexts, .ref tq_letters, .int t_lettered, .int t_shapes, .int t_looked, .ref tq_sorts, .ref tq_names, .ref tq_wide, .ref tq_kids, .ref tq_many, .ref tq_fallback, .int t_kidCount, .ref tq_kidShape, .ref tq_kidName, .ref tq_kidDefault, .ref tq_kidNext, .int t_done, .ref tq_finished, .int t_root, .ref tq_plain, .int t_plainSize, .ref tq_told])), (tq_kinds, .inl (cI, 4200, .inl (upd t_kinds (t_nodes : Int32).toNatClampNeg a0))), (tq_firsts, .inl (cI, 4200, .inl t_firsts)), (tq_numbers, .inl (cJ, 4200, .inr (.inl t_numbers))), (tq_sizes, .inl (cI, 4200, .inl t_sizes)), (tq_inner, .inl (cI, 4200, .inl t_inner)), (tq_nexts, .inl (cI, 4200, .inl t_nexts))] H := hP
  have hD : va_D A [(ob0, .inr (0, [.ref tq_bytes, .int t_length, .int t_at, .int t_deep, .int t_fault, .int t_place, .int t_end, .int t_nodes, .ref tq_kinds, .ref tq_firsts, .ref tq_numbers, .ref tq_sizes, .ref tq_inner, .ref tq_nexts, .ref tq_letters, .int t_lettered, .int t_shapes, .int t_looked, .ref tq_sorts, .ref tq_names, .ref tq_wide, .ref tq_kids, .ref tq_many, .ref tq_fallback, .int t_kidCount, .ref tq_kidShape, .ref tq_kidName, .ref tq_kidDefault, .ref tq_kidNext, .int t_done, .ref tq_finished, .int t_root, .ref tq_plain, .int t_plainSize, .ref tq_told])), (tq_kinds, .inl (cI, 4200, .inl (upd t_kinds (t_nodes : Int32).toNatClampNeg a0))), (tq_firsts, .inl (cI, 4200, .inl t_firsts)), (tq_numbers, .inl (cJ, 4200, .inr (.inl t_numbers))), (tq_sizes, .inl (cI, 4200, .inl t_sizes)), (tq_inner, .inl (cI, 4200, .inl t_inner)), (tq_nexts, .inl (cI, 4200, .inl t_nexts))] := hD
  refine lv_aload_n hx hb dX9_node_10 rfl (lv_at hl 0 rfl) ?_
  refine va_get (D := (dC, dI)) (ci := 0) (v := .ref tq_firsts) (C := RX9) (T := TX9) (N := 35) hx hb hts (inX9 _) hown hK hP 0 rfl rfl 9 (by decide) (hts _ (List.mem_cons_of_mem _ wf9_19)) (fun _ h9 => h9) rfl dX9_node_11 ?_
  refine lv_aload_n hx hb dX9_node_14 rfl (lv_at hl 0 rfl) ?_
  refine va_get (D := (dC, dI)) (ci := 0) (v := .int t_nodes) (C := RX9) (T := TX9) (N := 35) hx hb hts (inX9 _) hown hK hP 0 rfl rfl 7 (by decide) (hts _ (List.mem_cons_of_mem _ wf9_109)) (fun _ h9 => h9) rfl dX9_node_15 ?_
  refine lv_aload_n hx hb dX9_node_18 rfl (lv_at hl 0 rfl) ?_
  refine va_get (D := (dC, dI)) (ci := 0) (v := .int t_at) (C := RX9) (T := TX9) (N := 35) hx hb hts (inX9 _) hown hK hP 0 rfl rfl 2 (by decide) (hts _ (List.mem_cons_of_mem _ wf9_95)) (fun _ h9 => h9) rfl dX9_node_19 ?_
  obtain ⟨h2, hm⟩ := mr_bd hm
  refine va_iast hx hb hK hP hD hS 2 0 rfl rfl h2 dX9_node_22 (fun H locs hP hD hS => ?_)
  have hP : va_P (dC, dI) srCl [(ob0, .inr (0, [.ref tq_bytes, .int t_length, .int t_at, .int t_deep, .int t_fault, .int t_place, .int t_end, .int t_nodes, .ref tq_kinds, .ref tq_firsts, .ref tq_numbers, .ref tq_sizes, .ref tq_inner, .ref tq_nexts, .ref tq_letters, .int t_lettered, .int t_shapes, .int t_looked, .ref tq_sorts, .ref tq_names, .ref tq_wide, .ref tq_kids, .ref tq_many, .ref tq_fallback, .int t_kidCount, .ref tq_kidShape, .ref tq_kidName, .ref tq_kidDefault, .ref tq_kidNext, .int t_done, .ref tq_finished, .int t_root, .ref tq_plain, .int t_plainSize, .ref tq_told])), (tq_kinds, .inl (cI, 4200, .inl (upd t_kinds (t_nodes : Int32).toNatClampNeg a0))), (tq_firsts, .inl (cI, 4200, .inl (upd t_firsts (t_nodes : Int32).toNatClampNeg t_at))), (tq_numbers, .inl (cJ, 4200, .inr (.inl t_numbers))), (tq_sizes, .inl (cI, 4200, .inl t_sizes)), (tq_inner, .inl (cI, 4200, .inl t_inner)), (tq_nexts, .inl (cI, 4200, .inl t_nexts))] H := hP
  have hD : va_D A [(ob0, .inr (0, [.ref tq_bytes, .int t_length, .int t_at, .int t_deep, .int t_fault, .int t_place, .int t_end, .int t_nodes, .ref tq_kinds, .ref tq_firsts, .ref tq_numbers, .ref tq_sizes, .ref tq_inner, .ref tq_nexts, .ref tq_letters, .int t_lettered, .int t_shapes, .int t_looked, .ref tq_sorts, .ref tq_names, .ref tq_wide, .ref tq_kids, .ref tq_many, .ref tq_fallback, .int t_kidCount, .ref tq_kidShape, .ref tq_kidName, .ref tq_kidDefault, .ref tq_kidNext, .int t_done, .ref tq_finished, .int t_root, .ref tq_plain, .int t_plainSize, .ref tq_told])), (tq_kinds, .inl (cI, 4200, .inl (upd t_kinds (t_nodes : Int32).toNatClampNeg a0))), (tq_firsts, .inl (cI, 4200, .inl (upd t_firsts (t_nodes : Int32).toNatClampNeg t_at))), (tq_numbers, .inl (cJ, 4200, .inr (.inl t_numbers))), (tq_sizes, .inl (cI, 4200, .inl t_sizes)), (tq_inner, .inl (cI, 4200, .inl t_inner)), (tq_nexts, .inl (cI, 4200, .inl t_nexts))] := hD
  refine lv_aload_n hx hb dX9_node_23 rfl (lv_at hl 0 rfl) ?_
  refine va_get (D := (dC, dI)) (ci := 0) (v := .ref tq_numbers) (C := RX9) (T := TX9) (N := 35) hx hb hts (inX9 _) hown hK hP 0 rfl rfl 10 (by decide) (hts _ (List.mem_cons_of_mem _ wf9_22)) (fun _ h9 => h9) rfl dX9_node_24 ?_
  refine lv_aload_n hx hb dX9_node_27 rfl (lv_at hl 0 rfl) ?_
  refine va_get (D := (dC, dI)) (ci := 0) (v := .int t_nodes) (C := RX9) (T := TX9) (N := 35) hx hb hts (inX9 _) hown hK hP 0 rfl rfl 7 (by decide) (hts _ (List.mem_cons_of_mem _ wf9_109)) (fun _ h9 => h9) rfl dX9_node_28 ?_
  refine lv_lconst (v := 0) hx hb dX9_node_31 (by decide) ?_
  obtain ⟨h3, hm⟩ := mr_bd hm
  refine va_last hx hb hK hP hD hS 3 2 rfl rfl h3 dX9_node_32 (fun H locs hP hD hS => ?_)
  have hP : va_P (dC, dI) srCl [(ob0, .inr (0, [.ref tq_bytes, .int t_length, .int t_at, .int t_deep, .int t_fault, .int t_place, .int t_end, .int t_nodes, .ref tq_kinds, .ref tq_firsts, .ref tq_numbers, .ref tq_sizes, .ref tq_inner, .ref tq_nexts, .ref tq_letters, .int t_lettered, .int t_shapes, .int t_looked, .ref tq_sorts, .ref tq_names, .ref tq_wide, .ref tq_kids, .ref tq_many, .ref tq_fallback, .int t_kidCount, .ref tq_kidShape, .ref tq_kidName, .ref tq_kidDefault, .ref tq_kidNext, .int t_done, .ref tq_finished, .int t_root, .ref tq_plain, .int t_plainSize, .ref tq_told])), (tq_kinds, .inl (cI, 4200, .inl (upd t_kinds (t_nodes : Int32).toNatClampNeg a0))), (tq_firsts, .inl (cI, 4200, .inl (upd t_firsts (t_nodes : Int32).toNatClampNeg t_at))), (tq_numbers, .inl (cJ, 4200, .inr (.inl (vp_updL t_numbers (t_nodes : Int32).toNatClampNeg 0)))), (tq_sizes, .inl (cI, 4200, .inl t_sizes)), (tq_inner, .inl (cI, 4200, .inl t_inner)), (tq_nexts, .inl (cI, 4200, .inl t_nexts))] H := hP
  have hD : va_D A [(ob0, .inr (0, [.ref tq_bytes, .int t_length, .int t_at, .int t_deep, .int t_fault, .int t_place, .int t_end, .int t_nodes, .ref tq_kinds, .ref tq_firsts, .ref tq_numbers, .ref tq_sizes, .ref tq_inner, .ref tq_nexts, .ref tq_letters, .int t_lettered, .int t_shapes, .int t_looked, .ref tq_sorts, .ref tq_names, .ref tq_wide, .ref tq_kids, .ref tq_many, .ref tq_fallback, .int t_kidCount, .ref tq_kidShape, .ref tq_kidName, .ref tq_kidDefault, .ref tq_kidNext, .int t_done, .ref tq_finished, .int t_root, .ref tq_plain, .int t_plainSize, .ref tq_told])), (tq_kinds, .inl (cI, 4200, .inl (upd t_kinds (t_nodes : Int32).toNatClampNeg a0))), (tq_firsts, .inl (cI, 4200, .inl (upd t_firsts (t_nodes : Int32).toNatClampNeg t_at))), (tq_numbers, .inl (cJ, 4200, .inr (.inl (vp_updL t_numbers (t_nodes : Int32).toNatClampNeg 0)))), (tq_sizes, .inl (cI, 4200, .inl t_sizes)), (tq_inner, .inl (cI, 4200, .inl t_inner)), (tq_nexts, .inl (cI, 4200, .inl t_nexts))] := hD
  refine lv_aload_n hx hb dX9_node_33 rfl (lv_at hl 0 rfl) ?_
  refine va_get (D := (dC, dI)) (ci := 0) (v := .ref tq_sizes) (C := RX9) (T := TX9) (N := 35) hx hb hts (inX9 _) hown hK hP 0 rfl rfl 11 (by decide) (hts _ (List.mem_cons_of_mem _ wf9_26)) (fun _ h9 => h9) rfl dX9_node_34 ?_
  refine lv_aload_n hx hb dX9_node_37 rfl (lv_at hl 0 rfl) ?_
  refine va_get (D := (dC, dI)) (ci := 0) (v := .int t_nodes) (C := RX9) (T := TX9) (N := 35) hx hb hts (inX9 _) hown hK hP 0 rfl rfl 7 (by decide) (hts _ (List.mem_cons_of_mem _ wf9_109)) (fun _ h9 => h9) rfl dX9_node_38 ?_
  refine lv_iconst (v := 0) hx hb dX9_node_41 (by decide) ?_
  obtain ⟨h4, hm⟩ := mr_bd hm
  refine va_iast hx hb hK hP hD hS 4 0 rfl rfl h4 dX9_node_42 (fun H locs hP hD hS => ?_)
  have hP : va_P (dC, dI) srCl [(ob0, .inr (0, [.ref tq_bytes, .int t_length, .int t_at, .int t_deep, .int t_fault, .int t_place, .int t_end, .int t_nodes, .ref tq_kinds, .ref tq_firsts, .ref tq_numbers, .ref tq_sizes, .ref tq_inner, .ref tq_nexts, .ref tq_letters, .int t_lettered, .int t_shapes, .int t_looked, .ref tq_sorts, .ref tq_names, .ref tq_wide, .ref tq_kids, .ref tq_many, .ref tq_fallback, .int t_kidCount, .ref tq_kidShape, .ref tq_kidName, .ref tq_kidDefault, .ref tq_kidNext, .int t_done, .ref tq_finished, .int t_root, .ref tq_plain, .int t_plainSize, .ref tq_told])), (tq_kinds, .inl (cI, 4200, .inl (upd t_kinds (t_nodes : Int32).toNatClampNeg a0))), (tq_firsts, .inl (cI, 4200, .inl (upd t_firsts (t_nodes : Int32).toNatClampNeg t_at))), (tq_numbers, .inl (cJ, 4200, .inr (.inl (vp_updL t_numbers (t_nodes : Int32).toNatClampNeg 0)))), (tq_sizes, .inl (cI, 4200, .inl (upd t_sizes (t_nodes : Int32).toNatClampNeg 0))), (tq_inner, .inl (cI, 4200, .inl t_inner)), (tq_nexts, .inl (cI, 4200, .inl t_nexts))] H := hP
  have hD : va_D A [(ob0, .inr (0, [.ref tq_bytes, .int t_length, .int t_at, .int t_deep, .int t_fault, .int t_place, .int t_end, .int t_nodes, .ref tq_kinds, .ref tq_firsts, .ref tq_numbers, .ref tq_sizes, .ref tq_inner, .ref tq_nexts, .ref tq_letters, .int t_lettered, .int t_shapes, .int t_looked, .ref tq_sorts, .ref tq_names, .ref tq_wide, .ref tq_kids, .ref tq_many, .ref tq_fallback, .int t_kidCount, .ref tq_kidShape, .ref tq_kidName, .ref tq_kidDefault, .ref tq_kidNext, .int t_done, .ref tq_finished, .int t_root, .ref tq_plain, .int t_plainSize, .ref tq_told])), (tq_kinds, .inl (cI, 4200, .inl (upd t_kinds (t_nodes : Int32).toNatClampNeg a0))), (tq_firsts, .inl (cI, 4200, .inl (upd t_firsts (t_nodes : Int32).toNatClampNeg t_at))), (tq_numbers, .inl (cJ, 4200, .inr (.inl (vp_updL t_numbers (t_nodes : Int32).toNatClampNeg 0)))), (tq_sizes, .inl (cI, 4200, .inl (upd t_sizes (t_nodes : Int32).toNatClampNeg 0))), (tq_inner, .inl (cI, 4200, .inl t_inner)), (tq_nexts, .inl (cI, 4200, .inl t_nexts))] := hD
  refine lv_aload_n hx hb dX9_node_43 rfl (lv_at hl 0 rfl) ?_
  refine va_get (D := (dC, dI)) (ci := 0) (v := .ref tq_inner) (C := RX9) (T := TX9) (N := 35) hx hb hts (inX9 _) hown hK hP 0 rfl rfl 12 (by decide) (hts _ (List.mem_cons_of_mem _ wf9_29)) (fun _ h9 => h9) rfl dX9_node_44 ?_
  refine lv_aload_n hx hb dX9_node_47 rfl (lv_at hl 0 rfl) ?_
  refine va_get (D := (dC, dI)) (ci := 0) (v := .int t_nodes) (C := RX9) (T := TX9) (N := 35) hx hb hts (inX9 _) hown hK hP 0 rfl rfl 7 (by decide) (hts _ (List.mem_cons_of_mem _ wf9_109)) (fun _ h9 => h9) rfl dX9_node_48 ?_
  refine lv_iconst (v := -1) hx hb dX9_node_51 (by decide) ?_
  obtain ⟨h5, hm⟩ := mr_bd hm
  refine va_iast hx hb hK hP hD hS 5 0 rfl rfl h5 dX9_node_52 (fun H locs hP hD hS => ?_)
  have hP : va_P (dC, dI) srCl [(ob0, .inr (0, [.ref tq_bytes, .int t_length, .int t_at, .int t_deep, .int t_fault, .int t_place, .int t_end, .int t_nodes, .ref tq_kinds, .ref tq_firsts, .ref tq_numbers, .ref tq_sizes, .ref tq_inner, .ref tq_nexts, .ref tq_letters, .int t_lettered, .int t_shapes, .int t_looked, .ref tq_sorts, .ref tq_names, .ref tq_wide, .ref tq_kids, .ref tq_many, .ref tq_fallback, .int t_kidCount, .ref tq_kidShape, .ref tq_kidName, .ref tq_kidDefault, .ref tq_kidNext, .int t_done, .ref tq_finished, .int t_root, .ref tq_plain, .int t_plainSize, .ref tq_told])), (tq_kinds, .inl (cI, 4200, .inl (upd t_kinds (t_nodes : Int32).toNatClampNeg a0))), (tq_firsts, .inl (cI, 4200, .inl (upd t_firsts (t_nodes : Int32).toNatClampNeg t_at))), (tq_numbers, .inl (cJ, 4200, .inr (.inl (vp_updL t_numbers (t_nodes : Int32).toNatClampNeg 0)))), (tq_sizes, .inl (cI, 4200, .inl (upd t_sizes (t_nodes : Int32).toNatClampNeg 0))), (tq_inner, .inl (cI, 4200, .inl (upd t_inner (t_nodes : Int32).toNatClampNeg (-1)))), (tq_nexts, .inl (cI, 4200, .inl t_nexts))] H := hP
  have hD : va_D A [(ob0, .inr (0, [.ref tq_bytes, .int t_length, .int t_at, .int t_deep, .int t_fault, .int t_place, .int t_end, .int t_nodes, .ref tq_kinds, .ref tq_firsts, .ref tq_numbers, .ref tq_sizes, .ref tq_inner, .ref tq_nexts, .ref tq_letters, .int t_lettered, .int t_shapes, .int t_looked, .ref tq_sorts, .ref tq_names, .ref tq_wide, .ref tq_kids, .ref tq_many, .ref tq_fallback, .int t_kidCount, .ref tq_kidShape, .ref tq_kidName, .ref tq_kidDefault, .ref tq_kidNext, .int t_done, .ref tq_finished, .int t_root, .ref tq_plain, .int t_plainSize, .ref tq_told])), (tq_kinds, .inl (cI, 4200, .inl (upd t_kinds (t_nodes : Int32).toNatClampNeg a0))), (tq_firsts, .inl (cI, 4200, .inl (upd t_firsts (t_nodes : Int32).toNatClampNeg t_at))), (tq_numbers, .inl (cJ, 4200, .inr (.inl (vp_updL t_numbers (t_nodes : Int32).toNatClampNeg 0)))), (tq_sizes, .inl (cI, 4200, .inl (upd t_sizes (t_nodes : Int32).toNatClampNeg 0))), (tq_inner, .inl (cI, 4200, .inl (upd t_inner (t_nodes : Int32).toNatClampNeg (-1)))), (tq_nexts, .inl (cI, 4200, .inl t_nexts))] := hD
  refine lv_aload_n hx hb dX9_node_53 rfl (lv_at hl 0 rfl) ?_
  refine va_get (D := (dC, dI)) (ci := 0) (v := .ref tq_nexts) (C := RX9) (T := TX9) (N := 35) hx hb hts (inX9 _) hown hK hP 0 rfl rfl 13 (by decide) (hts _ (List.mem_cons_of_mem _ wf9_32)) (fun _ h9 => h9) rfl dX9_node_54 ?_
  refine lv_aload_n hx hb dX9_node_57 rfl (lv_at hl 0 rfl) ?_
  refine va_get (D := (dC, dI)) (ci := 0) (v := .int t_nodes) (C := RX9) (T := TX9) (N := 35) hx hb hts (inX9 _) hown hK hP 0 rfl rfl 7 (by decide) (hts _ (List.mem_cons_of_mem _ wf9_109)) (fun _ h9 => h9) rfl dX9_node_58 ?_
  refine lv_iconst (v := -1) hx hb dX9_node_61 (by decide) ?_
  obtain ⟨h6, hm⟩ := mr_bd hm
  refine va_iast hx hb hK hP hD hS 6 0 rfl rfl h6 dX9_node_62 (fun H locs hP hD hS => ?_)
  have hP : va_P (dC, dI) srCl [(ob0, .inr (0, [.ref tq_bytes, .int t_length, .int t_at, .int t_deep, .int t_fault, .int t_place, .int t_end, .int t_nodes, .ref tq_kinds, .ref tq_firsts, .ref tq_numbers, .ref tq_sizes, .ref tq_inner, .ref tq_nexts, .ref tq_letters, .int t_lettered, .int t_shapes, .int t_looked, .ref tq_sorts, .ref tq_names, .ref tq_wide, .ref tq_kids, .ref tq_many, .ref tq_fallback, .int t_kidCount, .ref tq_kidShape, .ref tq_kidName, .ref tq_kidDefault, .ref tq_kidNext, .int t_done, .ref tq_finished, .int t_root, .ref tq_plain, .int t_plainSize, .ref tq_told])), (tq_kinds, .inl (cI, 4200, .inl (upd t_kinds (t_nodes : Int32).toNatClampNeg a0))), (tq_firsts, .inl (cI, 4200, .inl (upd t_firsts (t_nodes : Int32).toNatClampNeg t_at))), (tq_numbers, .inl (cJ, 4200, .inr (.inl (vp_updL t_numbers (t_nodes : Int32).toNatClampNeg 0)))), (tq_sizes, .inl (cI, 4200, .inl (upd t_sizes (t_nodes : Int32).toNatClampNeg 0))), (tq_inner, .inl (cI, 4200, .inl (upd t_inner (t_nodes : Int32).toNatClampNeg (-1)))), (tq_nexts, .inl (cI, 4200, .inl (upd t_nexts (t_nodes : Int32).toNatClampNeg (-1))))] H := hP
  have hD : va_D A [(ob0, .inr (0, [.ref tq_bytes, .int t_length, .int t_at, .int t_deep, .int t_fault, .int t_place, .int t_end, .int t_nodes, .ref tq_kinds, .ref tq_firsts, .ref tq_numbers, .ref tq_sizes, .ref tq_inner, .ref tq_nexts, .ref tq_letters, .int t_lettered, .int t_shapes, .int t_looked, .ref tq_sorts, .ref tq_names, .ref tq_wide, .ref tq_kids, .ref tq_many, .ref tq_fallback, .int t_kidCount, .ref tq_kidShape, .ref tq_kidName, .ref tq_kidDefault, .ref tq_kidNext, .int t_done, .ref tq_finished, .int t_root, .ref tq_plain, .int t_plainSize, .ref tq_told])), (tq_kinds, .inl (cI, 4200, .inl (upd t_kinds (t_nodes : Int32).toNatClampNeg a0))), (tq_firsts, .inl (cI, 4200, .inl (upd t_firsts (t_nodes : Int32).toNatClampNeg t_at))), (tq_numbers, .inl (cJ, 4200, .inr (.inl (vp_updL t_numbers (t_nodes : Int32).toNatClampNeg 0)))), (tq_sizes, .inl (cI, 4200, .inl (upd t_sizes (t_nodes : Int32).toNatClampNeg 0))), (tq_inner, .inl (cI, 4200, .inl (upd t_inner (t_nodes : Int32).toNatClampNeg (-1)))), (tq_nexts, .inl (cI, 4200, .inl (upd t_nexts (t_nodes : Int32).toNatClampNeg (-1))))] := hD
  refine lv_aload_n hx hb dX9_node_63 rfl (lv_at hl 0 rfl) ?_
  refine lv_dup hx hb dX9_node_64 rfl ?_
  refine va_get (D := (dC, dI)) (ci := 0) (v := .int t_nodes) (C := RX9) (T := TX9) (N := 35) hx hb hts (inX9 _) hown hK hP 0 rfl rfl 7 (by decide) (hts _ (List.mem_cons_of_mem _ wf9_109)) (fun _ h9 => h9) rfl dX9_node_65 ?_
  refine lv_iconst (v := 1) hx hb dX9_node_68 (by decide) ?_
  refine lv_iadd hx hb dX9_node_69 ?_
  refine va_put (D := (dC, dI)) (ci := 0) (v := .int (t_nodes + 1)) (ty := .int) (C := RX9) (T := TX9) (N := 35) hx hb hts (inX9 _) tyX9 tyX9_ok nmX9 hown hK hP hD hS 0 rfl rfl 7 (by decide) (hts _ (List.mem_cons_of_mem _ wf9_109)) (fun _ h9 => h9) rfl (by decide +kernel) rfl rfl (Nat.le_of_ble_eq_true rfl) dX9_node_70 (fun H locs hP hD hS => ?_)
  have hP : va_P (dC, dI) srCl [(ob0, .inr (0, [.ref tq_bytes, .int t_length, .int t_at, .int t_deep, .int t_fault, .int t_place, .int t_end, .int (t_nodes + 1), .ref tq_kinds, .ref tq_firsts, .ref tq_numbers, .ref tq_sizes, .ref tq_inner, .ref tq_nexts, .ref tq_letters, .int t_lettered, .int t_shapes, .int t_looked, .ref tq_sorts, .ref tq_names, .ref tq_wide, .ref tq_kids, .ref tq_many, .ref tq_fallback, .int t_kidCount, .ref tq_kidShape, .ref tq_kidName, .ref tq_kidDefault, .ref tq_kidNext, .int t_done, .ref tq_finished, .int t_root, .ref tq_plain, .int t_plainSize, .ref tq_told])), (tq_kinds, .inl (cI, 4200, .inl (upd t_kinds (t_nodes : Int32).toNatClampNeg a0))), (tq_firsts, .inl (cI, 4200, .inl (upd t_firsts (t_nodes : Int32).toNatClampNeg t_at))), (tq_numbers, .inl (cJ, 4200, .inr (.inl (vp_updL t_numbers (t_nodes : Int32).toNatClampNeg 0)))), (tq_sizes, .inl (cI, 4200, .inl (upd t_sizes (t_nodes : Int32).toNatClampNeg 0))), (tq_inner, .inl (cI, 4200, .inl (upd t_inner (t_nodes : Int32).toNatClampNeg (-1)))), (tq_nexts, .inl (cI, 4200, .inl (upd t_nexts (t_nodes : Int32).toNatClampNeg (-1))))] H := hP
  have hD : va_D A [(ob0, .inr (0, [.ref tq_bytes, .int t_length, .int t_at, .int t_deep, .int t_fault, .int t_place, .int t_end, .int (t_nodes + 1), .ref tq_kinds, .ref tq_firsts, .ref tq_numbers, .ref tq_sizes, .ref tq_inner, .ref tq_nexts, .ref tq_letters, .int t_lettered, .int t_shapes, .int t_looked, .ref tq_sorts, .ref tq_names, .ref tq_wide, .ref tq_kids, .ref tq_many, .ref tq_fallback, .int t_kidCount, .ref tq_kidShape, .ref tq_kidName, .ref tq_kidDefault, .ref tq_kidNext, .int t_done, .ref tq_finished, .int t_root, .ref tq_plain, .int t_plainSize, .ref tq_told])), (tq_kinds, .inl (cI, 4200, .inl (upd t_kinds (t_nodes : Int32).toNatClampNeg a0))), (tq_firsts, .inl (cI, 4200, .inl (upd t_firsts (t_nodes : Int32).toNatClampNeg t_at))), (tq_numbers, .inl (cJ, 4200, .inr (.inl (vp_updL t_numbers (t_nodes : Int32).toNatClampNeg 0)))), (tq_sizes, .inl (cI, 4200, .inl (upd t_sizes (t_nodes : Int32).toNatClampNeg 0))), (tq_inner, .inl (cI, 4200, .inl (upd t_inner (t_nodes : Int32).toNatClampNeg (-1)))), (tq_nexts, .inl (cI, 4200, .inl (upd t_nexts (t_nodes : Int32).toNatClampNeg (-1))))] := hD
  refine lv_aload_n hx hb dX9_node_73 rfl (lv_at hl 0 rfl) ?_
  refine va_get (D := (dC, dI)) (ci := 0) (v := .int (t_nodes + 1)) (C := RX9) (T := TX9) (N := 35) hx hb hts (inX9 _) hown hK hP 0 rfl rfl 7 (by decide) (hts _ (List.mem_cons_of_mem _ wf9_109)) (fun _ h9 => h9) rfl dX9_node_74 ?_
  refine lv_iconst (v := 1) hx hb dX9_node_77 (by decide) ?_
  refine lv_isub hx hb dX9_node_78 ?_
  obtain rfl := Option.some.inj hm
  subst hQ0
  exact W.iret (v := ((t_nodes + 1) - 1)) hx hb hr (fun t ht hW => ⟨⟨((t_nodes + 1) - 1), ((t_nodes + 1), (upd t_kinds (t_nodes : Int32).toNatClampNeg a0), (upd t_firsts (t_nodes : Int32).toNatClampNeg t_at), (vp_updL t_numbers (t_nodes : Int32).toNatClampNeg 0), (upd t_sizes (t_nodes : Int32).toNatClampNeg 0), (upd t_inner (t_nodes : Int32).toNatClampNeg (-1)), (upd t_nexts (t_nodes : Int32).toNatClampNeg (-1))), rfl, ⟨rfl, rfl⟩, by rw [ht]; exact hP, va_K.moved hW.alike hK, hD⟩, hS.F ht⟩) hS.2.2 dX9_node_79
set_option maxHeartbeats 4000000 in
set_option maxRecDepth 100000 in
theorem kX9_hex (l : Launch) (htr : l.stackTraces = false) (dC : Nat → ClassId) (dI : Nat → Nat → Nat) (adK adV : Nat → Nat) (cI cB cJ cZ cQ : ClassId) (a0 : Int32) (res : Int32) (hm : m_X9_hex a0 = some res) : Met l yX9_hex wsX9_hex (rmX9_hex 0 0) (pcR (sr_Z adK adV) (dC, dI) srCl [(cI, .int), (cB, .byte), (cJ, .long), (cZ, .boolean), (cQ, .object "SchemaReader$Schema")] [.int a0] []) (k2_QcV (.int res)) 0 0 (fun _ => False) := by
  refine Met.ofW (cc := cX9_hex) (maxL := 1) (ret := (some .int)) (by decide) rfl ?_
  intro p e s m args below meth c s₁ B hml hv
  obtain ⟨rfl, hP, hK, hz0⟩ := hv
  have hx := B.exec
  have hb := B.bytes
  have hr := B.returns
  have hts := atoms_spec (ws := wsX9_hex) B.pre
  have hown : s.vm.findClass RX9 = some m.cls := findClass_of_methodNamed B.named
  have hlocks := B.notSynchronized
  have hS : va_S (fun _ => False) s.heap s.heap [] := va_S.rf
  generalize hQ0 : MQ below (k2_QcV (.int res)) [.int a0].toArray s 0 0 (fun _ => False) = Q0
  have hl := lv_entry [.int a0] (n := 1) (Nat.le_of_ble_eq_true rfl)
  rw [lg_entry_eq]
  generalize (lg_sl [.int a0] ++ List.replicate (1 - (lg_sl [.int a0]).length) Slot.unset).toArray = ls at hl ⊢
  have hl : lv_has ls 1 [(0, .int a0)] := hl
  unfold m_X9_hex at hm
  refine lv_iload_n hx hb dX9_hex_0 rfl (lv_at hl 0 rfl) ?_
  refine lv_bipush (v := 48) hx hb dX9_hex_1 (by decide) ?_
  have j19 : ∀ (x0 : Int32) (ls : Array Slot), lv_has ls 1 [(0, .int x0)] → m_X9_hex_19 x0 = some res → W p l e (headSpec wsX9_hex (rmX9_hex 0 0)).room s m [.int a0].toArray below meth c s.heap [] 0 0 Q0 (F0 m 19 ls []) := by
    intro x0 ls hl hm
    unfold m_X9_hex_19 at hm
    refine lv_iload_n hx hb dX9_hex_19 rfl (lv_at hl 0 rfl) ?_
    refine lv_bipush (v := 97) hx hb dX9_hex_20 (by decide) ?_
    have j41 : ∀ (x0 : Int32) (ls : Array Slot), lv_has ls 1 [(0, .int x0)] → m_X9_hex_41 x0 = some res → W p l e (headSpec wsX9_hex (rmX9_hex 0 0)).room s m [.int a0].toArray below meth c s.heap [] 0 0 Q0 (F0 m 41 ls []) := by
      intro x0 ls hl hm
      unfold m_X9_hex_41 at hm
      refine lv_iload_n hx hb dX9_hex_41 rfl (lv_at hl 0 rfl) ?_
      refine lv_bipush (v := 65) hx hb dX9_hex_42 (by decide) ?_
      refine lv_icmp_lt (tgt := 63) hx hb dX9_hex_44 (by decide) (fun c1 => ?_) (fun c1 => ?_)
      · have hm := mr_if c1 hm
        refine lv_iconst (v := -1) hx hb dX9_hex_63 (by decide) ?_
        obtain rfl := Option.some.inj hm
        subst hQ0
        exact W.iret (v := (-1)) hx hb hr (fun t ht hW => ⟨rfl, ht⟩) (fun q h => by cases h) dX9_hex_64
      · have hm := mr_un c1 hm
        refine lv_iload_n hx hb dX9_hex_47 rfl (lv_at hl 0 rfl) ?_
        refine lv_bipush (v := 70) hx hb dX9_hex_48 (by decide) ?_
        refine lv_icmp_gt (tgt := 63) hx hb dX9_hex_50 (by decide) (fun c2 => ?_) (fun c2 => ?_)
        · have hm := mr_if c2 hm
          refine lv_iconst (v := -1) hx hb dX9_hex_63 (by decide) ?_
          obtain rfl := Option.some.inj hm
          subst hQ0
          exact W.iret (v := (-1)) hx hb hr (fun t ht hW => ⟨rfl, ht⟩) (fun q h => by cases h) dX9_hex_64
        · have hm := mr_un c2 hm
          refine lv_iload_n hx hb dX9_hex_53 rfl (lv_at hl 0 rfl) ?_
          refine lv_bipush (v := 65) hx hb dX9_hex_54 (by decide) ?_
          refine lv_isub hx hb dX9_hex_56 ?_
          refine lv_bipush (v := 10) hx hb dX9_hex_57 (by decide) ?_
          refine lv_iadd hx hb dX9_hex_59 ?_
          refine lv_goto (tgt := 64) hx hb dX9_hex_60 (by decide) ?_
          obtain rfl := Option.some.inj hm
          subst hQ0
          exact W.iret (v := ((x0 - 65) + 10)) hx hb hr (fun t ht hW => ⟨rfl, ht⟩) (fun q h => by cases h) dX9_hex_64
    refine lv_icmp_lt (tgt := 41) hx hb dX9_hex_22 (by decide) (fun c3 => ?_) (fun c3 => ?_)
    · have hm := mr_if c3 hm
      exact j41 x0 ls (lv_sub hl [0] rfl) hm
    · have hm := mr_un c3 hm
      refine lv_iload_n hx hb dX9_hex_25 rfl (lv_at hl 0 rfl) ?_
      refine lv_bipush (v := 102) hx hb dX9_hex_26 (by decide) ?_
      refine lv_icmp_gt (tgt := 41) hx hb dX9_hex_28 (by decide) (fun c4 => ?_) (fun c4 => ?_)
      · have hm := mr_if c4 hm
        exact j41 x0 ls (lv_sub hl [0] rfl) hm
      · have hm := mr_un c4 hm
        refine lv_iload_n hx hb dX9_hex_31 rfl (lv_at hl 0 rfl) ?_
        refine lv_bipush (v := 97) hx hb dX9_hex_32 (by decide) ?_
        refine lv_isub hx hb dX9_hex_34 ?_
        refine lv_bipush (v := 10) hx hb dX9_hex_35 (by decide) ?_
        refine lv_iadd hx hb dX9_hex_37 ?_
        refine lv_goto (tgt := 64) hx hb dX9_hex_38 (by decide) ?_
        obtain rfl := Option.some.inj hm
        subst hQ0
        exact W.iret (v := ((x0 - 97) + 10)) hx hb hr (fun t ht hW => ⟨rfl, ht⟩) (fun q h => by cases h) dX9_hex_64
  refine lv_icmp_lt (tgt := 19) hx hb dX9_hex_3 (by decide) (fun c5 => ?_) (fun c5 => ?_)
  · have hm := mr_if c5 hm
    exact j19 a0 ls (lv_sub hl [0] rfl) hm
  · have hm := mr_un c5 hm
    refine lv_iload_n hx hb dX9_hex_6 rfl (lv_at hl 0 rfl) ?_
    refine lv_bipush (v := 57) hx hb dX9_hex_7 (by decide) ?_
    refine lv_icmp_gt (tgt := 19) hx hb dX9_hex_9 (by decide) (fun c6 => ?_) (fun c6 => ?_)
    · have hm := mr_if c6 hm
      exact j19 a0 ls (lv_sub hl [0] rfl) hm
    · have hm := mr_un c6 hm
      refine lv_iload_n hx hb dX9_hex_12 rfl (lv_at hl 0 rfl) ?_
      refine lv_bipush (v := 48) hx hb dX9_hex_13 (by decide) ?_
      refine lv_isub hx hb dX9_hex_15 ?_
      refine lv_goto (tgt := 64) hx hb dX9_hex_16 (by decide) ?_
      obtain rfl := Option.some.inj hm
      subst hQ0
      exact W.iret (v := (a0 - 48)) hx hb hr (fun t ht hW => ⟨rfl, ht⟩) (fun q h => by cases h) dX9_hex_64
set_option maxHeartbeats 4000000 in
set_option maxRecDepth 100000 in
theorem kX9_same (l : Launch) (htr : l.stackTraces = false) (dC : Nat → ClassId) (dI : Nat → Nat → Nat) (adK adV : Nat → Nat) (cI cB cJ cZ cQ : ClassId) (ob0 tq_bytes tq_kinds tq_firsts tq_numbers tq_sizes tq_inner tq_nexts tq_letters tq_sorts tq_names tq_wide tq_kids tq_many tq_fallback tq_kidShape tq_kidName tq_kidDefault tq_kidNext tq_finished tq_plain tq_told ob1 oq_bytes oq_kinds oq_firsts oq_numbers oq_sizes oq_inner oq_nexts oq_letters oq_sorts oq_names oq_wide oq_kids oq_many oq_fallback oq_kidShape oq_kidName oq_kidDefault oq_kidNext oq_finished oq_plain oq_told : Nat) (t_length : Int32) (t_at : Int32) (t_deep : Int32) (t_fault : Int32) (t_place : Int32) (t_end : Int32) (t_nodes : Int32) (t_lettered : Int32) (t_shapes : Int32) (t_looked : Int32) (t_kidCount : Int32) (t_done : Int32) (t_root : Int32) (t_plainSize : Int32) (o_length : Int32) (o_at : Int32) (o_deep : Int32) (o_fault : Int32) (o_place : Int32) (o_end : Int32) (o_nodes : Int32) (o_lettered : Int32) (o_shapes : Int32) (o_looked : Int32) (o_kidCount : Int32) (o_done : Int32) (o_root : Int32) (o_plainSize : Int32) (t_numbers : Nat → Int64) (t_sizes : Nat → Int32) (t_letters : Nat → Int32) (o_numbers : Nat → Int64) (o_sizes : Nat → Int32) (o_letters : Nat → Int32) (a0 : Int32) (a2 : Int32) (res : Int32) (hm : m_X9_same t_numbers t_sizes t_letters o_numbers o_sizes o_letters a0 a2 = some res) : Met l yX9_same wsX9_same (rmX9_same 0 0) (pcR (sr_Z adK adV) (dC, dI) srCl [(cI, .int), (cB, .byte), (cJ, .long), (cZ, .boolean), (cQ, .object "SchemaReader$Schema")] [.ref ob0, .int a0, .ref ob1, .int a2] [(ob0, .inr (0, [.ref tq_bytes, .int t_length, .int t_at, .int t_deep, .int t_fault, .int t_place, .int t_end, .int t_nodes, .ref tq_kinds, .ref tq_firsts, .ref tq_numbers, .ref tq_sizes, .ref tq_inner, .ref tq_nexts, .ref tq_letters, .int t_lettered, .int t_shapes, .int t_looked, .ref tq_sorts, .ref tq_names, .ref tq_wide, .ref tq_kids, .ref tq_many, .ref tq_fallback, .int t_kidCount, .ref tq_kidShape, .ref tq_kidName, .ref tq_kidDefault, .ref tq_kidNext, .int t_done, .ref tq_finished, .int t_root, .ref tq_plain, .int t_plainSize, .ref tq_told])), (tq_numbers, .inl (cJ, 4200, .inr (.inl t_numbers))), (tq_sizes, .inl (cI, 4200, .inl t_sizes)), (tq_letters, .inl (cB, 4200, .inl t_letters)), (ob1, .inr (0, [.ref oq_bytes, .int o_length, .int o_at, .int o_deep, .int o_fault, .int o_place, .int o_end, .int o_nodes, .ref oq_kinds, .ref oq_firsts, .ref oq_numbers, .ref oq_sizes, .ref oq_inner, .ref oq_nexts, .ref oq_letters, .int o_lettered, .int o_shapes, .int o_looked, .ref oq_sorts, .ref oq_names, .ref oq_wide, .ref oq_kids, .ref oq_many, .ref oq_fallback, .int o_kidCount, .ref oq_kidShape, .ref oq_kidName, .ref oq_kidDefault, .ref oq_kidNext, .int o_done, .ref oq_finished, .int o_root, .ref oq_plain, .int o_plainSize, .ref oq_told])), (oq_numbers, .inl (cJ, 4200, .inr (.inl o_numbers))), (oq_sizes, .inl (cI, 4200, .inl o_sizes)), (oq_letters, .inl (cB, 4200, .inl o_letters))]) (k2_QcV (.int res)) 0 0 (fun _ => False) := by
  refine Met.ofW (cc := cX9_same) (maxL := 5) (ret := (some .boolean)) (by decide) rfl ?_
  intro p e s m args below meth c s₁ B hml hv
  obtain ⟨rfl, hP, hK, hz0⟩ := hv
  have hx := B.exec
  have hb := B.bytes
  have hr := B.returns
  have hts := atoms_spec (ws := wsX9_same) B.pre
  have hown : s.vm.findClass RX9 = some m.cls := findClass_of_methodNamed B.named
  have hlocks := B.notSynchronized
  have hS : va_S (fun _ => False) s.heap s.heap [] := va_S.rf
  generalize hQ0 : MQ below (k2_QcV (.int res)) [.ref ob0, .int a0, .ref ob1, .int a2].toArray s 0 0 (fun _ => False) = Q0
  have hl := lv_entry [.ref ob0, .int a0, .ref ob1, .int a2] (n := 5) (Nat.le_of_ble_eq_true rfl)
  rw [lg_entry_eq]
  generalize (lg_sl [.ref ob0, .int a0, .ref ob1, .int a2] ++ List.replicate (5 - (lg_sl [.ref ob0, .int a0, .ref ob1, .int a2]).length) Slot.unset).toArray = ls at hl ⊢
  have hl : lv_has ls 5 [(0, .ref ob0), (1, .int a0), (2, .ref ob1), (3, .int a2)] := hl
  unfold m_X9_same at hm
  refine lv_aload_n hx hb dX9_same_0 rfl (lv_at hl 0 rfl) ?_
  refine va_get (D := (dC, dI)) (ci := 0) (v := .ref tq_sizes) (C := RX9) (T := TX9) (N := 35) hx hb hts (inX9 _) hown hK hP 0 rfl rfl 11 (by decide) (hts _ (List.mem_cons_of_mem _ wf9_26)) (fun _ h9 => h9) rfl dX9_same_1 ?_
  refine lv_iload_n hx hb dX9_same_4 rfl (lv_at hl 1 rfl) ?_
  obtain ⟨h1, hm⟩ := mr_bd hm
  refine va_iald hx hb hK hP 2 0 rfl rfl h1 dX9_same_5 ?_
  refine lv_aload_n hx hb dX9_same_6 rfl (lv_at hl 2 rfl) ?_
  refine va_get (D := (dC, dI)) (ci := 0) (v := .ref oq_sizes) (C := RX9) (T := TX9) (N := 35) hx hb hts (inX9 _) hown hK hP 4 rfl rfl 11 (by decide) (hts _ (List.mem_cons_of_mem _ wf9_26)) (fun _ h9 => h9) rfl dX9_same_7 ?_
  refine lv_iload_n hx hb dX9_same_10 rfl (lv_at hl 3 rfl) ?_
  obtain ⟨h2, hm⟩ := mr_bd hm
  refine va_iald hx hb hK hP 6 0 rfl rfl h2 dX9_same_11 ?_
  refine lv_icmp_eq (tgt := 17) hx hb dX9_same_12 (by decide) (fun c3 => ?_) (fun c3 => ?_)
  · have hm := mr_if c3 hm
    refine lv_iconst (v := 0) hx hb dX9_same_17 (by decide) ?_
    have j20 : ∀ (n20 : Nat) (x1 : Int32) (x3 : Int32) (x4 : Int32) (ls : Array Slot), lv_has ls 5 [(0, .ref ob0), (1, .int x1), (2, .ref ob1), (3, .int x3), (4, .int x4)] → m_X9_same_20 t_numbers t_sizes t_letters o_numbers o_sizes o_letters n20 x1 x3 x4 = some res → W p l e (headSpec wsX9_same (rmX9_same 0 0)).room s m [.ref ob0, .int a0, .ref ob1, .int a2].toArray below meth c s.heap [] 0 0 Q0 (F0 m 20 ls []) := by
      intro n20
      induction n20 with
      | zero => intro x1 x3 x4 ls hl hm; exact nomatch (show (none : Option _) = some res from hm)
      | succ n20 ih20 =>
        intro x1 x3 x4 ls hl hm
        rw [m_X9_same_20] at hm
        refine lv_iload hx hb dX9_same_20 (lv_at hl 4 rfl) ?_
        refine lv_aload_n hx hb dX9_same_22 rfl (lv_at hl 0 rfl) ?_
        refine va_get (D := (dC, dI)) (ci := 0) (v := .ref tq_sizes) (C := RX9) (T := TX9) (N := 35) hx hb hts (inX9 _) hown hK hP 0 rfl rfl 11 (by decide) (hts _ (List.mem_cons_of_mem _ wf9_26)) (fun _ h9 => h9) rfl dX9_same_23 ?_
        refine lv_iload_n hx hb dX9_same_26 rfl (lv_at hl 1 rfl) ?_
        obtain ⟨h4, hm⟩ := mr_bd hm
        refine va_iald hx hb hK hP 2 0 rfl rfl h4 dX9_same_27 ?_
        refine lv_icmp_ge (tgt := 72) hx hb dX9_same_28 (by decide) (fun c5 => ?_) (fun c5 => ?_)
        · have hm := mr_if c5 hm
          refine lv_iconst (v := 1) hx hb dX9_same_72 (by decide) ?_
          obtain rfl := Option.some.inj hm
          subst hQ0
          exact W.zret (v := 1) hx hb hr rfl (fun t ht hW => ⟨rfl, ht⟩) (fun q h => by cases h) dX9_same_73
        · have hm := mr_un c5 hm
          refine lv_aload_n hx hb dX9_same_31 rfl (lv_at hl 0 rfl) ?_
          refine va_get (D := (dC, dI)) (ci := 0) (v := .ref tq_letters) (C := RX9) (T := TX9) (N := 35) hx hb hts (inX9 _) hown hK hP 0 rfl rfl 14 (by decide) (hts _ (List.mem_cons_of_mem _ wf9_35)) (fun _ h9 => h9) rfl dX9_same_32 ?_
          refine lv_aload_n hx hb dX9_same_35 rfl (lv_at hl 0 rfl) ?_
          refine va_get (D := (dC, dI)) (ci := 0) (v := .ref tq_numbers) (C := RX9) (T := TX9) (N := 35) hx hb hts (inX9 _) hown hK hP 0 rfl rfl 10 (by decide) (hts _ (List.mem_cons_of_mem _ wf9_22)) (fun _ h9 => h9) rfl dX9_same_36 ?_
          refine lv_iload_n hx hb dX9_same_39 rfl (lv_at hl 1 rfl) ?_
          obtain ⟨h6, hm⟩ := mr_bd hm
          refine va_lald hx hb hK hP 1 2 rfl rfl h6 dX9_same_40 ?_
          refine lv_l2i hx hb dX9_same_41 rfl ?_
          refine lv_iload hx hb dX9_same_42 (lv_at hl 4 rfl) ?_
          refine lv_iadd hx hb dX9_same_44 ?_
          obtain ⟨h7, hm⟩ := mr_bd hm
          refine va_bald hx hb hK hP 3 1 rfl rfl h7 dX9_same_45 ?_
          refine lv_aload_n hx hb dX9_same_46 rfl (lv_at hl 2 rfl) ?_
          refine va_get (D := (dC, dI)) (ci := 0) (v := .ref oq_letters) (C := RX9) (T := TX9) (N := 35) hx hb hts (inX9 _) hown hK hP 4 rfl rfl 14 (by decide) (hts _ (List.mem_cons_of_mem _ wf9_35)) (fun _ h9 => h9) rfl dX9_same_47 ?_
          refine lv_aload_n hx hb dX9_same_50 rfl (lv_at hl 2 rfl) ?_
          refine va_get (D := (dC, dI)) (ci := 0) (v := .ref oq_numbers) (C := RX9) (T := TX9) (N := 35) hx hb hts (inX9 _) hown hK hP 4 rfl rfl 10 (by decide) (hts _ (List.mem_cons_of_mem _ wf9_22)) (fun _ h9 => h9) rfl dX9_same_51 ?_
          refine lv_iload_n hx hb dX9_same_54 rfl (lv_at hl 3 rfl) ?_
          obtain ⟨h8, hm⟩ := mr_bd hm
          refine va_lald hx hb hK hP 5 2 rfl rfl h8 dX9_same_55 ?_
          refine lv_l2i hx hb dX9_same_56 rfl ?_
          refine lv_iload hx hb dX9_same_57 (lv_at hl 4 rfl) ?_
          refine lv_iadd hx hb dX9_same_59 ?_
          obtain ⟨h9, hm⟩ := mr_bd hm
          refine va_bald hx hb hK hP 7 1 rfl rfl h9 dX9_same_60 ?_
          refine lv_icmp_eq (tgt := 66) hx hb dX9_same_61 (by decide) (fun c10 => ?_) (fun c10 => ?_)
          · have hm := mr_if c10 hm
            refine lv_iinc (v := x4 + 1) (lv' := [(4, .int (x4 + 1)), (0, .ref ob0), (1, .int x1), (2, .ref ob1), (3, .int x3)]) hx hb dX9_same_66 hl (k := 4) rfl rfl (by decide) rfl (fun ls hl => ?_)
            refine lv_goto (tgt := 20) hx hb dX9_same_69 (by decide) ?_
            exact ih20 x1 x3 (x4 + 1) ls (lv_sub hl [1, 2, 3, 4, 0] rfl) hm
          · have hm := mr_un c10 hm
            refine lv_iconst (v := 0) hx hb dX9_same_64 (by decide) ?_
            obtain rfl := Option.some.inj hm
            subst hQ0
            exact W.zret (v := 0) hx hb hr rfl (fun t ht hW => ⟨rfl, ht⟩) (fun q h => by cases h) dX9_same_65
    refine lv_istore (lv' := [(4, .int 0), (0, .ref ob0), (1, .int a0), (2, .ref ob1), (3, .int a2)]) hx hb dX9_same_18 hl (by decide) rfl (fun ls hl => ?_)
    exact j20 sr_fuel a0 a2 0 ls (lv_sub hl [1, 2, 3, 4, 0] rfl) hm
  · have hm := mr_un c3 hm
    refine lv_iconst (v := 0) hx hb dX9_same_15 (by decide) ?_
    obtain rfl := Option.some.inj hm
    subst hQ0
    exact W.zret (v := 0) hx hb hr rfl (fun t ht hW => ⟨rfl, ht⟩) (fun q h => by cases h) dX9_same_16
set_option maxHeartbeats 4000000 in
set_option maxRecDepth 100000 in
theorem kX9_isName (l : Launch) (htr : l.stackTraces = false) (dC : Nat → ClassId) (dI : Nat → Nat → Nat) (adK adV : Nat → Nat) (cI cB cJ cZ cQ : ClassId) (ob0 tq_bytes tq_kinds tq_firsts tq_numbers tq_sizes tq_inner tq_nexts tq_letters tq_sorts tq_names tq_wide tq_kids tq_many tq_fallback tq_kidShape tq_kidName tq_kidDefault tq_kidNext tq_finished tq_plain tq_told : Nat) (t_length : Int32) (t_at : Int32) (t_deep : Int32) (t_fault : Int32) (t_place : Int32) (t_end : Int32) (t_nodes : Int32) (t_lettered : Int32) (t_shapes : Int32) (t_looked : Int32) (t_kidCount : Int32) (t_done : Int32) (t_root : Int32) (t_plainSize : Int32) (t_kinds : Nat → Int32) (t_numbers : Nat → Int64) (t_sizes : Nat → Int32) (t_letters : Nat → Int32) (a0 : Int32) (res : Int32) (hm : m_X9_isName t_kinds t_numbers t_sizes t_letters a0 = some res) : Met l yX9_isName wsX9_isName (rmX9_isName 0 0) (pcR (sr_Z adK adV) (dC, dI) srCl [(cI, .int), (cB, .byte), (cJ, .long), (cZ, .boolean), (cQ, .object "SchemaReader$Schema")] [.ref ob0, .int a0] [(ob0, .inr (0, [.ref tq_bytes, .int t_length, .int t_at, .int t_deep, .int t_fault, .int t_place, .int t_end, .int t_nodes, .ref tq_kinds, .ref tq_firsts, .ref tq_numbers, .ref tq_sizes, .ref tq_inner, .ref tq_nexts, .ref tq_letters, .int t_lettered, .int t_shapes, .int t_looked, .ref tq_sorts, .ref tq_names, .ref tq_wide, .ref tq_kids, .ref tq_many, .ref tq_fallback, .int t_kidCount, .ref tq_kidShape, .ref tq_kidName, .ref tq_kidDefault, .ref tq_kidNext, .int t_done, .ref tq_finished, .int t_root, .ref tq_plain, .int t_plainSize, .ref tq_told])), (tq_kinds, .inl (cI, 4200, .inl t_kinds)), (tq_numbers, .inl (cJ, 4200, .inr (.inl t_numbers))), (tq_sizes, .inl (cI, 4200, .inl t_sizes)), (tq_letters, .inl (cB, 4200, .inl t_letters))]) (k2_QcV (.int res)) 0 0 (fun _ => False) := by
  refine Met.ofW (cc := cX9_isName) (maxL := 6) (ret := (some .boolean)) (by decide) rfl ?_
  intro p e s m args below meth c s₁ B hml hv
  obtain ⟨rfl, hP, hK, hz0⟩ := hv
  have hx := B.exec
  have hb := B.bytes
  have hr := B.returns
  have hts := atoms_spec (ws := wsX9_isName) B.pre
  have hown : s.vm.findClass RX9 = some m.cls := findClass_of_methodNamed B.named
  have hlocks := B.notSynchronized
  have hS : va_S (fun _ => False) s.heap s.heap [] := va_S.rf
  generalize hQ0 : MQ below (k2_QcV (.int res)) [.ref ob0, .int a0].toArray s 0 0 (fun _ => False) = Q0
  have hl := lv_entry [.ref ob0, .int a0] (n := 6) (Nat.le_of_ble_eq_true rfl)
  rw [lg_entry_eq]
  generalize (lg_sl [.ref ob0, .int a0] ++ List.replicate (6 - (lg_sl [.ref ob0, .int a0]).length) Slot.unset).toArray = ls at hl ⊢
  have hl : lv_has ls 6 [(0, .ref ob0), (1, .int a0)] := hl
  unfold m_X9_isName at hm
  refine lv_aload_n hx hb dX9_isName_0 rfl (lv_at hl 0 rfl) ?_
  refine va_get (D := (dC, dI)) (ci := 0) (v := .ref tq_kinds) (C := RX9) (T := TX9) (N := 35) hx hb hts (inX9 _) hown hK hP 0 rfl rfl 8 (by decide) (hts _ (List.mem_cons_of_mem _ wf9_15)) (fun _ h9 => h9) rfl dX9_isName_1 ?_
  refine lv_iload_n hx hb dX9_isName_4 rfl (lv_at hl 1 rfl) ?_
  obtain ⟨h1, hm⟩ := mr_bd hm
  refine va_iald hx hb hK hP 1 0 rfl rfl h1 dX9_isName_5 ?_
  refine lv_iconst (v := 2) hx hb dX9_isName_6 (by decide) ?_
  refine lv_icmp_ne (tgt := 34) hx hb dX9_isName_7 (by decide) (fun c2 => ?_) (fun c2 => ?_)
  · have hm := mr_un c2 hm
    refine lv_iconst (v := 0) hx hb dX9_isName_34 (by decide) ?_
    refine lv_istore_n (lv' := [(2, .int 0), (0, .ref ob0), (1, .int a0)]) hx hb dX9_isName_35 rfl hl (by decide) rfl (fun ls hl => ?_)
    refine lv_iconst (v := 0) hx hb dX9_isName_36 (by decide) ?_
    have j38 : ∀ (n38 : Nat) (x1 : Int32) (x2 : Int32) (x3 : Int32) (ls : Array Slot), lv_has ls 6 [(0, .ref ob0), (1, .int x1), (2, .int x2), (3, .int x3)] → m_X9_isName_38 t_kinds t_numbers t_sizes t_letters n38 x1 x2 x3 = some res → W p l e (headSpec wsX9_isName (rmX9_isName 0 0)).room s m [.ref ob0, .int a0].toArray below meth c s.heap [] 0 0 Q0 (F0 m 38 ls []) := by
      intro n38
      induction n38 with
      | zero => intro x1 x2 x3 ls hl hm; exact nomatch (show (none : Option _) = some res from hm)
      | succ n38 ih38 =>
        intro x1 x2 x3 ls hl hm
        rw [m_X9_isName_38] at hm
        refine lv_iload_n hx hb dX9_isName_38 rfl (lv_at hl 3 rfl) ?_
        refine lv_aload_n hx hb dX9_isName_39 rfl (lv_at hl 0 rfl) ?_
        refine va_get (D := (dC, dI)) (ci := 0) (v := .ref tq_sizes) (C := RX9) (T := TX9) (N := 35) hx hb hts (inX9 _) hown hK hP 0 rfl rfl 11 (by decide) (hts _ (List.mem_cons_of_mem _ wf9_26)) (fun _ h9 => h9) rfl dX9_isName_40 ?_
        refine lv_iload_n hx hb dX9_isName_43 rfl (lv_at hl 1 rfl) ?_
        obtain ⟨h3, hm⟩ := mr_bd hm
        refine va_iald hx hb hK hP 3 0 rfl rfl h3 dX9_isName_44 ?_
        refine lv_icmp_ge (tgt := 145) hx hb dX9_isName_45 (by decide) (fun c4 => ?_) (fun c4 => ?_)
        · have hm := mr_if c4 hm
          refine lv_iload_n hx hb dX9_isName_145 rfl (lv_at hl 2 rfl) ?_
          obtain ⟨h5, hm⟩ := mr_bz hm
          obtain rfl := Option.some.inj hm
          subst hQ0
          exact W.zret (v := x2) hx hb hr h5 (fun t ht hW => ⟨rfl, ht⟩) (fun q h => by cases h) dX9_isName_146
        · have hm := mr_un c4 hm
          refine lv_iload_n hx hb dX9_isName_48 rfl (lv_at hl 2 rfl) ?_
          refine lv_if_eq (tgt := 145) hx hb dX9_isName_49 (by decide) (fun c6 => ?_) (fun c6 => ?_)
          · have hm := mr_if c6 hm
            refine lv_iload_n hx hb dX9_isName_145 rfl (lv_at hl 2 rfl) ?_
            obtain ⟨h7, hm⟩ := mr_bz hm
            obtain rfl := Option.some.inj hm
            subst hQ0
            exact W.zret (v := x2) hx hb hr h7 (fun t ht hW => ⟨rfl, ht⟩) (fun q h => by cases h) dX9_isName_146
          · have hm := mr_un c6 hm
            refine lv_aload_n hx hb dX9_isName_52 rfl (lv_at hl 0 rfl) ?_
            refine va_get (D := (dC, dI)) (ci := 0) (v := .ref tq_letters) (C := RX9) (T := TX9) (N := 35) hx hb hts (inX9 _) hown hK hP 0 rfl rfl 14 (by decide) (hts _ (List.mem_cons_of_mem _ wf9_35)) (fun _ h9 => h9) rfl dX9_isName_53 ?_
            refine lv_aload_n hx hb dX9_isName_56 rfl (lv_at hl 0 rfl) ?_
            refine va_get (D := (dC, dI)) (ci := 0) (v := .ref tq_numbers) (C := RX9) (T := TX9) (N := 35) hx hb hts (inX9 _) hown hK hP 0 rfl rfl 10 (by decide) (hts _ (List.mem_cons_of_mem _ wf9_22)) (fun _ h9 => h9) rfl dX9_isName_57 ?_
            refine lv_iload_n hx hb dX9_isName_60 rfl (lv_at hl 1 rfl) ?_
            obtain ⟨h8, hm⟩ := mr_bd hm
            refine va_lald hx hb hK hP 2 2 rfl rfl h8 dX9_isName_61 ?_
            refine lv_l2i hx hb dX9_isName_62 rfl ?_
            refine lv_iload_n hx hb dX9_isName_63 rfl (lv_at hl 3 rfl) ?_
            refine lv_iadd hx hb dX9_isName_64 ?_
            obtain ⟨h9, hm⟩ := mr_bd hm
            refine va_bald hx hb hK hP 4 1 rfl rfl h9 dX9_isName_65 ?_
            refine lv_istore (lv' := [(4, .int (t_letters (((((t_numbers (x1 : Int32).toNatClampNeg) : Int64).toInt32) + x3) : Int32).toNatClampNeg)), (0, .ref ob0), (1, .int x1), (2, .int x2), (3, .int x3)]) hx hb dX9_isName_66 hl (by decide) rfl (fun ls hl => ?_)
            refine lv_iload hx hb dX9_isName_68 (lv_at hl 0 rfl) ?_
            refine lv_bipush (v := 48) hx hb dX9_isName_70 (by decide) ?_
            have j87 : ∀ (x1 : Int32) (x3 : Int32) (x4 : Int32) (y0 : Int32) (ls : Array Slot), lv_has ls 6 [(0, .ref ob0), (1, .int x1), (3, .int x3), (4, .int x4)] → m_X9_isName_87 t_kinds t_numbers t_sizes t_letters (m_X9_isName_38 t_kinds t_numbers t_sizes t_letters n38) x1 x3 x4 y0 = some res → W p l e (headSpec wsX9_isName (rmX9_isName 0 0)).room s m [.ref ob0, .int a0].toArray below meth c s.heap [] 0 0 Q0 (F0 m 87 ls [.int y0]) := by
              intro x1 x3 x4 y0 ls hl hm
              unfold m_X9_isName_87 at hm
              refine lv_istore (lv' := [(5, .int y0), (0, .ref ob0), (1, .int x1), (3, .int x3), (4, .int x4)]) hx hb dX9_isName_87 hl (by decide) rfl (fun ls hl => ?_)
              refine lv_iload hx hb dX9_isName_89 (lv_at hl 4 rfl) ?_
              refine lv_bipush (v := 97) hx hb dX9_isName_91 (by decide) ?_
              have j133 : ∀ (x1 : Int32) (x3 : Int32) (ls : Array Slot), lv_has ls 6 [(0, .ref ob0), (1, .int x1), (3, .int x3)] → m_X9_isName_133 t_kinds t_numbers t_sizes t_letters (m_X9_isName_38 t_kinds t_numbers t_sizes t_letters n38) x1 x3 = some res → W p l e (headSpec wsX9_isName (rmX9_isName 0 0)).room s m [.ref ob0, .int a0].toArray below meth c s.heap [] 0 0 Q0 (F0 m 133 ls []) := by
                intro x1 x3 ls hl hm
                unfold m_X9_isName_133 at hm
                refine lv_iconst (v := 1) hx hb dX9_isName_133 (by decide) ?_
                refine lv_goto (tgt := 138) hx hb dX9_isName_134 (by decide) ?_
                refine lv_istore_n (lv' := [(2, .int 1), (0, .ref ob0), (1, .int x1), (3, .int x3)]) hx hb dX9_isName_138 rfl hl (by decide) rfl (fun ls hl => ?_)
                refine lv_iinc (v := x3 + 1) (lv' := [(3, .int (x3 + 1)), (2, .int 1), (0, .ref ob0), (1, .int x1)]) hx hb dX9_isName_139 hl (k := 3) rfl rfl (by decide) rfl (fun ls hl => ?_)
                refine lv_goto (tgt := 38) hx hb dX9_isName_142 (by decide) ?_
                exact ih38 x1 1 (x3 + 1) ls (lv_sub hl [2, 3, 1, 0] rfl) hm
              have j103 : ∀ (x1 : Int32) (x3 : Int32) (x4 : Int32) (x5 : Int32) (ls : Array Slot), lv_has ls 6 [(0, .ref ob0), (1, .int x1), (3, .int x3), (4, .int x4), (5, .int x5)] → m_X9_isName_103 t_kinds t_numbers t_sizes t_letters (m_X9_isName_38 t_kinds t_numbers t_sizes t_letters n38) x1 x3 x4 x5 = some res → W p l e (headSpec wsX9_isName (rmX9_isName 0 0)).room s m [.ref ob0, .int a0].toArray below meth c s.heap [] 0 0 Q0 (F0 m 103 ls []) := by
                intro x1 x3 x4 x5 ls hl hm
                unfold m_X9_isName_103 at hm
                refine lv_iload hx hb dX9_isName_103 (lv_at hl 3 rfl) ?_
                refine lv_bipush (v := 65) hx hb dX9_isName_105 (by decide) ?_
                have j117 : ∀ (x1 : Int32) (x3 : Int32) (x4 : Int32) (x5 : Int32) (ls : Array Slot), lv_has ls 6 [(0, .ref ob0), (1, .int x1), (3, .int x3), (4, .int x4), (5, .int x5)] → m_X9_isName_117 t_kinds t_numbers t_sizes t_letters (m_X9_isName_38 t_kinds t_numbers t_sizes t_letters n38) x1 x3 x4 x5 = some res → W p l e (headSpec wsX9_isName (rmX9_isName 0 0)).room s m [.ref ob0, .int a0].toArray below meth c s.heap [] 0 0 Q0 (F0 m 117 ls []) := by
                  intro x1 x3 x4 x5 ls hl hm
                  unfold m_X9_isName_117 at hm
                  refine lv_iload hx hb dX9_isName_117 (lv_at hl 3 rfl) ?_
                  refine lv_bipush (v := 95) hx hb dX9_isName_119 (by decide) ?_
                  refine lv_icmp_eq (tgt := 133) hx hb dX9_isName_121 (by decide) (fun c10 => ?_) (fun c10 => ?_)
                  · have hm := mr_if c10 hm
                    exact j133 x1 x3 ls (lv_sub hl [0, 1, 2] rfl) hm
                  · have hm := mr_un c10 hm
                    refine lv_iload hx hb dX9_isName_124 (lv_at hl 4 rfl) ?_
                    refine lv_if_eq (tgt := 137) hx hb dX9_isName_126 (by decide) (fun c11 => ?_) (fun c11 => ?_)
                    · have hm := mr_if c11 hm
                      refine lv_iconst (v := 0) hx hb dX9_isName_137 (by decide) ?_
                      refine lv_istore_n (lv' := [(2, .int 0), (0, .ref ob0), (1, .int x1), (3, .int x3), (4, .int x4), (5, .int x5)]) hx hb dX9_isName_138 rfl hl (by decide) rfl (fun ls hl => ?_)
                      refine lv_iinc (v := x3 + 1) (lv' := [(3, .int (x3 + 1)), (2, .int 0), (0, .ref ob0), (1, .int x1), (4, .int x4), (5, .int x5)]) hx hb dX9_isName_139 hl (k := 3) rfl rfl (by decide) rfl (fun ls hl => ?_)
                      refine lv_goto (tgt := 38) hx hb dX9_isName_142 (by decide) ?_
                      exact ih38 x1 0 (x3 + 1) ls (lv_sub hl [2, 3, 1, 0] rfl) hm
                    · have hm := mr_un c11 hm
                      refine lv_iload_n hx hb dX9_isName_129 rfl (lv_at hl 2 rfl) ?_
                      refine lv_if_le (tgt := 137) hx hb dX9_isName_130 (by decide) (fun c12 => ?_) (fun c12 => ?_)
                      · have hm := mr_if c12 hm
                        refine lv_iconst (v := 0) hx hb dX9_isName_137 (by decide) ?_
                        refine lv_istore_n (lv' := [(2, .int 0), (0, .ref ob0), (1, .int x1), (3, .int x3), (4, .int x4), (5, .int x5)]) hx hb dX9_isName_138 rfl hl (by decide) rfl (fun ls hl => ?_)
                        refine lv_iinc (v := x3 + 1) (lv' := [(3, .int (x3 + 1)), (2, .int 0), (0, .ref ob0), (1, .int x1), (4, .int x4), (5, .int x5)]) hx hb dX9_isName_139 hl (k := 3) rfl rfl (by decide) rfl (fun ls hl => ?_)
                        refine lv_goto (tgt := 38) hx hb dX9_isName_142 (by decide) ?_
                        exact ih38 x1 0 (x3 + 1) ls (lv_sub hl [2, 3, 1, 0] rfl) hm
                      · have hm := mr_un c12 hm
                        exact j133 x1 x3 ls (lv_sub hl [0, 1, 2] rfl) hm
                refine lv_icmp_lt (tgt := 117) hx hb dX9_isName_107 (by decide) (fun c13 => ?_) (fun c13 => ?_)
                · have hm := mr_if c13 hm
                  exact j117 x1 x3 x4 x5 ls (lv_sub hl [0, 1, 2, 3, 4] rfl) hm
                · have hm := mr_un c13 hm
                  refine lv_iload hx hb dX9_isName_110 (lv_at hl 3 rfl) ?_
                  refine lv_bipush (v := 90) hx hb dX9_isName_112 (by decide) ?_
                  refine lv_icmp_le (tgt := 133) hx hb dX9_isName_114 (by decide) (fun c14 => ?_) (fun c14 => ?_)
                  · have hm := mr_if c14 hm
                    exact j133 x1 x3 ls (lv_sub hl [0, 1, 2] rfl) hm
                  · have hm := mr_un c14 hm
                    exact j117 x1 x3 x4 x5 ls (lv_sub hl [0, 1, 2, 3, 4] rfl) hm
              refine lv_icmp_lt (tgt := 103) hx hb dX9_isName_93 (by decide) (fun c15 => ?_) (fun c15 => ?_)
              · have hm := mr_if c15 hm
                exact j103 x1 x3 x4 y0 ls (lv_sub hl [1, 2, 3, 4, 0] rfl) hm
              · have hm := mr_un c15 hm
                refine lv_iload hx hb dX9_isName_96 (lv_at hl 4 rfl) ?_
                refine lv_bipush (v := 122) hx hb dX9_isName_98 (by decide) ?_
                refine lv_icmp_le (tgt := 133) hx hb dX9_isName_100 (by decide) (fun c16 => ?_) (fun c16 => ?_)
                · have hm := mr_if c16 hm
                  exact j133 x1 x3 ls (lv_sub hl [1, 2, 3] rfl) hm
                · have hm := mr_un c16 hm
                  exact j103 x1 x3 x4 y0 ls (lv_sub hl [1, 2, 3, 4, 0] rfl) hm
            have j86 : ∀ (x1 : Int32) (x3 : Int32) (x4 : Int32) (ls : Array Slot), lv_has ls 6 [(0, .ref ob0), (1, .int x1), (3, .int x3), (4, .int x4)] → m_X9_isName_86 t_kinds t_numbers t_sizes t_letters (m_X9_isName_38 t_kinds t_numbers t_sizes t_letters n38) x1 x3 x4 = some res → W p l e (headSpec wsX9_isName (rmX9_isName 0 0)).room s m [.ref ob0, .int a0].toArray below meth c s.heap [] 0 0 Q0 (F0 m 86 ls []) := by
              intro x1 x3 x4 ls hl hm
              unfold m_X9_isName_86 at hm
              refine lv_iconst (v := 0) hx hb dX9_isName_86 (by decide) ?_
              exact j87 x1 x3 x4 0 ls (lv_sub hl [0, 1, 2, 3] rfl) hm
            refine lv_icmp_lt (tgt := 86) hx hb dX9_isName_72 (by decide) (fun c17 => ?_) (fun c17 => ?_)
            · have hm := mr_if c17 hm
              exact j86 x1 x3 (t_letters (((((t_numbers (x1 : Int32).toNatClampNeg) : Int64).toInt32) + x3) : Int32).toNatClampNeg) ls (lv_sub hl [1, 2, 4, 0] rfl) hm
            · have hm := mr_un c17 hm
              refine lv_iload hx hb dX9_isName_75 (lv_at hl 0 rfl) ?_
              refine lv_bipush (v := 57) hx hb dX9_isName_77 (by decide) ?_
              refine lv_icmp_gt (tgt := 86) hx hb dX9_isName_79 (by decide) (fun c18 => ?_) (fun c18 => ?_)
              · have hm := mr_if c18 hm
                exact j86 x1 x3 (t_letters (((((t_numbers (x1 : Int32).toNatClampNeg) : Int64).toInt32) + x3) : Int32).toNatClampNeg) ls (lv_sub hl [1, 2, 4, 0] rfl) hm
              · have hm := mr_un c18 hm
                refine lv_iconst (v := 1) hx hb dX9_isName_82 (by decide) ?_
                refine lv_goto (tgt := 87) hx hb dX9_isName_83 (by decide) ?_
                exact j87 x1 x3 (t_letters (((((t_numbers (x1 : Int32).toNatClampNeg) : Int64).toInt32) + x3) : Int32).toNatClampNeg) 1 ls (lv_sub hl [1, 2, 4, 0] rfl) hm
    refine lv_istore_n (lv' := [(3, .int 0), (2, .int 0), (0, .ref ob0), (1, .int a0)]) hx hb dX9_isName_37 rfl hl (by decide) rfl (fun ls hl => ?_)
    exact j38 sr_fuel a0 0 0 ls (lv_sub hl [2, 3, 1, 0] rfl) hm
  · have hm := mr_if c2 hm
    refine lv_aload_n hx hb dX9_isName_10 rfl (lv_at hl 0 rfl) ?_
    refine va_get (D := (dC, dI)) (ci := 0) (v := .ref tq_sizes) (C := RX9) (T := TX9) (N := 35) hx hb hts (inX9 _) hown hK hP 0 rfl rfl 11 (by decide) (hts _ (List.mem_cons_of_mem _ wf9_26)) (fun _ h9 => h9) rfl dX9_isName_11 ?_
    refine lv_iload_n hx hb dX9_isName_14 rfl (lv_at hl 1 rfl) ?_
    obtain ⟨h19, hm⟩ := mr_bd hm
    refine va_iald hx hb hK hP 3 0 rfl rfl h19 dX9_isName_15 ?_
    refine lv_if_le (tgt := 34) hx hb dX9_isName_16 (by decide) (fun c20 => ?_) (fun c20 => ?_)
    · have hm := mr_if c20 hm
      refine lv_iconst (v := 0) hx hb dX9_isName_34 (by decide) ?_
      refine lv_istore_n (lv' := [(2, .int 0), (0, .ref ob0), (1, .int a0)]) hx hb dX9_isName_35 rfl hl (by decide) rfl (fun ls hl => ?_)
      refine lv_iconst (v := 0) hx hb dX9_isName_36 (by decide) ?_
      have j38 : ∀ (n38 : Nat) (x1 : Int32) (x2 : Int32) (x3 : Int32) (ls : Array Slot), lv_has ls 6 [(0, .ref ob0), (1, .int x1), (2, .int x2), (3, .int x3)] → m_X9_isName_38 t_kinds t_numbers t_sizes t_letters n38 x1 x2 x3 = some res → W p l e (headSpec wsX9_isName (rmX9_isName 0 0)).room s m [.ref ob0, .int a0].toArray below meth c s.heap [] 0 0 Q0 (F0 m 38 ls []) := by
        intro n38
        induction n38 with
        | zero => intro x1 x2 x3 ls hl hm; exact nomatch (show (none : Option _) = some res from hm)
        | succ n38 ih38 =>
          intro x1 x2 x3 ls hl hm
          rw [m_X9_isName_38] at hm
          refine lv_iload_n hx hb dX9_isName_38 rfl (lv_at hl 3 rfl) ?_
          refine lv_aload_n hx hb dX9_isName_39 rfl (lv_at hl 0 rfl) ?_
          refine va_get (D := (dC, dI)) (ci := 0) (v := .ref tq_sizes) (C := RX9) (T := TX9) (N := 35) hx hb hts (inX9 _) hown hK hP 0 rfl rfl 11 (by decide) (hts _ (List.mem_cons_of_mem _ wf9_26)) (fun _ h9 => h9) rfl dX9_isName_40 ?_
          refine lv_iload_n hx hb dX9_isName_43 rfl (lv_at hl 1 rfl) ?_
          obtain ⟨h21, hm⟩ := mr_bd hm
          refine va_iald hx hb hK hP 3 0 rfl rfl h21 dX9_isName_44 ?_
          refine lv_icmp_ge (tgt := 145) hx hb dX9_isName_45 (by decide) (fun c22 => ?_) (fun c22 => ?_)
          · have hm := mr_if c22 hm
            refine lv_iload_n hx hb dX9_isName_145 rfl (lv_at hl 2 rfl) ?_
            obtain ⟨h23, hm⟩ := mr_bz hm
            obtain rfl := Option.some.inj hm
            subst hQ0
            exact W.zret (v := x2) hx hb hr h23 (fun t ht hW => ⟨rfl, ht⟩) (fun q h => by cases h) dX9_isName_146
          · have hm := mr_un c22 hm
            refine lv_iload_n hx hb dX9_isName_48 rfl (lv_at hl 2 rfl) ?_
            refine lv_if_eq (tgt := 145) hx hb dX9_isName_49 (by decide) (fun c24 => ?_) (fun c24 => ?_)
            · have hm := mr_if c24 hm
              refine lv_iload_n hx hb dX9_isName_145 rfl (lv_at hl 2 rfl) ?_
              obtain ⟨h25, hm⟩ := mr_bz hm
              obtain rfl := Option.some.inj hm
              subst hQ0
              exact W.zret (v := x2) hx hb hr h25 (fun t ht hW => ⟨rfl, ht⟩) (fun q h => by cases h) dX9_isName_146
            · have hm := mr_un c24 hm
              refine lv_aload_n hx hb dX9_isName_52 rfl (lv_at hl 0 rfl) ?_
              refine va_get (D := (dC, dI)) (ci := 0) (v := .ref tq_letters) (C := RX9) (T := TX9) (N := 35) hx hb hts (inX9 _) hown hK hP 0 rfl rfl 14 (by decide) (hts _ (List.mem_cons_of_mem _ wf9_35)) (fun _ h9 => h9) rfl dX9_isName_53 ?_
              refine lv_aload_n hx hb dX9_isName_56 rfl (lv_at hl 0 rfl) ?_
              refine va_get (D := (dC, dI)) (ci := 0) (v := .ref tq_numbers) (C := RX9) (T := TX9) (N := 35) hx hb hts (inX9 _) hown hK hP 0 rfl rfl 10 (by decide) (hts _ (List.mem_cons_of_mem _ wf9_22)) (fun _ h9 => h9) rfl dX9_isName_57 ?_
              refine lv_iload_n hx hb dX9_isName_60 rfl (lv_at hl 1 rfl) ?_
              obtain ⟨h26, hm⟩ := mr_bd hm
              refine va_lald hx hb hK hP 2 2 rfl rfl h26 dX9_isName_61 ?_
              refine lv_l2i hx hb dX9_isName_62 rfl ?_
              refine lv_iload_n hx hb dX9_isName_63 rfl (lv_at hl 3 rfl) ?_
              refine lv_iadd hx hb dX9_isName_64 ?_
              obtain ⟨h27, hm⟩ := mr_bd hm
              refine va_bald hx hb hK hP 4 1 rfl rfl h27 dX9_isName_65 ?_
              refine lv_istore (lv' := [(4, .int (t_letters (((((t_numbers (x1 : Int32).toNatClampNeg) : Int64).toInt32) + x3) : Int32).toNatClampNeg)), (0, .ref ob0), (1, .int x1), (2, .int x2), (3, .int x3)]) hx hb dX9_isName_66 hl (by decide) rfl (fun ls hl => ?_)
              refine lv_iload hx hb dX9_isName_68 (lv_at hl 0 rfl) ?_
              refine lv_bipush (v := 48) hx hb dX9_isName_70 (by decide) ?_
              have j87 : ∀ (x1 : Int32) (x3 : Int32) (x4 : Int32) (y0 : Int32) (ls : Array Slot), lv_has ls 6 [(0, .ref ob0), (1, .int x1), (3, .int x3), (4, .int x4)] → m_X9_isName_87 t_kinds t_numbers t_sizes t_letters (m_X9_isName_38 t_kinds t_numbers t_sizes t_letters n38) x1 x3 x4 y0 = some res → W p l e (headSpec wsX9_isName (rmX9_isName 0 0)).room s m [.ref ob0, .int a0].toArray below meth c s.heap [] 0 0 Q0 (F0 m 87 ls [.int y0]) := by
                intro x1 x3 x4 y0 ls hl hm
                unfold m_X9_isName_87 at hm
                refine lv_istore (lv' := [(5, .int y0), (0, .ref ob0), (1, .int x1), (3, .int x3), (4, .int x4)]) hx hb dX9_isName_87 hl (by decide) rfl (fun ls hl => ?_)
                refine lv_iload hx hb dX9_isName_89 (lv_at hl 4 rfl) ?_
                refine lv_bipush (v := 97) hx hb dX9_isName_91 (by decide) ?_
                have j133 : ∀ (x1 : Int32) (x3 : Int32) (ls : Array Slot), lv_has ls 6 [(0, .ref ob0), (1, .int x1), (3, .int x3)] → m_X9_isName_133 t_kinds t_numbers t_sizes t_letters (m_X9_isName_38 t_kinds t_numbers t_sizes t_letters n38) x1 x3 = some res → W p l e (headSpec wsX9_isName (rmX9_isName 0 0)).room s m [.ref ob0, .int a0].toArray below meth c s.heap [] 0 0 Q0 (F0 m 133 ls []) := by
                  intro x1 x3 ls hl hm
                  unfold m_X9_isName_133 at hm
                  refine lv_iconst (v := 1) hx hb dX9_isName_133 (by decide) ?_
                  refine lv_goto (tgt := 138) hx hb dX9_isName_134 (by decide) ?_
                  refine lv_istore_n (lv' := [(2, .int 1), (0, .ref ob0), (1, .int x1), (3, .int x3)]) hx hb dX9_isName_138 rfl hl (by decide) rfl (fun ls hl => ?_)
                  refine lv_iinc (v := x3 + 1) (lv' := [(3, .int (x3 + 1)), (2, .int 1), (0, .ref ob0), (1, .int x1)]) hx hb dX9_isName_139 hl (k := 3) rfl rfl (by decide) rfl (fun ls hl => ?_)
                  refine lv_goto (tgt := 38) hx hb dX9_isName_142 (by decide) ?_
                  exact ih38 x1 1 (x3 + 1) ls (lv_sub hl [2, 3, 1, 0] rfl) hm
                have j103 : ∀ (x1 : Int32) (x3 : Int32) (x4 : Int32) (x5 : Int32) (ls : Array Slot), lv_has ls 6 [(0, .ref ob0), (1, .int x1), (3, .int x3), (4, .int x4), (5, .int x5)] → m_X9_isName_103 t_kinds t_numbers t_sizes t_letters (m_X9_isName_38 t_kinds t_numbers t_sizes t_letters n38) x1 x3 x4 x5 = some res → W p l e (headSpec wsX9_isName (rmX9_isName 0 0)).room s m [.ref ob0, .int a0].toArray below meth c s.heap [] 0 0 Q0 (F0 m 103 ls []) := by
                  intro x1 x3 x4 x5 ls hl hm
                  unfold m_X9_isName_103 at hm
                  refine lv_iload hx hb dX9_isName_103 (lv_at hl 3 rfl) ?_
                  refine lv_bipush (v := 65) hx hb dX9_isName_105 (by decide) ?_
                  have j117 : ∀ (x1 : Int32) (x3 : Int32) (x4 : Int32) (x5 : Int32) (ls : Array Slot), lv_has ls 6 [(0, .ref ob0), (1, .int x1), (3, .int x3), (4, .int x4), (5, .int x5)] → m_X9_isName_117 t_kinds t_numbers t_sizes t_letters (m_X9_isName_38 t_kinds t_numbers t_sizes t_letters n38) x1 x3 x4 x5 = some res → W p l e (headSpec wsX9_isName (rmX9_isName 0 0)).room s m [.ref ob0, .int a0].toArray below meth c s.heap [] 0 0 Q0 (F0 m 117 ls []) := by
                    intro x1 x3 x4 x5 ls hl hm
                    unfold m_X9_isName_117 at hm
                    refine lv_iload hx hb dX9_isName_117 (lv_at hl 3 rfl) ?_
                    refine lv_bipush (v := 95) hx hb dX9_isName_119 (by decide) ?_
                    refine lv_icmp_eq (tgt := 133) hx hb dX9_isName_121 (by decide) (fun c28 => ?_) (fun c28 => ?_)
                    · have hm := mr_if c28 hm
                      exact j133 x1 x3 ls (lv_sub hl [0, 1, 2] rfl) hm
                    · have hm := mr_un c28 hm
                      refine lv_iload hx hb dX9_isName_124 (lv_at hl 4 rfl) ?_
                      refine lv_if_eq (tgt := 137) hx hb dX9_isName_126 (by decide) (fun c29 => ?_) (fun c29 => ?_)
                      · have hm := mr_if c29 hm
                        refine lv_iconst (v := 0) hx hb dX9_isName_137 (by decide) ?_
                        refine lv_istore_n (lv' := [(2, .int 0), (0, .ref ob0), (1, .int x1), (3, .int x3), (4, .int x4), (5, .int x5)]) hx hb dX9_isName_138 rfl hl (by decide) rfl (fun ls hl => ?_)
                        refine lv_iinc (v := x3 + 1) (lv' := [(3, .int (x3 + 1)), (2, .int 0), (0, .ref ob0), (1, .int x1), (4, .int x4), (5, .int x5)]) hx hb dX9_isName_139 hl (k := 3) rfl rfl (by decide) rfl (fun ls hl => ?_)
                        refine lv_goto (tgt := 38) hx hb dX9_isName_142 (by decide) ?_
                        exact ih38 x1 0 (x3 + 1) ls (lv_sub hl [2, 3, 1, 0] rfl) hm
                      · have hm := mr_un c29 hm
                        refine lv_iload_n hx hb dX9_isName_129 rfl (lv_at hl 2 rfl) ?_
                        refine lv_if_le (tgt := 137) hx hb dX9_isName_130 (by decide) (fun c30 => ?_) (fun c30 => ?_)
                        · have hm := mr_if c30 hm
                          refine lv_iconst (v := 0) hx hb dX9_isName_137 (by decide) ?_
                          refine lv_istore_n (lv' := [(2, .int 0), (0, .ref ob0), (1, .int x1), (3, .int x3), (4, .int x4), (5, .int x5)]) hx hb dX9_isName_138 rfl hl (by decide) rfl (fun ls hl => ?_)
                          refine lv_iinc (v := x3 + 1) (lv' := [(3, .int (x3 + 1)), (2, .int 0), (0, .ref ob0), (1, .int x1), (4, .int x4), (5, .int x5)]) hx hb dX9_isName_139 hl (k := 3) rfl rfl (by decide) rfl (fun ls hl => ?_)
                          refine lv_goto (tgt := 38) hx hb dX9_isName_142 (by decide) ?_
                          exact ih38 x1 0 (x3 + 1) ls (lv_sub hl [2, 3, 1, 0] rfl) hm
                        · have hm := mr_un c30 hm
                          exact j133 x1 x3 ls (lv_sub hl [0, 1, 2] rfl) hm
                  refine lv_icmp_lt (tgt := 117) hx hb dX9_isName_107 (by decide) (fun c31 => ?_) (fun c31 => ?_)
                  · have hm := mr_if c31 hm
                    exact j117 x1 x3 x4 x5 ls (lv_sub hl [0, 1, 2, 3, 4] rfl) hm
                  · have hm := mr_un c31 hm
                    refine lv_iload hx hb dX9_isName_110 (lv_at hl 3 rfl) ?_
                    refine lv_bipush (v := 90) hx hb dX9_isName_112 (by decide) ?_
                    refine lv_icmp_le (tgt := 133) hx hb dX9_isName_114 (by decide) (fun c32 => ?_) (fun c32 => ?_)
                    · have hm := mr_if c32 hm
                      exact j133 x1 x3 ls (lv_sub hl [0, 1, 2] rfl) hm
                    · have hm := mr_un c32 hm
                      exact j117 x1 x3 x4 x5 ls (lv_sub hl [0, 1, 2, 3, 4] rfl) hm
                refine lv_icmp_lt (tgt := 103) hx hb dX9_isName_93 (by decide) (fun c33 => ?_) (fun c33 => ?_)
                · have hm := mr_if c33 hm
                  exact j103 x1 x3 x4 y0 ls (lv_sub hl [1, 2, 3, 4, 0] rfl) hm
                · have hm := mr_un c33 hm
                  refine lv_iload hx hb dX9_isName_96 (lv_at hl 4 rfl) ?_
                  refine lv_bipush (v := 122) hx hb dX9_isName_98 (by decide) ?_
                  refine lv_icmp_le (tgt := 133) hx hb dX9_isName_100 (by decide) (fun c34 => ?_) (fun c34 => ?_)
                  · have hm := mr_if c34 hm
                    exact j133 x1 x3 ls (lv_sub hl [1, 2, 3] rfl) hm
                  · have hm := mr_un c34 hm
                    exact j103 x1 x3 x4 y0 ls (lv_sub hl [1, 2, 3, 4, 0] rfl) hm
              have j86 : ∀ (x1 : Int32) (x3 : Int32) (x4 : Int32) (ls : Array Slot), lv_has ls 6 [(0, .ref ob0), (1, .int x1), (3, .int x3), (4, .int x4)] → m_X9_isName_86 t_kinds t_numbers t_sizes t_letters (m_X9_isName_38 t_kinds t_numbers t_sizes t_letters n38) x1 x3 x4 = some res → W p l e (headSpec wsX9_isName (rmX9_isName 0 0)).room s m [.ref ob0, .int a0].toArray below meth c s.heap [] 0 0 Q0 (F0 m 86 ls []) := by
                intro x1 x3 x4 ls hl hm
                unfold m_X9_isName_86 at hm
                refine lv_iconst (v := 0) hx hb dX9_isName_86 (by decide) ?_
                exact j87 x1 x3 x4 0 ls (lv_sub hl [0, 1, 2, 3] rfl) hm
              refine lv_icmp_lt (tgt := 86) hx hb dX9_isName_72 (by decide) (fun c35 => ?_) (fun c35 => ?_)
              · have hm := mr_if c35 hm
                exact j86 x1 x3 (t_letters (((((t_numbers (x1 : Int32).toNatClampNeg) : Int64).toInt32) + x3) : Int32).toNatClampNeg) ls (lv_sub hl [1, 2, 4, 0] rfl) hm
              · have hm := mr_un c35 hm
                refine lv_iload hx hb dX9_isName_75 (lv_at hl 0 rfl) ?_
                refine lv_bipush (v := 57) hx hb dX9_isName_77 (by decide) ?_
                refine lv_icmp_gt (tgt := 86) hx hb dX9_isName_79 (by decide) (fun c36 => ?_) (fun c36 => ?_)
                · have hm := mr_if c36 hm
                  exact j86 x1 x3 (t_letters (((((t_numbers (x1 : Int32).toNatClampNeg) : Int64).toInt32) + x3) : Int32).toNatClampNeg) ls (lv_sub hl [1, 2, 4, 0] rfl) hm
                · have hm := mr_un c36 hm
                  refine lv_iconst (v := 1) hx hb dX9_isName_82 (by decide) ?_
                  refine lv_goto (tgt := 87) hx hb dX9_isName_83 (by decide) ?_
                  exact j87 x1 x3 (t_letters (((((t_numbers (x1 : Int32).toNatClampNeg) : Int64).toInt32) + x3) : Int32).toNatClampNeg) 1 ls (lv_sub hl [1, 2, 4, 0] rfl) hm
      refine lv_istore_n (lv' := [(3, .int 0), (2, .int 0), (0, .ref ob0), (1, .int a0)]) hx hb dX9_isName_37 rfl hl (by decide) rfl (fun ls hl => ?_)
      exact j38 sr_fuel a0 0 0 ls (lv_sub hl [2, 3, 1, 0] rfl) hm
    · have hm := mr_un c20 hm
      refine lv_aload_n hx hb dX9_isName_19 rfl (lv_at hl 0 rfl) ?_
      refine va_get (D := (dC, dI)) (ci := 0) (v := .ref tq_sizes) (C := RX9) (T := TX9) (N := 35) hx hb hts (inX9 _) hown hK hP 0 rfl rfl 11 (by decide) (hts _ (List.mem_cons_of_mem _ wf9_26)) (fun _ h9 => h9) rfl dX9_isName_20 ?_
      refine lv_iload_n hx hb dX9_isName_23 rfl (lv_at hl 1 rfl) ?_
      obtain ⟨h37, hm⟩ := mr_bd hm
      refine va_iald hx hb hK hP 3 0 rfl rfl h37 dX9_isName_24 ?_
      refine lv_bipush (v := 33) hx hb dX9_isName_25 (by decide) ?_
      refine lv_icmp_ge (tgt := 34) hx hb dX9_isName_27 (by decide) (fun c38 => ?_) (fun c38 => ?_)
      · have hm := mr_if c38 hm
        refine lv_iconst (v := 0) hx hb dX9_isName_34 (by decide) ?_
        refine lv_istore_n (lv' := [(2, .int 0), (0, .ref ob0), (1, .int a0)]) hx hb dX9_isName_35 rfl hl (by decide) rfl (fun ls hl => ?_)
        refine lv_iconst (v := 0) hx hb dX9_isName_36 (by decide) ?_
        have j38 : ∀ (n38 : Nat) (x1 : Int32) (x2 : Int32) (x3 : Int32) (ls : Array Slot), lv_has ls 6 [(0, .ref ob0), (1, .int x1), (2, .int x2), (3, .int x3)] → m_X9_isName_38 t_kinds t_numbers t_sizes t_letters n38 x1 x2 x3 = some res → W p l e (headSpec wsX9_isName (rmX9_isName 0 0)).room s m [.ref ob0, .int a0].toArray below meth c s.heap [] 0 0 Q0 (F0 m 38 ls []) := by
          intro n38
          induction n38 with
          | zero => intro x1 x2 x3 ls hl hm; exact nomatch (show (none : Option _) = some res from hm)
          | succ n38 ih38 =>
            intro x1 x2 x3 ls hl hm
            rw [m_X9_isName_38] at hm
            refine lv_iload_n hx hb dX9_isName_38 rfl (lv_at hl 3 rfl) ?_
            refine lv_aload_n hx hb dX9_isName_39 rfl (lv_at hl 0 rfl) ?_
            refine va_get (D := (dC, dI)) (ci := 0) (v := .ref tq_sizes) (C := RX9) (T := TX9) (N := 35) hx hb hts (inX9 _) hown hK hP 0 rfl rfl 11 (by decide) (hts _ (List.mem_cons_of_mem _ wf9_26)) (fun _ h9 => h9) rfl dX9_isName_40 ?_
            refine lv_iload_n hx hb dX9_isName_43 rfl (lv_at hl 1 rfl) ?_
            obtain ⟨h39, hm⟩ := mr_bd hm
            refine va_iald hx hb hK hP 3 0 rfl rfl h39 dX9_isName_44 ?_
            refine lv_icmp_ge (tgt := 145) hx hb dX9_isName_45 (by decide) (fun c40 => ?_) (fun c40 => ?_)
            · have hm := mr_if c40 hm
              refine lv_iload_n hx hb dX9_isName_145 rfl (lv_at hl 2 rfl) ?_
              obtain ⟨h41, hm⟩ := mr_bz hm
              obtain rfl := Option.some.inj hm
              subst hQ0
              exact W.zret (v := x2) hx hb hr h41 (fun t ht hW => ⟨rfl, ht⟩) (fun q h => by cases h) dX9_isName_146
            · have hm := mr_un c40 hm
              refine lv_iload_n hx hb dX9_isName_48 rfl (lv_at hl 2 rfl) ?_
              refine lv_if_eq (tgt := 145) hx hb dX9_isName_49 (by decide) (fun c42 => ?_) (fun c42 => ?_)
              · have hm := mr_if c42 hm
                refine lv_iload_n hx hb dX9_isName_145 rfl (lv_at hl 2 rfl) ?_
                obtain ⟨h43, hm⟩ := mr_bz hm
                obtain rfl := Option.some.inj hm
                subst hQ0
                exact W.zret (v := x2) hx hb hr h43 (fun t ht hW => ⟨rfl, ht⟩) (fun q h => by cases h) dX9_isName_146
              · have hm := mr_un c42 hm
                refine lv_aload_n hx hb dX9_isName_52 rfl (lv_at hl 0 rfl) ?_
                refine va_get (D := (dC, dI)) (ci := 0) (v := .ref tq_letters) (C := RX9) (T := TX9) (N := 35) hx hb hts (inX9 _) hown hK hP 0 rfl rfl 14 (by decide) (hts _ (List.mem_cons_of_mem _ wf9_35)) (fun _ h9 => h9) rfl dX9_isName_53 ?_
                refine lv_aload_n hx hb dX9_isName_56 rfl (lv_at hl 0 rfl) ?_
                refine va_get (D := (dC, dI)) (ci := 0) (v := .ref tq_numbers) (C := RX9) (T := TX9) (N := 35) hx hb hts (inX9 _) hown hK hP 0 rfl rfl 10 (by decide) (hts _ (List.mem_cons_of_mem _ wf9_22)) (fun _ h9 => h9) rfl dX9_isName_57 ?_
                refine lv_iload_n hx hb dX9_isName_60 rfl (lv_at hl 1 rfl) ?_
                obtain ⟨h44, hm⟩ := mr_bd hm
                refine va_lald hx hb hK hP 2 2 rfl rfl h44 dX9_isName_61 ?_
                refine lv_l2i hx hb dX9_isName_62 rfl ?_
                refine lv_iload_n hx hb dX9_isName_63 rfl (lv_at hl 3 rfl) ?_
                refine lv_iadd hx hb dX9_isName_64 ?_
                obtain ⟨h45, hm⟩ := mr_bd hm
                refine va_bald hx hb hK hP 4 1 rfl rfl h45 dX9_isName_65 ?_
                refine lv_istore (lv' := [(4, .int (t_letters (((((t_numbers (x1 : Int32).toNatClampNeg) : Int64).toInt32) + x3) : Int32).toNatClampNeg)), (0, .ref ob0), (1, .int x1), (2, .int x2), (3, .int x3)]) hx hb dX9_isName_66 hl (by decide) rfl (fun ls hl => ?_)
                refine lv_iload hx hb dX9_isName_68 (lv_at hl 0 rfl) ?_
                refine lv_bipush (v := 48) hx hb dX9_isName_70 (by decide) ?_
                have j87 : ∀ (x1 : Int32) (x3 : Int32) (x4 : Int32) (y0 : Int32) (ls : Array Slot), lv_has ls 6 [(0, .ref ob0), (1, .int x1), (3, .int x3), (4, .int x4)] → m_X9_isName_87 t_kinds t_numbers t_sizes t_letters (m_X9_isName_38 t_kinds t_numbers t_sizes t_letters n38) x1 x3 x4 y0 = some res → W p l e (headSpec wsX9_isName (rmX9_isName 0 0)).room s m [.ref ob0, .int a0].toArray below meth c s.heap [] 0 0 Q0 (F0 m 87 ls [.int y0]) := by
                  intro x1 x3 x4 y0 ls hl hm
                  unfold m_X9_isName_87 at hm
                  refine lv_istore (lv' := [(5, .int y0), (0, .ref ob0), (1, .int x1), (3, .int x3), (4, .int x4)]) hx hb dX9_isName_87 hl (by decide) rfl (fun ls hl => ?_)
                  refine lv_iload hx hb dX9_isName_89 (lv_at hl 4 rfl) ?_
                  refine lv_bipush (v := 97) hx hb dX9_isName_91 (by decide) ?_
                  have j133 : ∀ (x1 : Int32) (x3 : Int32) (ls : Array Slot), lv_has ls 6 [(0, .ref ob0), (1, .int x1), (3, .int x3)] → m_X9_isName_133 t_kinds t_numbers t_sizes t_letters (m_X9_isName_38 t_kinds t_numbers t_sizes t_letters n38) x1 x3 = some res → W p l e (headSpec wsX9_isName (rmX9_isName 0 0)).room s m [.ref ob0, .int a0].toArray below meth c s.heap [] 0 0 Q0 (F0 m 133 ls []) := by
                    intro x1 x3 ls hl hm
                    unfold m_X9_isName_133 at hm
                    refine lv_iconst (v := 1) hx hb dX9_isName_133 (by decide) ?_
                    refine lv_goto (tgt := 138) hx hb dX9_isName_134 (by decide) ?_
                    refine lv_istore_n (lv' := [(2, .int 1), (0, .ref ob0), (1, .int x1), (3, .int x3)]) hx hb dX9_isName_138 rfl hl (by decide) rfl (fun ls hl => ?_)
                    refine lv_iinc (v := x3 + 1) (lv' := [(3, .int (x3 + 1)), (2, .int 1), (0, .ref ob0), (1, .int x1)]) hx hb dX9_isName_139 hl (k := 3) rfl rfl (by decide) rfl (fun ls hl => ?_)
                    refine lv_goto (tgt := 38) hx hb dX9_isName_142 (by decide) ?_
                    exact ih38 x1 1 (x3 + 1) ls (lv_sub hl [2, 3, 1, 0] rfl) hm
                  have j103 : ∀ (x1 : Int32) (x3 : Int32) (x4 : Int32) (x5 : Int32) (ls : Array Slot), lv_has ls 6 [(0, .ref ob0), (1, .int x1), (3, .int x3), (4, .int x4), (5, .int x5)] → m_X9_isName_103 t_kinds t_numbers t_sizes t_letters (m_X9_isName_38 t_kinds t_numbers t_sizes t_letters n38) x1 x3 x4 x5 = some res → W p l e (headSpec wsX9_isName (rmX9_isName 0 0)).room s m [.ref ob0, .int a0].toArray below meth c s.heap [] 0 0 Q0 (F0 m 103 ls []) := by
                    intro x1 x3 x4 x5 ls hl hm
                    unfold m_X9_isName_103 at hm
                    refine lv_iload hx hb dX9_isName_103 (lv_at hl 3 rfl) ?_
                    refine lv_bipush (v := 65) hx hb dX9_isName_105 (by decide) ?_
                    have j117 : ∀ (x1 : Int32) (x3 : Int32) (x4 : Int32) (x5 : Int32) (ls : Array Slot), lv_has ls 6 [(0, .ref ob0), (1, .int x1), (3, .int x3), (4, .int x4), (5, .int x5)] → m_X9_isName_117 t_kinds t_numbers t_sizes t_letters (m_X9_isName_38 t_kinds t_numbers t_sizes t_letters n38) x1 x3 x4 x5 = some res → W p l e (headSpec wsX9_isName (rmX9_isName 0 0)).room s m [.ref ob0, .int a0].toArray below meth c s.heap [] 0 0 Q0 (F0 m 117 ls []) := by
                      intro x1 x3 x4 x5 ls hl hm
                      unfold m_X9_isName_117 at hm
                      refine lv_iload hx hb dX9_isName_117 (lv_at hl 3 rfl) ?_
                      refine lv_bipush (v := 95) hx hb dX9_isName_119 (by decide) ?_
                      refine lv_icmp_eq (tgt := 133) hx hb dX9_isName_121 (by decide) (fun c46 => ?_) (fun c46 => ?_)
                      · have hm := mr_if c46 hm
                        exact j133 x1 x3 ls (lv_sub hl [0, 1, 2] rfl) hm
                      · have hm := mr_un c46 hm
                        refine lv_iload hx hb dX9_isName_124 (lv_at hl 4 rfl) ?_
                        refine lv_if_eq (tgt := 137) hx hb dX9_isName_126 (by decide) (fun c47 => ?_) (fun c47 => ?_)
                        · have hm := mr_if c47 hm
                          refine lv_iconst (v := 0) hx hb dX9_isName_137 (by decide) ?_
                          refine lv_istore_n (lv' := [(2, .int 0), (0, .ref ob0), (1, .int x1), (3, .int x3), (4, .int x4), (5, .int x5)]) hx hb dX9_isName_138 rfl hl (by decide) rfl (fun ls hl => ?_)
                          refine lv_iinc (v := x3 + 1) (lv' := [(3, .int (x3 + 1)), (2, .int 0), (0, .ref ob0), (1, .int x1), (4, .int x4), (5, .int x5)]) hx hb dX9_isName_139 hl (k := 3) rfl rfl (by decide) rfl (fun ls hl => ?_)
                          refine lv_goto (tgt := 38) hx hb dX9_isName_142 (by decide) ?_
                          exact ih38 x1 0 (x3 + 1) ls (lv_sub hl [2, 3, 1, 0] rfl) hm
                        · have hm := mr_un c47 hm
                          refine lv_iload_n hx hb dX9_isName_129 rfl (lv_at hl 2 rfl) ?_
                          refine lv_if_le (tgt := 137) hx hb dX9_isName_130 (by decide) (fun c48 => ?_) (fun c48 => ?_)
                          · have hm := mr_if c48 hm
                            refine lv_iconst (v := 0) hx hb dX9_isName_137 (by decide) ?_
                            refine lv_istore_n (lv' := [(2, .int 0), (0, .ref ob0), (1, .int x1), (3, .int x3), (4, .int x4), (5, .int x5)]) hx hb dX9_isName_138 rfl hl (by decide) rfl (fun ls hl => ?_)
                            refine lv_iinc (v := x3 + 1) (lv' := [(3, .int (x3 + 1)), (2, .int 0), (0, .ref ob0), (1, .int x1), (4, .int x4), (5, .int x5)]) hx hb dX9_isName_139 hl (k := 3) rfl rfl (by decide) rfl (fun ls hl => ?_)
                            refine lv_goto (tgt := 38) hx hb dX9_isName_142 (by decide) ?_
                            exact ih38 x1 0 (x3 + 1) ls (lv_sub hl [2, 3, 1, 0] rfl) hm
                          · have hm := mr_un c48 hm
                            exact j133 x1 x3 ls (lv_sub hl [0, 1, 2] rfl) hm
                    refine lv_icmp_lt (tgt := 117) hx hb dX9_isName_107 (by decide) (fun c49 => ?_) (fun c49 => ?_)
                    · have hm := mr_if c49 hm
                      exact j117 x1 x3 x4 x5 ls (lv_sub hl [0, 1, 2, 3, 4] rfl) hm
                    · have hm := mr_un c49 hm
                      refine lv_iload hx hb dX9_isName_110 (lv_at hl 3 rfl) ?_
                      refine lv_bipush (v := 90) hx hb dX9_isName_112 (by decide) ?_
                      refine lv_icmp_le (tgt := 133) hx hb dX9_isName_114 (by decide) (fun c50 => ?_) (fun c50 => ?_)
                      · have hm := mr_if c50 hm
                        exact j133 x1 x3 ls (lv_sub hl [0, 1, 2] rfl) hm
                      · have hm := mr_un c50 hm
                        exact j117 x1 x3 x4 x5 ls (lv_sub hl [0, 1, 2, 3, 4] rfl) hm
                  refine lv_icmp_lt (tgt := 103) hx hb dX9_isName_93 (by decide) (fun c51 => ?_) (fun c51 => ?_)
                  · have hm := mr_if c51 hm
                    exact j103 x1 x3 x4 y0 ls (lv_sub hl [1, 2, 3, 4, 0] rfl) hm
                  · have hm := mr_un c51 hm
                    refine lv_iload hx hb dX9_isName_96 (lv_at hl 4 rfl) ?_
                    refine lv_bipush (v := 122) hx hb dX9_isName_98 (by decide) ?_
                    refine lv_icmp_le (tgt := 133) hx hb dX9_isName_100 (by decide) (fun c52 => ?_) (fun c52 => ?_)
                    · have hm := mr_if c52 hm
                      exact j133 x1 x3 ls (lv_sub hl [1, 2, 3] rfl) hm
                    · have hm := mr_un c52 hm
                      exact j103 x1 x3 x4 y0 ls (lv_sub hl [1, 2, 3, 4, 0] rfl) hm
                have j86 : ∀ (x1 : Int32) (x3 : Int32) (x4 : Int32) (ls : Array Slot), lv_has ls 6 [(0, .ref ob0), (1, .int x1), (3, .int x3), (4, .int x4)] → m_X9_isName_86 t_kinds t_numbers t_sizes t_letters (m_X9_isName_38 t_kinds t_numbers t_sizes t_letters n38) x1 x3 x4 = some res → W p l e (headSpec wsX9_isName (rmX9_isName 0 0)).room s m [.ref ob0, .int a0].toArray below meth c s.heap [] 0 0 Q0 (F0 m 86 ls []) := by
                  intro x1 x3 x4 ls hl hm
                  unfold m_X9_isName_86 at hm
                  refine lv_iconst (v := 0) hx hb dX9_isName_86 (by decide) ?_
                  exact j87 x1 x3 x4 0 ls (lv_sub hl [0, 1, 2, 3] rfl) hm
                refine lv_icmp_lt (tgt := 86) hx hb dX9_isName_72 (by decide) (fun c53 => ?_) (fun c53 => ?_)
                · have hm := mr_if c53 hm
                  exact j86 x1 x3 (t_letters (((((t_numbers (x1 : Int32).toNatClampNeg) : Int64).toInt32) + x3) : Int32).toNatClampNeg) ls (lv_sub hl [1, 2, 4, 0] rfl) hm
                · have hm := mr_un c53 hm
                  refine lv_iload hx hb dX9_isName_75 (lv_at hl 0 rfl) ?_
                  refine lv_bipush (v := 57) hx hb dX9_isName_77 (by decide) ?_
                  refine lv_icmp_gt (tgt := 86) hx hb dX9_isName_79 (by decide) (fun c54 => ?_) (fun c54 => ?_)
                  · have hm := mr_if c54 hm
                    exact j86 x1 x3 (t_letters (((((t_numbers (x1 : Int32).toNatClampNeg) : Int64).toInt32) + x3) : Int32).toNatClampNeg) ls (lv_sub hl [1, 2, 4, 0] rfl) hm
                  · have hm := mr_un c54 hm
                    refine lv_iconst (v := 1) hx hb dX9_isName_82 (by decide) ?_
                    refine lv_goto (tgt := 87) hx hb dX9_isName_83 (by decide) ?_
                    exact j87 x1 x3 (t_letters (((((t_numbers (x1 : Int32).toNatClampNeg) : Int64).toInt32) + x3) : Int32).toNatClampNeg) 1 ls (lv_sub hl [1, 2, 4, 0] rfl) hm
        refine lv_istore_n (lv' := [(3, .int 0), (2, .int 0), (0, .ref ob0), (1, .int a0)]) hx hb dX9_isName_37 rfl hl (by decide) rfl (fun ls hl => ?_)
        exact j38 sr_fuel a0 0 0 ls (lv_sub hl [2, 3, 1, 0] rfl) hm
      · have hm := mr_un c38 hm
        refine lv_iconst (v := 1) hx hb dX9_isName_30 (by decide) ?_
        refine lv_goto (tgt := 35) hx hb dX9_isName_31 (by decide) ?_
        refine lv_istore_n (lv' := [(2, .int 1), (0, .ref ob0), (1, .int a0)]) hx hb dX9_isName_35 rfl hl (by decide) rfl (fun ls hl => ?_)
        refine lv_iconst (v := 0) hx hb dX9_isName_36 (by decide) ?_
        have j38 : ∀ (n38 : Nat) (x1 : Int32) (x2 : Int32) (x3 : Int32) (ls : Array Slot), lv_has ls 6 [(0, .ref ob0), (1, .int x1), (2, .int x2), (3, .int x3)] → m_X9_isName_38 t_kinds t_numbers t_sizes t_letters n38 x1 x2 x3 = some res → W p l e (headSpec wsX9_isName (rmX9_isName 0 0)).room s m [.ref ob0, .int a0].toArray below meth c s.heap [] 0 0 Q0 (F0 m 38 ls []) := by
          intro n38
          induction n38 with
          | zero => intro x1 x2 x3 ls hl hm; exact nomatch (show (none : Option _) = some res from hm)
          | succ n38 ih38 =>
            intro x1 x2 x3 ls hl hm
            rw [m_X9_isName_38] at hm
            refine lv_iload_n hx hb dX9_isName_38 rfl (lv_at hl 3 rfl) ?_
            refine lv_aload_n hx hb dX9_isName_39 rfl (lv_at hl 0 rfl) ?_
            refine va_get (D := (dC, dI)) (ci := 0) (v := .ref tq_sizes) (C := RX9) (T := TX9) (N := 35) hx hb hts (inX9 _) hown hK hP 0 rfl rfl 11 (by decide) (hts _ (List.mem_cons_of_mem _ wf9_26)) (fun _ h9 => h9) rfl dX9_isName_40 ?_
            refine lv_iload_n hx hb dX9_isName_43 rfl (lv_at hl 1 rfl) ?_
            obtain ⟨h55, hm⟩ := mr_bd hm
            refine va_iald hx hb hK hP 3 0 rfl rfl h55 dX9_isName_44 ?_
            refine lv_icmp_ge (tgt := 145) hx hb dX9_isName_45 (by decide) (fun c56 => ?_) (fun c56 => ?_)
            · have hm := mr_if c56 hm
              refine lv_iload_n hx hb dX9_isName_145 rfl (lv_at hl 2 rfl) ?_
              obtain ⟨h57, hm⟩ := mr_bz hm
              obtain rfl := Option.some.inj hm
              subst hQ0
              exact W.zret (v := x2) hx hb hr h57 (fun t ht hW => ⟨rfl, ht⟩) (fun q h => by cases h) dX9_isName_146
            · have hm := mr_un c56 hm
              refine lv_iload_n hx hb dX9_isName_48 rfl (lv_at hl 2 rfl) ?_
              refine lv_if_eq (tgt := 145) hx hb dX9_isName_49 (by decide) (fun c58 => ?_) (fun c58 => ?_)
              · have hm := mr_if c58 hm
                refine lv_iload_n hx hb dX9_isName_145 rfl (lv_at hl 2 rfl) ?_
                obtain ⟨h59, hm⟩ := mr_bz hm
                obtain rfl := Option.some.inj hm
                subst hQ0
                exact W.zret (v := x2) hx hb hr h59 (fun t ht hW => ⟨rfl, ht⟩) (fun q h => by cases h) dX9_isName_146
              · have hm := mr_un c58 hm
                refine lv_aload_n hx hb dX9_isName_52 rfl (lv_at hl 0 rfl) ?_
                refine va_get (D := (dC, dI)) (ci := 0) (v := .ref tq_letters) (C := RX9) (T := TX9) (N := 35) hx hb hts (inX9 _) hown hK hP 0 rfl rfl 14 (by decide) (hts _ (List.mem_cons_of_mem _ wf9_35)) (fun _ h9 => h9) rfl dX9_isName_53 ?_
                refine lv_aload_n hx hb dX9_isName_56 rfl (lv_at hl 0 rfl) ?_
                refine va_get (D := (dC, dI)) (ci := 0) (v := .ref tq_numbers) (C := RX9) (T := TX9) (N := 35) hx hb hts (inX9 _) hown hK hP 0 rfl rfl 10 (by decide) (hts _ (List.mem_cons_of_mem _ wf9_22)) (fun _ h9 => h9) rfl dX9_isName_57 ?_
                refine lv_iload_n hx hb dX9_isName_60 rfl (lv_at hl 1 rfl) ?_
                obtain ⟨h60, hm⟩ := mr_bd hm
                refine va_lald hx hb hK hP 2 2 rfl rfl h60 dX9_isName_61 ?_
                refine lv_l2i hx hb dX9_isName_62 rfl ?_
                refine lv_iload_n hx hb dX9_isName_63 rfl (lv_at hl 3 rfl) ?_
                refine lv_iadd hx hb dX9_isName_64 ?_
                obtain ⟨h61, hm⟩ := mr_bd hm
                refine va_bald hx hb hK hP 4 1 rfl rfl h61 dX9_isName_65 ?_
                refine lv_istore (lv' := [(4, .int (t_letters (((((t_numbers (x1 : Int32).toNatClampNeg) : Int64).toInt32) + x3) : Int32).toNatClampNeg)), (0, .ref ob0), (1, .int x1), (2, .int x2), (3, .int x3)]) hx hb dX9_isName_66 hl (by decide) rfl (fun ls hl => ?_)
                refine lv_iload hx hb dX9_isName_68 (lv_at hl 0 rfl) ?_
                refine lv_bipush (v := 48) hx hb dX9_isName_70 (by decide) ?_
                have j87 : ∀ (x1 : Int32) (x3 : Int32) (x4 : Int32) (y0 : Int32) (ls : Array Slot), lv_has ls 6 [(0, .ref ob0), (1, .int x1), (3, .int x3), (4, .int x4)] → m_X9_isName_87 t_kinds t_numbers t_sizes t_letters (m_X9_isName_38 t_kinds t_numbers t_sizes t_letters n38) x1 x3 x4 y0 = some res → W p l e (headSpec wsX9_isName (rmX9_isName 0 0)).room s m [.ref ob0, .int a0].toArray below meth c s.heap [] 0 0 Q0 (F0 m 87 ls [.int y0]) := by
                  intro x1 x3 x4 y0 ls hl hm
                  unfold m_X9_isName_87 at hm
                  refine lv_istore (lv' := [(5, .int y0), (0, .ref ob0), (1, .int x1), (3, .int x3), (4, .int x4)]) hx hb dX9_isName_87 hl (by decide) rfl (fun ls hl => ?_)
                  refine lv_iload hx hb dX9_isName_89 (lv_at hl 4 rfl) ?_
                  refine lv_bipush (v := 97) hx hb dX9_isName_91 (by decide) ?_
                  have j133 : ∀ (x1 : Int32) (x3 : Int32) (ls : Array Slot), lv_has ls 6 [(0, .ref ob0), (1, .int x1), (3, .int x3)] → m_X9_isName_133 t_kinds t_numbers t_sizes t_letters (m_X9_isName_38 t_kinds t_numbers t_sizes t_letters n38) x1 x3 = some res → W p l e (headSpec wsX9_isName (rmX9_isName 0 0)).room s m [.ref ob0, .int a0].toArray below meth c s.heap [] 0 0 Q0 (F0 m 133 ls []) := by
                    intro x1 x3 ls hl hm
                    unfold m_X9_isName_133 at hm
                    refine lv_iconst (v := 1) hx hb dX9_isName_133 (by decide) ?_
                    refine lv_goto (tgt := 138) hx hb dX9_isName_134 (by decide) ?_
                    refine lv_istore_n (lv' := [(2, .int 1), (0, .ref ob0), (1, .int x1), (3, .int x3)]) hx hb dX9_isName_138 rfl hl (by decide) rfl (fun ls hl => ?_)
                    refine lv_iinc (v := x3 + 1) (lv' := [(3, .int (x3 + 1)), (2, .int 1), (0, .ref ob0), (1, .int x1)]) hx hb dX9_isName_139 hl (k := 3) rfl rfl (by decide) rfl (fun ls hl => ?_)
                    refine lv_goto (tgt := 38) hx hb dX9_isName_142 (by decide) ?_
                    exact ih38 x1 1 (x3 + 1) ls (lv_sub hl [2, 3, 1, 0] rfl) hm
                  have j103 : ∀ (x1 : Int32) (x3 : Int32) (x4 : Int32) (x5 : Int32) (ls : Array Slot), lv_has ls 6 [(0, .ref ob0), (1, .int x1), (3, .int x3), (4, .int x4), (5, .int x5)] → m_X9_isName_103 t_kinds t_numbers t_sizes t_letters (m_X9_isName_38 t_kinds t_numbers t_sizes t_letters n38) x1 x3 x4 x5 = some res → W p l e (headSpec wsX9_isName (rmX9_isName 0 0)).room s m [.ref ob0, .int a0].toArray below meth c s.heap [] 0 0 Q0 (F0 m 103 ls []) := by
                    intro x1 x3 x4 x5 ls hl hm
                    unfold m_X9_isName_103 at hm
                    refine lv_iload hx hb dX9_isName_103 (lv_at hl 3 rfl) ?_
                    refine lv_bipush (v := 65) hx hb dX9_isName_105 (by decide) ?_
                    have j117 : ∀ (x1 : Int32) (x3 : Int32) (x4 : Int32) (x5 : Int32) (ls : Array Slot), lv_has ls 6 [(0, .ref ob0), (1, .int x1), (3, .int x3), (4, .int x4), (5, .int x5)] → m_X9_isName_117 t_kinds t_numbers t_sizes t_letters (m_X9_isName_38 t_kinds t_numbers t_sizes t_letters n38) x1 x3 x4 x5 = some res → W p l e (headSpec wsX9_isName (rmX9_isName 0 0)).room s m [.ref ob0, .int a0].toArray below meth c s.heap [] 0 0 Q0 (F0 m 117 ls []) := by
                      intro x1 x3 x4 x5 ls hl hm
                      unfold m_X9_isName_117 at hm
                      refine lv_iload hx hb dX9_isName_117 (lv_at hl 3 rfl) ?_
                      refine lv_bipush (v := 95) hx hb dX9_isName_119 (by decide) ?_
                      refine lv_icmp_eq (tgt := 133) hx hb dX9_isName_121 (by decide) (fun c62 => ?_) (fun c62 => ?_)
                      · have hm := mr_if c62 hm
                        exact j133 x1 x3 ls (lv_sub hl [0, 1, 2] rfl) hm
                      · have hm := mr_un c62 hm
                        refine lv_iload hx hb dX9_isName_124 (lv_at hl 4 rfl) ?_
                        refine lv_if_eq (tgt := 137) hx hb dX9_isName_126 (by decide) (fun c63 => ?_) (fun c63 => ?_)
                        · have hm := mr_if c63 hm
                          refine lv_iconst (v := 0) hx hb dX9_isName_137 (by decide) ?_
                          refine lv_istore_n (lv' := [(2, .int 0), (0, .ref ob0), (1, .int x1), (3, .int x3), (4, .int x4), (5, .int x5)]) hx hb dX9_isName_138 rfl hl (by decide) rfl (fun ls hl => ?_)
                          refine lv_iinc (v := x3 + 1) (lv' := [(3, .int (x3 + 1)), (2, .int 0), (0, .ref ob0), (1, .int x1), (4, .int x4), (5, .int x5)]) hx hb dX9_isName_139 hl (k := 3) rfl rfl (by decide) rfl (fun ls hl => ?_)
                          refine lv_goto (tgt := 38) hx hb dX9_isName_142 (by decide) ?_
                          exact ih38 x1 0 (x3 + 1) ls (lv_sub hl [2, 3, 1, 0] rfl) hm
                        · have hm := mr_un c63 hm
                          refine lv_iload_n hx hb dX9_isName_129 rfl (lv_at hl 2 rfl) ?_
                          refine lv_if_le (tgt := 137) hx hb dX9_isName_130 (by decide) (fun c64 => ?_) (fun c64 => ?_)
                          · have hm := mr_if c64 hm
                            refine lv_iconst (v := 0) hx hb dX9_isName_137 (by decide) ?_
                            refine lv_istore_n (lv' := [(2, .int 0), (0, .ref ob0), (1, .int x1), (3, .int x3), (4, .int x4), (5, .int x5)]) hx hb dX9_isName_138 rfl hl (by decide) rfl (fun ls hl => ?_)
                            refine lv_iinc (v := x3 + 1) (lv' := [(3, .int (x3 + 1)), (2, .int 0), (0, .ref ob0), (1, .int x1), (4, .int x4), (5, .int x5)]) hx hb dX9_isName_139 hl (k := 3) rfl rfl (by decide) rfl (fun ls hl => ?_)
                            refine lv_goto (tgt := 38) hx hb dX9_isName_142 (by decide) ?_
                            exact ih38 x1 0 (x3 + 1) ls (lv_sub hl [2, 3, 1, 0] rfl) hm
                          · have hm := mr_un c64 hm
                            exact j133 x1 x3 ls (lv_sub hl [0, 1, 2] rfl) hm
                    refine lv_icmp_lt (tgt := 117) hx hb dX9_isName_107 (by decide) (fun c65 => ?_) (fun c65 => ?_)
                    · have hm := mr_if c65 hm
                      exact j117 x1 x3 x4 x5 ls (lv_sub hl [0, 1, 2, 3, 4] rfl) hm
                    · have hm := mr_un c65 hm
                      refine lv_iload hx hb dX9_isName_110 (lv_at hl 3 rfl) ?_
                      refine lv_bipush (v := 90) hx hb dX9_isName_112 (by decide) ?_
                      refine lv_icmp_le (tgt := 133) hx hb dX9_isName_114 (by decide) (fun c66 => ?_) (fun c66 => ?_)
                      · have hm := mr_if c66 hm
                        exact j133 x1 x3 ls (lv_sub hl [0, 1, 2] rfl) hm
                      · have hm := mr_un c66 hm
                        exact j117 x1 x3 x4 x5 ls (lv_sub hl [0, 1, 2, 3, 4] rfl) hm
                  refine lv_icmp_lt (tgt := 103) hx hb dX9_isName_93 (by decide) (fun c67 => ?_) (fun c67 => ?_)
                  · have hm := mr_if c67 hm
                    exact j103 x1 x3 x4 y0 ls (lv_sub hl [1, 2, 3, 4, 0] rfl) hm
                  · have hm := mr_un c67 hm
                    refine lv_iload hx hb dX9_isName_96 (lv_at hl 4 rfl) ?_
                    refine lv_bipush (v := 122) hx hb dX9_isName_98 (by decide) ?_
                    refine lv_icmp_le (tgt := 133) hx hb dX9_isName_100 (by decide) (fun c68 => ?_) (fun c68 => ?_)
                    · have hm := mr_if c68 hm
                      exact j133 x1 x3 ls (lv_sub hl [1, 2, 3] rfl) hm
                    · have hm := mr_un c68 hm
                      exact j103 x1 x3 x4 y0 ls (lv_sub hl [1, 2, 3, 4, 0] rfl) hm
                have j86 : ∀ (x1 : Int32) (x3 : Int32) (x4 : Int32) (ls : Array Slot), lv_has ls 6 [(0, .ref ob0), (1, .int x1), (3, .int x3), (4, .int x4)] → m_X9_isName_86 t_kinds t_numbers t_sizes t_letters (m_X9_isName_38 t_kinds t_numbers t_sizes t_letters n38) x1 x3 x4 = some res → W p l e (headSpec wsX9_isName (rmX9_isName 0 0)).room s m [.ref ob0, .int a0].toArray below meth c s.heap [] 0 0 Q0 (F0 m 86 ls []) := by
                  intro x1 x3 x4 ls hl hm
                  unfold m_X9_isName_86 at hm
                  refine lv_iconst (v := 0) hx hb dX9_isName_86 (by decide) ?_
                  exact j87 x1 x3 x4 0 ls (lv_sub hl [0, 1, 2, 3] rfl) hm
                refine lv_icmp_lt (tgt := 86) hx hb dX9_isName_72 (by decide) (fun c69 => ?_) (fun c69 => ?_)
                · have hm := mr_if c69 hm
                  exact j86 x1 x3 (t_letters (((((t_numbers (x1 : Int32).toNatClampNeg) : Int64).toInt32) + x3) : Int32).toNatClampNeg) ls (lv_sub hl [1, 2, 4, 0] rfl) hm
                · have hm := mr_un c69 hm
                  refine lv_iload hx hb dX9_isName_75 (lv_at hl 0 rfl) ?_
                  refine lv_bipush (v := 57) hx hb dX9_isName_77 (by decide) ?_
                  refine lv_icmp_gt (tgt := 86) hx hb dX9_isName_79 (by decide) (fun c70 => ?_) (fun c70 => ?_)
                  · have hm := mr_if c70 hm
                    exact j86 x1 x3 (t_letters (((((t_numbers (x1 : Int32).toNatClampNeg) : Int64).toInt32) + x3) : Int32).toNatClampNeg) ls (lv_sub hl [1, 2, 4, 0] rfl) hm
                  · have hm := mr_un c70 hm
                    refine lv_iconst (v := 1) hx hb dX9_isName_82 (by decide) ?_
                    refine lv_goto (tgt := 87) hx hb dX9_isName_83 (by decide) ?_
                    exact j87 x1 x3 (t_letters (((((t_numbers (x1 : Int32).toNatClampNeg) : Int64).toInt32) + x3) : Int32).toNatClampNeg) 1 ls (lv_sub hl [1, 2, 4, 0] rfl) hm
        refine lv_istore_n (lv' := [(3, .int 0), (2, .int 1), (0, .ref ob0), (1, .int a0)]) hx hb dX9_isName_37 rfl hl (by decide) rfl (fun ls hl => ?_)
        exact j38 sr_fuel a0 1 0 ls (lv_sub hl [2, 3, 1, 0] rfl) hm
set_option maxHeartbeats 4000000 in
set_option maxRecDepth 100000 in
theorem kX9_memberLike (l : Launch) (htr : l.stackTraces = false) (dC : Nat → ClassId) (dI : Nat → Nat → Nat) (adK adV : Nat → Nat) (cI cB cJ cZ cQ : ClassId) (ob0 tq_bytes tq_kinds tq_firsts tq_numbers tq_sizes tq_inner tq_nexts tq_letters tq_sorts tq_names tq_wide tq_kids tq_many tq_fallback tq_kidShape tq_kidName tq_kidDefault tq_kidNext tq_finished tq_plain tq_told : Nat) (t_length : Int32) (t_at : Int32) (t_deep : Int32) (t_fault : Int32) (t_place : Int32) (t_end : Int32) (t_nodes : Int32) (t_lettered : Int32) (t_shapes : Int32) (t_looked : Int32) (t_kidCount : Int32) (t_done : Int32) (t_root : Int32) (t_plainSize : Int32) (t_numbers : Nat → Int64) (t_sizes : Nat → Int32) (t_inner : Nat → Int32) (t_nexts : Nat → Int32) (t_letters : Nat → Int32) (a0 : Int32) (a1 : Int32) (res : Int32) (hm : m_X9_memberLike t_numbers t_sizes t_inner t_nexts t_letters a0 a1 = some res) : Met l yX9_memberLike wsX9_memberLike (rmX9_memberLike 0 0) (pcR (sr_Z adK adV) (dC, dI) srCl [(cI, .int), (cB, .byte), (cJ, .long), (cZ, .boolean), (cQ, .object "SchemaReader$Schema")] [.ref ob0, .int a0, .int a1] [(ob0, .inr (0, [.ref tq_bytes, .int t_length, .int t_at, .int t_deep, .int t_fault, .int t_place, .int t_end, .int t_nodes, .ref tq_kinds, .ref tq_firsts, .ref tq_numbers, .ref tq_sizes, .ref tq_inner, .ref tq_nexts, .ref tq_letters, .int t_lettered, .int t_shapes, .int t_looked, .ref tq_sorts, .ref tq_names, .ref tq_wide, .ref tq_kids, .ref tq_many, .ref tq_fallback, .int t_kidCount, .ref tq_kidShape, .ref tq_kidName, .ref tq_kidDefault, .ref tq_kidNext, .int t_done, .ref tq_finished, .int t_root, .ref tq_plain, .int t_plainSize, .ref tq_told])), (tq_numbers, .inl (cJ, 4200, .inr (.inl t_numbers))), (tq_sizes, .inl (cI, 4200, .inl t_sizes)), (tq_inner, .inl (cI, 4200, .inl t_inner)), (tq_nexts, .inl (cI, 4200, .inl t_nexts)), (tq_letters, .inl (cB, 4200, .inl t_letters))]) (k2_QcV (.int res)) 0 0 (fun _ => False) := by
  refine Met.ofW (cc := cX9_memberLike) (maxL := 4) (ret := (some .int)) (by decide) rfl ?_
  intro p e s m args below meth c s₁ B hml hv
  obtain ⟨rfl, hP, hK, hz0⟩ := hv
  have hx := B.exec
  have hb := B.bytes
  have hr := B.returns
  have hts := atoms_spec (ws := wsX9_memberLike) B.pre
  have hown : s.vm.findClass RX9 = some m.cls := findClass_of_methodNamed B.named
  have hlocks := B.notSynchronized
  have hS : va_S (fun _ => False) s.heap s.heap [] := va_S.rf
  generalize hQ0 : MQ below (k2_QcV (.int res)) [.ref ob0, .int a0, .int a1].toArray s 0 0 (fun _ => False) = Q0
  have hl := lv_entry [.ref ob0, .int a0, .int a1] (n := 4) (Nat.le_of_ble_eq_true rfl)
  rw [lg_entry_eq]
  generalize (lg_sl [.ref ob0, .int a0, .int a1] ++ List.replicate (4 - (lg_sl [.ref ob0, .int a0, .int a1]).length) Slot.unset).toArray = ls at hl ⊢
  have hl : lv_has ls 4 [(0, .ref ob0), (1, .int a0), (2, .int a1)] := hl
  unfold m_X9_memberLike at hm
  refine lv_aload_n hx hb dX9_memberLike_0 rfl (lv_at hl 0 rfl) ?_
  refine va_get (D := (dC, dI)) (ci := 0) (v := .ref tq_inner) (C := RX9) (T := TX9) (N := 35) hx hb hts (inX9 _) hown hK hP 0 rfl rfl 12 (by decide) (hts _ (List.mem_cons_of_mem _ wf9_29)) (fun _ h9 => h9) rfl dX9_memberLike_1 ?_
  refine lv_iload_n hx hb dX9_memberLike_4 rfl (lv_at hl 1 rfl) ?_
  obtain ⟨h1, hm⟩ := mr_bd hm
  refine va_iald hx hb hK hP 3 0 rfl rfl h1 dX9_memberLike_5 ?_
  have j7 : ∀ (n7 : Nat) (x2 : Int32) (x3 : Int32) (ls : Array Slot), lv_has ls 4 [(0, .ref ob0), (2, .int x2), (3, .int x3)] → m_X9_memberLike_7 t_numbers t_sizes t_inner t_nexts t_letters n7 x2 x3 = some res → W p l e (headSpec wsX9_memberLike (rmX9_memberLike 0 0)).room s m [.ref ob0, .int a0, .int a1].toArray below meth c s.heap [] 0 0 Q0 (F0 m 7 ls []) := by
    intro n7
    induction n7 with
    | zero => intro x2 x3 ls hl hm; exact nomatch (show (none : Option _) = some res from hm)
    | succ n7 ih7 =>
      intro x2 x3 ls hl hm
      rw [m_X9_memberLike_7] at hm
      refine lv_iload_n hx hb dX9_memberLike_7 rfl (lv_at hl 2 rfl) ?_
      refine lv_if_lt (tgt := 43) hx hb dX9_memberLike_8 (by decide) (fun c2 => ?_) (fun c2 => ?_)
      · have hm := mr_if c2 hm
        refine lv_iconst (v := -1) hx hb dX9_memberLike_43 (by decide) ?_
        obtain rfl := Option.some.inj hm
        subst hQ0
        exact W.iret (v := (-1)) hx hb hr (fun t ht hW => ⟨rfl, ht⟩) (fun q h => by cases h) dX9_memberLike_44
      · have hm := mr_un c2 hm
        refine lv_aload_n hx hb dX9_memberLike_11 rfl (lv_at hl 0 rfl) ?_
        refine lv_iload_n hx hb dX9_memberLike_12 rfl (lv_at hl 2 rfl) ?_
        refine lv_aload_n hx hb dX9_memberLike_13 rfl (lv_at hl 0 rfl) ?_
        refine lv_iload_n hx hb dX9_memberLike_14 rfl (lv_at hl 1 rfl) ?_
        obtain ⟨r3, hz3, hm⟩ := mr_bind hm
        refine mr_pV (As := [.int x3, .ref ob0, .int x2]) (rest := []) (sr_okZ adK adV) ⟨hx, hb, hml, hown, hts⟩ (kX9_same l htr dC dI adK adV cI cB cJ cZ cQ ob0 tq_bytes tq_kinds tq_firsts tq_numbers tq_sizes tq_inner tq_nexts tq_letters tq_sorts tq_names tq_wide tq_kids tq_many tq_fallback tq_kidShape tq_kidName tq_kidDefault tq_kidNext tq_finished tq_plain tq_told ob0 tq_bytes tq_kinds tq_firsts tq_numbers tq_sizes tq_inner tq_nexts tq_letters tq_sorts tq_names tq_wide tq_kids tq_many tq_fallback tq_kidShape tq_kidName tq_kidDefault tq_kidNext tq_finished tq_plain tq_told t_length t_at t_deep t_fault t_place t_end t_nodes t_lettered t_shapes t_looked t_kidCount t_done t_root t_plainSize t_length t_at t_deep t_fault t_place t_end t_nodes t_lettered t_shapes t_looked t_kidCount t_done t_root t_plainSize t_numbers t_sizes t_letters t_numbers t_sizes t_letters x3 x2 r3 hz3) (cwV 3 hts (g9_155 _) rfl rfl rfl (by decide +kernel) ⟨(by show 0 + 1 ≤ 1; omega), (by show 8 + (5 + 11) + (0) ≤ 24; omega)⟩) hS hP hK hz0 [0, 1, 2, 5, 0, 1, 2, 5] rfl (va_recv hK hP (ci := 0) (q0 := 0) rfl rfl) rfl rfl hl.1 (Nat.le_of_ble_eq_true rfl) dX9_memberLike_15 ⟨Nat.zero_le _, Nat.zero_le _⟩ ?_
        refine lv_if_eq (tgt := 28) hx hb dX9_memberLike_18 (by decide) (fun c4 => ?_) (fun c4 => ?_)
        · have hm := mr_if c4 hm
          refine lv_aload_n hx hb dX9_memberLike_28 rfl (lv_at hl 0 rfl) ?_
          refine va_get (D := (dC, dI)) (ci := 0) (v := .ref tq_nexts) (C := RX9) (T := TX9) (N := 35) hx hb hts (inX9 _) hown hK hP 0 rfl rfl 13 (by decide) (hts _ (List.mem_cons_of_mem _ wf9_32)) (fun _ h9 => h9) rfl dX9_memberLike_29 ?_
          refine lv_aload_n hx hb dX9_memberLike_32 rfl (lv_at hl 0 rfl) ?_
          refine va_get (D := (dC, dI)) (ci := 0) (v := .ref tq_nexts) (C := RX9) (T := TX9) (N := 35) hx hb hts (inX9 _) hown hK hP 0 rfl rfl 13 (by decide) (hts _ (List.mem_cons_of_mem _ wf9_32)) (fun _ h9 => h9) rfl dX9_memberLike_33 ?_
          refine lv_iload_n hx hb dX9_memberLike_36 rfl (lv_at hl 2 rfl) ?_
          obtain ⟨h5, hm⟩ := mr_bd hm
          refine va_iald hx hb hK hP 4 0 rfl rfl h5 dX9_memberLike_37 ?_
          obtain ⟨h6, hm⟩ := mr_bd hm
          refine va_iald hx hb hK hP 4 0 rfl rfl h6 dX9_memberLike_38 ?_
          refine lv_istore_n (lv' := [(3, .int (t_nexts ((t_nexts (x3 : Int32).toNatClampNeg) : Int32).toNatClampNeg)), (0, .ref ob0), (2, .int x2)]) hx hb dX9_memberLike_39 rfl hl (by decide) rfl (fun ls hl => ?_)
          refine lv_goto (tgt := 7) hx hb dX9_memberLike_40 (by decide) ?_
          exact ih7 x2 (t_nexts ((t_nexts (x3 : Int32).toNatClampNeg) : Int32).toNatClampNeg) ls (lv_sub hl [1, 2, 0] rfl) hm
        · have hm := mr_un c4 hm
          refine lv_aload_n hx hb dX9_memberLike_21 rfl (lv_at hl 0 rfl) ?_
          refine va_get (D := (dC, dI)) (ci := 0) (v := .ref tq_nexts) (C := RX9) (T := TX9) (N := 35) hx hb hts (inX9 _) hown hK hP 0 rfl rfl 13 (by decide) (hts _ (List.mem_cons_of_mem _ wf9_32)) (fun _ h9 => h9) rfl dX9_memberLike_22 ?_
          refine lv_iload_n hx hb dX9_memberLike_25 rfl (lv_at hl 2 rfl) ?_
          obtain ⟨h7, hm⟩ := mr_bd hm
          refine va_iald hx hb hK hP 4 0 rfl rfl h7 dX9_memberLike_26 ?_
          obtain rfl := Option.some.inj hm
          subst hQ0
          exact W.iret (v := (t_nexts (x3 : Int32).toNatClampNeg)) hx hb hr (fun t ht hW => ⟨rfl, ht⟩) (fun q h => by cases h) dX9_memberLike_27
  refine lv_istore_n (lv' := [(3, .int (t_inner (a0 : Int32).toNatClampNeg)), (0, .ref ob0), (1, .int a0), (2, .int a1)]) hx hb dX9_memberLike_6 rfl hl (by decide) rfl (fun ls hl => ?_)
  exact j7 sr_fuel a1 (t_inner (a0 : Int32).toNatClampNeg) ls (lv_sub hl [1, 3, 0] rfl) hm
set_option maxHeartbeats 4000000 in
set_option maxRecDepth 100000 in
theorem kX9_defined (l : Launch) (htr : l.stackTraces = false) (dC : Nat → ClassId) (dI : Nat → Nat → Nat) (adK adV : Nat → Nat) (cI cB cJ cZ cQ : ClassId) (ob0 tq_bytes tq_kinds tq_firsts tq_numbers tq_sizes tq_inner tq_nexts tq_letters tq_sorts tq_names tq_wide tq_kids tq_many tq_fallback tq_kidShape tq_kidName tq_kidDefault tq_kidNext tq_finished tq_plain tq_told : Nat) (t_length : Int32) (t_at : Int32) (t_deep : Int32) (t_fault : Int32) (t_place : Int32) (t_end : Int32) (t_nodes : Int32) (t_lettered : Int32) (t_shapes : Int32) (t_looked : Int32) (t_kidCount : Int32) (t_done : Int32) (t_root : Int32) (t_plainSize : Int32) (t_numbers : Nat → Int64) (t_sizes : Nat → Int32) (t_letters : Nat → Int32) (t_names : Nat → Int32) (a0 : Int32) (res : Int32) (hm : m_X9_defined t_numbers t_sizes t_letters t_shapes t_names a0 = some res) : Met l yX9_defined wsX9_defined (rmX9_defined 0 0) (pcR (sr_Z adK adV) (dC, dI) srCl [(cI, .int), (cB, .byte), (cJ, .long), (cZ, .boolean), (cQ, .object "SchemaReader$Schema")] [.ref ob0, .int a0] [(ob0, .inr (0, [.ref tq_bytes, .int t_length, .int t_at, .int t_deep, .int t_fault, .int t_place, .int t_end, .int t_nodes, .ref tq_kinds, .ref tq_firsts, .ref tq_numbers, .ref tq_sizes, .ref tq_inner, .ref tq_nexts, .ref tq_letters, .int t_lettered, .int t_shapes, .int t_looked, .ref tq_sorts, .ref tq_names, .ref tq_wide, .ref tq_kids, .ref tq_many, .ref tq_fallback, .int t_kidCount, .ref tq_kidShape, .ref tq_kidName, .ref tq_kidDefault, .ref tq_kidNext, .int t_done, .ref tq_finished, .int t_root, .ref tq_plain, .int t_plainSize, .ref tq_told])), (tq_numbers, .inl (cJ, 4200, .inr (.inl t_numbers))), (tq_sizes, .inl (cI, 4200, .inl t_sizes)), (tq_letters, .inl (cB, 4200, .inl t_letters)), (tq_names, .inl (cI, 140, .inl t_names))]) (k2_QcV (.int res)) 0 0 (fun _ => False) := by
  refine Met.ofW (cc := cX9_defined) (maxL := 3) (ret := (some .int)) (by decide) rfl ?_
  intro p e s m args below meth c s₁ B hml hv
  obtain ⟨rfl, hP, hK, hz0⟩ := hv
  have hx := B.exec
  have hb := B.bytes
  have hr := B.returns
  have hts := atoms_spec (ws := wsX9_defined) B.pre
  have hown : s.vm.findClass RX9 = some m.cls := findClass_of_methodNamed B.named
  have hlocks := B.notSynchronized
  have hS : va_S (fun _ => False) s.heap s.heap [] := va_S.rf
  generalize hQ0 : MQ below (k2_QcV (.int res)) [.ref ob0, .int a0].toArray s 0 0 (fun _ => False) = Q0
  have hl := lv_entry [.ref ob0, .int a0] (n := 3) (Nat.le_of_ble_eq_true rfl)
  rw [lg_entry_eq]
  generalize (lg_sl [.ref ob0, .int a0] ++ List.replicate (3 - (lg_sl [.ref ob0, .int a0]).length) Slot.unset).toArray = ls at hl ⊢
  have hl : lv_has ls 3 [(0, .ref ob0), (1, .int a0)] := hl
  unfold m_X9_defined at hm
  refine lv_bipush (v := 6) hx hb dX9_defined_0 (by decide) ?_
  have j3 : ∀ (n3 : Nat) (x1 : Int32) (x2 : Int32) (ls : Array Slot), lv_has ls 3 [(0, .ref ob0), (1, .int x1), (2, .int x2)] → m_X9_defined_3 t_numbers t_sizes t_letters t_shapes t_names n3 x1 x2 = some res → W p l e (headSpec wsX9_defined (rmX9_defined 0 0)).room s m [.ref ob0, .int a0].toArray below meth c s.heap [] 0 0 Q0 (F0 m 3 ls []) := by
    intro n3
    induction n3 with
    | zero => intro x1 x2 ls hl hm; exact nomatch (show (none : Option _) = some res from hm)
    | succ n3 ih3 =>
      intro x1 x2 ls hl hm
      rw [m_X9_defined_3] at hm
      refine lv_iload_n hx hb dX9_defined_3 rfl (lv_at hl 2 rfl) ?_
      refine lv_aload_n hx hb dX9_defined_4 rfl (lv_at hl 0 rfl) ?_
      refine va_get (D := (dC, dI)) (ci := 0) (v := .int t_shapes) (C := RX9) (T := TX9) (N := 35) hx hb hts (inX9 _) hown hK hP 0 rfl rfl 16 (by decide) (hts _ (List.mem_cons_of_mem _ wf9_189)) (fun _ h9 => h9) rfl dX9_defined_5 ?_
      refine lv_icmp_ge (tgt := 43) hx hb dX9_defined_8 (by decide) (fun c1 => ?_) (fun c1 => ?_)
      · have hm := mr_if c1 hm
        refine lv_iconst (v := -1) hx hb dX9_defined_43 (by decide) ?_
        obtain rfl := Option.some.inj hm
        subst hQ0
        exact W.iret (v := (-1)) hx hb hr (fun t ht hW => ⟨rfl, ht⟩) (fun q h => by cases h) dX9_defined_44
      · have hm := mr_un c1 hm
        refine lv_aload_n hx hb dX9_defined_11 rfl (lv_at hl 0 rfl) ?_
        refine va_get (D := (dC, dI)) (ci := 0) (v := .ref tq_names) (C := RX9) (T := TX9) (N := 35) hx hb hts (inX9 _) hown hK hP 0 rfl rfl 19 (by decide) (hts _ (List.mem_cons_of_mem _ wf9_41)) (fun _ h9 => h9) rfl dX9_defined_12 ?_
        refine lv_iload_n hx hb dX9_defined_15 rfl (lv_at hl 2 rfl) ?_
        obtain ⟨h2, hm⟩ := mr_bd hm
        refine va_iald hx hb hK hP 4 0 rfl rfl h2 dX9_defined_16 ?_
        refine lv_if_lt (tgt := 37) hx hb dX9_defined_17 (by decide) (fun c3 => ?_) (fun c3 => ?_)
        · have hm := mr_if c3 hm
          refine lv_iinc (v := x2 + 1) (lv' := [(2, .int (x2 + 1)), (0, .ref ob0), (1, .int x1)]) hx hb dX9_defined_37 hl (k := 2) rfl rfl (by decide) rfl (fun ls hl => ?_)
          refine lv_goto (tgt := 3) hx hb dX9_defined_40 (by decide) ?_
          exact ih3 x1 (x2 + 1) ls (lv_sub hl [1, 2, 0] rfl) hm
        · have hm := mr_un c3 hm
          refine lv_aload_n hx hb dX9_defined_20 rfl (lv_at hl 0 rfl) ?_
          refine lv_aload_n hx hb dX9_defined_21 rfl (lv_at hl 0 rfl) ?_
          refine va_get (D := (dC, dI)) (ci := 0) (v := .ref tq_names) (C := RX9) (T := TX9) (N := 35) hx hb hts (inX9 _) hown hK hP 0 rfl rfl 19 (by decide) (hts _ (List.mem_cons_of_mem _ wf9_41)) (fun _ h9 => h9) rfl dX9_defined_22 ?_
          refine lv_iload_n hx hb dX9_defined_25 rfl (lv_at hl 2 rfl) ?_
          obtain ⟨h4, hm⟩ := mr_bd hm
          refine va_iald hx hb hK hP 4 0 rfl rfl h4 dX9_defined_26 ?_
          refine lv_aload_n hx hb dX9_defined_27 rfl (lv_at hl 0 rfl) ?_
          refine lv_iload_n hx hb dX9_defined_28 rfl (lv_at hl 1 rfl) ?_
          obtain ⟨r5, hz5, hm⟩ := mr_bind hm
          refine mr_pV (As := [.int (t_names (x2 : Int32).toNatClampNeg), .ref ob0, .int x1]) (rest := []) (sr_okZ adK adV) ⟨hx, hb, hml, hown, hts⟩ (kX9_same l htr dC dI adK adV cI cB cJ cZ cQ ob0 tq_bytes tq_kinds tq_firsts tq_numbers tq_sizes tq_inner tq_nexts tq_letters tq_sorts tq_names tq_wide tq_kids tq_many tq_fallback tq_kidShape tq_kidName tq_kidDefault tq_kidNext tq_finished tq_plain tq_told ob0 tq_bytes tq_kinds tq_firsts tq_numbers tq_sizes tq_inner tq_nexts tq_letters tq_sorts tq_names tq_wide tq_kids tq_many tq_fallback tq_kidShape tq_kidName tq_kidDefault tq_kidNext tq_finished tq_plain tq_told t_length t_at t_deep t_fault t_place t_end t_nodes t_lettered t_shapes t_looked t_kidCount t_done t_root t_plainSize t_length t_at t_deep t_fault t_place t_end t_nodes t_lettered t_shapes t_looked t_kidCount t_done t_root t_plainSize t_numbers t_sizes t_letters t_numbers t_sizes t_letters (t_names (x2 : Int32).toNatClampNeg) x1 r5 hz5) (cwV 3 hts (g9_155 _) rfl rfl rfl (by decide +kernel) ⟨(by show 0 + 1 ≤ 1; omega), (by show 8 + (5 + 11) + (0) ≤ 24; omega)⟩) hS hP hK hz0 [0, 1, 2, 3, 0, 1, 2, 3] rfl (va_recv hK hP (ci := 0) (q0 := 0) rfl rfl) rfl rfl hl.1 (Nat.le_of_ble_eq_true rfl) dX9_defined_29 ⟨Nat.zero_le _, Nat.zero_le _⟩ ?_
          refine lv_if_eq (tgt := 37) hx hb dX9_defined_32 (by decide) (fun c6 => ?_) (fun c6 => ?_)
          · have hm := mr_if c6 hm
            refine lv_iinc (v := x2 + 1) (lv' := [(2, .int (x2 + 1)), (0, .ref ob0), (1, .int x1)]) hx hb dX9_defined_37 hl (k := 2) rfl rfl (by decide) rfl (fun ls hl => ?_)
            refine lv_goto (tgt := 3) hx hb dX9_defined_40 (by decide) ?_
            exact ih3 x1 (x2 + 1) ls (lv_sub hl [1, 2, 0] rfl) hm
          · have hm := mr_un c6 hm
            refine lv_iload_n hx hb dX9_defined_35 rfl (lv_at hl 2 rfl) ?_
            obtain rfl := Option.some.inj hm
            subst hQ0
            exact W.iret (v := x2) hx hb hr (fun t ht hW => ⟨rfl, ht⟩) (fun q h => by cases h) dX9_defined_36
  refine lv_istore_n (lv' := [(2, .int 6), (0, .ref ob0), (1, .int a0)]) hx hb dX9_defined_2 rfl hl (by decide) rfl (fun ls hl => ?_)
  exact j3 sr_fuel a0 6 ls (lv_sub hl [1, 2, 0] rfl) hm
set_option maxHeartbeats 4000000 in
set_option maxRecDepth 100000 in
theorem kX9_shape (l : Launch) (htr : l.stackTraces = false) (dC : Nat → ClassId) (dI : Nat → Nat → Nat) (adK adV : Nat → Nat) (cI cB cJ cZ cQ : ClassId) (ob0 tq_bytes tq_kinds tq_firsts tq_numbers tq_sizes tq_inner tq_nexts tq_letters tq_sorts tq_names tq_wide tq_kids tq_many tq_fallback tq_kidShape tq_kidName tq_kidDefault tq_kidNext tq_finished tq_plain tq_told : Nat) (t_length : Int32) (t_at : Int32) (t_deep : Int32) (t_fault : Int32) (t_place : Int32) (t_end : Int32) (t_nodes : Int32) (t_lettered : Int32) (t_shapes : Int32) (t_looked : Int32) (t_kidCount : Int32) (t_done : Int32) (t_root : Int32) (t_plainSize : Int32) (t_sorts : Nat → Int32) (t_names : Nat → Int32) (t_wide : Nat → Int32) (t_kids : Nat → Int32) (t_many : Nat → Int32) (t_fallback : Nat → Int32) (sz : Nat) (a0 : Int32) (res : Int32 × Int32 × (Nat → Int32) × (Nat → Int32) × (Nat → Int32) × (Nat → Int32) × (Nat → Int32) × (Nat → Int32)) (hm : m_X9_shape t_shapes t_sorts t_names t_wide t_kids t_many t_fallback a0 = some res) : Met l yX9_shape wsX9_shape (rmX9_shape 0 0) (pcW (sr_Z adK adV) (dC, dI) srCl [(cI, .int), (cB, .byte), (cJ, .long), (cZ, .boolean), (cQ, .object "SchemaReader$Schema")] [.ref ob0, .int a0] [(ob0, .inr (0, [.ref tq_bytes, .int t_length, .int t_at, .int t_deep, .int t_fault, .int t_place, .int t_end, .int t_nodes, .ref tq_kinds, .ref tq_firsts, .ref tq_numbers, .ref tq_sizes, .ref tq_inner, .ref tq_nexts, .ref tq_letters, .int t_lettered, .int t_shapes, .int t_looked, .ref tq_sorts, .ref tq_names, .ref tq_wide, .ref tq_kids, .ref tq_many, .ref tq_fallback, .int t_kidCount, .ref tq_kidShape, .ref tq_kidName, .ref tq_kidDefault, .ref tq_kidNext, .int t_done, .ref tq_finished, .int t_root, .ref tq_plain, .int t_plainSize, .ref tq_told])), (tq_sorts, .inl (cI, 140, .inl t_sorts)), (tq_names, .inl (cI, 140, .inl t_names)), (tq_wide, .inl (cI, 140, .inl t_wide)), (tq_kids, .inl (cI, 140, .inl t_kids)), (tq_many, .inl (cI, 140, .inl t_many)), (tq_fallback, .inl (cI, 140, .inl t_fallback))] sz) (va_Qi (fun r' u' => r' = res.1 ∧ u' = res.2) (pcB (dC, dI) srCl [(cI, .int), (cB, .byte), (cJ, .long), (cZ, .boolean), (cQ, .object "SchemaReader$Schema")] (fun u : Int32 × (Nat → Int32) × (Nat → Int32) × (Nat → Int32) × (Nat → Int32) × (Nat → Int32) × (Nat → Int32) => [(ob0, .inr (0, [.ref tq_bytes, .int t_length, .int t_at, .int t_deep, .int t_fault, .int t_place, .int t_end, .int t_nodes, .ref tq_kinds, .ref tq_firsts, .ref tq_numbers, .ref tq_sizes, .ref tq_inner, .ref tq_nexts, .ref tq_letters, .int t_lettered, .int u.1, .int t_looked, .ref tq_sorts, .ref tq_names, .ref tq_wide, .ref tq_kids, .ref tq_many, .ref tq_fallback, .int t_kidCount, .ref tq_kidShape, .ref tq_kidName, .ref tq_kidDefault, .ref tq_kidNext, .int t_done, .ref tq_finished, .int t_root, .ref tq_plain, .int t_plainSize, .ref tq_told])), (tq_sorts, .inl (cI, 140, .inl u.2.1)), (tq_names, .inl (cI, 140, .inl u.2.2.1)), (tq_wide, .inl (cI, 140, .inl u.2.2.2.1)), (tq_kids, .inl (cI, 140, .inl u.2.2.2.2.1)), (tq_many, .inl (cI, 140, .inl u.2.2.2.2.2.1)), (tq_fallback, .inl (cI, 140, .inl u.2.2.2.2.2.2))]) (va_A [(ob0, .inr (0, [.ref tq_bytes, .int t_length, .int t_at, .int t_deep, .int t_fault, .int t_place, .int t_end, .int t_nodes, .ref tq_kinds, .ref tq_firsts, .ref tq_numbers, .ref tq_sizes, .ref tq_inner, .ref tq_nexts, .ref tq_letters, .int t_lettered, .int t_shapes, .int t_looked, .ref tq_sorts, .ref tq_names, .ref tq_wide, .ref tq_kids, .ref tq_many, .ref tq_fallback, .int t_kidCount, .ref tq_kidShape, .ref tq_kidName, .ref tq_kidDefault, .ref tq_kidNext, .int t_done, .ref tq_finished, .int t_root, .ref tq_plain, .int t_plainSize, .ref tq_told])), (tq_sorts, .inl (cI, 140, .inl t_sorts)), (tq_names, .inl (cI, 140, .inl t_names)), (tq_wide, .inl (cI, 140, .inl t_wide)), (tq_kids, .inl (cI, 140, .inl t_kids)), (tq_many, .inl (cI, 140, .inl t_many)), (tq_fallback, .inl (cI, 140, .inl t_fallback))] sz)) (va_A [(ob0, .inr (0, [.ref tq_bytes, .int t_length, .int t_at, .int t_deep, .int t_fault, .int t_place, .int t_end, .int t_nodes, .ref tq_kinds, .ref tq_firsts, .ref tq_numbers, .ref tq_sizes, .ref tq_inner, .ref tq_nexts, .ref tq_letters, .int t_lettered, .int t_shapes, .int t_looked, .ref tq_sorts, .ref tq_names, .ref tq_wide, .ref tq_kids, .ref tq_many, .ref tq_fallback, .int t_kidCount, .ref tq_kidShape, .ref tq_kidName, .ref tq_kidDefault, .ref tq_kidNext, .int t_done, .ref tq_finished, .int t_root, .ref tq_plain, .int t_plainSize, .ref tq_told])), (tq_sorts, .inl (cI, 140, .inl t_sorts)), (tq_names, .inl (cI, 140, .inl t_names)), (tq_wide, .inl (cI, 140, .inl t_wide)), (tq_kids, .inl (cI, 140, .inl t_kids)), (tq_many, .inl (cI, 140, .inl t_many)), (tq_fallback, .inl (cI, 140, .inl t_fallback))] sz)) 0 0 (va_A [(ob0, .inr (0, [.ref tq_bytes, .int t_length, .int t_at, .int t_deep, .int t_fault, .int t_place, .int t_end, .int t_nodes, .ref tq_kinds, .ref tq_firsts, .ref tq_numbers, .ref tq_sizes, .ref tq_inner, .ref tq_nexts, .ref tq_letters, .int t_lettered, .int t_shapes, .int t_looked, .ref tq_sorts, .ref tq_names, .ref tq_wide, .ref tq_kids, .ref tq_many, .ref tq_fallback, .int t_kidCount, .ref tq_kidShape, .ref tq_kidName, .ref tq_kidDefault, .ref tq_kidNext, .int t_done, .ref tq_finished, .int t_root, .ref tq_plain, .int t_plainSize, .ref tq_told])), (tq_sorts, .inl (cI, 140, .inl t_sorts)), (tq_names, .inl (cI, 140, .inl t_names)), (tq_wide, .inl (cI, 140, .inl t_wide)), (tq_kids, .inl (cI, 140, .inl t_kids)), (tq_many, .inl (cI, 140, .inl t_many)), (tq_fallback, .inl (cI, 140, .inl t_fallback))] sz) := by
  refine Met.ofW (cc := cX9_shape) (maxL := 2) (ret := (some .int)) (by decide) rfl ?_
  intro p e s m args below meth c s₁ B hml hv
  obtain ⟨rfl, hsz, hP, hK, hD0, hz0⟩ := hv
  have hx := B.exec
  have hb := B.bytes
  have hr := B.returns
  have hts := atoms_spec (ws := wsX9_shape) B.pre
  have hown : s.vm.findClass RX9 = some m.cls := findClass_of_methodNamed B.named
  have hlocks := B.notSynchronized
  subst hsz
  have hD := hD0.self (sz := s.heap.size)
  generalize hAe : va_A [(ob0, .inr (0, [.ref tq_bytes, .int t_length, .int t_at, .int t_deep, .int t_fault, .int t_place, .int t_end, .int t_nodes, .ref tq_kinds, .ref tq_firsts, .ref tq_numbers, .ref tq_sizes, .ref tq_inner, .ref tq_nexts, .ref tq_letters, .int t_lettered, .int t_shapes, .int t_looked, .ref tq_sorts, .ref tq_names, .ref tq_wide, .ref tq_kids, .ref tq_many, .ref tq_fallback, .int t_kidCount, .ref tq_kidShape, .ref tq_kidName, .ref tq_kidDefault, .ref tq_kidNext, .int t_done, .ref tq_finished, .int t_root, .ref tq_plain, .int t_plainSize, .ref tq_told])), (tq_sorts, .inl (cI, 140, .inl t_sorts)), (tq_names, .inl (cI, 140, .inl t_names)), (tq_wide, .inl (cI, 140, .inl t_wide)), (tq_kids, .inl (cI, 140, .inl t_kids)), (tq_many, .inl (cI, 140, .inl t_many)), (tq_fallback, .inl (cI, 140, .inl t_fallback))] s.heap.size = A at hD hz0 ⊢
  have hA : ∀ q : Nat, s.heap.size ≤ q → A q := fun q h => by rw [← hAe]; exact Or.inr h
  have hS : va_S A s.heap s.heap [] := va_S.rf
  generalize hQ0 : MQ below (va_Qi (fun r' u' => r' = res.1 ∧ u' = res.2) (pcB (dC, dI) srCl [(cI, .int), (cB, .byte), (cJ, .long), (cZ, .boolean), (cQ, .object "SchemaReader$Schema")] (fun u : Int32 × (Nat → Int32) × (Nat → Int32) × (Nat → Int32) × (Nat → Int32) × (Nat → Int32) × (Nat → Int32) => [(ob0, .inr (0, [.ref tq_bytes, .int t_length, .int t_at, .int t_deep, .int t_fault, .int t_place, .int t_end, .int t_nodes, .ref tq_kinds, .ref tq_firsts, .ref tq_numbers, .ref tq_sizes, .ref tq_inner, .ref tq_nexts, .ref tq_letters, .int t_lettered, .int u.1, .int t_looked, .ref tq_sorts, .ref tq_names, .ref tq_wide, .ref tq_kids, .ref tq_many, .ref tq_fallback, .int t_kidCount, .ref tq_kidShape, .ref tq_kidName, .ref tq_kidDefault, .ref tq_kidNext, .int t_done, .ref tq_finished, .int t_root, .ref tq_plain, .int t_plainSize, .ref tq_told])), (tq_sorts, .inl (cI, 140, .inl u.2.1)), (tq_names, .inl (cI, 140, .inl u.2.2.1)), (tq_wide, .inl (cI, 140, .inl u.2.2.2.1)), (tq_kids, .inl (cI, 140, .inl u.2.2.2.2.1)), (tq_many, .inl (cI, 140, .inl u.2.2.2.2.2.1)), (tq_fallback, .inl (cI, 140, .inl u.2.2.2.2.2.2))]) A) A) [.ref ob0, .int a0].toArray s 0 0 A = Q0
  have hl := lv_entry [.ref ob0, .int a0] (n := 2) (Nat.le_of_ble_eq_true rfl)
  rw [lg_entry_eq]
  generalize (lg_sl [.ref ob0, .int a0] ++ List.replicate (2 - (lg_sl [.ref ob0, .int a0]).length) Slot.unset).toArray = ls at hl ⊢
  have hl : lv_has ls 2 [(0, .ref ob0), (1, .int a0)] := hl
  unfold m_X9_shape at hm
  refine lv_aload_n hx hb dX9_shape_0 rfl (lv_at hl 0 rfl) ?_
  refine va_get (D := (dC, dI)) (ci := 0) (v := .ref tq_sorts) (C := RX9) (T := TX9) (N := 35) hx hb hts (inX9 _) hown hK hP 0 rfl rfl 18 (by decide) (hts _ (List.mem_cons_of_mem _ wf9_38)) (fun _ h9 => h9) rfl dX9_shape_1 ?_
  refine lv_aload_n hx hb dX9_shape_4 rfl (lv_at hl 0 rfl) ?_
  refine va_get (D := (dC, dI)) (ci := 0) (v := .int t_shapes) (C := RX9) (T := TX9) (N := 35) hx hb hts (inX9 _) hown hK hP 0 rfl rfl 16 (by decide) (hts _ (List.mem_cons_of_mem _ wf9_189)) (fun _ h9 => h9) rfl dX9_shape_5 ?_
  refine lv_iload_n hx hb dX9_shape_8 rfl (lv_at hl 1 rfl) ?_
  obtain ⟨h1, hm⟩ := mr_bd hm
  refine va_iast hx hb hK hP hD hS 1 0 rfl rfl h1 dX9_shape_9 (fun H locs hP hD hS => ?_)
  have hP : va_P (dC, dI) srCl [(ob0, .inr (0, [.ref tq_bytes, .int t_length, .int t_at, .int t_deep, .int t_fault, .int t_place, .int t_end, .int t_nodes, .ref tq_kinds, .ref tq_firsts, .ref tq_numbers, .ref tq_sizes, .ref tq_inner, .ref tq_nexts, .ref tq_letters, .int t_lettered, .int t_shapes, .int t_looked, .ref tq_sorts, .ref tq_names, .ref tq_wide, .ref tq_kids, .ref tq_many, .ref tq_fallback, .int t_kidCount, .ref tq_kidShape, .ref tq_kidName, .ref tq_kidDefault, .ref tq_kidNext, .int t_done, .ref tq_finished, .int t_root, .ref tq_plain, .int t_plainSize, .ref tq_told])), (tq_sorts, .inl (cI, 140, .inl (upd t_sorts (t_shapes : Int32).toNatClampNeg a0))), (tq_names, .inl (cI, 140, .inl t_names)), (tq_wide, .inl (cI, 140, .inl t_wide)), (tq_kids, .inl (cI, 140, .inl t_kids)), (tq_many, .inl (cI, 140, .inl t_many)), (tq_fallback, .inl (cI, 140, .inl t_fallback))] H := hP
  have hD : va_D A [(ob0, .inr (0, [.ref tq_bytes, .int t_length, .int t_at, .int t_deep, .int t_fault, .int t_place, .int t_end, .int t_nodes, .ref tq_kinds, .ref tq_firsts, .ref tq_numbers, .ref tq_sizes, .ref tq_inner, .ref tq_nexts, .ref tq_letters, .int t_lettered, .int t_shapes, .int t_looked, .ref tq_sorts, .ref tq_names, .ref tq_wide, .ref tq_kids, .ref tq_many, .ref tq_fallback, .int t_kidCount, .ref tq_kidShape, .ref tq_kidName, .ref tq_kidDefault, .ref tq_kidNext, .int t_done, .ref tq_finished, .int t_root, .ref tq_plain, .int t_plainSize, .ref tq_told])), (tq_sorts, .inl (cI, 140, .inl (upd t_sorts (t_shapes : Int32).toNatClampNeg a0))), (tq_names, .inl (cI, 140, .inl t_names)), (tq_wide, .inl (cI, 140, .inl t_wide)), (tq_kids, .inl (cI, 140, .inl t_kids)), (tq_many, .inl (cI, 140, .inl t_many)), (tq_fallback, .inl (cI, 140, .inl t_fallback))] := hD
  refine lv_aload_n hx hb dX9_shape_10 rfl (lv_at hl 0 rfl) ?_
  refine va_get (D := (dC, dI)) (ci := 0) (v := .ref tq_names) (C := RX9) (T := TX9) (N := 35) hx hb hts (inX9 _) hown hK hP 0 rfl rfl 19 (by decide) (hts _ (List.mem_cons_of_mem _ wf9_41)) (fun _ h9 => h9) rfl dX9_shape_11 ?_
  refine lv_aload_n hx hb dX9_shape_14 rfl (lv_at hl 0 rfl) ?_
  refine va_get (D := (dC, dI)) (ci := 0) (v := .int t_shapes) (C := RX9) (T := TX9) (N := 35) hx hb hts (inX9 _) hown hK hP 0 rfl rfl 16 (by decide) (hts _ (List.mem_cons_of_mem _ wf9_189)) (fun _ h9 => h9) rfl dX9_shape_15 ?_
  refine lv_iconst (v := -1) hx hb dX9_shape_18 (by decide) ?_
  obtain ⟨h2, hm⟩ := mr_bd hm
  refine va_iast hx hb hK hP hD hS 2 0 rfl rfl h2 dX9_shape_19 (fun H locs hP hD hS => ?_)
  have hP : va_P (dC, dI) srCl [(ob0, .inr (0, [.ref tq_bytes, .int t_length, .int t_at, .int t_deep, .int t_fault, .int t_place, .int t_end, .int t_nodes, .ref tq_kinds, .ref tq_firsts, .ref tq_numbers, .ref tq_sizes, .ref tq_inner, .ref tq_nexts, .ref tq_letters, .int t_lettered, .int t_shapes, .int t_looked, .ref tq_sorts, .ref tq_names, .ref tq_wide, .ref tq_kids, .ref tq_many, .ref tq_fallback, .int t_kidCount, .ref tq_kidShape, .ref tq_kidName, .ref tq_kidDefault, .ref tq_kidNext, .int t_done, .ref tq_finished, .int t_root, .ref tq_plain, .int t_plainSize, .ref tq_told])), (tq_sorts, .inl (cI, 140, .inl (upd t_sorts (t_shapes : Int32).toNatClampNeg a0))), (tq_names, .inl (cI, 140, .inl (upd t_names (t_shapes : Int32).toNatClampNeg (-1)))), (tq_wide, .inl (cI, 140, .inl t_wide)), (tq_kids, .inl (cI, 140, .inl t_kids)), (tq_many, .inl (cI, 140, .inl t_many)), (tq_fallback, .inl (cI, 140, .inl t_fallback))] H := hP
  have hD : va_D A [(ob0, .inr (0, [.ref tq_bytes, .int t_length, .int t_at, .int t_deep, .int t_fault, .int t_place, .int t_end, .int t_nodes, .ref tq_kinds, .ref tq_firsts, .ref tq_numbers, .ref tq_sizes, .ref tq_inner, .ref tq_nexts, .ref tq_letters, .int t_lettered, .int t_shapes, .int t_looked, .ref tq_sorts, .ref tq_names, .ref tq_wide, .ref tq_kids, .ref tq_many, .ref tq_fallback, .int t_kidCount, .ref tq_kidShape, .ref tq_kidName, .ref tq_kidDefault, .ref tq_kidNext, .int t_done, .ref tq_finished, .int t_root, .ref tq_plain, .int t_plainSize, .ref tq_told])), (tq_sorts, .inl (cI, 140, .inl (upd t_sorts (t_shapes : Int32).toNatClampNeg a0))), (tq_names, .inl (cI, 140, .inl (upd t_names (t_shapes : Int32).toNatClampNeg (-1)))), (tq_wide, .inl (cI, 140, .inl t_wide)), (tq_kids, .inl (cI, 140, .inl t_kids)), (tq_many, .inl (cI, 140, .inl t_many)), (tq_fallback, .inl (cI, 140, .inl t_fallback))] := hD
  refine lv_aload_n hx hb dX9_shape_20 rfl (lv_at hl 0 rfl) ?_
  refine va_get (D := (dC, dI)) (ci := 0) (v := .ref tq_wide) (C := RX9) (T := TX9) (N := 35) hx hb hts (inX9 _) hown hK hP 0 rfl rfl 20 (by decide) (hts _ (List.mem_cons_of_mem _ wf9_44)) (fun _ h9 => h9) rfl dX9_shape_21 ?_
  refine lv_aload_n hx hb dX9_shape_24 rfl (lv_at hl 0 rfl) ?_
  refine va_get (D := (dC, dI)) (ci := 0) (v := .int t_shapes) (C := RX9) (T := TX9) (N := 35) hx hb hts (inX9 _) hown hK hP 0 rfl rfl 16 (by decide) (hts _ (List.mem_cons_of_mem _ wf9_189)) (fun _ h9 => h9) rfl dX9_shape_25 ?_
  refine lv_iconst (v := 0) hx hb dX9_shape_28 (by decide) ?_
  obtain ⟨h3, hm⟩ := mr_bd hm
  refine va_iast hx hb hK hP hD hS 3 0 rfl rfl h3 dX9_shape_29 (fun H locs hP hD hS => ?_)
  have hP : va_P (dC, dI) srCl [(ob0, .inr (0, [.ref tq_bytes, .int t_length, .int t_at, .int t_deep, .int t_fault, .int t_place, .int t_end, .int t_nodes, .ref tq_kinds, .ref tq_firsts, .ref tq_numbers, .ref tq_sizes, .ref tq_inner, .ref tq_nexts, .ref tq_letters, .int t_lettered, .int t_shapes, .int t_looked, .ref tq_sorts, .ref tq_names, .ref tq_wide, .ref tq_kids, .ref tq_many, .ref tq_fallback, .int t_kidCount, .ref tq_kidShape, .ref tq_kidName, .ref tq_kidDefault, .ref tq_kidNext, .int t_done, .ref tq_finished, .int t_root, .ref tq_plain, .int t_plainSize, .ref tq_told])), (tq_sorts, .inl (cI, 140, .inl (upd t_sorts (t_shapes : Int32).toNatClampNeg a0))), (tq_names, .inl (cI, 140, .inl (upd t_names (t_shapes : Int32).toNatClampNeg (-1)))), (tq_wide, .inl (cI, 140, .inl (upd t_wide (t_shapes : Int32).toNatClampNeg 0))), (tq_kids, .inl (cI, 140, .inl t_kids)), (tq_many, .inl (cI, 140, .inl t_many)), (tq_fallback, .inl (cI, 140, .inl t_fallback))] H := hP
  have hD : va_D A [(ob0, .inr (0, [.ref tq_bytes, .int t_length, .int t_at, .int t_deep, .int t_fault, .int t_place, .int t_end, .int t_nodes, .ref tq_kinds, .ref tq_firsts, .ref tq_numbers, .ref tq_sizes, .ref tq_inner, .ref tq_nexts, .ref tq_letters, .int t_lettered, .int t_shapes, .int t_looked, .ref tq_sorts, .ref tq_names, .ref tq_wide, .ref tq_kids, .ref tq_many, .ref tq_fallback, .int t_kidCount, .ref tq_kidShape, .ref tq_kidName, .ref tq_kidDefault, .ref tq_kidNext, .int t_done, .ref tq_finished, .int t_root, .ref tq_plain, .int t_plainSize, .ref tq_told])), (tq_sorts, .inl (cI, 140, .inl (upd t_sorts (t_shapes : Int32).toNatClampNeg a0))), (tq_names, .inl (cI, 140, .inl (upd t_names (t_shapes : Int32).toNatClampNeg (-1)))), (tq_wide, .inl (cI, 140, .inl (upd t_wide (t_shapes : Int32).toNatClampNeg 0))), (tq_kids, .inl (cI, 140, .inl t_kids)), (tq_many, .inl (cI, 140, .inl t_many)), (tq_fallback, .inl (cI, 140, .inl t_fallback))] := hD
  refine lv_aload_n hx hb dX9_shape_30 rfl (lv_at hl 0 rfl) ?_
  refine va_get (D := (dC, dI)) (ci := 0) (v := .ref tq_kids) (C := RX9) (T := TX9) (N := 35) hx hb hts (inX9 _) hown hK hP 0 rfl rfl 21 (by decide) (hts _ (List.mem_cons_of_mem _ wf9_47)) (fun _ h9 => h9) rfl dX9_shape_31 ?_
  refine lv_aload_n hx hb dX9_shape_34 rfl (lv_at hl 0 rfl) ?_
  refine va_get (D := (dC, dI)) (ci := 0) (v := .int t_shapes) (C := RX9) (T := TX9) (N := 35) hx hb hts (inX9 _) hown hK hP 0 rfl rfl 16 (by decide) (hts _ (List.mem_cons_of_mem _ wf9_189)) (fun _ h9 => h9) rfl dX9_shape_35 ?_
  refine lv_iconst (v := -1) hx hb dX9_shape_38 (by decide) ?_
  obtain ⟨h4, hm⟩ := mr_bd hm
  refine va_iast hx hb hK hP hD hS 4 0 rfl rfl h4 dX9_shape_39 (fun H locs hP hD hS => ?_)
  have hP : va_P (dC, dI) srCl [(ob0, .inr (0, [.ref tq_bytes, .int t_length, .int t_at, .int t_deep, .int t_fault, .int t_place, .int t_end, .int t_nodes, .ref tq_kinds, .ref tq_firsts, .ref tq_numbers, .ref tq_sizes, .ref tq_inner, .ref tq_nexts, .ref tq_letters, .int t_lettered, .int t_shapes, .int t_looked, .ref tq_sorts, .ref tq_names, .ref tq_wide, .ref tq_kids, .ref tq_many, .ref tq_fallback, .int t_kidCount, .ref tq_kidShape, .ref tq_kidName, .ref tq_kidDefault, .ref tq_kidNext, .int t_done, .ref tq_finished, .int t_root, .ref tq_plain, .int t_plainSize, .ref tq_told])), (tq_sorts, .inl (cI, 140, .inl (upd t_sorts (t_shapes : Int32).toNatClampNeg a0))), (tq_names, .inl (cI, 140, .inl (upd t_names (t_shapes : Int32).toNatClampNeg (-1)))), (tq_wide, .inl (cI, 140, .inl (upd t_wide (t_shapes : Int32).toNatClampNeg 0))), (tq_kids, .inl (cI, 140, .inl (upd t_kids (t_shapes : Int32).toNatClampNeg (-1)))), (tq_many, .inl (cI, 140, .inl t_many)), (tq_fallback, .inl (cI, 140, .inl t_fallback))] H := hP
  have hD : va_D A [(ob0, .inr (0, [.ref tq_bytes, .int t_length, .int t_at, .int t_deep, .int t_fault, .int t_place, .int t_end, .int t_nodes, .ref tq_kinds, .ref tq_firsts, .ref tq_numbers, .ref tq_sizes, .ref tq_inner, .ref tq_nexts, .ref tq_letters, .int t_lettered, .int t_shapes, .int t_looked, .ref tq_sorts, .ref tq_names, .ref tq_wide, .ref tq_kids, .ref tq_many, .ref tq_fallback, .int t_kidCount, .ref tq_kidShape, .ref tq_kidName, .ref tq_kidDefault, .ref tq_kidNext, .int t_done, .ref tq_finished, .int t_root, .ref tq_plain, .int t_plainSize, .ref tq_told])), (tq_sorts, .inl (cI, 140, .inl (upd t_sorts (t_shapes : Int32).toNatClampNeg a0))), (tq_names, .inl (cI, 140, .inl (upd t_names (t_shapes : Int32).toNatClampNeg (-1)))), (tq_wide, .inl (cI, 140, .inl (upd t_wide (t_shapes : Int32).toNatClampNeg 0))), (tq_kids, .inl (cI, 140, .inl (upd t_kids (t_shapes : Int32).toNatClampNeg (-1)))), (tq_many, .inl (cI, 140, .inl t_many)), (tq_fallback, .inl (cI, 140, .inl t_fallback))] := hD
  refine lv_aload_n hx hb dX9_shape_40 rfl (lv_at hl 0 rfl) ?_
  refine va_get (D := (dC, dI)) (ci := 0) (v := .ref tq_many) (C := RX9) (T := TX9) (N := 35) hx hb hts (inX9 _) hown hK hP 0 rfl rfl 22 (by decide) (hts _ (List.mem_cons_of_mem _ wf9_50)) (fun _ h9 => h9) rfl dX9_shape_41 ?_
  refine lv_aload_n hx hb dX9_shape_44 rfl (lv_at hl 0 rfl) ?_
  refine va_get (D := (dC, dI)) (ci := 0) (v := .int t_shapes) (C := RX9) (T := TX9) (N := 35) hx hb hts (inX9 _) hown hK hP 0 rfl rfl 16 (by decide) (hts _ (List.mem_cons_of_mem _ wf9_189)) (fun _ h9 => h9) rfl dX9_shape_45 ?_
  refine lv_iconst (v := 0) hx hb dX9_shape_48 (by decide) ?_
  obtain ⟨h5, hm⟩ := mr_bd hm
  refine va_iast hx hb hK hP hD hS 5 0 rfl rfl h5 dX9_shape_49 (fun H locs hP hD hS => ?_)
  have hP : va_P (dC, dI) srCl [(ob0, .inr (0, [.ref tq_bytes, .int t_length, .int t_at, .int t_deep, .int t_fault, .int t_place, .int t_end, .int t_nodes, .ref tq_kinds, .ref tq_firsts, .ref tq_numbers, .ref tq_sizes, .ref tq_inner, .ref tq_nexts, .ref tq_letters, .int t_lettered, .int t_shapes, .int t_looked, .ref tq_sorts, .ref tq_names, .ref tq_wide, .ref tq_kids, .ref tq_many, .ref tq_fallback, .int t_kidCount, .ref tq_kidShape, .ref tq_kidName, .ref tq_kidDefault, .ref tq_kidNext, .int t_done, .ref tq_finished, .int t_root, .ref tq_plain, .int t_plainSize, .ref tq_told])), (tq_sorts, .inl (cI, 140, .inl (upd t_sorts (t_shapes : Int32).toNatClampNeg a0))), (tq_names, .inl (cI, 140, .inl (upd t_names (t_shapes : Int32).toNatClampNeg (-1)))), (tq_wide, .inl (cI, 140, .inl (upd t_wide (t_shapes : Int32).toNatClampNeg 0))), (tq_kids, .inl (cI, 140, .inl (upd t_kids (t_shapes : Int32).toNatClampNeg (-1)))), (tq_many, .inl (cI, 140, .inl (upd t_many (t_shapes : Int32).toNatClampNeg 0))), (tq_fallback, .inl (cI, 140, .inl t_fallback))] H := hP
  have hD : va_D A [(ob0, .inr (0, [.ref tq_bytes, .int t_length, .int t_at, .int t_deep, .int t_fault, .int t_place, .int t_end, .int t_nodes, .ref tq_kinds, .ref tq_firsts, .ref tq_numbers, .ref tq_sizes, .ref tq_inner, .ref tq_nexts, .ref tq_letters, .int t_lettered, .int t_shapes, .int t_looked, .ref tq_sorts, .ref tq_names, .ref tq_wide, .ref tq_kids, .ref tq_many, .ref tq_fallback, .int t_kidCount, .ref tq_kidShape, .ref tq_kidName, .ref tq_kidDefault, .ref tq_kidNext, .int t_done, .ref tq_finished, .int t_root, .ref tq_plain, .int t_plainSize, .ref tq_told])), (tq_sorts, .inl (cI, 140, .inl (upd t_sorts (t_shapes : Int32).toNatClampNeg a0))), (tq_names, .inl (cI, 140, .inl (upd t_names (t_shapes : Int32).toNatClampNeg (-1)))), (tq_wide, .inl (cI, 140, .inl (upd t_wide (t_shapes : Int32).toNatClampNeg 0))), (tq_kids, .inl (cI, 140, .inl (upd t_kids (t_shapes : Int32).toNatClampNeg (-1)))), (tq_many, .inl (cI, 140, .inl (upd t_many (t_shapes : Int32).toNatClampNeg 0))), (tq_fallback, .inl (cI, 140, .inl t_fallback))] := hD
  refine lv_aload_n hx hb dX9_shape_50 rfl (lv_at hl 0 rfl) ?_
  refine va_get (D := (dC, dI)) (ci := 0) (v := .ref tq_fallback) (C := RX9) (T := TX9) (N := 35) hx hb hts (inX9 _) hown hK hP 0 rfl rfl 23 (by decide) (hts _ (List.mem_cons_of_mem _ wf9_53)) (fun _ h9 => h9) rfl dX9_shape_51 ?_
  refine lv_aload_n hx hb dX9_shape_54 rfl (lv_at hl 0 rfl) ?_
  refine va_get (D := (dC, dI)) (ci := 0) (v := .int t_shapes) (C := RX9) (T := TX9) (N := 35) hx hb hts (inX9 _) hown hK hP 0 rfl rfl 16 (by decide) (hts _ (List.mem_cons_of_mem _ wf9_189)) (fun _ h9 => h9) rfl dX9_shape_55 ?_
  refine lv_iconst (v := -1) hx hb dX9_shape_58 (by decide) ?_
  obtain ⟨h6, hm⟩ := mr_bd hm
  refine va_iast hx hb hK hP hD hS 6 0 rfl rfl h6 dX9_shape_59 (fun H locs hP hD hS => ?_)
  have hP : va_P (dC, dI) srCl [(ob0, .inr (0, [.ref tq_bytes, .int t_length, .int t_at, .int t_deep, .int t_fault, .int t_place, .int t_end, .int t_nodes, .ref tq_kinds, .ref tq_firsts, .ref tq_numbers, .ref tq_sizes, .ref tq_inner, .ref tq_nexts, .ref tq_letters, .int t_lettered, .int t_shapes, .int t_looked, .ref tq_sorts, .ref tq_names, .ref tq_wide, .ref tq_kids, .ref tq_many, .ref tq_fallback, .int t_kidCount, .ref tq_kidShape, .ref tq_kidName, .ref tq_kidDefault, .ref tq_kidNext, .int t_done, .ref tq_finished, .int t_root, .ref tq_plain, .int t_plainSize, .ref tq_told])), (tq_sorts, .inl (cI, 140, .inl (upd t_sorts (t_shapes : Int32).toNatClampNeg a0))), (tq_names, .inl (cI, 140, .inl (upd t_names (t_shapes : Int32).toNatClampNeg (-1)))), (tq_wide, .inl (cI, 140, .inl (upd t_wide (t_shapes : Int32).toNatClampNeg 0))), (tq_kids, .inl (cI, 140, .inl (upd t_kids (t_shapes : Int32).toNatClampNeg (-1)))), (tq_many, .inl (cI, 140, .inl (upd t_many (t_shapes : Int32).toNatClampNeg 0))), (tq_fallback, .inl (cI, 140, .inl (upd t_fallback (t_shapes : Int32).toNatClampNeg (-1))))] H := hP
  have hD : va_D A [(ob0, .inr (0, [.ref tq_bytes, .int t_length, .int t_at, .int t_deep, .int t_fault, .int t_place, .int t_end, .int t_nodes, .ref tq_kinds, .ref tq_firsts, .ref tq_numbers, .ref tq_sizes, .ref tq_inner, .ref tq_nexts, .ref tq_letters, .int t_lettered, .int t_shapes, .int t_looked, .ref tq_sorts, .ref tq_names, .ref tq_wide, .ref tq_kids, .ref tq_many, .ref tq_fallback, .int t_kidCount, .ref tq_kidShape, .ref tq_kidName, .ref tq_kidDefault, .ref tq_kidNext, .int t_done, .ref tq_finished, .int t_root, .ref tq_plain, .int t_plainSize, .ref tq_told])), (tq_sorts, .inl (cI, 140, .inl (upd t_sorts (t_shapes : Int32).toNatClampNeg a0))), (tq_names, .inl (cI, 140, .inl (upd t_names (t_shapes : Int32).toNatClampNeg (-1)))), (tq_wide, .inl (cI, 140, .inl (upd t_wide (t_shapes : Int32).toNatClampNeg 0))), (tq_kids, .inl (cI, 140, .inl (upd t_kids (t_shapes : Int32).toNatClampNeg (-1)))), (tq_many, .inl (cI, 140, .inl (upd t_many (t_shapes : Int32).toNatClampNeg 0))), (tq_fallback, .inl (cI, 140, .inl (upd t_fallback (t_shapes : Int32).toNatClampNeg (-1))))] := hD
  refine lv_aload_n hx hb dX9_shape_60 rfl (lv_at hl 0 rfl) ?_
  refine lv_dup hx hb dX9_shape_61 rfl ?_
  refine va_get (D := (dC, dI)) (ci := 0) (v := .int t_shapes) (C := RX9) (T := TX9) (N := 35) hx hb hts (inX9 _) hown hK hP 0 rfl rfl 16 (by decide) (hts _ (List.mem_cons_of_mem _ wf9_189)) (fun _ h9 => h9) rfl dX9_shape_62 ?_
  refine lv_iconst (v := 1) hx hb dX9_shape_65 (by decide) ?_
  refine lv_iadd hx hb dX9_shape_66 ?_
  refine va_put (D := (dC, dI)) (ci := 0) (v := .int (t_shapes + 1)) (ty := .int) (C := RX9) (T := TX9) (N := 35) hx hb hts (inX9 _) tyX9 tyX9_ok nmX9 hown hK hP hD hS 0 rfl rfl 16 (by decide) (hts _ (List.mem_cons_of_mem _ wf9_189)) (fun _ h9 => h9) rfl (by decide +kernel) rfl rfl (Nat.le_of_ble_eq_true rfl) dX9_shape_67 (fun H locs hP hD hS => ?_)
  have hP : va_P (dC, dI) srCl [(ob0, .inr (0, [.ref tq_bytes, .int t_length, .int t_at, .int t_deep, .int t_fault, .int t_place, .int t_end, .int t_nodes, .ref tq_kinds, .ref tq_firsts, .ref tq_numbers, .ref tq_sizes, .ref tq_inner, .ref tq_nexts, .ref tq_letters, .int t_lettered, .int (t_shapes + 1), .int t_looked, .ref tq_sorts, .ref tq_names, .ref tq_wide, .ref tq_kids, .ref tq_many, .ref tq_fallback, .int t_kidCount, .ref tq_kidShape, .ref tq_kidName, .ref tq_kidDefault, .ref tq_kidNext, .int t_done, .ref tq_finished, .int t_root, .ref tq_plain, .int t_plainSize, .ref tq_told])), (tq_sorts, .inl (cI, 140, .inl (upd t_sorts (t_shapes : Int32).toNatClampNeg a0))), (tq_names, .inl (cI, 140, .inl (upd t_names (t_shapes : Int32).toNatClampNeg (-1)))), (tq_wide, .inl (cI, 140, .inl (upd t_wide (t_shapes : Int32).toNatClampNeg 0))), (tq_kids, .inl (cI, 140, .inl (upd t_kids (t_shapes : Int32).toNatClampNeg (-1)))), (tq_many, .inl (cI, 140, .inl (upd t_many (t_shapes : Int32).toNatClampNeg 0))), (tq_fallback, .inl (cI, 140, .inl (upd t_fallback (t_shapes : Int32).toNatClampNeg (-1))))] H := hP
  have hD : va_D A [(ob0, .inr (0, [.ref tq_bytes, .int t_length, .int t_at, .int t_deep, .int t_fault, .int t_place, .int t_end, .int t_nodes, .ref tq_kinds, .ref tq_firsts, .ref tq_numbers, .ref tq_sizes, .ref tq_inner, .ref tq_nexts, .ref tq_letters, .int t_lettered, .int (t_shapes + 1), .int t_looked, .ref tq_sorts, .ref tq_names, .ref tq_wide, .ref tq_kids, .ref tq_many, .ref tq_fallback, .int t_kidCount, .ref tq_kidShape, .ref tq_kidName, .ref tq_kidDefault, .ref tq_kidNext, .int t_done, .ref tq_finished, .int t_root, .ref tq_plain, .int t_plainSize, .ref tq_told])), (tq_sorts, .inl (cI, 140, .inl (upd t_sorts (t_shapes : Int32).toNatClampNeg a0))), (tq_names, .inl (cI, 140, .inl (upd t_names (t_shapes : Int32).toNatClampNeg (-1)))), (tq_wide, .inl (cI, 140, .inl (upd t_wide (t_shapes : Int32).toNatClampNeg 0))), (tq_kids, .inl (cI, 140, .inl (upd t_kids (t_shapes : Int32).toNatClampNeg (-1)))), (tq_many, .inl (cI, 140, .inl (upd t_many (t_shapes : Int32).toNatClampNeg 0))), (tq_fallback, .inl (cI, 140, .inl (upd t_fallback (t_shapes : Int32).toNatClampNeg (-1))))] := hD
  refine lv_aload_n hx hb dX9_shape_70 rfl (lv_at hl 0 rfl) ?_
  refine va_get (D := (dC, dI)) (ci := 0) (v := .int (t_shapes + 1)) (C := RX9) (T := TX9) (N := 35) hx hb hts (inX9 _) hown hK hP 0 rfl rfl 16 (by decide) (hts _ (List.mem_cons_of_mem _ wf9_189)) (fun _ h9 => h9) rfl dX9_shape_71 ?_
  refine lv_iconst (v := 1) hx hb dX9_shape_74 (by decide) ?_
  refine lv_isub hx hb dX9_shape_75 ?_
  obtain rfl := Option.some.inj hm
  subst hQ0
  exact W.iret (v := ((t_shapes + 1) - 1)) hx hb hr (fun t ht hW => ⟨⟨((t_shapes + 1) - 1), ((t_shapes + 1), (upd t_sorts (t_shapes : Int32).toNatClampNeg a0), (upd t_names (t_shapes : Int32).toNatClampNeg (-1)), (upd t_wide (t_shapes : Int32).toNatClampNeg 0), (upd t_kids (t_shapes : Int32).toNatClampNeg (-1)), (upd t_many (t_shapes : Int32).toNatClampNeg 0), (upd t_fallback (t_shapes : Int32).toNatClampNeg (-1))), rfl, ⟨rfl, rfl⟩, by rw [ht]; exact hP, va_K.moved hW.alike hK, hD⟩, hS.F ht⟩) hS.2.2 dX9_shape_76
set_option maxHeartbeats 4000000 in
set_option maxRecDepth 100000 in
theorem kX9_addKid (l : Launch) (htr : l.stackTraces = false) (dC : Nat → ClassId) (dI : Nat → Nat → Nat) (adK adV : Nat → Nat) (cI cB cJ cZ cQ : ClassId) (ob0 tq_bytes tq_kinds tq_firsts tq_numbers tq_sizes tq_inner tq_nexts tq_letters tq_sorts tq_names tq_wide tq_kids tq_many tq_fallback tq_kidShape tq_kidName tq_kidDefault tq_kidNext tq_finished tq_plain tq_told : Nat) (t_length : Int32) (t_at : Int32) (t_deep : Int32) (t_fault : Int32) (t_place : Int32) (t_end : Int32) (t_nodes : Int32) (t_lettered : Int32) (t_shapes : Int32) (t_looked : Int32) (t_kidCount : Int32) (t_done : Int32) (t_root : Int32) (t_plainSize : Int32) (t_kids : Nat → Int32) (t_many : Nat → Int32) (t_kidShape : Nat → Int32) (t_kidName : Nat → Int32) (t_kidDefault : Nat → Int32) (t_kidNext : Nat → Int32) (sz : Nat) (a0 : Int32) (a1 : Int32) (res : Int32 × (Nat → Int32) × (Nat → Int32) × Int32 × (Nat → Int32) × (Nat → Int32) × (Nat → Int32) × (Nat → Int32)) (hm : m_X9_addKid t_kids t_many t_kidCount t_kidShape t_kidName t_kidDefault t_kidNext a0 a1 = some res) : Met l yX9_addKid wsX9_addKid (rmX9_addKid 0 0) (pcW (sr_Z adK adV) (dC, dI) srCl [(cI, .int), (cB, .byte), (cJ, .long), (cZ, .boolean), (cQ, .object "SchemaReader$Schema")] [.ref ob0, .int a0, .int a1] [(ob0, .inr (0, [.ref tq_bytes, .int t_length, .int t_at, .int t_deep, .int t_fault, .int t_place, .int t_end, .int t_nodes, .ref tq_kinds, .ref tq_firsts, .ref tq_numbers, .ref tq_sizes, .ref tq_inner, .ref tq_nexts, .ref tq_letters, .int t_lettered, .int t_shapes, .int t_looked, .ref tq_sorts, .ref tq_names, .ref tq_wide, .ref tq_kids, .ref tq_many, .ref tq_fallback, .int t_kidCount, .ref tq_kidShape, .ref tq_kidName, .ref tq_kidDefault, .ref tq_kidNext, .int t_done, .ref tq_finished, .int t_root, .ref tq_plain, .int t_plainSize, .ref tq_told])), (tq_kids, .inl (cI, 140, .inl t_kids)), (tq_many, .inl (cI, 140, .inl t_many)), (tq_kidShape, .inl (cI, 2200, .inl t_kidShape)), (tq_kidName, .inl (cI, 2200, .inl t_kidName)), (tq_kidDefault, .inl (cI, 2200, .inl t_kidDefault)), (tq_kidNext, .inl (cI, 2200, .inl t_kidNext))] sz) (va_Qi (fun r' u' => r' = res.1 ∧ u' = res.2) (pcB (dC, dI) srCl [(cI, .int), (cB, .byte), (cJ, .long), (cZ, .boolean), (cQ, .object "SchemaReader$Schema")] (fun u : (Nat → Int32) × (Nat → Int32) × Int32 × (Nat → Int32) × (Nat → Int32) × (Nat → Int32) × (Nat → Int32) => [(ob0, .inr (0, [.ref tq_bytes, .int t_length, .int t_at, .int t_deep, .int t_fault, .int t_place, .int t_end, .int t_nodes, .ref tq_kinds, .ref tq_firsts, .ref tq_numbers, .ref tq_sizes, .ref tq_inner, .ref tq_nexts, .ref tq_letters, .int t_lettered, .int t_shapes, .int t_looked, .ref tq_sorts, .ref tq_names, .ref tq_wide, .ref tq_kids, .ref tq_many, .ref tq_fallback, .int u.2.2.1, .ref tq_kidShape, .ref tq_kidName, .ref tq_kidDefault, .ref tq_kidNext, .int t_done, .ref tq_finished, .int t_root, .ref tq_plain, .int t_plainSize, .ref tq_told])), (tq_kids, .inl (cI, 140, .inl u.1)), (tq_many, .inl (cI, 140, .inl u.2.1)), (tq_kidShape, .inl (cI, 2200, .inl u.2.2.2.1)), (tq_kidName, .inl (cI, 2200, .inl u.2.2.2.2.1)), (tq_kidDefault, .inl (cI, 2200, .inl u.2.2.2.2.2.1)), (tq_kidNext, .inl (cI, 2200, .inl u.2.2.2.2.2.2))]) (va_A [(ob0, .inr (0, [.ref tq_bytes, .int t_length, .int t_at, .int t_deep, .int t_fault, .int t_place, .int t_end, .int t_nodes, .ref tq_kinds, .ref tq_firsts, .ref tq_numbers, .ref tq_sizes, .ref tq_inner, .ref tq_nexts, .ref tq_letters, .int t_lettered, .int t_shapes, .int t_looked, .ref tq_sorts, .ref tq_names, .ref tq_wide, .ref tq_kids, .ref tq_many, .ref tq_fallback, .int t_kidCount, .ref tq_kidShape, .ref tq_kidName, .ref tq_kidDefault, .ref tq_kidNext, .int t_done, .ref tq_finished, .int t_root, .ref tq_plain, .int t_plainSize, .ref tq_told])), (tq_kids, .inl (cI, 140, .inl t_kids)), (tq_many, .inl (cI, 140, .inl t_many)), (tq_kidShape, .inl (cI, 2200, .inl t_kidShape)), (tq_kidName, .inl (cI, 2200, .inl t_kidName)), (tq_kidDefault, .inl (cI, 2200, .inl t_kidDefault)), (tq_kidNext, .inl (cI, 2200, .inl t_kidNext))] sz)) (va_A [(ob0, .inr (0, [.ref tq_bytes, .int t_length, .int t_at, .int t_deep, .int t_fault, .int t_place, .int t_end, .int t_nodes, .ref tq_kinds, .ref tq_firsts, .ref tq_numbers, .ref tq_sizes, .ref tq_inner, .ref tq_nexts, .ref tq_letters, .int t_lettered, .int t_shapes, .int t_looked, .ref tq_sorts, .ref tq_names, .ref tq_wide, .ref tq_kids, .ref tq_many, .ref tq_fallback, .int t_kidCount, .ref tq_kidShape, .ref tq_kidName, .ref tq_kidDefault, .ref tq_kidNext, .int t_done, .ref tq_finished, .int t_root, .ref tq_plain, .int t_plainSize, .ref tq_told])), (tq_kids, .inl (cI, 140, .inl t_kids)), (tq_many, .inl (cI, 140, .inl t_many)), (tq_kidShape, .inl (cI, 2200, .inl t_kidShape)), (tq_kidName, .inl (cI, 2200, .inl t_kidName)), (tq_kidDefault, .inl (cI, 2200, .inl t_kidDefault)), (tq_kidNext, .inl (cI, 2200, .inl t_kidNext))] sz)) 0 0 (va_A [(ob0, .inr (0, [.ref tq_bytes, .int t_length, .int t_at, .int t_deep, .int t_fault, .int t_place, .int t_end, .int t_nodes, .ref tq_kinds, .ref tq_firsts, .ref tq_numbers, .ref tq_sizes, .ref tq_inner, .ref tq_nexts, .ref tq_letters, .int t_lettered, .int t_shapes, .int t_looked, .ref tq_sorts, .ref tq_names, .ref tq_wide, .ref tq_kids, .ref tq_many, .ref tq_fallback, .int t_kidCount, .ref tq_kidShape, .ref tq_kidName, .ref tq_kidDefault, .ref tq_kidNext, .int t_done, .ref tq_finished, .int t_root, .ref tq_plain, .int t_plainSize, .ref tq_told])), (tq_kids, .inl (cI, 140, .inl t_kids)), (tq_many, .inl (cI, 140, .inl t_many)), (tq_kidShape, .inl (cI, 2200, .inl t_kidShape)), (tq_kidName, .inl (cI, 2200, .inl t_kidName)), (tq_kidDefault, .inl (cI, 2200, .inl t_kidDefault)), (tq_kidNext, .inl (cI, 2200, .inl t_kidNext))] sz) := by
  refine Met.ofW (cc := cX9_addKid) (maxL := 4) (ret := (some .int)) (by decide) rfl ?_
  intro p e s m args below meth c s₁ B hml hv
  obtain ⟨rfl, hsz, hP, hK, hD0, hz0⟩ := hv
  have hx := B.exec
  have hb := B.bytes
  have hr := B.returns
  have hts := atoms_spec (ws := wsX9_addKid) B.pre
  have hown : s.vm.findClass RX9 = some m.cls := findClass_of_methodNamed B.named
  have hlocks := B.notSynchronized
  subst hsz
  have hD := hD0.self (sz := s.heap.size)
  generalize hAe : va_A [(ob0, .inr (0, [.ref tq_bytes, .int t_length, .int t_at, .int t_deep, .int t_fault, .int t_place, .int t_end, .int t_nodes, .ref tq_kinds, .ref tq_firsts, .ref tq_numbers, .ref tq_sizes, .ref tq_inner, .ref tq_nexts, .ref tq_letters, .int t_lettered, .int t_shapes, .int t_looked, .ref tq_sorts, .ref tq_names, .ref tq_wide, .ref tq_kids, .ref tq_many, .ref tq_fallback, .int t_kidCount, .ref tq_kidShape, .ref tq_kidName, .ref tq_kidDefault, .ref tq_kidNext, .int t_done, .ref tq_finished, .int t_root, .ref tq_plain, .int t_plainSize, .ref tq_told])), (tq_kids, .inl (cI, 140, .inl t_kids)), (tq_many, .inl (cI, 140, .inl t_many)), (tq_kidShape, .inl (cI, 2200, .inl t_kidShape)), (tq_kidName, .inl (cI, 2200, .inl t_kidName)), (tq_kidDefault, .inl (cI, 2200, .inl t_kidDefault)), (tq_kidNext, .inl (cI, 2200, .inl t_kidNext))] s.heap.size = A at hD hz0 ⊢
  have hA : ∀ q : Nat, s.heap.size ≤ q → A q := fun q h => by rw [← hAe]; exact Or.inr h
  have hS : va_S A s.heap s.heap [] := va_S.rf
  generalize hQ0 : MQ below (va_Qi (fun r' u' => r' = res.1 ∧ u' = res.2) (pcB (dC, dI) srCl [(cI, .int), (cB, .byte), (cJ, .long), (cZ, .boolean), (cQ, .object "SchemaReader$Schema")] (fun u : (Nat → Int32) × (Nat → Int32) × Int32 × (Nat → Int32) × (Nat → Int32) × (Nat → Int32) × (Nat → Int32) => [(ob0, .inr (0, [.ref tq_bytes, .int t_length, .int t_at, .int t_deep, .int t_fault, .int t_place, .int t_end, .int t_nodes, .ref tq_kinds, .ref tq_firsts, .ref tq_numbers, .ref tq_sizes, .ref tq_inner, .ref tq_nexts, .ref tq_letters, .int t_lettered, .int t_shapes, .int t_looked, .ref tq_sorts, .ref tq_names, .ref tq_wide, .ref tq_kids, .ref tq_many, .ref tq_fallback, .int u.2.2.1, .ref tq_kidShape, .ref tq_kidName, .ref tq_kidDefault, .ref tq_kidNext, .int t_done, .ref tq_finished, .int t_root, .ref tq_plain, .int t_plainSize, .ref tq_told])), (tq_kids, .inl (cI, 140, .inl u.1)), (tq_many, .inl (cI, 140, .inl u.2.1)), (tq_kidShape, .inl (cI, 2200, .inl u.2.2.2.1)), (tq_kidName, .inl (cI, 2200, .inl u.2.2.2.2.1)), (tq_kidDefault, .inl (cI, 2200, .inl u.2.2.2.2.2.1)), (tq_kidNext, .inl (cI, 2200, .inl u.2.2.2.2.2.2))]) A) A) [.ref ob0, .int a0, .int a1].toArray s 0 0 A = Q0
  have hl := lv_entry [.ref ob0, .int a0, .int a1] (n := 4) (Nat.le_of_ble_eq_true rfl)
  rw [lg_entry_eq]
  generalize (lg_sl [.ref ob0, .int a0, .int a1] ++ List.replicate (4 - (lg_sl [.ref ob0, .int a0, .int a1]).length) Slot.unset).toArray = ls at hl ⊢
  have hl : lv_has ls 4 [(0, .ref ob0), (1, .int a0), (2, .int a1)] := hl
  unfold m_X9_addKid at hm
  refine lv_aload_n hx hb dX9_addKid_0 rfl (lv_at hl 0 rfl) ?_
  refine va_get (D := (dC, dI)) (ci := 0) (v := .int t_kidCount) (C := RX9) (T := TX9) (N := 35) hx hb hts (inX9 _) hown hK hP 0 rfl rfl 24 (by decide) (hts _ (List.mem_cons_of_mem _ wf9_192)) (fun _ h9 => h9) rfl dX9_addKid_1 ?_
  refine lv_istore_n (lv' := [(3, .int t_kidCount), (0, .ref ob0), (1, .int a0), (2, .int a1)]) hx hb dX9_addKid_4 rfl hl (by decide) rfl (fun ls hl => ?_)
  refine lv_aload_n hx hb dX9_addKid_5 rfl (lv_at hl 1 rfl) ?_
  refine lv_dup hx hb dX9_addKid_6 rfl ?_
  refine va_get (D := (dC, dI)) (ci := 0) (v := .int t_kidCount) (C := RX9) (T := TX9) (N := 35) hx hb hts (inX9 _) hown hK hP 0 rfl rfl 24 (by decide) (hts _ (List.mem_cons_of_mem _ wf9_192)) (fun _ h9 => h9) rfl dX9_addKid_7 ?_
  refine lv_iconst (v := 1) hx hb dX9_addKid_10 (by decide) ?_
  refine lv_iadd hx hb dX9_addKid_11 ?_
  refine va_put (D := (dC, dI)) (ci := 0) (v := .int (t_kidCount + 1)) (ty := .int) (C := RX9) (T := TX9) (N := 35) hx hb hts (inX9 _) tyX9 tyX9_ok nmX9 hown hK hP hD hS 0 rfl rfl 24 (by decide) (hts _ (List.mem_cons_of_mem _ wf9_192)) (fun _ h9 => h9) rfl (by decide +kernel) rfl rfl (Nat.le_of_ble_eq_true rfl) dX9_addKid_12 (fun H locs hP hD hS => ?_)
  have hP : va_P (dC, dI) srCl [(ob0, .inr (0, [.ref tq_bytes, .int t_length, .int t_at, .int t_deep, .int t_fault, .int t_place, .int t_end, .int t_nodes, .ref tq_kinds, .ref tq_firsts, .ref tq_numbers, .ref tq_sizes, .ref tq_inner, .ref tq_nexts, .ref tq_letters, .int t_lettered, .int t_shapes, .int t_looked, .ref tq_sorts, .ref tq_names, .ref tq_wide, .ref tq_kids, .ref tq_many, .ref tq_fallback, .int (t_kidCount + 1), .ref tq_kidShape, .ref tq_kidName, .ref tq_kidDefault, .ref tq_kidNext, .int t_done, .ref tq_finished, .int t_root, .ref tq_plain, .int t_plainSize, .ref tq_told])), (tq_kids, .inl (cI, 140, .inl t_kids)), (tq_many, .inl (cI, 140, .inl t_many)), (tq_kidShape, .inl (cI, 2200, .inl t_kidShape)), (tq_kidName, .inl (cI, 2200, .inl t_kidName)), (tq_kidDefault, .inl (cI, 2200, .inl t_kidDefault)), (tq_kidNext, .inl (cI, 2200, .inl t_kidNext))] H := hP
  have hD : va_D A [(ob0, .inr (0, [.ref tq_bytes, .int t_length, .int t_at, .int t_deep, .int t_fault, .int t_place, .int t_end, .int t_nodes, .ref tq_kinds, .ref tq_firsts, .ref tq_numbers, .ref tq_sizes, .ref tq_inner, .ref tq_nexts, .ref tq_letters, .int t_lettered, .int t_shapes, .int t_looked, .ref tq_sorts, .ref tq_names, .ref tq_wide, .ref tq_kids, .ref tq_many, .ref tq_fallback, .int (t_kidCount + 1), .ref tq_kidShape, .ref tq_kidName, .ref tq_kidDefault, .ref tq_kidNext, .int t_done, .ref tq_finished, .int t_root, .ref tq_plain, .int t_plainSize, .ref tq_told])), (tq_kids, .inl (cI, 140, .inl t_kids)), (tq_many, .inl (cI, 140, .inl t_many)), (tq_kidShape, .inl (cI, 2200, .inl t_kidShape)), (tq_kidName, .inl (cI, 2200, .inl t_kidName)), (tq_kidDefault, .inl (cI, 2200, .inl t_kidDefault)), (tq_kidNext, .inl (cI, 2200, .inl t_kidNext))] := hD
  refine lv_aload_n hx hb dX9_addKid_15 rfl (lv_at hl 1 rfl) ?_
  refine va_get (D := (dC, dI)) (ci := 0) (v := .ref tq_kidShape) (C := RX9) (T := TX9) (N := 35) hx hb hts (inX9 _) hown hK hP 0 rfl rfl 25 (by decide) (hts _ (List.mem_cons_of_mem _ wf9_56)) (fun _ h9 => h9) rfl dX9_addKid_16 ?_
  refine lv_iload_n hx hb dX9_addKid_19 rfl (lv_at hl 0 rfl) ?_
  refine lv_iconst (v := -1) hx hb dX9_addKid_20 (by decide) ?_
  obtain ⟨h1, hm⟩ := mr_bd hm
  refine va_iast hx hb hK hP hD hS 3 0 rfl rfl h1 dX9_addKid_21 (fun H locs hP hD hS => ?_)
  have hP : va_P (dC, dI) srCl [(ob0, .inr (0, [.ref tq_bytes, .int t_length, .int t_at, .int t_deep, .int t_fault, .int t_place, .int t_end, .int t_nodes, .ref tq_kinds, .ref tq_firsts, .ref tq_numbers, .ref tq_sizes, .ref tq_inner, .ref tq_nexts, .ref tq_letters, .int t_lettered, .int t_shapes, .int t_looked, .ref tq_sorts, .ref tq_names, .ref tq_wide, .ref tq_kids, .ref tq_many, .ref tq_fallback, .int (t_kidCount + 1), .ref tq_kidShape, .ref tq_kidName, .ref tq_kidDefault, .ref tq_kidNext, .int t_done, .ref tq_finished, .int t_root, .ref tq_plain, .int t_plainSize, .ref tq_told])), (tq_kids, .inl (cI, 140, .inl t_kids)), (tq_many, .inl (cI, 140, .inl t_many)), (tq_kidShape, .inl (cI, 2200, .inl (upd t_kidShape (t_kidCount : Int32).toNatClampNeg (-1)))), (tq_kidName, .inl (cI, 2200, .inl t_kidName)), (tq_kidDefault, .inl (cI, 2200, .inl t_kidDefault)), (tq_kidNext, .inl (cI, 2200, .inl t_kidNext))] H := hP
  have hD : va_D A [(ob0, .inr (0, [.ref tq_bytes, .int t_length, .int t_at, .int t_deep, .int t_fault, .int t_place, .int t_end, .int t_nodes, .ref tq_kinds, .ref tq_firsts, .ref tq_numbers, .ref tq_sizes, .ref tq_inner, .ref tq_nexts, .ref tq_letters, .int t_lettered, .int t_shapes, .int t_looked, .ref tq_sorts, .ref tq_names, .ref tq_wide, .ref tq_kids, .ref tq_many, .ref tq_fallback, .int (t_kidCount + 1), .ref tq_kidShape, .ref tq_kidName, .ref tq_kidDefault, .ref tq_kidNext, .int t_done, .ref tq_finished, .int t_root, .ref tq_plain, .int t_plainSize, .ref tq_told])), (tq_kids, .inl (cI, 140, .inl t_kids)), (tq_many, .inl (cI, 140, .inl t_many)), (tq_kidShape, .inl (cI, 2200, .inl (upd t_kidShape (t_kidCount : Int32).toNatClampNeg (-1)))), (tq_kidName, .inl (cI, 2200, .inl t_kidName)), (tq_kidDefault, .inl (cI, 2200, .inl t_kidDefault)), (tq_kidNext, .inl (cI, 2200, .inl t_kidNext))] := hD
  refine lv_aload_n hx hb dX9_addKid_22 rfl (lv_at hl 1 rfl) ?_
  refine va_get (D := (dC, dI)) (ci := 0) (v := .ref tq_kidName) (C := RX9) (T := TX9) (N := 35) hx hb hts (inX9 _) hown hK hP 0 rfl rfl 26 (by decide) (hts _ (List.mem_cons_of_mem _ wf9_59)) (fun _ h9 => h9) rfl dX9_addKid_23 ?_
  refine lv_iload_n hx hb dX9_addKid_26 rfl (lv_at hl 0 rfl) ?_
  refine lv_iconst (v := -1) hx hb dX9_addKid_27 (by decide) ?_
  obtain ⟨h2, hm⟩ := mr_bd hm
  refine va_iast hx hb hK hP hD hS 4 0 rfl rfl h2 dX9_addKid_28 (fun H locs hP hD hS => ?_)
  have hP : va_P (dC, dI) srCl [(ob0, .inr (0, [.ref tq_bytes, .int t_length, .int t_at, .int t_deep, .int t_fault, .int t_place, .int t_end, .int t_nodes, .ref tq_kinds, .ref tq_firsts, .ref tq_numbers, .ref tq_sizes, .ref tq_inner, .ref tq_nexts, .ref tq_letters, .int t_lettered, .int t_shapes, .int t_looked, .ref tq_sorts, .ref tq_names, .ref tq_wide, .ref tq_kids, .ref tq_many, .ref tq_fallback, .int (t_kidCount + 1), .ref tq_kidShape, .ref tq_kidName, .ref tq_kidDefault, .ref tq_kidNext, .int t_done, .ref tq_finished, .int t_root, .ref tq_plain, .int t_plainSize, .ref tq_told])), (tq_kids, .inl (cI, 140, .inl t_kids)), (tq_many, .inl (cI, 140, .inl t_many)), (tq_kidShape, .inl (cI, 2200, .inl (upd t_kidShape (t_kidCount : Int32).toNatClampNeg (-1)))), (tq_kidName, .inl (cI, 2200, .inl (upd t_kidName (t_kidCount : Int32).toNatClampNeg (-1)))), (tq_kidDefault, .inl (cI, 2200, .inl t_kidDefault)), (tq_kidNext, .inl (cI, 2200, .inl t_kidNext))] H := hP
  have hD : va_D A [(ob0, .inr (0, [.ref tq_bytes, .int t_length, .int t_at, .int t_deep, .int t_fault, .int t_place, .int t_end, .int t_nodes, .ref tq_kinds, .ref tq_firsts, .ref tq_numbers, .ref tq_sizes, .ref tq_inner, .ref tq_nexts, .ref tq_letters, .int t_lettered, .int t_shapes, .int t_looked, .ref tq_sorts, .ref tq_names, .ref tq_wide, .ref tq_kids, .ref tq_many, .ref tq_fallback, .int (t_kidCount + 1), .ref tq_kidShape, .ref tq_kidName, .ref tq_kidDefault, .ref tq_kidNext, .int t_done, .ref tq_finished, .int t_root, .ref tq_plain, .int t_plainSize, .ref tq_told])), (tq_kids, .inl (cI, 140, .inl t_kids)), (tq_many, .inl (cI, 140, .inl t_many)), (tq_kidShape, .inl (cI, 2200, .inl (upd t_kidShape (t_kidCount : Int32).toNatClampNeg (-1)))), (tq_kidName, .inl (cI, 2200, .inl (upd t_kidName (t_kidCount : Int32).toNatClampNeg (-1)))), (tq_kidDefault, .inl (cI, 2200, .inl t_kidDefault)), (tq_kidNext, .inl (cI, 2200, .inl t_kidNext))] := hD
  refine lv_aload_n hx hb dX9_addKid_29 rfl (lv_at hl 1 rfl) ?_
  refine va_get (D := (dC, dI)) (ci := 0) (v := .ref tq_kidDefault) (C := RX9) (T := TX9) (N := 35) hx hb hts (inX9 _) hown hK hP 0 rfl rfl 27 (by decide) (hts _ (List.mem_cons_of_mem _ wf9_62)) (fun _ h9 => h9) rfl dX9_addKid_30 ?_
  refine lv_iload_n hx hb dX9_addKid_33 rfl (lv_at hl 0 rfl) ?_
  refine lv_iconst (v := -1) hx hb dX9_addKid_34 (by decide) ?_
  obtain ⟨h3, hm⟩ := mr_bd hm
  refine va_iast hx hb hK hP hD hS 5 0 rfl rfl h3 dX9_addKid_35 (fun H locs hP hD hS => ?_)
  have hP : va_P (dC, dI) srCl [(ob0, .inr (0, [.ref tq_bytes, .int t_length, .int t_at, .int t_deep, .int t_fault, .int t_place, .int t_end, .int t_nodes, .ref tq_kinds, .ref tq_firsts, .ref tq_numbers, .ref tq_sizes, .ref tq_inner, .ref tq_nexts, .ref tq_letters, .int t_lettered, .int t_shapes, .int t_looked, .ref tq_sorts, .ref tq_names, .ref tq_wide, .ref tq_kids, .ref tq_many, .ref tq_fallback, .int (t_kidCount + 1), .ref tq_kidShape, .ref tq_kidName, .ref tq_kidDefault, .ref tq_kidNext, .int t_done, .ref tq_finished, .int t_root, .ref tq_plain, .int t_plainSize, .ref tq_told])), (tq_kids, .inl (cI, 140, .inl t_kids)), (tq_many, .inl (cI, 140, .inl t_many)), (tq_kidShape, .inl (cI, 2200, .inl (upd t_kidShape (t_kidCount : Int32).toNatClampNeg (-1)))), (tq_kidName, .inl (cI, 2200, .inl (upd t_kidName (t_kidCount : Int32).toNatClampNeg (-1)))), (tq_kidDefault, .inl (cI, 2200, .inl (upd t_kidDefault (t_kidCount : Int32).toNatClampNeg (-1)))), (tq_kidNext, .inl (cI, 2200, .inl t_kidNext))] H := hP
  have hD : va_D A [(ob0, .inr (0, [.ref tq_bytes, .int t_length, .int t_at, .int t_deep, .int t_fault, .int t_place, .int t_end, .int t_nodes, .ref tq_kinds, .ref tq_firsts, .ref tq_numbers, .ref tq_sizes, .ref tq_inner, .ref tq_nexts, .ref tq_letters, .int t_lettered, .int t_shapes, .int t_looked, .ref tq_sorts, .ref tq_names, .ref tq_wide, .ref tq_kids, .ref tq_many, .ref tq_fallback, .int (t_kidCount + 1), .ref tq_kidShape, .ref tq_kidName, .ref tq_kidDefault, .ref tq_kidNext, .int t_done, .ref tq_finished, .int t_root, .ref tq_plain, .int t_plainSize, .ref tq_told])), (tq_kids, .inl (cI, 140, .inl t_kids)), (tq_many, .inl (cI, 140, .inl t_many)), (tq_kidShape, .inl (cI, 2200, .inl (upd t_kidShape (t_kidCount : Int32).toNatClampNeg (-1)))), (tq_kidName, .inl (cI, 2200, .inl (upd t_kidName (t_kidCount : Int32).toNatClampNeg (-1)))), (tq_kidDefault, .inl (cI, 2200, .inl (upd t_kidDefault (t_kidCount : Int32).toNatClampNeg (-1)))), (tq_kidNext, .inl (cI, 2200, .inl t_kidNext))] := hD
  refine lv_aload_n hx hb dX9_addKid_36 rfl (lv_at hl 1 rfl) ?_
  refine va_get (D := (dC, dI)) (ci := 0) (v := .ref tq_kidNext) (C := RX9) (T := TX9) (N := 35) hx hb hts (inX9 _) hown hK hP 0 rfl rfl 28 (by decide) (hts _ (List.mem_cons_of_mem _ wf9_65)) (fun _ h9 => h9) rfl dX9_addKid_37 ?_
  refine lv_iload_n hx hb dX9_addKid_40 rfl (lv_at hl 0 rfl) ?_
  refine lv_iconst (v := -1) hx hb dX9_addKid_41 (by decide) ?_
  obtain ⟨h4, hm⟩ := mr_bd hm
  refine va_iast hx hb hK hP hD hS 6 0 rfl rfl h4 dX9_addKid_42 (fun H locs hP hD hS => ?_)
  have hP : va_P (dC, dI) srCl [(ob0, .inr (0, [.ref tq_bytes, .int t_length, .int t_at, .int t_deep, .int t_fault, .int t_place, .int t_end, .int t_nodes, .ref tq_kinds, .ref tq_firsts, .ref tq_numbers, .ref tq_sizes, .ref tq_inner, .ref tq_nexts, .ref tq_letters, .int t_lettered, .int t_shapes, .int t_looked, .ref tq_sorts, .ref tq_names, .ref tq_wide, .ref tq_kids, .ref tq_many, .ref tq_fallback, .int (t_kidCount + 1), .ref tq_kidShape, .ref tq_kidName, .ref tq_kidDefault, .ref tq_kidNext, .int t_done, .ref tq_finished, .int t_root, .ref tq_plain, .int t_plainSize, .ref tq_told])), (tq_kids, .inl (cI, 140, .inl t_kids)), (tq_many, .inl (cI, 140, .inl t_many)), (tq_kidShape, .inl (cI, 2200, .inl (upd t_kidShape (t_kidCount : Int32).toNatClampNeg (-1)))), (tq_kidName, .inl (cI, 2200, .inl (upd t_kidName (t_kidCount : Int32).toNatClampNeg (-1)))), (tq_kidDefault, .inl (cI, 2200, .inl (upd t_kidDefault (t_kidCount : Int32).toNatClampNeg (-1)))), (tq_kidNext, .inl (cI, 2200, .inl (upd t_kidNext (t_kidCount : Int32).toNatClampNeg (-1))))] H := hP
  have hD : va_D A [(ob0, .inr (0, [.ref tq_bytes, .int t_length, .int t_at, .int t_deep, .int t_fault, .int t_place, .int t_end, .int t_nodes, .ref tq_kinds, .ref tq_firsts, .ref tq_numbers, .ref tq_sizes, .ref tq_inner, .ref tq_nexts, .ref tq_letters, .int t_lettered, .int t_shapes, .int t_looked, .ref tq_sorts, .ref tq_names, .ref tq_wide, .ref tq_kids, .ref tq_many, .ref tq_fallback, .int (t_kidCount + 1), .ref tq_kidShape, .ref tq_kidName, .ref tq_kidDefault, .ref tq_kidNext, .int t_done, .ref tq_finished, .int t_root, .ref tq_plain, .int t_plainSize, .ref tq_told])), (tq_kids, .inl (cI, 140, .inl t_kids)), (tq_many, .inl (cI, 140, .inl t_many)), (tq_kidShape, .inl (cI, 2200, .inl (upd t_kidShape (t_kidCount : Int32).toNatClampNeg (-1)))), (tq_kidName, .inl (cI, 2200, .inl (upd t_kidName (t_kidCount : Int32).toNatClampNeg (-1)))), (tq_kidDefault, .inl (cI, 2200, .inl (upd t_kidDefault (t_kidCount : Int32).toNatClampNeg (-1)))), (tq_kidNext, .inl (cI, 2200, .inl (upd t_kidNext (t_kidCount : Int32).toNatClampNeg (-1))))] := hD
  refine lv_iload_n hx hb dX9_addKid_43 rfl (lv_at hl 3 rfl) ?_
  refine lv_if_ge (tgt := 57) hx hb dX9_addKid_44 (by decide) (fun c5 => ?_) (fun c5 => ?_)
  · have hm := mr_if c5 hm
    refine lv_aload_n hx hb dX9_addKid_57 rfl (lv_at hl 1 rfl) ?_
    refine va_get (D := (dC, dI)) (ci := 0) (v := .ref tq_kidNext) (C := RX9) (T := TX9) (N := 35) hx hb hts (inX9 _) hown hK hP 0 rfl rfl 28 (by decide) (hts _ (List.mem_cons_of_mem _ wf9_65)) (fun _ h9 => h9) rfl dX9_addKid_58 ?_
    refine lv_iload_n hx hb dX9_addKid_61 rfl (lv_at hl 3 rfl) ?_
    refine lv_iload_n hx hb dX9_addKid_62 rfl (lv_at hl 0 rfl) ?_
    obtain ⟨h6, hm⟩ := mr_bd hm
    refine va_iast hx hb hK hP hD hS 6 0 rfl rfl h6 dX9_addKid_63 (fun H locs hP hD hS => ?_)
    have hP : va_P (dC, dI) srCl [(ob0, .inr (0, [.ref tq_bytes, .int t_length, .int t_at, .int t_deep, .int t_fault, .int t_place, .int t_end, .int t_nodes, .ref tq_kinds, .ref tq_firsts, .ref tq_numbers, .ref tq_sizes, .ref tq_inner, .ref tq_nexts, .ref tq_letters, .int t_lettered, .int t_shapes, .int t_looked, .ref tq_sorts, .ref tq_names, .ref tq_wide, .ref tq_kids, .ref tq_many, .ref tq_fallback, .int (t_kidCount + 1), .ref tq_kidShape, .ref tq_kidName, .ref tq_kidDefault, .ref tq_kidNext, .int t_done, .ref tq_finished, .int t_root, .ref tq_plain, .int t_plainSize, .ref tq_told])), (tq_kids, .inl (cI, 140, .inl t_kids)), (tq_many, .inl (cI, 140, .inl t_many)), (tq_kidShape, .inl (cI, 2200, .inl (upd t_kidShape (t_kidCount : Int32).toNatClampNeg (-1)))), (tq_kidName, .inl (cI, 2200, .inl (upd t_kidName (t_kidCount : Int32).toNatClampNeg (-1)))), (tq_kidDefault, .inl (cI, 2200, .inl (upd t_kidDefault (t_kidCount : Int32).toNatClampNeg (-1)))), (tq_kidNext, .inl (cI, 2200, .inl (upd (upd t_kidNext (t_kidCount : Int32).toNatClampNeg (-1)) (a1 : Int32).toNatClampNeg t_kidCount)))] H := hP
    have hD : va_D A [(ob0, .inr (0, [.ref tq_bytes, .int t_length, .int t_at, .int t_deep, .int t_fault, .int t_place, .int t_end, .int t_nodes, .ref tq_kinds, .ref tq_firsts, .ref tq_numbers, .ref tq_sizes, .ref tq_inner, .ref tq_nexts, .ref tq_letters, .int t_lettered, .int t_shapes, .int t_looked, .ref tq_sorts, .ref tq_names, .ref tq_wide, .ref tq_kids, .ref tq_many, .ref tq_fallback, .int (t_kidCount + 1), .ref tq_kidShape, .ref tq_kidName, .ref tq_kidDefault, .ref tq_kidNext, .int t_done, .ref tq_finished, .int t_root, .ref tq_plain, .int t_plainSize, .ref tq_told])), (tq_kids, .inl (cI, 140, .inl t_kids)), (tq_many, .inl (cI, 140, .inl t_many)), (tq_kidShape, .inl (cI, 2200, .inl (upd t_kidShape (t_kidCount : Int32).toNatClampNeg (-1)))), (tq_kidName, .inl (cI, 2200, .inl (upd t_kidName (t_kidCount : Int32).toNatClampNeg (-1)))), (tq_kidDefault, .inl (cI, 2200, .inl (upd t_kidDefault (t_kidCount : Int32).toNatClampNeg (-1)))), (tq_kidNext, .inl (cI, 2200, .inl (upd (upd t_kidNext (t_kidCount : Int32).toNatClampNeg (-1)) (a1 : Int32).toNatClampNeg t_kidCount)))] := hD
    refine lv_aload_n hx hb dX9_addKid_64 rfl (lv_at hl 1 rfl) ?_
    refine va_get (D := (dC, dI)) (ci := 0) (v := .ref tq_many) (C := RX9) (T := TX9) (N := 35) hx hb hts (inX9 _) hown hK hP 0 rfl rfl 22 (by decide) (hts _ (List.mem_cons_of_mem _ wf9_50)) (fun _ h9 => h9) rfl dX9_addKid_65 ?_
    refine lv_iload_n hx hb dX9_addKid_68 rfl (lv_at hl 2 rfl) ?_
    refine lv_dup2_11 hx hb dX9_addKid_69 rfl rfl ?_
    obtain ⟨h7, hm⟩ := mr_bd hm
    refine va_iald hx hb hK hP 2 0 rfl rfl h7 dX9_addKid_70 ?_
    refine lv_iconst (v := 1) hx hb dX9_addKid_71 (by decide) ?_
    refine lv_iadd hx hb dX9_addKid_72 ?_
    obtain ⟨h8, hm⟩ := mr_bd hm
    refine va_iast hx hb hK hP hD hS 2 0 rfl rfl h8 dX9_addKid_73 (fun H locs hP hD hS => ?_)
    have hP : va_P (dC, dI) srCl [(ob0, .inr (0, [.ref tq_bytes, .int t_length, .int t_at, .int t_deep, .int t_fault, .int t_place, .int t_end, .int t_nodes, .ref tq_kinds, .ref tq_firsts, .ref tq_numbers, .ref tq_sizes, .ref tq_inner, .ref tq_nexts, .ref tq_letters, .int t_lettered, .int t_shapes, .int t_looked, .ref tq_sorts, .ref tq_names, .ref tq_wide, .ref tq_kids, .ref tq_many, .ref tq_fallback, .int (t_kidCount + 1), .ref tq_kidShape, .ref tq_kidName, .ref tq_kidDefault, .ref tq_kidNext, .int t_done, .ref tq_finished, .int t_root, .ref tq_plain, .int t_plainSize, .ref tq_told])), (tq_kids, .inl (cI, 140, .inl t_kids)), (tq_many, .inl (cI, 140, .inl (upd t_many (a0 : Int32).toNatClampNeg ((t_many (a0 : Int32).toNatClampNeg) + 1)))), (tq_kidShape, .inl (cI, 2200, .inl (upd t_kidShape (t_kidCount : Int32).toNatClampNeg (-1)))), (tq_kidName, .inl (cI, 2200, .inl (upd t_kidName (t_kidCount : Int32).toNatClampNeg (-1)))), (tq_kidDefault, .inl (cI, 2200, .inl (upd t_kidDefault (t_kidCount : Int32).toNatClampNeg (-1)))), (tq_kidNext, .inl (cI, 2200, .inl (upd (upd t_kidNext (t_kidCount : Int32).toNatClampNeg (-1)) (a1 : Int32).toNatClampNeg t_kidCount)))] H := hP
    have hD : va_D A [(ob0, .inr (0, [.ref tq_bytes, .int t_length, .int t_at, .int t_deep, .int t_fault, .int t_place, .int t_end, .int t_nodes, .ref tq_kinds, .ref tq_firsts, .ref tq_numbers, .ref tq_sizes, .ref tq_inner, .ref tq_nexts, .ref tq_letters, .int t_lettered, .int t_shapes, .int t_looked, .ref tq_sorts, .ref tq_names, .ref tq_wide, .ref tq_kids, .ref tq_many, .ref tq_fallback, .int (t_kidCount + 1), .ref tq_kidShape, .ref tq_kidName, .ref tq_kidDefault, .ref tq_kidNext, .int t_done, .ref tq_finished, .int t_root, .ref tq_plain, .int t_plainSize, .ref tq_told])), (tq_kids, .inl (cI, 140, .inl t_kids)), (tq_many, .inl (cI, 140, .inl (upd t_many (a0 : Int32).toNatClampNeg ((t_many (a0 : Int32).toNatClampNeg) + 1)))), (tq_kidShape, .inl (cI, 2200, .inl (upd t_kidShape (t_kidCount : Int32).toNatClampNeg (-1)))), (tq_kidName, .inl (cI, 2200, .inl (upd t_kidName (t_kidCount : Int32).toNatClampNeg (-1)))), (tq_kidDefault, .inl (cI, 2200, .inl (upd t_kidDefault (t_kidCount : Int32).toNatClampNeg (-1)))), (tq_kidNext, .inl (cI, 2200, .inl (upd (upd t_kidNext (t_kidCount : Int32).toNatClampNeg (-1)) (a1 : Int32).toNatClampNeg t_kidCount)))] := hD
    refine lv_iload_n hx hb dX9_addKid_74 rfl (lv_at hl 0 rfl) ?_
    obtain rfl := Option.some.inj hm
    subst hQ0
    exact W.iret (v := t_kidCount) hx hb hr (fun t ht hW => ⟨⟨t_kidCount, (t_kids, (upd t_many (a0 : Int32).toNatClampNeg ((t_many (a0 : Int32).toNatClampNeg) + 1)), (t_kidCount + 1), (upd t_kidShape (t_kidCount : Int32).toNatClampNeg (-1)), (upd t_kidName (t_kidCount : Int32).toNatClampNeg (-1)), (upd t_kidDefault (t_kidCount : Int32).toNatClampNeg (-1)), (upd (upd t_kidNext (t_kidCount : Int32).toNatClampNeg (-1)) (a1 : Int32).toNatClampNeg t_kidCount)), rfl, ⟨rfl, rfl⟩, by rw [ht]; exact hP, va_K.moved hW.alike hK, hD⟩, hS.F ht⟩) hS.2.2 dX9_addKid_75
  · have hm := mr_un c5 hm
    refine lv_aload_n hx hb dX9_addKid_47 rfl (lv_at hl 1 rfl) ?_
    refine va_get (D := (dC, dI)) (ci := 0) (v := .ref tq_kids) (C := RX9) (T := TX9) (N := 35) hx hb hts (inX9 _) hown hK hP 0 rfl rfl 21 (by decide) (hts _ (List.mem_cons_of_mem _ wf9_47)) (fun _ h9 => h9) rfl dX9_addKid_48 ?_
    refine lv_iload_n hx hb dX9_addKid_51 rfl (lv_at hl 2 rfl) ?_
    refine lv_iload_n hx hb dX9_addKid_52 rfl (lv_at hl 0 rfl) ?_
    obtain ⟨h9, hm⟩ := mr_bd hm
    refine va_iast hx hb hK hP hD hS 1 0 rfl rfl h9 dX9_addKid_53 (fun H locs hP hD hS => ?_)
    have hP : va_P (dC, dI) srCl [(ob0, .inr (0, [.ref tq_bytes, .int t_length, .int t_at, .int t_deep, .int t_fault, .int t_place, .int t_end, .int t_nodes, .ref tq_kinds, .ref tq_firsts, .ref tq_numbers, .ref tq_sizes, .ref tq_inner, .ref tq_nexts, .ref tq_letters, .int t_lettered, .int t_shapes, .int t_looked, .ref tq_sorts, .ref tq_names, .ref tq_wide, .ref tq_kids, .ref tq_many, .ref tq_fallback, .int (t_kidCount + 1), .ref tq_kidShape, .ref tq_kidName, .ref tq_kidDefault, .ref tq_kidNext, .int t_done, .ref tq_finished, .int t_root, .ref tq_plain, .int t_plainSize, .ref tq_told])), (tq_kids, .inl (cI, 140, .inl (upd t_kids (a0 : Int32).toNatClampNeg t_kidCount))), (tq_many, .inl (cI, 140, .inl t_many)), (tq_kidShape, .inl (cI, 2200, .inl (upd t_kidShape (t_kidCount : Int32).toNatClampNeg (-1)))), (tq_kidName, .inl (cI, 2200, .inl (upd t_kidName (t_kidCount : Int32).toNatClampNeg (-1)))), (tq_kidDefault, .inl (cI, 2200, .inl (upd t_kidDefault (t_kidCount : Int32).toNatClampNeg (-1)))), (tq_kidNext, .inl (cI, 2200, .inl (upd t_kidNext (t_kidCount : Int32).toNatClampNeg (-1))))] H := hP
    have hD : va_D A [(ob0, .inr (0, [.ref tq_bytes, .int t_length, .int t_at, .int t_deep, .int t_fault, .int t_place, .int t_end, .int t_nodes, .ref tq_kinds, .ref tq_firsts, .ref tq_numbers, .ref tq_sizes, .ref tq_inner, .ref tq_nexts, .ref tq_letters, .int t_lettered, .int t_shapes, .int t_looked, .ref tq_sorts, .ref tq_names, .ref tq_wide, .ref tq_kids, .ref tq_many, .ref tq_fallback, .int (t_kidCount + 1), .ref tq_kidShape, .ref tq_kidName, .ref tq_kidDefault, .ref tq_kidNext, .int t_done, .ref tq_finished, .int t_root, .ref tq_plain, .int t_plainSize, .ref tq_told])), (tq_kids, .inl (cI, 140, .inl (upd t_kids (a0 : Int32).toNatClampNeg t_kidCount))), (tq_many, .inl (cI, 140, .inl t_many)), (tq_kidShape, .inl (cI, 2200, .inl (upd t_kidShape (t_kidCount : Int32).toNatClampNeg (-1)))), (tq_kidName, .inl (cI, 2200, .inl (upd t_kidName (t_kidCount : Int32).toNatClampNeg (-1)))), (tq_kidDefault, .inl (cI, 2200, .inl (upd t_kidDefault (t_kidCount : Int32).toNatClampNeg (-1)))), (tq_kidNext, .inl (cI, 2200, .inl (upd t_kidNext (t_kidCount : Int32).toNatClampNeg (-1))))] := hD
    refine lv_goto (tgt := 64) hx hb dX9_addKid_54 (by decide) ?_
    refine lv_aload_n hx hb dX9_addKid_64 rfl (lv_at hl 1 rfl) ?_
    refine va_get (D := (dC, dI)) (ci := 0) (v := .ref tq_many) (C := RX9) (T := TX9) (N := 35) hx hb hts (inX9 _) hown hK hP 0 rfl rfl 22 (by decide) (hts _ (List.mem_cons_of_mem _ wf9_50)) (fun _ h9 => h9) rfl dX9_addKid_65 ?_
    refine lv_iload_n hx hb dX9_addKid_68 rfl (lv_at hl 2 rfl) ?_
    refine lv_dup2_11 hx hb dX9_addKid_69 rfl rfl ?_
    obtain ⟨h10, hm⟩ := mr_bd hm
    refine va_iald hx hb hK hP 2 0 rfl rfl h10 dX9_addKid_70 ?_
    refine lv_iconst (v := 1) hx hb dX9_addKid_71 (by decide) ?_
    refine lv_iadd hx hb dX9_addKid_72 ?_
    obtain ⟨h11, hm⟩ := mr_bd hm
    refine va_iast hx hb hK hP hD hS 2 0 rfl rfl h11 dX9_addKid_73 (fun H locs hP hD hS => ?_)
    have hP : va_P (dC, dI) srCl [(ob0, .inr (0, [.ref tq_bytes, .int t_length, .int t_at, .int t_deep, .int t_fault, .int t_place, .int t_end, .int t_nodes, .ref tq_kinds, .ref tq_firsts, .ref tq_numbers, .ref tq_sizes, .ref tq_inner, .ref tq_nexts, .ref tq_letters, .int t_lettered, .int t_shapes, .int t_looked, .ref tq_sorts, .ref tq_names, .ref tq_wide, .ref tq_kids, .ref tq_many, .ref tq_fallback, .int (t_kidCount + 1), .ref tq_kidShape, .ref tq_kidName, .ref tq_kidDefault, .ref tq_kidNext, .int t_done, .ref tq_finished, .int t_root, .ref tq_plain, .int t_plainSize, .ref tq_told])), (tq_kids, .inl (cI, 140, .inl (upd t_kids (a0 : Int32).toNatClampNeg t_kidCount))), (tq_many, .inl (cI, 140, .inl (upd t_many (a0 : Int32).toNatClampNeg ((t_many (a0 : Int32).toNatClampNeg) + 1)))), (tq_kidShape, .inl (cI, 2200, .inl (upd t_kidShape (t_kidCount : Int32).toNatClampNeg (-1)))), (tq_kidName, .inl (cI, 2200, .inl (upd t_kidName (t_kidCount : Int32).toNatClampNeg (-1)))), (tq_kidDefault, .inl (cI, 2200, .inl (upd t_kidDefault (t_kidCount : Int32).toNatClampNeg (-1)))), (tq_kidNext, .inl (cI, 2200, .inl (upd t_kidNext (t_kidCount : Int32).toNatClampNeg (-1))))] H := hP
    have hD : va_D A [(ob0, .inr (0, [.ref tq_bytes, .int t_length, .int t_at, .int t_deep, .int t_fault, .int t_place, .int t_end, .int t_nodes, .ref tq_kinds, .ref tq_firsts, .ref tq_numbers, .ref tq_sizes, .ref tq_inner, .ref tq_nexts, .ref tq_letters, .int t_lettered, .int t_shapes, .int t_looked, .ref tq_sorts, .ref tq_names, .ref tq_wide, .ref tq_kids, .ref tq_many, .ref tq_fallback, .int (t_kidCount + 1), .ref tq_kidShape, .ref tq_kidName, .ref tq_kidDefault, .ref tq_kidNext, .int t_done, .ref tq_finished, .int t_root, .ref tq_plain, .int t_plainSize, .ref tq_told])), (tq_kids, .inl (cI, 140, .inl (upd t_kids (a0 : Int32).toNatClampNeg t_kidCount))), (tq_many, .inl (cI, 140, .inl (upd t_many (a0 : Int32).toNatClampNeg ((t_many (a0 : Int32).toNatClampNeg) + 1)))), (tq_kidShape, .inl (cI, 2200, .inl (upd t_kidShape (t_kidCount : Int32).toNatClampNeg (-1)))), (tq_kidName, .inl (cI, 2200, .inl (upd t_kidName (t_kidCount : Int32).toNatClampNeg (-1)))), (tq_kidDefault, .inl (cI, 2200, .inl (upd t_kidDefault (t_kidCount : Int32).toNatClampNeg (-1)))), (tq_kidNext, .inl (cI, 2200, .inl (upd t_kidNext (t_kidCount : Int32).toNatClampNeg (-1))))] := hD
    refine lv_iload_n hx hb dX9_addKid_74 rfl (lv_at hl 0 rfl) ?_
    obtain rfl := Option.some.inj hm
    subst hQ0
    exact W.iret (v := t_kidCount) hx hb hr (fun t ht hW => ⟨⟨t_kidCount, ((upd t_kids (a0 : Int32).toNatClampNeg t_kidCount), (upd t_many (a0 : Int32).toNatClampNeg ((t_many (a0 : Int32).toNatClampNeg) + 1)), (t_kidCount + 1), (upd t_kidShape (t_kidCount : Int32).toNatClampNeg (-1)), (upd t_kidName (t_kidCount : Int32).toNatClampNeg (-1)), (upd t_kidDefault (t_kidCount : Int32).toNatClampNeg (-1)), (upd t_kidNext (t_kidCount : Int32).toNatClampNeg (-1))), rfl, ⟨rfl, rfl⟩, by rw [ht]; exact hP, va_K.moved hW.alike hK, hD⟩, hS.F ht⟩) hS.2.2 dX9_addKid_75
set_option maxHeartbeats 4000000 in
set_option maxRecDepth 100000 in
theorem kX9_alike (l : Launch) (htr : l.stackTraces = false) (dC : Nat → ClassId) (dI : Nat → Nat → Nat) (adK adV : Nat → Nat) (cI cB cJ cZ cQ : ClassId) (ob0 tq_bytes tq_kinds tq_firsts tq_numbers tq_sizes tq_inner tq_nexts tq_letters tq_sorts tq_names tq_wide tq_kids tq_many tq_fallback tq_kidShape tq_kidName tq_kidDefault tq_kidNext tq_finished tq_plain tq_told : Nat) (t_length : Int32) (t_at : Int32) (t_deep : Int32) (t_fault : Int32) (t_place : Int32) (t_end : Int32) (t_nodes : Int32) (t_lettered : Int32) (t_shapes : Int32) (t_looked : Int32) (t_kidCount : Int32) (t_done : Int32) (t_root : Int32) (t_plainSize : Int32) (t_sorts : Nat → Int32) (a0 : Int32) (a1 : Int32) (res : Int32) (hm : m_X9_alike t_sorts a0 a1 = some res) : Met l yX9_alike wsX9_alike (rmX9_alike 0 0) (pcR (sr_Z adK adV) (dC, dI) srCl [(cI, .int), (cB, .byte), (cJ, .long), (cZ, .boolean), (cQ, .object "SchemaReader$Schema")] [.ref ob0, .int a0, .int a1] [(ob0, .inr (0, [.ref tq_bytes, .int t_length, .int t_at, .int t_deep, .int t_fault, .int t_place, .int t_end, .int t_nodes, .ref tq_kinds, .ref tq_firsts, .ref tq_numbers, .ref tq_sizes, .ref tq_inner, .ref tq_nexts, .ref tq_letters, .int t_lettered, .int t_shapes, .int t_looked, .ref tq_sorts, .ref tq_names, .ref tq_wide, .ref tq_kids, .ref tq_many, .ref tq_fallback, .int t_kidCount, .ref tq_kidShape, .ref tq_kidName, .ref tq_kidDefault, .ref tq_kidNext, .int t_done, .ref tq_finished, .int t_root, .ref tq_plain, .int t_plainSize, .ref tq_told])), (tq_sorts, .inl (cI, 140, .inl t_sorts))]) (k2_QcV (.int res)) 0 0 (fun _ => False) := by
  refine Met.ofW (cc := cX9_alike) (maxL := 3) (ret := (some .boolean)) (by decide) rfl ?_
  intro p e s m args below meth c s₁ B hml hv
  obtain ⟨rfl, hP, hK, hz0⟩ := hv
  have hx := B.exec
  have hb := B.bytes
  have hr := B.returns
  have hts := atoms_spec (ws := wsX9_alike) B.pre
  have hown : s.vm.findClass RX9 = some m.cls := findClass_of_methodNamed B.named
  have hlocks := B.notSynchronized
  have hS : va_S (fun _ => False) s.heap s.heap [] := va_S.rf
  generalize hQ0 : MQ below (k2_QcV (.int res)) [.ref ob0, .int a0, .int a1].toArray s 0 0 (fun _ => False) = Q0
  have hl := lv_entry [.ref ob0, .int a0, .int a1] (n := 3) (Nat.le_of_ble_eq_true rfl)
  rw [lg_entry_eq]
  generalize (lg_sl [.ref ob0, .int a0, .int a1] ++ List.replicate (3 - (lg_sl [.ref ob0, .int a0, .int a1]).length) Slot.unset).toArray = ls at hl ⊢
  have hl : lv_has ls 3 [(0, .ref ob0), (1, .int a0), (2, .int a1)] := hl
  unfold m_X9_alike at hm
  refine lv_iload_n hx hb dX9_alike_0 rfl (lv_at hl 1 rfl) ?_
  refine lv_iload_n hx hb dX9_alike_1 rfl (lv_at hl 2 rfl) ?_
  refine lv_icmp_ne (tgt := 7) hx hb dX9_alike_2 (by decide) (fun c1 => ?_) (fun c1 => ?_)
  · have hm := mr_un c1 hm
    refine lv_aload_n hx hb dX9_alike_7 rfl (lv_at hl 0 rfl) ?_
    refine va_get (D := (dC, dI)) (ci := 0) (v := .ref tq_sorts) (C := RX9) (T := TX9) (N := 35) hx hb hts (inX9 _) hown hK hP 0 rfl rfl 18 (by decide) (hts _ (List.mem_cons_of_mem _ wf9_38)) (fun _ h9 => h9) rfl dX9_alike_8 ?_
    refine lv_iload_n hx hb dX9_alike_11 rfl (lv_at hl 1 rfl) ?_
    obtain ⟨h2, hm⟩ := mr_bd hm
    refine va_iald hx hb hK hP 1 0 rfl rfl h2 dX9_alike_12 ?_
    refine lv_aload_n hx hb dX9_alike_13 rfl (lv_at hl 0 rfl) ?_
    refine va_get (D := (dC, dI)) (ci := 0) (v := .ref tq_sorts) (C := RX9) (T := TX9) (N := 35) hx hb hts (inX9 _) hown hK hP 0 rfl rfl 18 (by decide) (hts _ (List.mem_cons_of_mem _ wf9_38)) (fun _ h9 => h9) rfl dX9_alike_14 ?_
    refine lv_iload_n hx hb dX9_alike_17 rfl (lv_at hl 2 rfl) ?_
    obtain ⟨h3, hm⟩ := mr_bd hm
    refine va_iald hx hb hK hP 1 0 rfl rfl h3 dX9_alike_18 ?_
    refine lv_icmp_ne (tgt := 48) hx hb dX9_alike_19 (by decide) (fun c4 => ?_) (fun c4 => ?_)
    · have hm := mr_un c4 hm
      refine lv_iconst (v := 0) hx hb dX9_alike_48 (by decide) ?_
      obtain rfl := Option.some.inj hm
      subst hQ0
      exact W.zret (v := 0) hx hb hr rfl (fun t ht hW => ⟨rfl, ht⟩) (fun q h => by cases h) dX9_alike_49
    · have hm := mr_if c4 hm
      refine lv_aload_n hx hb dX9_alike_22 rfl (lv_at hl 0 rfl) ?_
      refine va_get (D := (dC, dI)) (ci := 0) (v := .ref tq_sorts) (C := RX9) (T := TX9) (N := 35) hx hb hts (inX9 _) hown hK hP 0 rfl rfl 18 (by decide) (hts _ (List.mem_cons_of_mem _ wf9_38)) (fun _ h9 => h9) rfl dX9_alike_23 ?_
      refine lv_iload_n hx hb dX9_alike_26 rfl (lv_at hl 1 rfl) ?_
      obtain ⟨h5, hm⟩ := mr_bd hm
      refine va_iald hx hb hK hP 1 0 rfl rfl h5 dX9_alike_27 ?_
      refine lv_bipush (v := 6) hx hb dX9_alike_28 (by decide) ?_
      refine lv_icmp_eq (tgt := 44) hx hb dX9_alike_30 (by decide) (fun c6 => ?_) (fun c6 => ?_)
      · have hm := mr_if c6 hm
        refine lv_iconst (v := 1) hx hb dX9_alike_44 (by decide) ?_
        refine lv_goto (tgt := 49) hx hb dX9_alike_45 (by decide) ?_
        obtain rfl := Option.some.inj hm
        subst hQ0
        exact W.zret (v := 1) hx hb hr rfl (fun t ht hW => ⟨rfl, ht⟩) (fun q h => by cases h) dX9_alike_49
      · have hm := mr_un c6 hm
        refine lv_aload_n hx hb dX9_alike_33 rfl (lv_at hl 0 rfl) ?_
        refine va_get (D := (dC, dI)) (ci := 0) (v := .ref tq_sorts) (C := RX9) (T := TX9) (N := 35) hx hb hts (inX9 _) hown hK hP 0 rfl rfl 18 (by decide) (hts _ (List.mem_cons_of_mem _ wf9_38)) (fun _ h9 => h9) rfl dX9_alike_34 ?_
        refine lv_iload_n hx hb dX9_alike_37 rfl (lv_at hl 1 rfl) ?_
        obtain ⟨h7, hm⟩ := mr_bd hm
        refine va_iald hx hb hK hP 1 0 rfl rfl h7 dX9_alike_38 ?_
        refine lv_bipush (v := 7) hx hb dX9_alike_39 (by decide) ?_
        refine lv_icmp_ne (tgt := 48) hx hb dX9_alike_41 (by decide) (fun c8 => ?_) (fun c8 => ?_)
        · have hm := mr_un c8 hm
          refine lv_iconst (v := 0) hx hb dX9_alike_48 (by decide) ?_
          obtain rfl := Option.some.inj hm
          subst hQ0
          exact W.zret (v := 0) hx hb hr rfl (fun t ht hW => ⟨rfl, ht⟩) (fun q h => by cases h) dX9_alike_49
        · have hm := mr_if c8 hm
          refine lv_iconst (v := 1) hx hb dX9_alike_44 (by decide) ?_
          refine lv_goto (tgt := 49) hx hb dX9_alike_45 (by decide) ?_
          obtain rfl := Option.some.inj hm
          subst hQ0
          exact W.zret (v := 1) hx hb hr rfl (fun t ht hW => ⟨rfl, ht⟩) (fun q h => by cases h) dX9_alike_49
  · have hm := mr_if c1 hm
    refine lv_iconst (v := 1) hx hb dX9_alike_5 (by decide) ?_
    obtain rfl := Option.some.inj hm
    subst hQ0
    exact W.zret (v := 1) hx hb hr rfl (fun t ht hW => ⟨rfl, ht⟩) (fun q h => by cases h) dX9_alike_6
set_option maxHeartbeats 4000000 in
set_option maxRecDepth 100000 in
theorem kX9_symbol (l : Launch) (htr : l.stackTraces = false) (dC : Nat → ClassId) (dI : Nat → Nat → Nat) (adK adV : Nat → Nat) (cI cB cJ cZ cQ : ClassId) (ob0 tq_bytes tq_kinds tq_firsts tq_numbers tq_sizes tq_inner tq_nexts tq_letters tq_sorts tq_names tq_wide tq_kids tq_many tq_fallback tq_kidShape tq_kidName tq_kidDefault tq_kidNext tq_finished tq_plain tq_told ob1 oq_bytes oq_kinds oq_firsts oq_numbers oq_sizes oq_inner oq_nexts oq_letters oq_sorts oq_names oq_wide oq_kids oq_many oq_fallback oq_kidShape oq_kidName oq_kidDefault oq_kidNext oq_finished oq_plain oq_told : Nat) (t_length : Int32) (t_at : Int32) (t_deep : Int32) (t_fault : Int32) (t_place : Int32) (t_end : Int32) (t_nodes : Int32) (t_lettered : Int32) (t_shapes : Int32) (t_looked : Int32) (t_kidCount : Int32) (t_done : Int32) (t_root : Int32) (t_plainSize : Int32) (o_length : Int32) (o_at : Int32) (o_deep : Int32) (o_fault : Int32) (o_place : Int32) (o_end : Int32) (o_nodes : Int32) (o_lettered : Int32) (o_shapes : Int32) (o_looked : Int32) (o_kidCount : Int32) (o_done : Int32) (o_root : Int32) (o_plainSize : Int32) (t_numbers : Nat → Int64) (t_sizes : Nat → Int32) (t_letters : Nat → Int32) (t_kids : Nat → Int32) (t_kidName : Nat → Int32) (t_kidNext : Nat → Int32) (o_numbers : Nat → Int64) (o_sizes : Nat → Int32) (o_letters : Nat → Int32) (a0 : Int32) (a2 : Int32) (res : Int32) (hm : m_X9_symbol t_numbers t_sizes t_letters t_kids t_kidName t_kidNext o_numbers o_sizes o_letters a0 a2 = some res) : Met l yX9_symbol wsX9_symbol (rmX9_symbol 0 0) (pcR (sr_Z adK adV) (dC, dI) srCl [(cI, .int), (cB, .byte), (cJ, .long), (cZ, .boolean), (cQ, .object "SchemaReader$Schema")] [.ref ob0, .int a0, .ref ob1, .int a2] [(ob0, .inr (0, [.ref tq_bytes, .int t_length, .int t_at, .int t_deep, .int t_fault, .int t_place, .int t_end, .int t_nodes, .ref tq_kinds, .ref tq_firsts, .ref tq_numbers, .ref tq_sizes, .ref tq_inner, .ref tq_nexts, .ref tq_letters, .int t_lettered, .int t_shapes, .int t_looked, .ref tq_sorts, .ref tq_names, .ref tq_wide, .ref tq_kids, .ref tq_many, .ref tq_fallback, .int t_kidCount, .ref tq_kidShape, .ref tq_kidName, .ref tq_kidDefault, .ref tq_kidNext, .int t_done, .ref tq_finished, .int t_root, .ref tq_plain, .int t_plainSize, .ref tq_told])), (tq_numbers, .inl (cJ, 4200, .inr (.inl t_numbers))), (tq_sizes, .inl (cI, 4200, .inl t_sizes)), (tq_letters, .inl (cB, 4200, .inl t_letters)), (tq_kids, .inl (cI, 140, .inl t_kids)), (tq_kidName, .inl (cI, 2200, .inl t_kidName)), (tq_kidNext, .inl (cI, 2200, .inl t_kidNext)), (ob1, .inr (0, [.ref oq_bytes, .int o_length, .int o_at, .int o_deep, .int o_fault, .int o_place, .int o_end, .int o_nodes, .ref oq_kinds, .ref oq_firsts, .ref oq_numbers, .ref oq_sizes, .ref oq_inner, .ref oq_nexts, .ref oq_letters, .int o_lettered, .int o_shapes, .int o_looked, .ref oq_sorts, .ref oq_names, .ref oq_wide, .ref oq_kids, .ref oq_many, .ref oq_fallback, .int o_kidCount, .ref oq_kidShape, .ref oq_kidName, .ref oq_kidDefault, .ref oq_kidNext, .int o_done, .ref oq_finished, .int o_root, .ref oq_plain, .int o_plainSize, .ref oq_told])), (oq_numbers, .inl (cJ, 4200, .inr (.inl o_numbers))), (oq_sizes, .inl (cI, 4200, .inl o_sizes)), (oq_letters, .inl (cB, 4200, .inl o_letters))]) (k2_QcV (.int res)) 0 0 (fun _ => False) := by
  refine Met.ofW (cc := cX9_symbol) (maxL := 6) (ret := (some .int)) (by decide) rfl ?_
  intro p e s m args below meth c s₁ B hml hv
  obtain ⟨rfl, hP, hK, hz0⟩ := hv
  have hx := B.exec
  have hb := B.bytes
  have hr := B.returns
  have hts := atoms_spec (ws := wsX9_symbol) B.pre
  have hown : s.vm.findClass RX9 = some m.cls := findClass_of_methodNamed B.named
  have hlocks := B.notSynchronized
  have hS : va_S (fun _ => False) s.heap s.heap [] := va_S.rf
  generalize hQ0 : MQ below (k2_QcV (.int res)) [.ref ob0, .int a0, .ref ob1, .int a2].toArray s 0 0 (fun _ => False) = Q0
  have hl := lv_entry [.ref ob0, .int a0, .ref ob1, .int a2] (n := 6) (Nat.le_of_ble_eq_true rfl)
  rw [lg_entry_eq]
  generalize (lg_sl [.ref ob0, .int a0, .ref ob1, .int a2] ++ List.replicate (6 - (lg_sl [.ref ob0, .int a0, .ref ob1, .int a2]).length) Slot.unset).toArray = ls at hl ⊢
  have hl : lv_has ls 6 [(0, .ref ob0), (1, .int a0), (2, .ref ob1), (3, .int a2)] := hl
  unfold m_X9_symbol at hm
  refine lv_iconst (v := 0) hx hb dX9_symbol_0 (by decide) ?_
  refine lv_istore (lv' := [(4, .int 0), (0, .ref ob0), (1, .int a0), (2, .ref ob1), (3, .int a2)]) hx hb dX9_symbol_1 hl (by decide) rfl (fun ls hl => ?_)
  refine lv_aload_n hx hb dX9_symbol_3 rfl (lv_at hl 1 rfl) ?_
  refine va_get (D := (dC, dI)) (ci := 0) (v := .ref tq_kids) (C := RX9) (T := TX9) (N := 35) hx hb hts (inX9 _) hown hK hP 0 rfl rfl 21 (by decide) (hts _ (List.mem_cons_of_mem _ wf9_47)) (fun _ h9 => h9) rfl dX9_symbol_4 ?_
  refine lv_iload_n hx hb dX9_symbol_7 rfl (lv_at hl 2 rfl) ?_
  obtain ⟨h1, hm⟩ := mr_bd hm
  refine va_iald hx hb hK hP 4 0 rfl rfl h1 dX9_symbol_8 ?_
  have j11 : ∀ (n11 : Nat) (x3 : Int32) (x4 : Int32) (x5 : Int32) (ls : Array Slot), lv_has ls 6 [(0, .ref ob0), (2, .ref ob1), (3, .int x3), (4, .int x4), (5, .int x5)] → m_X9_symbol_11 t_numbers t_sizes t_letters t_kids t_kidName t_kidNext o_numbers o_sizes o_letters n11 x3 x4 x5 = some res → W p l e (headSpec wsX9_symbol (rmX9_symbol 0 0)).room s m [.ref ob0, .int a0, .ref ob1, .int a2].toArray below meth c s.heap [] 0 0 Q0 (F0 m 11 ls []) := by
    intro n11
    induction n11 with
    | zero => intro x3 x4 x5 ls hl hm; exact nomatch (show (none : Option _) = some res from hm)
    | succ n11 ih11 =>
      intro x3 x4 x5 ls hl hm
      rw [m_X9_symbol_11] at hm
      refine lv_iload hx hb dX9_symbol_11 (lv_at hl 4 rfl) ?_
      refine lv_if_lt (tgt := 50) hx hb dX9_symbol_13 (by decide) (fun c2 => ?_) (fun c2 => ?_)
      · have hm := mr_if c2 hm
        refine lv_iconst (v := -1) hx hb dX9_symbol_50 (by decide) ?_
        obtain rfl := Option.some.inj hm
        subst hQ0
        exact W.iret (v := (-1)) hx hb hr (fun t ht hW => ⟨rfl, ht⟩) (fun q h => by cases h) dX9_symbol_51
      · have hm := mr_un c2 hm
        refine lv_aload_n hx hb dX9_symbol_16 rfl (lv_at hl 0 rfl) ?_
        refine lv_aload_n hx hb dX9_symbol_17 rfl (lv_at hl 0 rfl) ?_
        refine va_get (D := (dC, dI)) (ci := 0) (v := .ref tq_kidName) (C := RX9) (T := TX9) (N := 35) hx hb hts (inX9 _) hown hK hP 0 rfl rfl 26 (by decide) (hts _ (List.mem_cons_of_mem _ wf9_59)) (fun _ h9 => h9) rfl dX9_symbol_18 ?_
        refine lv_iload hx hb dX9_symbol_21 (lv_at hl 4 rfl) ?_
        obtain ⟨h3, hm⟩ := mr_bd hm
        refine va_iald hx hb hK hP 5 0 rfl rfl h3 dX9_symbol_23 ?_
        refine lv_aload_n hx hb dX9_symbol_24 rfl (lv_at hl 1 rfl) ?_
        refine lv_iload_n hx hb dX9_symbol_25 rfl (lv_at hl 2 rfl) ?_
        obtain ⟨r4, hz4, hm⟩ := mr_bind hm
        refine mr_pV (As := [.int (t_kidName (x5 : Int32).toNatClampNeg), .ref ob1, .int x3]) (rest := []) (sr_okZ adK adV) ⟨hx, hb, hml, hown, hts⟩ (kX9_same l htr dC dI adK adV cI cB cJ cZ cQ ob0 tq_bytes tq_kinds tq_firsts tq_numbers tq_sizes tq_inner tq_nexts tq_letters tq_sorts tq_names tq_wide tq_kids tq_many tq_fallback tq_kidShape tq_kidName tq_kidDefault tq_kidNext tq_finished tq_plain tq_told ob1 oq_bytes oq_kinds oq_firsts oq_numbers oq_sizes oq_inner oq_nexts oq_letters oq_sorts oq_names oq_wide oq_kids oq_many oq_fallback oq_kidShape oq_kidName oq_kidDefault oq_kidNext oq_finished oq_plain oq_told t_length t_at t_deep t_fault t_place t_end t_nodes t_lettered t_shapes t_looked t_kidCount t_done t_root t_plainSize o_length o_at o_deep o_fault o_place o_end o_nodes o_lettered o_shapes o_looked o_kidCount o_done o_root o_plainSize t_numbers t_sizes t_letters o_numbers o_sizes o_letters (t_kidName (x5 : Int32).toNatClampNeg) x3 r4 hz4) (cwV 3 hts (g9_155 _) rfl rfl rfl (by decide +kernel) ⟨(by show 0 + 1 ≤ 1; omega), (by show 8 + (5 + 11) + (0) ≤ 24; omega)⟩) hS hP hK hz0 [0, 1, 2, 3, 7, 8, 9, 10] rfl (va_recv hK hP (ci := 0) (q0 := 0) rfl rfl) rfl rfl hl.1 (Nat.le_of_ble_eq_true rfl) dX9_symbol_26 ⟨Nat.zero_le _, Nat.zero_le _⟩ ?_
        refine lv_if_eq (tgt := 35) hx hb dX9_symbol_29 (by decide) (fun c5 => ?_) (fun c5 => ?_)
        · have hm := mr_if c5 hm
          refine lv_iinc (v := x4 + 1) (lv' := [(4, .int (x4 + 1)), (0, .ref ob0), (2, .ref ob1), (3, .int x3), (5, .int x5)]) hx hb dX9_symbol_35 hl (k := 3) rfl rfl (by decide) rfl (fun ls hl => ?_)
          refine lv_aload_n hx hb dX9_symbol_38 rfl (lv_at hl 1 rfl) ?_
          refine va_get (D := (dC, dI)) (ci := 0) (v := .ref tq_kidNext) (C := RX9) (T := TX9) (N := 35) hx hb hts (inX9 _) hown hK hP 0 rfl rfl 28 (by decide) (hts _ (List.mem_cons_of_mem _ wf9_65)) (fun _ h9 => h9) rfl dX9_symbol_39 ?_
          refine lv_iload hx hb dX9_symbol_42 (lv_at hl 4 rfl) ?_
          obtain ⟨h6, hm⟩ := mr_bd hm
          refine va_iald hx hb hK hP 6 0 rfl rfl h6 dX9_symbol_44 ?_
          refine lv_istore (lv' := [(5, .int (t_kidNext (x5 : Int32).toNatClampNeg)), (4, .int (x4 + 1)), (0, .ref ob0), (2, .ref ob1), (3, .int x3)]) hx hb dX9_symbol_45 hl (by decide) rfl (fun ls hl => ?_)
          refine lv_goto (tgt := 11) hx hb dX9_symbol_47 (by decide) ?_
          exact ih11 x3 (x4 + 1) (t_kidNext (x5 : Int32).toNatClampNeg) ls (lv_sub hl [2, 3, 4, 1, 0] rfl) hm
        · have hm := mr_un c5 hm
          refine lv_iload hx hb dX9_symbol_32 (lv_at hl 3 rfl) ?_
          obtain rfl := Option.some.inj hm
          subst hQ0
          exact W.iret (v := x4) hx hb hr (fun t ht hW => ⟨rfl, ht⟩) (fun q h => by cases h) dX9_symbol_34
  refine lv_istore (lv' := [(5, .int (t_kids (a0 : Int32).toNatClampNeg)), (4, .int 0), (0, .ref ob0), (1, .int a0), (2, .ref ob1), (3, .int a2)]) hx hb dX9_symbol_9 hl (by decide) rfl (fun ls hl => ?_)
  exact j11 sr_fuel a2 0 (t_kids (a0 : Int32).toNatClampNeg) ls (lv_sub hl [2, 4, 5, 1, 0] rfl) hm
set_option maxHeartbeats 4000000 in
set_option maxRecDepth 100000 in
theorem kX9_figure (l : Launch) (htr : l.stackTraces = false) (dC : Nat → ClassId) (dI : Nat → Nat → Nat) (adK adV : Nat → Nat) (cI cB cJ cZ cQ : ClassId) (ob0 tq_bytes tq_kinds tq_firsts tq_numbers tq_sizes tq_inner tq_nexts tq_letters tq_sorts tq_names tq_wide tq_kids tq_many tq_fallback tq_kidShape tq_kidName tq_kidDefault tq_kidNext tq_finished tq_plain tq_told : Nat) (t_length : Int32) (t_at : Int32) (t_deep : Int32) (t_fault : Int32) (t_place : Int32) (t_end : Int32) (t_nodes : Int32) (t_lettered : Int32) (t_shapes : Int32) (t_looked : Int32) (t_kidCount : Int32) (t_done : Int32) (t_root : Int32) (t_plainSize : Int32) (t_plain : Nat → Int32) (sz : Nat) (a0 : Int32) (res : (Nat → Int32) × Int32) (hm : m_X9_figure t_plain t_plainSize a0 = some res) : Met l yX9_figure wsX9_figure (rmX9_figure 0 0) (pcW (sr_Z adK adV) (dC, dI) srCl [(cI, .int), (cB, .byte), (cJ, .long), (cZ, .boolean), (cQ, .object "SchemaReader$Schema")] [.ref ob0, .int a0] [(ob0, .inr (0, [.ref tq_bytes, .int t_length, .int t_at, .int t_deep, .int t_fault, .int t_place, .int t_end, .int t_nodes, .ref tq_kinds, .ref tq_firsts, .ref tq_numbers, .ref tq_sizes, .ref tq_inner, .ref tq_nexts, .ref tq_letters, .int t_lettered, .int t_shapes, .int t_looked, .ref tq_sorts, .ref tq_names, .ref tq_wide, .ref tq_kids, .ref tq_many, .ref tq_fallback, .int t_kidCount, .ref tq_kidShape, .ref tq_kidName, .ref tq_kidDefault, .ref tq_kidNext, .int t_done, .ref tq_finished, .int t_root, .ref tq_plain, .int t_plainSize, .ref tq_told])), (tq_plain, .inl (cB, 4200, .inl t_plain))] sz) (va_Qv (fun u' => u' = res) (pcB (dC, dI) srCl [(cI, .int), (cB, .byte), (cJ, .long), (cZ, .boolean), (cQ, .object "SchemaReader$Schema")] (fun u : (Nat → Int32) × Int32 => [(ob0, .inr (0, [.ref tq_bytes, .int t_length, .int t_at, .int t_deep, .int t_fault, .int t_place, .int t_end, .int t_nodes, .ref tq_kinds, .ref tq_firsts, .ref tq_numbers, .ref tq_sizes, .ref tq_inner, .ref tq_nexts, .ref tq_letters, .int t_lettered, .int t_shapes, .int t_looked, .ref tq_sorts, .ref tq_names, .ref tq_wide, .ref tq_kids, .ref tq_many, .ref tq_fallback, .int t_kidCount, .ref tq_kidShape, .ref tq_kidName, .ref tq_kidDefault, .ref tq_kidNext, .int t_done, .ref tq_finished, .int t_root, .ref tq_plain, .int u.2, .ref tq_told])), (tq_plain, .inl (cB, 4200, .inl u.1))]) (va_A [(ob0, .inr (0, [.ref tq_bytes, .int t_length, .int t_at, .int t_deep, .int t_fault, .int t_place, .int t_end, .int t_nodes, .ref tq_kinds, .ref tq_firsts, .ref tq_numbers, .ref tq_sizes, .ref tq_inner, .ref tq_nexts, .ref tq_letters, .int t_lettered, .int t_shapes, .int t_looked, .ref tq_sorts, .ref tq_names, .ref tq_wide, .ref tq_kids, .ref tq_many, .ref tq_fallback, .int t_kidCount, .ref tq_kidShape, .ref tq_kidName, .ref tq_kidDefault, .ref tq_kidNext, .int t_done, .ref tq_finished, .int t_root, .ref tq_plain, .int t_plainSize, .ref tq_told])), (tq_plain, .inl (cB, 4200, .inl t_plain))] sz)) (va_A [(ob0, .inr (0, [.ref tq_bytes, .int t_length, .int t_at, .int t_deep, .int t_fault, .int t_place, .int t_end, .int t_nodes, .ref tq_kinds, .ref tq_firsts, .ref tq_numbers, .ref tq_sizes, .ref tq_inner, .ref tq_nexts, .ref tq_letters, .int t_lettered, .int t_shapes, .int t_looked, .ref tq_sorts, .ref tq_names, .ref tq_wide, .ref tq_kids, .ref tq_many, .ref tq_fallback, .int t_kidCount, .ref tq_kidShape, .ref tq_kidName, .ref tq_kidDefault, .ref tq_kidNext, .int t_done, .ref tq_finished, .int t_root, .ref tq_plain, .int t_plainSize, .ref tq_told])), (tq_plain, .inl (cB, 4200, .inl t_plain))] sz)) 0 0 (va_A [(ob0, .inr (0, [.ref tq_bytes, .int t_length, .int t_at, .int t_deep, .int t_fault, .int t_place, .int t_end, .int t_nodes, .ref tq_kinds, .ref tq_firsts, .ref tq_numbers, .ref tq_sizes, .ref tq_inner, .ref tq_nexts, .ref tq_letters, .int t_lettered, .int t_shapes, .int t_looked, .ref tq_sorts, .ref tq_names, .ref tq_wide, .ref tq_kids, .ref tq_many, .ref tq_fallback, .int t_kidCount, .ref tq_kidShape, .ref tq_kidName, .ref tq_kidDefault, .ref tq_kidNext, .int t_done, .ref tq_finished, .int t_root, .ref tq_plain, .int t_plainSize, .ref tq_told])), (tq_plain, .inl (cB, 4200, .inl t_plain))] sz) := by
  refine Met.ofW (cc := cX9_figure) (maxL := 2) (ret := none) (by decide) rfl ?_
  intro p e s m args below meth c s₁ B hml hv
  obtain ⟨rfl, hsz, hP, hK, hD0, hz0⟩ := hv
  have hx := B.exec
  have hb := B.bytes
  have hr := B.returns
  have hts := atoms_spec (ws := wsX9_figure) B.pre
  have hown : s.vm.findClass RX9 = some m.cls := findClass_of_methodNamed B.named
  have hlocks := B.notSynchronized
  subst hsz
  have hD := hD0.self (sz := s.heap.size)
  generalize hAe : va_A [(ob0, .inr (0, [.ref tq_bytes, .int t_length, .int t_at, .int t_deep, .int t_fault, .int t_place, .int t_end, .int t_nodes, .ref tq_kinds, .ref tq_firsts, .ref tq_numbers, .ref tq_sizes, .ref tq_inner, .ref tq_nexts, .ref tq_letters, .int t_lettered, .int t_shapes, .int t_looked, .ref tq_sorts, .ref tq_names, .ref tq_wide, .ref tq_kids, .ref tq_many, .ref tq_fallback, .int t_kidCount, .ref tq_kidShape, .ref tq_kidName, .ref tq_kidDefault, .ref tq_kidNext, .int t_done, .ref tq_finished, .int t_root, .ref tq_plain, .int t_plainSize, .ref tq_told])), (tq_plain, .inl (cB, 4200, .inl t_plain))] s.heap.size = A at hD hz0 ⊢
  have hA : ∀ q : Nat, s.heap.size ≤ q → A q := fun q h => by rw [← hAe]; exact Or.inr h
  have hS : va_S A s.heap s.heap [] := va_S.rf
  generalize hQ0 : MQ below (va_Qv (fun u' => u' = res) (pcB (dC, dI) srCl [(cI, .int), (cB, .byte), (cJ, .long), (cZ, .boolean), (cQ, .object "SchemaReader$Schema")] (fun u : (Nat → Int32) × Int32 => [(ob0, .inr (0, [.ref tq_bytes, .int t_length, .int t_at, .int t_deep, .int t_fault, .int t_place, .int t_end, .int t_nodes, .ref tq_kinds, .ref tq_firsts, .ref tq_numbers, .ref tq_sizes, .ref tq_inner, .ref tq_nexts, .ref tq_letters, .int t_lettered, .int t_shapes, .int t_looked, .ref tq_sorts, .ref tq_names, .ref tq_wide, .ref tq_kids, .ref tq_many, .ref tq_fallback, .int t_kidCount, .ref tq_kidShape, .ref tq_kidName, .ref tq_kidDefault, .ref tq_kidNext, .int t_done, .ref tq_finished, .int t_root, .ref tq_plain, .int u.2, .ref tq_told])), (tq_plain, .inl (cB, 4200, .inl u.1))]) A) A) [.ref ob0, .int a0].toArray s 0 0 A = Q0
  have hl := lv_entry [.ref ob0, .int a0] (n := 2) (Nat.le_of_ble_eq_true rfl)
  rw [lg_entry_eq]
  generalize (lg_sl [.ref ob0, .int a0] ++ List.replicate (2 - (lg_sl [.ref ob0, .int a0]).length) Slot.unset).toArray = ls at hl ⊢
  have hl : lv_has ls 2 [(0, .ref ob0), (1, .int a0)] := hl
  unfold m_X9_figure at hm
  refine lv_aload_n hx hb dX9_figure_0 rfl (lv_at hl 0 rfl) ?_
  refine va_get (D := (dC, dI)) (ci := 0) (v := .ref tq_plain) (C := RX9) (T := TX9) (N := 35) hx hb hts (inX9 _) hown hK hP 0 rfl rfl 32 (by decide) (hts _ (List.mem_cons_of_mem _ wf9_71)) (fun _ h9 => h9) rfl dX9_figure_1 ?_
  refine lv_aload_n hx hb dX9_figure_4 rfl (lv_at hl 0 rfl) ?_
  refine va_get (D := (dC, dI)) (ci := 0) (v := .int t_plainSize) (C := RX9) (T := TX9) (N := 35) hx hb hts (inX9 _) hown hK hP 0 rfl rfl 33 (by decide) (hts _ (List.mem_cons_of_mem _ wf9_280)) (fun _ h9 => h9) rfl dX9_figure_5 ?_
  refine lv_bipush (v := 48) hx hb dX9_figure_8 (by decide) ?_
  refine lv_iload_n hx hb dX9_figure_10 rfl (lv_at hl 1 rfl) ?_
  refine lv_iadd hx hb dX9_figure_11 ?_
  refine lv_i2b hx hb dX9_figure_12 rfl ?_
  obtain ⟨h1, hm⟩ := mr_bd hm
  refine va_bast hx hb hK hP hD hS 1 1 rfl rfl h1 dX9_figure_13 (fun H locs hP hD hS => ?_)
  have hP : va_P (dC, dI) srCl [(ob0, .inr (0, [.ref tq_bytes, .int t_length, .int t_at, .int t_deep, .int t_fault, .int t_place, .int t_end, .int t_nodes, .ref tq_kinds, .ref tq_firsts, .ref tq_numbers, .ref tq_sizes, .ref tq_inner, .ref tq_nexts, .ref tq_letters, .int t_lettered, .int t_shapes, .int t_looked, .ref tq_sorts, .ref tq_names, .ref tq_wide, .ref tq_kids, .ref tq_many, .ref tq_fallback, .int t_kidCount, .ref tq_kidShape, .ref tq_kidName, .ref tq_kidDefault, .ref tq_kidNext, .int t_done, .ref tq_finished, .int t_root, .ref tq_plain, .int t_plainSize, .ref tq_told])), (tq_plain, .inl (cB, 4200, .inl (upd t_plain (t_plainSize : Int32).toNatClampNeg (vp_nar .byte (((48 + a0) : Int32).toInt8.toInt32)))))] H := hP
  have hD : va_D A [(ob0, .inr (0, [.ref tq_bytes, .int t_length, .int t_at, .int t_deep, .int t_fault, .int t_place, .int t_end, .int t_nodes, .ref tq_kinds, .ref tq_firsts, .ref tq_numbers, .ref tq_sizes, .ref tq_inner, .ref tq_nexts, .ref tq_letters, .int t_lettered, .int t_shapes, .int t_looked, .ref tq_sorts, .ref tq_names, .ref tq_wide, .ref tq_kids, .ref tq_many, .ref tq_fallback, .int t_kidCount, .ref tq_kidShape, .ref tq_kidName, .ref tq_kidDefault, .ref tq_kidNext, .int t_done, .ref tq_finished, .int t_root, .ref tq_plain, .int t_plainSize, .ref tq_told])), (tq_plain, .inl (cB, 4200, .inl (upd t_plain (t_plainSize : Int32).toNatClampNeg (vp_nar .byte (((48 + a0) : Int32).toInt8.toInt32)))))] := hD
  refine lv_aload_n hx hb dX9_figure_14 rfl (lv_at hl 0 rfl) ?_
  refine lv_dup hx hb dX9_figure_15 rfl ?_
  refine va_get (D := (dC, dI)) (ci := 0) (v := .int t_plainSize) (C := RX9) (T := TX9) (N := 35) hx hb hts (inX9 _) hown hK hP 0 rfl rfl 33 (by decide) (hts _ (List.mem_cons_of_mem _ wf9_280)) (fun _ h9 => h9) rfl dX9_figure_16 ?_
  refine lv_iconst (v := 1) hx hb dX9_figure_19 (by decide) ?_
  refine lv_iadd hx hb dX9_figure_20 ?_
  refine va_put (D := (dC, dI)) (ci := 0) (v := .int (t_plainSize + 1)) (ty := .int) (C := RX9) (T := TX9) (N := 35) hx hb hts (inX9 _) tyX9 tyX9_ok nmX9 hown hK hP hD hS 0 rfl rfl 33 (by decide) (hts _ (List.mem_cons_of_mem _ wf9_280)) (fun _ h9 => h9) rfl (by decide +kernel) rfl rfl (Nat.le_of_ble_eq_true rfl) dX9_figure_21 (fun H locs hP hD hS => ?_)
  have hP : va_P (dC, dI) srCl [(ob0, .inr (0, [.ref tq_bytes, .int t_length, .int t_at, .int t_deep, .int t_fault, .int t_place, .int t_end, .int t_nodes, .ref tq_kinds, .ref tq_firsts, .ref tq_numbers, .ref tq_sizes, .ref tq_inner, .ref tq_nexts, .ref tq_letters, .int t_lettered, .int t_shapes, .int t_looked, .ref tq_sorts, .ref tq_names, .ref tq_wide, .ref tq_kids, .ref tq_many, .ref tq_fallback, .int t_kidCount, .ref tq_kidShape, .ref tq_kidName, .ref tq_kidDefault, .ref tq_kidNext, .int t_done, .ref tq_finished, .int t_root, .ref tq_plain, .int (t_plainSize + 1), .ref tq_told])), (tq_plain, .inl (cB, 4200, .inl (upd t_plain (t_plainSize : Int32).toNatClampNeg (vp_nar .byte (((48 + a0) : Int32).toInt8.toInt32)))))] H := hP
  have hD : va_D A [(ob0, .inr (0, [.ref tq_bytes, .int t_length, .int t_at, .int t_deep, .int t_fault, .int t_place, .int t_end, .int t_nodes, .ref tq_kinds, .ref tq_firsts, .ref tq_numbers, .ref tq_sizes, .ref tq_inner, .ref tq_nexts, .ref tq_letters, .int t_lettered, .int t_shapes, .int t_looked, .ref tq_sorts, .ref tq_names, .ref tq_wide, .ref tq_kids, .ref tq_many, .ref tq_fallback, .int t_kidCount, .ref tq_kidShape, .ref tq_kidName, .ref tq_kidDefault, .ref tq_kidNext, .int t_done, .ref tq_finished, .int t_root, .ref tq_plain, .int (t_plainSize + 1), .ref tq_told])), (tq_plain, .inl (cB, 4200, .inl (upd t_plain (t_plainSize : Int32).toNatClampNeg (vp_nar .byte (((48 + a0) : Int32).toInt8.toInt32)))))] := hD
  obtain rfl := Option.some.inj hm
  subst hQ0
  exact W.vret hx hb hr (fun t ht hW => ⟨⟨((upd t_plain (t_plainSize : Int32).toNatClampNeg (vp_nar .byte (((48 + a0) : Int32).toInt8.toInt32))), (t_plainSize + 1)), rfl, rfl, by rw [ht]; exact hP, va_K.moved hW.alike hK, hD⟩, hS.F ht⟩) hS.2.2 dX9_figure_24
set_option maxHeartbeats 4000000 in
set_option maxRecDepth 100000 in
theorem kX9_print (l : Launch) (htr : l.stackTraces = false) (dC : Nat → ClassId) (dI : Nat → Nat → Nat) (adK adV : Nat → Nat) (cI cB cJ cZ cQ : ClassId) (ob0 tq_bytes tq_kinds tq_firsts tq_numbers tq_sizes tq_inner tq_nexts tq_letters tq_sorts tq_names tq_wide tq_kids tq_many tq_fallback tq_kidShape tq_kidName tq_kidDefault tq_kidNext tq_finished tq_plain tq_told : Nat) (t_length : Int32) (t_at : Int32) (t_deep : Int32) (t_fault : Int32) (t_place : Int32) (t_end : Int32) (t_nodes : Int32) (t_lettered : Int32) (t_shapes : Int32) (t_looked : Int32) (t_kidCount : Int32) (t_done : Int32) (t_root : Int32) (t_plainSize : Int32) (t_plain : Nat → Int32) (res : Int64) (hm : m_X9_print t_plain t_plainSize = some res) : Met l yX9_print wsX9_print (rmX9_print 0 0) (pcR (sr_Z adK adV) (dC, dI) srCl [(cI, .int), (cB, .byte), (cJ, .long), (cZ, .boolean), (cQ, .object "SchemaReader$Schema")] [.ref ob0] [(ob0, .inr (0, [.ref tq_bytes, .int t_length, .int t_at, .int t_deep, .int t_fault, .int t_place, .int t_end, .int t_nodes, .ref tq_kinds, .ref tq_firsts, .ref tq_numbers, .ref tq_sizes, .ref tq_inner, .ref tq_nexts, .ref tq_letters, .int t_lettered, .int t_shapes, .int t_looked, .ref tq_sorts, .ref tq_names, .ref tq_wide, .ref tq_kids, .ref tq_many, .ref tq_fallback, .int t_kidCount, .ref tq_kidShape, .ref tq_kidName, .ref tq_kidDefault, .ref tq_kidNext, .int t_done, .ref tq_finished, .int t_root, .ref tq_plain, .int t_plainSize, .ref tq_told])), (tq_plain, .inl (cB, 4200, .inl t_plain))]) (k2_QcV (.long res)) 0 0 (fun _ => False) := by
  refine Met.ofW (cc := cX9_print) (maxL := 7) (ret := (some .long)) (by decide) rfl ?_
  intro p e s m args below meth c s₁ B hml hv
  obtain ⟨rfl, hP, hK, hz0⟩ := hv
  have hx := B.exec
  have hb := B.bytes
  have hr := B.returns
  have hts := atoms_spec (ws := wsX9_print) B.pre
  have hown : s.vm.findClass RX9 = some m.cls := findClass_of_methodNamed B.named
  have hlocks := B.notSynchronized
  have hS : va_S (fun _ => False) s.heap s.heap [] := va_S.rf
  generalize hQ0 : MQ below (k2_QcV (.long res)) [.ref ob0].toArray s 0 0 (fun _ => False) = Q0
  have hl := lv_entry [.ref ob0] (n := 7) (Nat.le_of_ble_eq_true rfl)
  rw [lg_entry_eq]
  generalize (lg_sl [.ref ob0] ++ List.replicate (7 - (lg_sl [.ref ob0]).length) Slot.unset).toArray = ls at hl ⊢
  have hl : lv_has ls 7 [(0, .ref ob0)] := hl
  unfold m_X9_print at hm
  refine lv_ldc2 (v := -4513414715797952619) hx hb hown (hts _ (List.mem_cons_of_mem _ wcl9_335)) dX9_print_0 ?_
  refine lv_lstore_n (lv' := [(1, .long (-4513414715797952619)), (0, .ref ob0)]) hx hb dX9_print_3 rfl hl (by decide) rfl (fun ls hl => ?_)
  refine lv_iconst (v := 0) hx hb dX9_print_4 (by decide) ?_
  have j6 : ∀ (n6 : Nat) (x1 : Int64) (x3 : Int32) (ls : Array Slot), lv_has ls 7 [(0, .ref ob0), (1, .long x1), (3, .int x3)] → m_X9_print_6 t_plain t_plainSize n6 x1 x3 = some res → W p l e (headSpec wsX9_print (rmX9_print 0 0)).room s m [.ref ob0].toArray below meth c s.heap [] 0 0 Q0 (F0 m 6 ls []) := by
    intro n6
    induction n6 with
    | zero => intro x1 x3 ls hl hm; exact nomatch (show (none : Option _) = some res from hm)
    | succ n6 ih6 =>
      intro x1 x3 ls hl hm
      rw [m_X9_print_6] at hm
      refine lv_iload_n hx hb dX9_print_6 rfl (lv_at hl 2 rfl) ?_
      refine lv_aload_n hx hb dX9_print_7 rfl (lv_at hl 0 rfl) ?_
      refine va_get (D := (dC, dI)) (ci := 0) (v := .int t_plainSize) (C := RX9) (T := TX9) (N := 35) hx hb hts (inX9 _) hown hK hP 0 rfl rfl 33 (by decide) (hts _ (List.mem_cons_of_mem _ wf9_280)) (fun _ h9 => h9) rfl dX9_print_8 ?_
      refine lv_icmp_ge (tgt := 82) hx hb dX9_print_11 (by decide) (fun c1 => ?_) (fun c1 => ?_)
      · have hm := mr_if c1 hm
        refine lv_lload_n hx hb dX9_print_82 rfl (lv_at hl 1 rfl) ?_
        obtain rfl := Option.some.inj hm
        subst hQ0
        exact W.lret (v := x1) hx hb hr (fun t ht hW => ⟨rfl, ht⟩) (fun q h => by cases h) dX9_print_83
      · have hm := mr_un c1 hm
        refine lv_lload_n hx hb dX9_print_14 rfl (lv_at hl 1 rfl) ?_
        refine lv_aload_n hx hb dX9_print_15 rfl (lv_at hl 0 rfl) ?_
        refine va_get (D := (dC, dI)) (ci := 0) (v := .ref tq_plain) (C := RX9) (T := TX9) (N := 35) hx hb hts (inX9 _) hown hK hP 0 rfl rfl 32 (by decide) (hts _ (List.mem_cons_of_mem _ wf9_71)) (fun _ h9 => h9) rfl dX9_print_16 ?_
        refine lv_iload_n hx hb dX9_print_19 rfl (lv_at hl 2 rfl) ?_
        obtain ⟨h2, hm⟩ := mr_bd hm
        refine va_bald hx hb hK hP 1 1 rfl rfl h2 dX9_print_20 ?_
        refine lv_i2l hx hb dX9_print_21 rfl ?_
        refine lv_lxor hx hb dX9_print_22 ?_
        refine lv_ldc2 (v := 255) hx hb hown (hts _ (List.mem_cons_of_mem _ wcl9_337)) dX9_print_23 ?_
        refine lv_land hx hb dX9_print_26 ?_
        refine lv_lstore (lv' := [(4, .long ((x1 ^^^ (((t_plain (x3 : Int32).toNatClampNeg) : Int32).toInt64)) &&& 255)), (0, .ref ob0), (1, .long x1), (3, .int x3)]) hx hb dX9_print_27 hl (by decide) rfl (fun ls hl => ?_)
        refine lv_iconst (v := 0) hx hb dX9_print_29 (by decide) ?_
        have j32 : ∀ (n32 : Nat) (x1 : Int64) (x3 : Int32) (x4 : Int64) (x6 : Int32) (ls : Array Slot), lv_has ls 7 [(0, .ref ob0), (1, .long x1), (3, .int x3), (4, .long x4), (6, .int x6)] → m_X9_print_32 t_plain t_plainSize (m_X9_print_6 t_plain t_plainSize n6) n32 x1 x3 x4 x6 = some res → W p l e (headSpec wsX9_print (rmX9_print 0 0)).room s m [.ref ob0].toArray below meth c s.heap [] 0 0 Q0 (F0 m 32 ls []) := by
          intro n32
          induction n32 with
          | zero => intro x1 x3 x4 x6 ls hl hm; exact nomatch (show (none : Option _) = some res from hm)
          | succ n32 ih32 =>
            intro x1 x3 x4 x6 ls hl hm
            rw [m_X9_print_32] at hm
            refine lv_iload hx hb dX9_print_32 (lv_at hl 4 rfl) ?_
            refine lv_bipush (v := 8) hx hb dX9_print_34 (by decide) ?_
            refine lv_icmp_ge (tgt := 68) hx hb dX9_print_36 (by decide) (fun c3 => ?_) (fun c3 => ?_)
            · have hm := mr_if c3 hm
              refine lv_lload_n hx hb dX9_print_68 rfl (lv_at hl 1 rfl) ?_
              refine lv_bipush (v := 8) hx hb dX9_print_69 (by decide) ?_
              refine lv_lushr hx hb dX9_print_71 rfl ?_
              refine lv_lload hx hb dX9_print_72 (lv_at hl 3 rfl) ?_
              refine lv_lxor hx hb dX9_print_74 ?_
              refine lv_lstore_n (lv' := [(1, .long ((((x1 : Int64).toUInt64 >>> ((8 : Int32).toInt64.toUInt64 &&& Int64.toUInt64 63)).toInt64) ^^^ x4)), (0, .ref ob0), (3, .int x3), (4, .long x4), (6, .int x6)]) hx hb dX9_print_75 rfl hl (by decide) rfl (fun ls hl => ?_)
              refine lv_iinc (v := x3 + 1) (lv' := [(3, .int (x3 + 1)), (1, .long ((((x1 : Int64).toUInt64 >>> ((8 : Int32).toInt64.toUInt64 &&& Int64.toUInt64 63)).toInt64) ^^^ x4)), (0, .ref ob0), (4, .long x4), (6, .int x6)]) hx hb dX9_print_76 hl (k := 2) rfl rfl (by decide) rfl (fun ls hl => ?_)
              refine lv_goto (tgt := 6) hx hb dX9_print_79 (by decide) ?_
              exact ih6 ((((x1 : Int64).toUInt64 >>> ((8 : Int32).toInt64.toUInt64 &&& Int64.toUInt64 63)).toInt64) ^^^ x4) (x3 + 1) ls (lv_sub hl [2, 1, 0] rfl) hm
            · have hm := mr_un c3 hm
              refine lv_lload hx hb dX9_print_39 (lv_at hl 3 rfl) ?_
              refine lv_iconst (v := 1) hx hb dX9_print_41 (by decide) ?_
              refine lv_lushr hx hb dX9_print_42 rfl ?_
              refine lv_lload hx hb dX9_print_43 (lv_at hl 3 rfl) ?_
              refine lv_lconst (v := 1) hx hb dX9_print_45 (by decide) ?_
              refine lv_land hx hb dX9_print_46 ?_
              refine lv_lconst (v := 1) hx hb dX9_print_47 (by decide) ?_
              refine W.lcmp hx hb dX9_print_48 ?_
              refine lv_if_ne (tgt := 58) hx hb dX9_print_49 (by decide) (fun c4 => ?_) (fun c4 => ?_)
              · have hm := mr_un c4 hm
                refine lv_lconst (v := 0) hx hb dX9_print_58 (by decide) ?_
                refine lv_lxor hx hb dX9_print_59 ?_
                refine lv_lstore (lv' := [(4, .long ((((x4 : Int64).toUInt64 >>> ((1 : Int32).toInt64.toUInt64 &&& Int64.toUInt64 63)).toInt64) ^^^ 0)), (0, .ref ob0), (1, .long x1), (3, .int x3), (6, .int x6)]) hx hb dX9_print_60 hl (by decide) rfl (fun ls hl => ?_)
                refine lv_iinc (v := x6 + 1) (lv' := [(6, .int (x6 + 1)), (4, .long ((((x4 : Int64).toUInt64 >>> ((1 : Int32).toInt64.toUInt64 &&& Int64.toUInt64 63)).toInt64) ^^^ 0)), (0, .ref ob0), (1, .long x1), (3, .int x3)]) hx hb dX9_print_62 hl (k := 4) rfl rfl (by decide) rfl (fun ls hl => ?_)
                refine lv_goto (tgt := 32) hx hb dX9_print_65 (by decide) ?_
                exact ih32 x1 x3 ((((x4 : Int64).toUInt64 >>> ((1 : Int32).toInt64.toUInt64 &&& Int64.toUInt64 63)).toInt64) ^^^ 0) (x6 + 1) ls (lv_sub hl [2, 3, 4, 1, 0] rfl) hm
              · have hm := mr_if c4 hm
                refine lv_ldc2 (v := -4513414715797952619) hx hb hown (hts _ (List.mem_cons_of_mem _ wcl9_335)) dX9_print_52 ?_
                refine lv_goto (tgt := 59) hx hb dX9_print_55 (by decide) ?_
                refine lv_lxor hx hb dX9_print_59 ?_
                refine lv_lstore (lv' := [(4, .long ((((x4 : Int64).toUInt64 >>> ((1 : Int32).toInt64.toUInt64 &&& Int64.toUInt64 63)).toInt64) ^^^ (-4513414715797952619))), (0, .ref ob0), (1, .long x1), (3, .int x3), (6, .int x6)]) hx hb dX9_print_60 hl (by decide) rfl (fun ls hl => ?_)
                refine lv_iinc (v := x6 + 1) (lv' := [(6, .int (x6 + 1)), (4, .long ((((x4 : Int64).toUInt64 >>> ((1 : Int32).toInt64.toUInt64 &&& Int64.toUInt64 63)).toInt64) ^^^ (-4513414715797952619))), (0, .ref ob0), (1, .long x1), (3, .int x3)]) hx hb dX9_print_62 hl (k := 4) rfl rfl (by decide) rfl (fun ls hl => ?_)
                refine lv_goto (tgt := 32) hx hb dX9_print_65 (by decide) ?_
                exact ih32 x1 x3 ((((x4 : Int64).toUInt64 >>> ((1 : Int32).toInt64.toUInt64 &&& Int64.toUInt64 63)).toInt64) ^^^ (-4513414715797952619)) (x6 + 1) ls (lv_sub hl [2, 3, 4, 1, 0] rfl) hm
        refine lv_istore (lv' := [(6, .int 0), (4, .long ((x1 ^^^ (((t_plain (x3 : Int32).toNatClampNeg) : Int32).toInt64)) &&& 255)), (0, .ref ob0), (1, .long x1), (3, .int x3)]) hx hb dX9_print_30 hl (by decide) rfl (fun ls hl => ?_)
        exact j32 sr_fuel x1 x3 ((x1 ^^^ (((t_plain (x3 : Int32).toNatClampNeg) : Int32).toInt64)) &&& 255) 0 ls (lv_sub hl [2, 3, 4, 1, 0] rfl) hm
  refine lv_istore_n (lv' := [(3, .int 0), (1, .long (-4513414715797952619)), (0, .ref ob0)]) hx hb dX9_print_5 rfl hl (by decide) rfl (fun ls hl => ?_)
  exact j6 sr_fuel (-4513414715797952619) 0 ls (lv_sub hl [2, 1, 0] rfl) hm
end
section
abbrev cX9_fail : ByteArray := prog_13_method_2_code
def yX9_fail : MethodName := ⟨RX9, "fail", "(II)V"⟩
def wsX9_fail : List Cond := .code yX9_fail cX9_fail 3 none :: sr_G
def nq_cX9_fail : Nat := 0xbf5800b75712595500bb5200b51c2a4e00b51b2a
theorem kq_cX9_fail : qOk cX9_fail nq_cX9_fail 20 = true := by decide +kernel
theorem dX9_fail_0 : decode cX9_fail 0 = .ok (.aload_n 0, 1) := qd_42 kq_cX9_fail (by decide +kernel)
theorem dX9_fail_1 : decode cX9_fail 1 = .ok (.iload_n 1, 1) := qd_27 kq_cX9_fail (by decide +kernel)
theorem dX9_fail_2 : decode cX9_fail 2 = .ok (.putfield 78, 3) := qd_181 kq_cX9_fail (by decide +kernel)
theorem dX9_fail_5 : decode cX9_fail 5 = .ok (.aload_n 0, 1) := qd_42 kq_cX9_fail (by decide +kernel)
theorem dX9_fail_6 : decode cX9_fail 6 = .ok (.iload_n 2, 1) := qd_28 kq_cX9_fail (by decide +kernel)
theorem dX9_fail_7 : decode cX9_fail 7 = .ok (.putfield 82, 3) := qd_181 kq_cX9_fail (by decide +kernel)
theorem dX9_fail_10 : decode cX9_fail 10 = .ok (.new 85, 3) := qd_187 kq_cX9_fail (by decide +kernel)
theorem dX9_fail_13 : decode cX9_fail 13 = .ok (.dup, 1) := qd_89 kq_cX9_fail (by decide +kernel)
theorem dX9_fail_14 : decode cX9_fail 14 = .ok (.ldc 87, 2) := qd_18 kq_cX9_fail (by decide +kernel)
theorem dX9_fail_16 : decode cX9_fail 16 = .ok (.invokespecial 88, 3) := qd_183 kq_cX9_fail (by decide +kernel)
theorem dX9_fail_19 : decode cX9_fail 19 = .ok (.athrow, 1) := qd_191 kq_cX9_fail (by decide +kernel)
def rmX9_fail (mc ms : Nat) : Room := { frames := 8, cells := mc, slots := ms, locals := 120 }
abbrev cX9_need : ByteArray := prog_13_method_3_code
def yX9_need : MethodName := ⟨RX9, "need", "(ZII)V"⟩
def wsX9_need : List Cond := .code yX9_need cX9_need 4 none :: sr_G
def nq_cX9_need : Nat := 0xb15b00b61d1c2a09009a1b
theorem kq_cX9_need : qOk cX9_need nq_cX9_need 11 = true := by decide +kernel
theorem dX9_need_0 : decode cX9_need 0 = .ok (.iload_n 1, 1) := qd_27 kq_cX9_need (by decide +kernel)
theorem dX9_need_1 : decode cX9_need 1 = .ok (.ifCond .ne 9, 3) := qd_154 kq_cX9_need (by decide +kernel)
theorem dX9_need_4 : decode cX9_need 4 = .ok (.aload_n 0, 1) := qd_42 kq_cX9_need (by decide +kernel)
theorem dX9_need_5 : decode cX9_need 5 = .ok (.iload_n 2, 1) := qd_28 kq_cX9_need (by decide +kernel)
theorem dX9_need_6 : decode cX9_need 6 = .ok (.iload_n 3, 1) := qd_29 kq_cX9_need (by decide +kernel)
theorem dX9_need_7 : decode cX9_need 7 = .ok (.invokevirtual 91, 3) := qd_182 kq_cX9_need (by decide +kernel)
theorem dX9_need_10 : decode cX9_need 10 = .ok (.return_, 1) := qd_177 kq_cX9_need (by decide +kernel)
def rmX9_need (mc ms : Nat) : Room := { frames := 9, cells := mc, slots := ms, locals := 142 }
abbrev cX9_take : ByteArray := prog_13_method_6_code
def yX9_take : MethodName := ⟨RX9, "take", "(I)V"⟩
def wsX9_take : List Cond := .code yX9_take cX9_take 2 none :: sr_G
def nq_cX9_take : Nat := 0xb15f00b560045f00b4592a6900b65f00b42a04030400a7040700a01b6500b62a2a
theorem kq_cX9_take : qOk cX9_take nq_cX9_take 33 = true := by decide +kernel
theorem dX9_take_0 : decode cX9_take 0 = .ok (.aload_n 0, 1) := qd_42 kq_cX9_take (by decide +kernel)
theorem dX9_take_1 : decode cX9_take 1 = .ok (.aload_n 0, 1) := qd_42 kq_cX9_take (by decide +kernel)
theorem dX9_take_2 : decode cX9_take 2 = .ok (.invokevirtual 101, 3) := qd_182 kq_cX9_take (by decide +kernel)
theorem dX9_take_5 : decode cX9_take 5 = .ok (.iload_n 1, 1) := qd_27 kq_cX9_take (by decide +kernel)
theorem dX9_take_6 : decode cX9_take 6 = .ok (.if_icmp .ne 7, 3) := qd_160 kq_cX9_take (by decide +kernel)
theorem dX9_take_9 : decode cX9_take 9 = .ok (.iconst 1, 1) := qd_4 kq_cX9_take (by decide +kernel)
theorem dX9_take_10 : decode cX9_take 10 = .ok (.goto 4, 3) := qd_167 kq_cX9_take (by decide +kernel)
theorem dX9_take_13 : decode cX9_take 13 = .ok (.iconst 0, 1) := qd_3 kq_cX9_take (by decide +kernel)
theorem dX9_take_14 : decode cX9_take 14 = .ok (.iconst 1, 1) := qd_4 kq_cX9_take (by decide +kernel)
theorem dX9_take_15 : decode cX9_take 15 = .ok (.aload_n 0, 1) := qd_42 kq_cX9_take (by decide +kernel)
theorem dX9_take_16 : decode cX9_take 16 = .ok (.getfield 95, 3) := qd_180 kq_cX9_take (by decide +kernel)
theorem dX9_take_19 : decode cX9_take 19 = .ok (.invokevirtual 105, 3) := qd_182 kq_cX9_take (by decide +kernel)
theorem dX9_take_22 : decode cX9_take 22 = .ok (.aload_n 0, 1) := qd_42 kq_cX9_take (by decide +kernel)
theorem dX9_take_23 : decode cX9_take 23 = .ok (.dup, 1) := qd_89 kq_cX9_take (by decide +kernel)
theorem dX9_take_24 : decode cX9_take 24 = .ok (.getfield 95, 3) := qd_180 kq_cX9_take (by decide +kernel)
theorem dX9_take_27 : decode cX9_take 27 = .ok (.iconst 1, 1) := qd_4 kq_cX9_take (by decide +kernel)
theorem dX9_take_28 : decode cX9_take 28 = .ok (.iadd, 1) := qd_96 kq_cX9_take (by decide +kernel)
theorem dX9_take_29 : decode cX9_take 29 = .ok (.putfield 95, 3) := qd_181 kq_cX9_take (by decide +kernel)
theorem dX9_take_32 : decode cX9_take 32 = .ok (.return_, 1) := qd_177 kq_cX9_take (by decide +kernel)
def rmX9_take (mc ms : Nat) : Room := { frames := 10, cells := mc, slots := ms, locals := 165 }
abbrev cX9_number : ByteArray := prog_13_method_14_code
def yX9_number : MethodName := ⟨RX9, "number", "()I"⟩
def wsX9_number : List Cond := .code yX9_number cX9_number 8 (some .int) :: sr_G
def nq_cX9_number : Nat := 0xac1b507505160600a705160800991c1b1600b42a6900b62e1b1300b42a0404152a6fffa75f00b560045f00b4592a4f60042e5c1b1a00b42a053705160500a765850715690516af001410009904150436030400a7040700a307100500a708100800991c071517009a94ad001405161c009d94ad00140516290099041507366430106500b62a67009a2e1b1a00b42a7000a0062e1b0f00b42a7a009a940905161d00991d8500a339106500b62a8e00a130106500b62a0537090436043e030400a7040700a030106500b62a6900b65f00b42a04030400a7040700a339106500b62a1000a130106500b62a2a5f00b55f00b42a0700a760045f00b42a0c00991c2a3d030400a7040700a02d106500b62a3c7f00b6062a
theorem kq_cX9_number : qOk cX9_number nq_cX9_number 276 = true := by decide +kernel
theorem dX9_number_0 : decode cX9_number 0 = .ok (.aload_n 0, 1) := qd_42 kq_cX9_number (by decide +kernel)
theorem dX9_number_1 : decode cX9_number 1 = .ok (.iconst 3, 1) := qd_6 kq_cX9_number (by decide +kernel)
theorem dX9_number_2 : decode cX9_number 2 = .ok (.invokevirtual 127, 3) := qd_182 kq_cX9_number (by decide +kernel)
theorem dX9_number_5 : decode cX9_number 5 = .ok (.istore_n 1, 1) := qd_60 kq_cX9_number (by decide +kernel)
theorem dX9_number_6 : decode cX9_number 6 = .ok (.aload_n 0, 1) := qd_42 kq_cX9_number (by decide +kernel)
theorem dX9_number_7 : decode cX9_number 7 = .ok (.invokevirtual 101, 3) := qd_182 kq_cX9_number (by decide +kernel)
theorem dX9_number_10 : decode cX9_number 10 = .ok (.bipush 45, 2) := qd_16 kq_cX9_number (by decide +kernel)
theorem dX9_number_12 : decode cX9_number 12 = .ok (.if_icmp .ne 7, 3) := qd_160 kq_cX9_number (by decide +kernel)
theorem dX9_number_15 : decode cX9_number 15 = .ok (.iconst 1, 1) := qd_4 kq_cX9_number (by decide +kernel)
theorem dX9_number_16 : decode cX9_number 16 = .ok (.goto 4, 3) := qd_167 kq_cX9_number (by decide +kernel)
theorem dX9_number_19 : decode cX9_number 19 = .ok (.iconst 0, 1) := qd_3 kq_cX9_number (by decide +kernel)
theorem dX9_number_20 : decode cX9_number 20 = .ok (.istore_n 2, 1) := qd_61 kq_cX9_number (by decide +kernel)
theorem dX9_number_21 : decode cX9_number 21 = .ok (.aload_n 0, 1) := qd_42 kq_cX9_number (by decide +kernel)
theorem dX9_number_22 : decode cX9_number 22 = .ok (.iload_n 2, 1) := qd_28 kq_cX9_number (by decide +kernel)
theorem dX9_number_23 : decode cX9_number 23 = .ok (.ifCond .eq 12, 3) := qd_153 kq_cX9_number (by decide +kernel)
theorem dX9_number_26 : decode cX9_number 26 = .ok (.aload_n 0, 1) := qd_42 kq_cX9_number (by decide +kernel)
theorem dX9_number_27 : decode cX9_number 27 = .ok (.getfield 95, 3) := qd_180 kq_cX9_number (by decide +kernel)
theorem dX9_number_30 : decode cX9_number 30 = .ok (.iconst 1, 1) := qd_4 kq_cX9_number (by decide +kernel)
theorem dX9_number_31 : decode cX9_number 31 = .ok (.iadd, 1) := qd_96 kq_cX9_number (by decide +kernel)
theorem dX9_number_32 : decode cX9_number 32 = .ok (.goto 7, 3) := qd_167 kq_cX9_number (by decide +kernel)
theorem dX9_number_35 : decode cX9_number 35 = .ok (.aload_n 0, 1) := qd_42 kq_cX9_number (by decide +kernel)
theorem dX9_number_36 : decode cX9_number 36 = .ok (.getfield 95, 3) := qd_180 kq_cX9_number (by decide +kernel)
theorem dX9_number_39 : decode cX9_number 39 = .ok (.putfield 95, 3) := qd_181 kq_cX9_number (by decide +kernel)
theorem dX9_number_42 : decode cX9_number 42 = .ok (.aload_n 0, 1) := qd_42 kq_cX9_number (by decide +kernel)
theorem dX9_number_43 : decode cX9_number 43 = .ok (.aload_n 0, 1) := qd_42 kq_cX9_number (by decide +kernel)
theorem dX9_number_44 : decode cX9_number 44 = .ok (.invokevirtual 101, 3) := qd_182 kq_cX9_number (by decide +kernel)
theorem dX9_number_47 : decode cX9_number 47 = .ok (.bipush 48, 2) := qd_16 kq_cX9_number (by decide +kernel)
theorem dX9_number_49 : decode cX9_number 49 = .ok (.if_icmp .lt 16, 3) := qd_161 kq_cX9_number (by decide +kernel)
theorem dX9_number_52 : decode cX9_number 52 = .ok (.aload_n 0, 1) := qd_42 kq_cX9_number (by decide +kernel)
theorem dX9_number_53 : decode cX9_number 53 = .ok (.invokevirtual 101, 3) := qd_182 kq_cX9_number (by decide +kernel)
theorem dX9_number_56 : decode cX9_number 56 = .ok (.bipush 57, 2) := qd_16 kq_cX9_number (by decide +kernel)
theorem dX9_number_58 : decode cX9_number 58 = .ok (.if_icmp .gt 7, 3) := qd_163 kq_cX9_number (by decide +kernel)
theorem dX9_number_61 : decode cX9_number 61 = .ok (.iconst 1, 1) := qd_4 kq_cX9_number (by decide +kernel)
theorem dX9_number_62 : decode cX9_number 62 = .ok (.goto 4, 3) := qd_167 kq_cX9_number (by decide +kernel)
theorem dX9_number_65 : decode cX9_number 65 = .ok (.iconst 0, 1) := qd_3 kq_cX9_number (by decide +kernel)
theorem dX9_number_66 : decode cX9_number 66 = .ok (.iconst 1, 1) := qd_4 kq_cX9_number (by decide +kernel)
theorem dX9_number_67 : decode cX9_number 67 = .ok (.aload_n 0, 1) := qd_42 kq_cX9_number (by decide +kernel)
theorem dX9_number_68 : decode cX9_number 68 = .ok (.getfield 95, 3) := qd_180 kq_cX9_number (by decide +kernel)
theorem dX9_number_71 : decode cX9_number 71 = .ok (.invokevirtual 105, 3) := qd_182 kq_cX9_number (by decide +kernel)
theorem dX9_number_74 : decode cX9_number 74 = .ok (.aload_n 0, 1) := qd_42 kq_cX9_number (by decide +kernel)
theorem dX9_number_75 : decode cX9_number 75 = .ok (.invokevirtual 101, 3) := qd_182 kq_cX9_number (by decide +kernel)
theorem dX9_number_78 : decode cX9_number 78 = .ok (.bipush 48, 2) := qd_16 kq_cX9_number (by decide +kernel)
theorem dX9_number_80 : decode cX9_number 80 = .ok (.if_icmp .ne 7, 3) := qd_160 kq_cX9_number (by decide +kernel)
theorem dX9_number_83 : decode cX9_number 83 = .ok (.iconst 1, 1) := qd_4 kq_cX9_number (by decide +kernel)
theorem dX9_number_84 : decode cX9_number 84 = .ok (.goto 4, 3) := qd_167 kq_cX9_number (by decide +kernel)
theorem dX9_number_87 : decode cX9_number 87 = .ok (.iconst 0, 1) := qd_3 kq_cX9_number (by decide +kernel)
theorem dX9_number_88 : decode cX9_number 88 = .ok (.istore_n 3, 1) := qd_62 kq_cX9_number (by decide +kernel)
theorem dX9_number_89 : decode cX9_number 89 = .ok (.iconst 1, 1) := qd_4 kq_cX9_number (by decide +kernel)
theorem dX9_number_90 : decode cX9_number 90 = .ok (.istore 4, 2) := qd_54 kq_cX9_number (by decide +kernel)
theorem dX9_number_92 : decode cX9_number 92 = .ok (.lconst 0, 1) := qd_9 kq_cX9_number (by decide +kernel)
theorem dX9_number_93 : decode cX9_number 93 = .ok (.lstore 5, 2) := qd_55 kq_cX9_number (by decide +kernel)
theorem dX9_number_95 : decode cX9_number 95 = .ok (.aload_n 0, 1) := qd_42 kq_cX9_number (by decide +kernel)
theorem dX9_number_96 : decode cX9_number 96 = .ok (.invokevirtual 101, 3) := qd_182 kq_cX9_number (by decide +kernel)
theorem dX9_number_99 : decode cX9_number 99 = .ok (.bipush 48, 2) := qd_16 kq_cX9_number (by decide +kernel)
theorem dX9_number_101 : decode cX9_number 101 = .ok (.if_icmp .lt 142, 3) := qd_161 kq_cX9_number (by decide +kernel)
theorem dX9_number_104 : decode cX9_number 104 = .ok (.aload_n 0, 1) := qd_42 kq_cX9_number (by decide +kernel)
theorem dX9_number_105 : decode cX9_number 105 = .ok (.invokevirtual 101, 3) := qd_182 kq_cX9_number (by decide +kernel)
theorem dX9_number_108 : decode cX9_number 108 = .ok (.bipush 57, 2) := qd_16 kq_cX9_number (by decide +kernel)
theorem dX9_number_110 : decode cX9_number 110 = .ok (.if_icmp .gt 133, 3) := qd_163 kq_cX9_number (by decide +kernel)
theorem dX9_number_113 : decode cX9_number 113 = .ok (.iload_n 3, 1) := qd_29 kq_cX9_number (by decide +kernel)
theorem dX9_number_114 : decode cX9_number 114 = .ok (.ifCond .eq 29, 3) := qd_153 kq_cX9_number (by decide +kernel)
theorem dX9_number_117 : decode cX9_number 117 = .ok (.lload 5, 2) := qd_22 kq_cX9_number (by decide +kernel)
theorem dX9_number_119 : decode cX9_number 119 = .ok (.lconst 0, 1) := qd_9 kq_cX9_number (by decide +kernel)
theorem dX9_number_120 : decode cX9_number 120 = .ok (.lcmp, 1) := qd_148 kq_cX9_number (by decide +kernel)
theorem dX9_number_121 : decode cX9_number 121 = .ok (.ifCond .ne 122, 3) := qd_154 kq_cX9_number (by decide +kernel)
theorem dX9_number_124 : decode cX9_number 124 = .ok (.aload_n 0, 1) := qd_42 kq_cX9_number (by decide +kernel)
theorem dX9_number_125 : decode cX9_number 125 = .ok (.getfield 15, 3) := qd_180 kq_cX9_number (by decide +kernel)
theorem dX9_number_128 : decode cX9_number 128 = .ok (.iload_n 1, 1) := qd_27 kq_cX9_number (by decide +kernel)
theorem dX9_number_129 : decode cX9_number 129 = .ok (.iaload, 1) := qd_46 kq_cX9_number (by decide +kernel)
theorem dX9_number_130 : decode cX9_number 130 = .ok (.iconst 3, 1) := qd_6 kq_cX9_number (by decide +kernel)
theorem dX9_number_131 : decode cX9_number 131 = .ok (.if_icmp .ne 112, 3) := qd_160 kq_cX9_number (by decide +kernel)
theorem dX9_number_134 : decode cX9_number 134 = .ok (.aload_n 0, 1) := qd_42 kq_cX9_number (by decide +kernel)
theorem dX9_number_135 : decode cX9_number 135 = .ok (.getfield 26, 3) := qd_180 kq_cX9_number (by decide +kernel)
theorem dX9_number_138 : decode cX9_number 138 = .ok (.iload_n 1, 1) := qd_27 kq_cX9_number (by decide +kernel)
theorem dX9_number_139 : decode cX9_number 139 = .ok (.iaload, 1) := qd_46 kq_cX9_number (by decide +kernel)
theorem dX9_number_140 : decode cX9_number 140 = .ok (.ifCond .ne 103, 3) := qd_154 kq_cX9_number (by decide +kernel)
theorem dX9_number_143 : decode cX9_number 143 = .ok (.aload_n 0, 1) := qd_42 kq_cX9_number (by decide +kernel)
theorem dX9_number_144 : decode cX9_number 144 = .ok (.invokevirtual 101, 3) := qd_182 kq_cX9_number (by decide +kernel)
theorem dX9_number_147 : decode cX9_number 147 = .ok (.bipush 48, 2) := qd_16 kq_cX9_number (by decide +kernel)
theorem dX9_number_149 : decode cX9_number 149 = .ok (.isub, 1) := qd_100 kq_cX9_number (by decide +kernel)
theorem dX9_number_150 : decode cX9_number 150 = .ok (.istore 7, 2) := qd_54 kq_cX9_number (by decide +kernel)
theorem dX9_number_152 : decode cX9_number 152 = .ok (.iload 4, 2) := qd_21 kq_cX9_number (by decide +kernel)
theorem dX9_number_154 : decode cX9_number 154 = .ok (.ifCond .eq 41, 3) := qd_153 kq_cX9_number (by decide +kernel)
theorem dX9_number_157 : decode cX9_number 157 = .ok (.lload 5, 2) := qd_22 kq_cX9_number (by decide +kernel)
theorem dX9_number_159 : decode cX9_number 159 = .ok (.ldc2_w 173, 3) := qd_20 kq_cX9_number (by decide +kernel)
theorem dX9_number_162 : decode cX9_number 162 = .ok (.lcmp, 1) := qd_148 kq_cX9_number (by decide +kernel)
theorem dX9_number_163 : decode cX9_number 163 = .ok (.ifCond .gt 28, 3) := qd_157 kq_cX9_number (by decide +kernel)
theorem dX9_number_166 : decode cX9_number 166 = .ok (.lload 5, 2) := qd_22 kq_cX9_number (by decide +kernel)
theorem dX9_number_168 : decode cX9_number 168 = .ok (.ldc2_w 173, 3) := qd_20 kq_cX9_number (by decide +kernel)
theorem dX9_number_171 : decode cX9_number 171 = .ok (.lcmp, 1) := qd_148 kq_cX9_number (by decide +kernel)
theorem dX9_number_172 : decode cX9_number 172 = .ok (.ifCond .ne 23, 3) := qd_154 kq_cX9_number (by decide +kernel)
theorem dX9_number_175 : decode cX9_number 175 = .ok (.iload 7, 2) := qd_21 kq_cX9_number (by decide +kernel)
theorem dX9_number_177 : decode cX9_number 177 = .ok (.iload_n 2, 1) := qd_28 kq_cX9_number (by decide +kernel)
theorem dX9_number_178 : decode cX9_number 178 = .ok (.ifCond .eq 8, 3) := qd_153 kq_cX9_number (by decide +kernel)
theorem dX9_number_181 : decode cX9_number 181 = .ok (.bipush 8, 2) := qd_16 kq_cX9_number (by decide +kernel)
theorem dX9_number_183 : decode cX9_number 183 = .ok (.goto 5, 3) := qd_167 kq_cX9_number (by decide +kernel)
theorem dX9_number_186 : decode cX9_number 186 = .ok (.bipush 7, 2) := qd_16 kq_cX9_number (by decide +kernel)
theorem dX9_number_188 : decode cX9_number 188 = .ok (.if_icmp .gt 7, 3) := qd_163 kq_cX9_number (by decide +kernel)
theorem dX9_number_191 : decode cX9_number 191 = .ok (.iconst 1, 1) := qd_4 kq_cX9_number (by decide +kernel)
theorem dX9_number_192 : decode cX9_number 192 = .ok (.goto 4, 3) := qd_167 kq_cX9_number (by decide +kernel)
theorem dX9_number_195 : decode cX9_number 195 = .ok (.iconst 0, 1) := qd_3 kq_cX9_number (by decide +kernel)
theorem dX9_number_196 : decode cX9_number 196 = .ok (.istore 4, 2) := qd_54 kq_cX9_number (by decide +kernel)
theorem dX9_number_198 : decode cX9_number 198 = .ok (.iload 4, 2) := qd_21 kq_cX9_number (by decide +kernel)
theorem dX9_number_200 : decode cX9_number 200 = .ok (.ifCond .eq 16, 3) := qd_153 kq_cX9_number (by decide +kernel)
theorem dX9_number_203 : decode cX9_number 203 = .ok (.ldc2_w 175, 3) := qd_20 kq_cX9_number (by decide +kernel)
theorem dX9_number_206 : decode cX9_number 206 = .ok (.lload 5, 2) := qd_22 kq_cX9_number (by decide +kernel)
theorem dX9_number_208 : decode cX9_number 208 = .ok (.lmul, 1) := qd_105 kq_cX9_number (by decide +kernel)
theorem dX9_number_209 : decode cX9_number 209 = .ok (.iload 7, 2) := qd_21 kq_cX9_number (by decide +kernel)
theorem dX9_number_211 : decode cX9_number 211 = .ok (.i2l, 1) := qd_133 kq_cX9_number (by decide +kernel)
theorem dX9_number_212 : decode cX9_number 212 = .ok (.lsub, 1) := qd_101 kq_cX9_number (by decide +kernel)
theorem dX9_number_213 : decode cX9_number 213 = .ok (.goto 5, 3) := qd_167 kq_cX9_number (by decide +kernel)
theorem dX9_number_216 : decode cX9_number 216 = .ok (.lload 5, 2) := qd_22 kq_cX9_number (by decide +kernel)
theorem dX9_number_218 : decode cX9_number 218 = .ok (.lstore 5, 2) := qd_55 kq_cX9_number (by decide +kernel)
theorem dX9_number_220 : decode cX9_number 220 = .ok (.aload_n 0, 1) := qd_42 kq_cX9_number (by decide +kernel)
theorem dX9_number_221 : decode cX9_number 221 = .ok (.getfield 26, 3) := qd_180 kq_cX9_number (by decide +kernel)
theorem dX9_number_224 : decode cX9_number 224 = .ok (.iload_n 1, 1) := qd_27 kq_cX9_number (by decide +kernel)
theorem dX9_number_225 : decode cX9_number 225 = .ok (.dup2, 1) := qd_92 kq_cX9_number (by decide +kernel)
theorem dX9_number_226 : decode cX9_number 226 = .ok (.iaload, 1) := qd_46 kq_cX9_number (by decide +kernel)
theorem dX9_number_227 : decode cX9_number 227 = .ok (.iconst 1, 1) := qd_4 kq_cX9_number (by decide +kernel)
theorem dX9_number_228 : decode cX9_number 228 = .ok (.iadd, 1) := qd_96 kq_cX9_number (by decide +kernel)
theorem dX9_number_229 : decode cX9_number 229 = .ok (.iastore, 1) := qd_79 kq_cX9_number (by decide +kernel)
theorem dX9_number_230 : decode cX9_number 230 = .ok (.aload_n 0, 1) := qd_42 kq_cX9_number (by decide +kernel)
theorem dX9_number_231 : decode cX9_number 231 = .ok (.dup, 1) := qd_89 kq_cX9_number (by decide +kernel)
theorem dX9_number_232 : decode cX9_number 232 = .ok (.getfield 95, 3) := qd_180 kq_cX9_number (by decide +kernel)
theorem dX9_number_235 : decode cX9_number 235 = .ok (.iconst 1, 1) := qd_4 kq_cX9_number (by decide +kernel)
theorem dX9_number_236 : decode cX9_number 236 = .ok (.iadd, 1) := qd_96 kq_cX9_number (by decide +kernel)
theorem dX9_number_237 : decode cX9_number 237 = .ok (.putfield 95, 3) := qd_181 kq_cX9_number (by decide +kernel)
theorem dX9_number_240 : decode cX9_number 240 = .ok (.goto (-145), 3) := qd_167 kq_cX9_number (by decide +kernel)
theorem dX9_number_243 : decode cX9_number 243 = .ok (.aload_n 0, 1) := qd_42 kq_cX9_number (by decide +kernel)
theorem dX9_number_244 : decode cX9_number 244 = .ok (.iload 4, 2) := qd_21 kq_cX9_number (by decide +kernel)
theorem dX9_number_246 : decode cX9_number 246 = .ok (.iconst 1, 1) := qd_4 kq_cX9_number (by decide +kernel)
theorem dX9_number_247 : decode cX9_number 247 = .ok (.aload_n 0, 1) := qd_42 kq_cX9_number (by decide +kernel)
theorem dX9_number_248 : decode cX9_number 248 = .ok (.getfield 19, 3) := qd_180 kq_cX9_number (by decide +kernel)
theorem dX9_number_251 : decode cX9_number 251 = .ok (.iload_n 1, 1) := qd_27 kq_cX9_number (by decide +kernel)
theorem dX9_number_252 : decode cX9_number 252 = .ok (.iaload, 1) := qd_46 kq_cX9_number (by decide +kernel)
theorem dX9_number_253 : decode cX9_number 253 = .ok (.invokevirtual 105, 3) := qd_182 kq_cX9_number (by decide +kernel)
theorem dX9_number_256 : decode cX9_number 256 = .ok (.aload_n 0, 1) := qd_42 kq_cX9_number (by decide +kernel)
theorem dX9_number_257 : decode cX9_number 257 = .ok (.getfield 22, 3) := qd_180 kq_cX9_number (by decide +kernel)
theorem dX9_number_260 : decode cX9_number 260 = .ok (.iload_n 1, 1) := qd_27 kq_cX9_number (by decide +kernel)
theorem dX9_number_261 : decode cX9_number 261 = .ok (.iload_n 2, 1) := qd_28 kq_cX9_number (by decide +kernel)
theorem dX9_number_262 : decode cX9_number 262 = .ok (.ifCond .eq 8, 3) := qd_153 kq_cX9_number (by decide +kernel)
theorem dX9_number_265 : decode cX9_number 265 = .ok (.lload 5, 2) := qd_22 kq_cX9_number (by decide +kernel)
theorem dX9_number_267 : decode cX9_number 267 = .ok (.goto 6, 3) := qd_167 kq_cX9_number (by decide +kernel)
theorem dX9_number_270 : decode cX9_number 270 = .ok (.lload 5, 2) := qd_22 kq_cX9_number (by decide +kernel)
theorem dX9_number_272 : decode cX9_number 272 = .ok (.lneg, 1) := qd_117 kq_cX9_number (by decide +kernel)
theorem dX9_number_273 : decode cX9_number 273 = .ok (.lastore, 1) := qd_80 kq_cX9_number (by decide +kernel)
theorem dX9_number_274 : decode cX9_number 274 = .ok (.iload_n 1, 1) := qd_27 kq_cX9_number (by decide +kernel)
theorem dX9_number_275 : decode cX9_number 275 = .ok (.ireturn, 1) := qd_172 kq_cX9_number (by decide +kernel)
def rmX9_number (mc ms : Nat) : Room := { frames := 10, cells := mc, slots := ms, locals := 165 }
theorem g9_91 (c0 : Cond) : GoodIn (c0 :: sr_G) (wsV RX9 91 RX9 yX9_fail wsX9_fail) := sr_V c0 (sr_insI [(6, 22), (6, 24), (0, 51), (1, 7), (6, 25)] (by decide +kernel))
theorem g9_105 (c0 : Cond) : GoodIn (c0 :: sr_G) (wsV RX9 105 RX9 yX9_need wsX9_need) := sr_V c0 (sr_insI [(6, 18), (6, 20), (0, 50), (1, 7), (6, 21)] (by decide +kernel))
theorem g9_127 (c0 : Cond) : GoodIn (c0 :: sr_G) (wsV RX9 127 RX9 yX9_node wsX9_node) := sr_V c0 (sr_insI [(6, 32), (6, 34), (0, 53), (1, 7), (6, 35)] (by decide +kernel))
theorem thr_w9_85 {c0 : Cond} {args : Array Value} {s : State} (hts : ∀ w ∈ c0 :: sr_G, w.before args s = true) : ∀ a' U, s.WarmedH U.vm → (Cond.classLink RX9 85 "java/lang/IllegalStateException").before a' U = true ∧ (Cond.instantiable "java/lang/IllegalStateException" 6).before a' U = true ∧ (Cond.initialized "java/lang/IllegalStateException").before a' U = true :=
  fun a' U hW => ⟨sr_pay hts (sr_ins (ws := [.classLink RX9 85 "java/lang/IllegalStateException"]) (by decide +kernel) _ List.mem_cons_self) a' U hW, sr_pay hts (sr_ins (ws := [.instantiable "java/lang/IllegalStateException" 6]) (by decide +kernel) _ List.mem_cons_self) a' U hW, sr_pay hts (sr_ins (ws := [.initialized "java/lang/IllegalStateException"]) (by decide +kernel) _ List.mem_cons_self) a' U hW⟩
theorem thr_all9_88 : (Bundle.ownAtoms RX9 88 "java/lang/IllegalStateException" thr_up).all (fun a => (decide (a = .isRef (.static "java/lang/Throwable" "UNASSIGNED_STACK" "[Ljava/lang/StackTraceElement;")) || decide (a = .isRef (.static "java/lang/Throwable" "SUPPRESSED_SENTINEL" "Ljava/util/List;"))) || (decide (a ∈ sr_Y) || decide (a ∈ sr_X) || (decide (a ∈ lw_tbl) && goodWord a))) = true := by decide +kernel
theorem thr_at9_88 {c0 : Cond} {args : Array Value} {s : State} (hts : ∀ w ∈ c0 :: sr_G, w.before args s = true) (hX : ∀ a ∈ sr_X, a.before #[] s = true) : ∀ a ∈ Bundle.ownAtoms RX9 88 "java/lang/IllegalStateException" thr_up, (a = .isRef (.static "java/lang/Throwable" "UNASSIGNED_STACK" "[Ljava/lang/StackTraceElement;") ∨ a = .isRef (.static "java/lang/Throwable" "SUPPRESSED_SENTINEL" "Ljava/util/List;")) ∨ a ∈ sr_Y ∨ ∀ a' U, s.WarmedH U.vm → a.before a' U = true := by
  intro a ha
  have h1 := List.all_eq_true.mp thr_all9_88 a ha
  simp only [Bool.or_eq_true, Bool.and_eq_true, decide_eq_true_eq] at h1
  rcases h1 with h1 | (h1 | h1) | h1
  · exact Or.inl h1
  · exact Or.inr (Or.inl h1)
  · exact Or.inr (Or.inr (fun a' U hW => sr_keep (sr_Xok a h1) hW (hX a h1)))
  · exact Or.inr (Or.inr (sr_pay hts (sr_in h1.1 h1.2)))
end
section
set_option maxHeartbeats 4000000 in
set_option maxRecDepth 100000 in
theorem kX9_fail (l : Launch) (htr : l.stackTraces = false) (dC : Nat → ClassId) (dI : Nat → Nat → Nat) (adK adV : Nat → Nat) (cI cB cJ cZ cQ : ClassId) (ob0 tq_bytes tq_kinds tq_firsts tq_numbers tq_sizes tq_inner tq_nexts tq_letters tq_sorts tq_names tq_wide tq_kids tq_many tq_fallback tq_kidShape tq_kidName tq_kidDefault tq_kidNext tq_finished tq_plain tq_told : Nat) (t_length : Int32) (t_at : Int32) (t_deep : Int32) (t_fault : Int32) (t_place : Int32) (t_end : Int32) (t_nodes : Int32) (t_lettered : Int32) (t_shapes : Int32) (t_looked : Int32) (t_kidCount : Int32) (t_done : Int32) (t_root : Int32) (t_plainSize : Int32) (sz : Nat) (a0 : Int32) (a1 : Int32) (res : Except (Int32 × Int32) (Unit × (Int32 × Int32))) (hm : m_X9_fail t_fault t_place a0 a1 = some res) : t2_Met l yX9_fail wsX9_fail (rmX9_fail (t2_mc res) (t2_ms res)) (pcW (sr_Z adK adV) (dC, dI) srCl [(cI, .int), (cB, .byte), (cJ, .long), (cZ, .boolean), (cQ, .object "SchemaReader$Schema")] [.ref ob0, .int a0, .int a1] [(ob0, .inr (0, [.ref tq_bytes, .int t_length, .int t_at, .int t_deep, .int t_fault, .int t_place, .int t_end, .int t_nodes, .ref tq_kinds, .ref tq_firsts, .ref tq_numbers, .ref tq_sizes, .ref tq_inner, .ref tq_nexts, .ref tq_letters, .int t_lettered, .int t_shapes, .int t_looked, .ref tq_sorts, .ref tq_names, .ref tq_wide, .ref tq_kids, .ref tq_many, .ref tq_fallback, .int t_kidCount, .ref tq_kidShape, .ref tq_kidName, .ref tq_kidDefault, .ref tq_kidNext, .int t_done, .ref tq_finished, .int t_root, .ref tq_plain, .int t_plainSize, .ref tq_told]))] sz) (t2_Q t2_rV (pcB (dC, dI) srCl [(cI, .int), (cB, .byte), (cJ, .long), (cZ, .boolean), (cQ, .object "SchemaReader$Schema")] (fun u : Int32 × Int32 => [(ob0, .inr (0, [.ref tq_bytes, .int t_length, .int t_at, .int t_deep, .int u.1, .int u.2, .int t_end, .int t_nodes, .ref tq_kinds, .ref tq_firsts, .ref tq_numbers, .ref tq_sizes, .ref tq_inner, .ref tq_nexts, .ref tq_letters, .int t_lettered, .int t_shapes, .int t_looked, .ref tq_sorts, .ref tq_names, .ref tq_wide, .ref tq_kids, .ref tq_many, .ref tq_fallback, .int t_kidCount, .ref tq_kidShape, .ref tq_kidName, .ref tq_kidDefault, .ref tq_kidNext, .int t_done, .ref tq_finished, .int t_root, .ref tq_plain, .int t_plainSize, .ref tq_told]))]) (va_A [(ob0, .inr (0, [.ref tq_bytes, .int t_length, .int t_at, .int t_deep, .int t_fault, .int t_place, .int t_end, .int t_nodes, .ref tq_kinds, .ref tq_firsts, .ref tq_numbers, .ref tq_sizes, .ref tq_inner, .ref tq_nexts, .ref tq_letters, .int t_lettered, .int t_shapes, .int t_looked, .ref tq_sorts, .ref tq_names, .ref tq_wide, .ref tq_kids, .ref tq_many, .ref tq_fallback, .int t_kidCount, .ref tq_kidShape, .ref tq_kidName, .ref tq_kidDefault, .ref tq_kidNext, .int t_done, .ref tq_finished, .int t_root, .ref tq_plain, .int t_plainSize, .ref tq_told]))] sz)) (va_A [(ob0, .inr (0, [.ref tq_bytes, .int t_length, .int t_at, .int t_deep, .int t_fault, .int t_place, .int t_end, .int t_nodes, .ref tq_kinds, .ref tq_firsts, .ref tq_numbers, .ref tq_sizes, .ref tq_inner, .ref tq_nexts, .ref tq_letters, .int t_lettered, .int t_shapes, .int t_looked, .ref tq_sorts, .ref tq_names, .ref tq_wide, .ref tq_kids, .ref tq_many, .ref tq_fallback, .int t_kidCount, .ref tq_kidShape, .ref tq_kidName, .ref tq_kidDefault, .ref tq_kidNext, .int t_done, .ref tq_finished, .int t_root, .ref tq_plain, .int t_plainSize, .ref tq_told]))] sz) "java/lang/IllegalStateException" res) (t2_mc res) (t2_ms res) (va_A [(ob0, .inr (0, [.ref tq_bytes, .int t_length, .int t_at, .int t_deep, .int t_fault, .int t_place, .int t_end, .int t_nodes, .ref tq_kinds, .ref tq_firsts, .ref tq_numbers, .ref tq_sizes, .ref tq_inner, .ref tq_nexts, .ref tq_letters, .int t_lettered, .int t_shapes, .int t_looked, .ref tq_sorts, .ref tq_names, .ref tq_wide, .ref tq_kids, .ref tq_many, .ref tq_fallback, .int t_kidCount, .ref tq_kidShape, .ref tq_kidName, .ref tq_kidDefault, .ref tq_kidNext, .int t_done, .ref tq_finished, .int t_root, .ref tq_plain, .int t_plainSize, .ref tq_told]))] sz) := by
  refine t2_ofW (cc := cX9_fail) (maxL := 3) (ret := none) (by decide) rfl ?_
  intro p e s m args below meth c s₁ B hml hex had hv
  obtain ⟨rfl, hsz, hP, hK, hD0, hz0⟩ := hv
  have hx := B.exec
  have hb := B.bytes
  have hr := B.returns
  have hts := atoms_spec (ws := wsX9_fail) B.pre
  have hown : s.vm.findClass RX9 = some m.cls := findClass_of_methodNamed B.named
  have hlocks := B.notSynchronized
  subst hsz
  have hD := hD0.self (sz := s.heap.size)
  generalize hAe : va_A [(ob0, .inr (0, [.ref tq_bytes, .int t_length, .int t_at, .int t_deep, .int t_fault, .int t_place, .int t_end, .int t_nodes, .ref tq_kinds, .ref tq_firsts, .ref tq_numbers, .ref tq_sizes, .ref tq_inner, .ref tq_nexts, .ref tq_letters, .int t_lettered, .int t_shapes, .int t_looked, .ref tq_sorts, .ref tq_names, .ref tq_wide, .ref tq_kids, .ref tq_many, .ref tq_fallback, .int t_kidCount, .ref tq_kidShape, .ref tq_kidName, .ref tq_kidDefault, .ref tq_kidNext, .int t_done, .ref tq_finished, .int t_root, .ref tq_plain, .int t_plainSize, .ref tq_told]))] s.heap.size = A at hD hz0 ⊢
  have hA : ∀ q : Nat, s.heap.size ≤ q → A q := fun q h => by rw [← hAe]; exact Or.inr h
  have hS : va_S A s.heap s.heap [] := va_S.rf
  generalize hQ0 : t2_MQ below (t2_Q t2_rV (pcB (dC, dI) srCl [(cI, .int), (cB, .byte), (cJ, .long), (cZ, .boolean), (cQ, .object "SchemaReader$Schema")] (fun u : Int32 × Int32 => [(ob0, .inr (0, [.ref tq_bytes, .int t_length, .int t_at, .int t_deep, .int u.1, .int u.2, .int t_end, .int t_nodes, .ref tq_kinds, .ref tq_firsts, .ref tq_numbers, .ref tq_sizes, .ref tq_inner, .ref tq_nexts, .ref tq_letters, .int t_lettered, .int t_shapes, .int t_looked, .ref tq_sorts, .ref tq_names, .ref tq_wide, .ref tq_kids, .ref tq_many, .ref tq_fallback, .int t_kidCount, .ref tq_kidShape, .ref tq_kidName, .ref tq_kidDefault, .ref tq_kidNext, .int t_done, .ref tq_finished, .int t_root, .ref tq_plain, .int t_plainSize, .ref tq_told]))]) A) A "java/lang/IllegalStateException" res) [.ref ob0, .int a0, .int a1].toArray s (t2_mc res) (t2_ms res) A = Q0
  have hl := lv_entry [.ref ob0, .int a0, .int a1] (n := 3) (Nat.le_of_ble_eq_true rfl)
  rw [lg_entry_eq]
  generalize (lg_sl [.ref ob0, .int a0, .int a1] ++ List.replicate (3 - (lg_sl [.ref ob0, .int a0, .int a1]).length) Slot.unset).toArray = ls at hl ⊢
  have hl : lv_has ls 3 [(0, .ref ob0), (1, .int a0), (2, .int a1)] := hl
  unfold m_X9_fail at hm
  refine lv_aload_n hx hb dX9_fail_0 rfl (lv_at hl 0 rfl) ?_
  refine lv_iload_n hx hb dX9_fail_1 rfl (lv_at hl 1 rfl) ?_
  refine va_put (D := (dC, dI)) (ci := 0) (v := .int a0) (ty := .int) (C := RX9) (T := TX9) (N := 35) hx hb hts (inX9 _) tyX9 tyX9_ok nmX9 hown hK hP hD hS 0 rfl rfl 4 (by decide) (hts _ (List.mem_cons_of_mem _ wf9_78)) (fun _ h9 => h9) rfl (by decide +kernel) rfl rfl (Nat.le_of_ble_eq_true rfl) dX9_fail_2 (fun H locs hP hD hS => ?_)
  have hP : va_P (dC, dI) srCl [(ob0, .inr (0, [.ref tq_bytes, .int t_length, .int t_at, .int t_deep, .int a0, .int t_place, .int t_end, .int t_nodes, .ref tq_kinds, .ref tq_firsts, .ref tq_numbers, .ref tq_sizes, .ref tq_inner, .ref tq_nexts, .ref tq_letters, .int t_lettered, .int t_shapes, .int t_looked, .ref tq_sorts, .ref tq_names, .ref tq_wide, .ref tq_kids, .ref tq_many, .ref tq_fallback, .int t_kidCount, .ref tq_kidShape, .ref tq_kidName, .ref tq_kidDefault, .ref tq_kidNext, .int t_done, .ref tq_finished, .int t_root, .ref tq_plain, .int t_plainSize, .ref tq_told]))] H := hP
  have hD : va_D A [(ob0, .inr (0, [.ref tq_bytes, .int t_length, .int t_at, .int t_deep, .int a0, .int t_place, .int t_end, .int t_nodes, .ref tq_kinds, .ref tq_firsts, .ref tq_numbers, .ref tq_sizes, .ref tq_inner, .ref tq_nexts, .ref tq_letters, .int t_lettered, .int t_shapes, .int t_looked, .ref tq_sorts, .ref tq_names, .ref tq_wide, .ref tq_kids, .ref tq_many, .ref tq_fallback, .int t_kidCount, .ref tq_kidShape, .ref tq_kidName, .ref tq_kidDefault, .ref tq_kidNext, .int t_done, .ref tq_finished, .int t_root, .ref tq_plain, .int t_plainSize, .ref tq_told]))] := hD
  refine lv_aload_n hx hb dX9_fail_5 rfl (lv_at hl 0 rfl) ?_
  refine lv_iload_n hx hb dX9_fail_6 rfl (lv_at hl 2 rfl) ?_
  refine va_put (D := (dC, dI)) (ci := 0) (v := .int a1) (ty := .int) (C := RX9) (T := TX9) (N := 35) hx hb hts (inX9 _) tyX9 tyX9_ok nmX9 hown hK hP hD hS 0 rfl rfl 5 (by decide) (hts _ (List.mem_cons_of_mem _ wf9_82)) (fun _ h9 => h9) rfl (by decide +kernel) rfl rfl (Nat.le_of_ble_eq_true rfl) dX9_fail_7 (fun H locs hP hD hS => ?_)
  have hP : va_P (dC, dI) srCl [(ob0, .inr (0, [.ref tq_bytes, .int t_length, .int t_at, .int t_deep, .int a0, .int a1, .int t_end, .int t_nodes, .ref tq_kinds, .ref tq_firsts, .ref tq_numbers, .ref tq_sizes, .ref tq_inner, .ref tq_nexts, .ref tq_letters, .int t_lettered, .int t_shapes, .int t_looked, .ref tq_sorts, .ref tq_names, .ref tq_wide, .ref tq_kids, .ref tq_many, .ref tq_fallback, .int t_kidCount, .ref tq_kidShape, .ref tq_kidName, .ref tq_kidDefault, .ref tq_kidNext, .int t_done, .ref tq_finished, .int t_root, .ref tq_plain, .int t_plainSize, .ref tq_told]))] H := hP
  have hD : va_D A [(ob0, .inr (0, [.ref tq_bytes, .int t_length, .int t_at, .int t_deep, .int a0, .int a1, .int t_end, .int t_nodes, .ref tq_kinds, .ref tq_firsts, .ref tq_numbers, .ref tq_sizes, .ref tq_inner, .ref tq_nexts, .ref tq_letters, .int t_lettered, .int t_shapes, .int t_looked, .ref tq_sorts, .ref tq_names, .ref tq_wide, .ref tq_kids, .ref tq_many, .ref tq_fallback, .int t_kidCount, .ref tq_kidShape, .ref tq_kidName, .ref tq_kidDefault, .ref tq_kidNext, .int t_done, .ref tq_finished, .int t_root, .ref tq_plain, .int t_plainSize, .ref tq_told]))] := hD
  obtain rfl := Option.some.inj hm
  subst hQ0
  exact t2_throw (up := thr_up) hx hb htr hown (thr_w9_85 hts) (thr_at9_88 hts hz0.2.2.2.2.2.1) (fun a ha T hT hW => sr_lay ((sr_okZ adK adV).2.1 A s s.heap _ hS.2.1 hz0).2.2.1 ((sr_okZ adK adV).2.1 A s s.heap _ hS.2.1 hz0).2.2.2.1 a ha T hT hW) ((sr_okZ adK adV).2.1 A s s.heap _ hS.2.1 hz0).2.2.1.1 ((sr_okZ adK adV).2.1 A s s.heap _ hS.2.1 hz0).2.2.2.1.1 (by decide) (by decide) (hz0.1 38 (by decide)).2 hex hlocks (hml.trans hl.1.symm) dX9_fail_10 dX9_fail_13 dX9_fail_14 dX9_fail_16 dX9_fail_19 (Nat.le_refl _) (Nat.le_refl _) (Nat.le_of_ble_eq_true rfl) (Nat.le_of_ble_eq_true rfl) hS (fun t hW hz1 hk => ⟨hP.kept (fun k q hq => hk q.1 (hP k q hq).lt), va_K.moved hW.alike hK, hD⟩)
set_option maxHeartbeats 4000000 in
set_option maxRecDepth 100000 in
theorem kX9_need (l : Launch) (htr : l.stackTraces = false) (dC : Nat → ClassId) (dI : Nat → Nat → Nat) (adK adV : Nat → Nat) (cI cB cJ cZ cQ : ClassId) (ob0 tq_bytes tq_kinds tq_firsts tq_numbers tq_sizes tq_inner tq_nexts tq_letters tq_sorts tq_names tq_wide tq_kids tq_many tq_fallback tq_kidShape tq_kidName tq_kidDefault tq_kidNext tq_finished tq_plain tq_told : Nat) (t_length : Int32) (t_at : Int32) (t_deep : Int32) (t_fault : Int32) (t_place : Int32) (t_end : Int32) (t_nodes : Int32) (t_lettered : Int32) (t_shapes : Int32) (t_looked : Int32) (t_kidCount : Int32) (t_done : Int32) (t_root : Int32) (t_plainSize : Int32) (sz : Nat) (a0 : Int32) (a1 : Int32) (a2 : Int32) (res : Except (Int32 × Int32) (Unit × (Int32 × Int32))) (hm : m_X9_need t_fault t_place a0 a1 a2 = some res) : t2_Met l yX9_need wsX9_need (rmX9_need (t2_mc res) (t2_ms res)) (pcW (sr_Z adK adV) (dC, dI) srCl [(cI, .int), (cB, .byte), (cJ, .long), (cZ, .boolean), (cQ, .object "SchemaReader$Schema")] [.ref ob0, .int a0, .int a1, .int a2] [(ob0, .inr (0, [.ref tq_bytes, .int t_length, .int t_at, .int t_deep, .int t_fault, .int t_place, .int t_end, .int t_nodes, .ref tq_kinds, .ref tq_firsts, .ref tq_numbers, .ref tq_sizes, .ref tq_inner, .ref tq_nexts, .ref tq_letters, .int t_lettered, .int t_shapes, .int t_looked, .ref tq_sorts, .ref tq_names, .ref tq_wide, .ref tq_kids, .ref tq_many, .ref tq_fallback, .int t_kidCount, .ref tq_kidShape, .ref tq_kidName, .ref tq_kidDefault, .ref tq_kidNext, .int t_done, .ref tq_finished, .int t_root, .ref tq_plain, .int t_plainSize, .ref tq_told]))] sz) (t2_Q t2_rV (pcB (dC, dI) srCl [(cI, .int), (cB, .byte), (cJ, .long), (cZ, .boolean), (cQ, .object "SchemaReader$Schema")] (fun u : Int32 × Int32 => [(ob0, .inr (0, [.ref tq_bytes, .int t_length, .int t_at, .int t_deep, .int u.1, .int u.2, .int t_end, .int t_nodes, .ref tq_kinds, .ref tq_firsts, .ref tq_numbers, .ref tq_sizes, .ref tq_inner, .ref tq_nexts, .ref tq_letters, .int t_lettered, .int t_shapes, .int t_looked, .ref tq_sorts, .ref tq_names, .ref tq_wide, .ref tq_kids, .ref tq_many, .ref tq_fallback, .int t_kidCount, .ref tq_kidShape, .ref tq_kidName, .ref tq_kidDefault, .ref tq_kidNext, .int t_done, .ref tq_finished, .int t_root, .ref tq_plain, .int t_plainSize, .ref tq_told]))]) (va_A [(ob0, .inr (0, [.ref tq_bytes, .int t_length, .int t_at, .int t_deep, .int t_fault, .int t_place, .int t_end, .int t_nodes, .ref tq_kinds, .ref tq_firsts, .ref tq_numbers, .ref tq_sizes, .ref tq_inner, .ref tq_nexts, .ref tq_letters, .int t_lettered, .int t_shapes, .int t_looked, .ref tq_sorts, .ref tq_names, .ref tq_wide, .ref tq_kids, .ref tq_many, .ref tq_fallback, .int t_kidCount, .ref tq_kidShape, .ref tq_kidName, .ref tq_kidDefault, .ref tq_kidNext, .int t_done, .ref tq_finished, .int t_root, .ref tq_plain, .int t_plainSize, .ref tq_told]))] sz)) (va_A [(ob0, .inr (0, [.ref tq_bytes, .int t_length, .int t_at, .int t_deep, .int t_fault, .int t_place, .int t_end, .int t_nodes, .ref tq_kinds, .ref tq_firsts, .ref tq_numbers, .ref tq_sizes, .ref tq_inner, .ref tq_nexts, .ref tq_letters, .int t_lettered, .int t_shapes, .int t_looked, .ref tq_sorts, .ref tq_names, .ref tq_wide, .ref tq_kids, .ref tq_many, .ref tq_fallback, .int t_kidCount, .ref tq_kidShape, .ref tq_kidName, .ref tq_kidDefault, .ref tq_kidNext, .int t_done, .ref tq_finished, .int t_root, .ref tq_plain, .int t_plainSize, .ref tq_told]))] sz) "java/lang/IllegalStateException" res) (t2_mc res) (t2_ms res) (va_A [(ob0, .inr (0, [.ref tq_bytes, .int t_length, .int t_at, .int t_deep, .int t_fault, .int t_place, .int t_end, .int t_nodes, .ref tq_kinds, .ref tq_firsts, .ref tq_numbers, .ref tq_sizes, .ref tq_inner, .ref tq_nexts, .ref tq_letters, .int t_lettered, .int t_shapes, .int t_looked, .ref tq_sorts, .ref tq_names, .ref tq_wide, .ref tq_kids, .ref tq_many, .ref tq_fallback, .int t_kidCount, .ref tq_kidShape, .ref tq_kidName, .ref tq_kidDefault, .ref tq_kidNext, .int t_done, .ref tq_finished, .int t_root, .ref tq_plain, .int t_plainSize, .ref tq_told]))] sz) := by
  refine t2_ofW (cc := cX9_need) (maxL := 4) (ret := none) (by decide) rfl ?_
  intro p e s m args below meth c s₁ B hml hex had hv
  obtain ⟨rfl, hsz, hP, hK, hD0, hz0⟩ := hv
  have hx := B.exec
  have hb := B.bytes
  have hr := B.returns
  have hts := atoms_spec (ws := wsX9_need) B.pre
  have hown : s.vm.findClass RX9 = some m.cls := findClass_of_methodNamed B.named
  have hlocks := B.notSynchronized
  subst hsz
  have hD := hD0.self (sz := s.heap.size)
  generalize hAe : va_A [(ob0, .inr (0, [.ref tq_bytes, .int t_length, .int t_at, .int t_deep, .int t_fault, .int t_place, .int t_end, .int t_nodes, .ref tq_kinds, .ref tq_firsts, .ref tq_numbers, .ref tq_sizes, .ref tq_inner, .ref tq_nexts, .ref tq_letters, .int t_lettered, .int t_shapes, .int t_looked, .ref tq_sorts, .ref tq_names, .ref tq_wide, .ref tq_kids, .ref tq_many, .ref tq_fallback, .int t_kidCount, .ref tq_kidShape, .ref tq_kidName, .ref tq_kidDefault, .ref tq_kidNext, .int t_done, .ref tq_finished, .int t_root, .ref tq_plain, .int t_plainSize, .ref tq_told]))] s.heap.size = A at hD hz0 ⊢
  have hA : ∀ q : Nat, s.heap.size ≤ q → A q := fun q h => by rw [← hAe]; exact Or.inr h
  have hS : va_S A s.heap s.heap [] := va_S.rf
  generalize hQ0 : t2_MQ below (t2_Q t2_rV (pcB (dC, dI) srCl [(cI, .int), (cB, .byte), (cJ, .long), (cZ, .boolean), (cQ, .object "SchemaReader$Schema")] (fun u : Int32 × Int32 => [(ob0, .inr (0, [.ref tq_bytes, .int t_length, .int t_at, .int t_deep, .int u.1, .int u.2, .int t_end, .int t_nodes, .ref tq_kinds, .ref tq_firsts, .ref tq_numbers, .ref tq_sizes, .ref tq_inner, .ref tq_nexts, .ref tq_letters, .int t_lettered, .int t_shapes, .int t_looked, .ref tq_sorts, .ref tq_names, .ref tq_wide, .ref tq_kids, .ref tq_many, .ref tq_fallback, .int t_kidCount, .ref tq_kidShape, .ref tq_kidName, .ref tq_kidDefault, .ref tq_kidNext, .int t_done, .ref tq_finished, .int t_root, .ref tq_plain, .int t_plainSize, .ref tq_told]))]) A) A "java/lang/IllegalStateException" res) [.ref ob0, .int a0, .int a1, .int a2].toArray s (t2_mc res) (t2_ms res) A = Q0
  have hl := lv_entry [.ref ob0, .int a0, .int a1, .int a2] (n := 4) (Nat.le_of_ble_eq_true rfl)
  rw [lg_entry_eq]
  generalize (lg_sl [.ref ob0, .int a0, .int a1, .int a2] ++ List.replicate (4 - (lg_sl [.ref ob0, .int a0, .int a1, .int a2]).length) Slot.unset).toArray = ls at hl ⊢
  have hl : lv_has ls 4 [(0, .ref ob0), (1, .int a0), (2, .int a1), (3, .int a2)] := hl
  unfold m_X9_need at hm
  refine lv_iload_n hx hb dX9_need_0 rfl (lv_at hl 1 rfl) ?_
  refine lv_if_ne (tgt := 10) hx hb dX9_need_1 (by decide) (fun c1 => ?_) (fun c1 => ?_)
  · have hm := mr_un c1 hm
    obtain rfl := Option.some.inj hm
    subst hQ0
    exact t2_vret hx hb hr (fun t ht hW => ⟨⟨rfl, by rw [ht]; exact hP, va_K.moved hW.alike hK, hD⟩, hS.F ht⟩) hS.2.2 dX9_need_10 hlocks
  · have hm := mr_if c1 hm
    refine lv_aload_n hx hb dX9_need_4 rfl (lv_at hl 0 rfl) ?_
    refine lv_iload_n hx hb dX9_need_5 rfl (lv_at hl 2 rfl) ?_
    refine lv_iload_n hx hb dX9_need_6 rfl (lv_at hl 3 rfl) ?_
    rcases mr_tried hm with ⟨r2, ⟨t_fault_2, t_place_2⟩, hz2, hm⟩ | ⟨⟨t_fault_2, t_place_2⟩, hz2, hm⟩
    · try dsimp only at hm
      refine mr_wVv (As := [.int a1, .int a2]) (rest := []) (sr_okZ adK adV) ⟨hx, hb, hml, hown, hts⟩ (t2_okV (kX9_fail l htr dC dI adK adV cI cB cJ cZ cQ ob0 tq_bytes tq_kinds tq_firsts tq_numbers tq_sizes tq_inner tq_nexts tq_letters tq_sorts tq_names tq_wide tq_kids tq_many tq_fallback tq_kidShape tq_kidName tq_kidDefault tq_kidNext tq_finished tq_plain tq_told t_length t_at t_deep t_fault t_place t_end t_nodes t_lettered t_shapes t_looked t_kidCount t_done t_root t_plainSize _ a1 a2 _ hz2)) (cwV 2 hts (g9_91 _) rfl rfl rfl (by decide +kernel) ⟨(by show 8 + 1 ≤ 9; omega), (by show 8 + (3 + 11) + (120) ≤ 142; omega)⟩) hS hA hP hD hK hz0 (wr := []) (w1 := [(ob0, .inr (0, [.ref tq_bytes, .int t_length, .int t_at, .int t_deep, .int t_fault_2, .int t_place_2, .int t_end, .int t_nodes, .ref tq_kinds, .ref tq_firsts, .ref tq_numbers, .ref tq_sizes, .ref tq_inner, .ref tq_nexts, .ref tq_letters, .int t_lettered, .int t_shapes, .int t_looked, .ref tq_sorts, .ref tq_names, .ref tq_wide, .ref tq_kids, .ref tq_many, .ref tq_fallback, .int t_kidCount, .ref tq_kidShape, .ref tq_kidName, .ref tq_kidDefault, .ref tq_kidNext, .int t_done, .ref tq_finished, .int t_root, .ref tq_plain, .int t_plainSize, .ref tq_told]))]) [0] [] [0] rfl rfl rfl rfl rfl (by decide) rfl rfl rfl (va_recv hK hP (ci := 0) (q0 := 0) rfl rfl) rfl rfl hl.1 (Nat.le_of_ble_eq_true rfl) dX9_need_7 ⟨Nat.zero_le _, Nat.zero_le _⟩ (fun H locs hP hD hS => ?_)
      obtain rfl := Option.some.inj hm
      subst hQ0
      exact t2_vret hx hb hr (fun t ht hW => ⟨⟨rfl, by rw [ht]; exact hP, va_K.moved hW.alike hK, hD⟩, hS.F ht⟩) hS.2.2 dX9_need_10 hlocks
    · try dsimp only at hm
      subst hm
      subst hQ0
      exact mr_xV (R := (headSpec wsX9_need (rmX9_need (t2_mc (.error (t_fault_2, t_place_2) : Except (Int32 × Int32) (Unit × (Int32 × Int32)))) (t2_ms (.error (t_fault_2, t_place_2) : Except (Int32 × Int32) (Unit × (Int32 × Int32)))))).room) (cells := 0) (slots := 0) (As := [.int a1, .int a2]) (rest := []) (wf' := (fun u : Int32 × Int32 => [(ob0, .inr (0, [.ref tq_bytes, .int t_length, .int t_at, .int t_deep, .int u.1, .int u.2, .int t_end, .int t_nodes, .ref tq_kinds, .ref tq_firsts, .ref tq_numbers, .ref tq_sizes, .ref tq_inner, .ref tq_nexts, .ref tq_letters, .int t_lettered, .int t_shapes, .int t_looked, .ref tq_sorts, .ref tq_names, .ref tq_wide, .ref tq_kids, .ref tq_many, .ref tq_fallback, .int t_kidCount, .ref tq_kidShape, .ref tq_kidName, .ref tq_kidDefault, .ref tq_kidNext, .int t_done, .ref tq_finished, .int t_root, .ref tq_plain, .int t_plainSize, .ref tq_told]))])) (u' := (t_fault_2, t_place_2)) (sr_okZ adK adV) ⟨hx, hb, hml, hown, hts⟩ (kX9_fail l htr dC dI adK adV cI cB cJ cZ cQ ob0 tq_bytes tq_kinds tq_firsts tq_numbers tq_sizes tq_inner tq_nexts tq_letters tq_sorts tq_names tq_wide tq_kids tq_many tq_fallback tq_kidShape tq_kidName tq_kidDefault tq_kidNext tq_finished tq_plain tq_told t_length t_at t_deep t_fault t_place t_end t_nodes t_lettered t_shapes t_looked t_kidCount t_done t_root t_plainSize _ a1 a2 _ hz2) (cwV 2 hts (g9_91 _) rfl rfl rfl (by decide +kernel) ⟨(by show 8 + 1 ≤ 9; omega), (by show 8 + (3 + 11) + (120) ≤ 142; omega)⟩) hS hA hP hD hK hz0 (wr := []) [0] [] [0] rfl rfl rfl rfl rfl (by decide) rfl rfl rfl (va_recv hK hP (ci := 0) (q0 := 0) rfl rfl) rfl rfl hl.1 (Nat.le_of_ble_eq_true rfl) dX9_need_7 rfl rfl ⟨Nat.le_refl _, Nat.le_refl _⟩ hex hlocks
set_option maxHeartbeats 4000000 in
set_option maxRecDepth 100000 in
theorem kX9_take (l : Launch) (htr : l.stackTraces = false) (dC : Nat → ClassId) (dI : Nat → Nat → Nat) (adK adV : Nat → Nat) (cI cB cJ cZ cQ : ClassId) (ob0 tq_bytes tq_kinds tq_firsts tq_numbers tq_sizes tq_inner tq_nexts tq_letters tq_sorts tq_names tq_wide tq_kids tq_many tq_fallback tq_kidShape tq_kidName tq_kidDefault tq_kidNext tq_finished tq_plain tq_told : Nat) (t_length : Int32) (t_at : Int32) (t_deep : Int32) (t_fault : Int32) (t_place : Int32) (t_end : Int32) (t_nodes : Int32) (t_lettered : Int32) (t_shapes : Int32) (t_looked : Int32) (t_kidCount : Int32) (t_done : Int32) (t_root : Int32) (t_plainSize : Int32) (t_bytes : Nat → Int32) (sz : Nat) (a0 : Int32) (res : Except (Int32 × Int32 × Int32) (Unit × (Int32 × Int32 × Int32))) (hm : m_X9_take t_bytes t_length t_at t_fault t_place a0 = some res) : t2_Met l yX9_take wsX9_take (rmX9_take (t2_mc res) (t2_ms res)) (pcW (sr_Z adK adV) (dC, dI) srCl [(cI, .int), (cB, .byte), (cJ, .long), (cZ, .boolean), (cQ, .object "SchemaReader$Schema")] [.ref ob0, .int a0] [(ob0, .inr (0, [.ref tq_bytes, .int t_length, .int t_at, .int t_deep, .int t_fault, .int t_place, .int t_end, .int t_nodes, .ref tq_kinds, .ref tq_firsts, .ref tq_numbers, .ref tq_sizes, .ref tq_inner, .ref tq_nexts, .ref tq_letters, .int t_lettered, .int t_shapes, .int t_looked, .ref tq_sorts, .ref tq_names, .ref tq_wide, .ref tq_kids, .ref tq_many, .ref tq_fallback, .int t_kidCount, .ref tq_kidShape, .ref tq_kidName, .ref tq_kidDefault, .ref tq_kidNext, .int t_done, .ref tq_finished, .int t_root, .ref tq_plain, .int t_plainSize, .ref tq_told])), (tq_bytes, .inl (cB, 4096, .inl t_bytes))] sz) (t2_Q t2_rV (pcB (dC, dI) srCl [(cI, .int), (cB, .byte), (cJ, .long), (cZ, .boolean), (cQ, .object "SchemaReader$Schema")] (fun u : Int32 × Int32 × Int32 => [(ob0, .inr (0, [.ref tq_bytes, .int t_length, .int u.1, .int t_deep, .int u.2.1, .int u.2.2, .int t_end, .int t_nodes, .ref tq_kinds, .ref tq_firsts, .ref tq_numbers, .ref tq_sizes, .ref tq_inner, .ref tq_nexts, .ref tq_letters, .int t_lettered, .int t_shapes, .int t_looked, .ref tq_sorts, .ref tq_names, .ref tq_wide, .ref tq_kids, .ref tq_many, .ref tq_fallback, .int t_kidCount, .ref tq_kidShape, .ref tq_kidName, .ref tq_kidDefault, .ref tq_kidNext, .int t_done, .ref tq_finished, .int t_root, .ref tq_plain, .int t_plainSize, .ref tq_told])), (tq_bytes, .inl (cB, 4096, .inl t_bytes))]) (va_A [(ob0, .inr (0, [.ref tq_bytes, .int t_length, .int t_at, .int t_deep, .int t_fault, .int t_place, .int t_end, .int t_nodes, .ref tq_kinds, .ref tq_firsts, .ref tq_numbers, .ref tq_sizes, .ref tq_inner, .ref tq_nexts, .ref tq_letters, .int t_lettered, .int t_shapes, .int t_looked, .ref tq_sorts, .ref tq_names, .ref tq_wide, .ref tq_kids, .ref tq_many, .ref tq_fallback, .int t_kidCount, .ref tq_kidShape, .ref tq_kidName, .ref tq_kidDefault, .ref tq_kidNext, .int t_done, .ref tq_finished, .int t_root, .ref tq_plain, .int t_plainSize, .ref tq_told])), (tq_bytes, .inl (cB, 4096, .inl t_bytes))] sz)) (va_A [(ob0, .inr (0, [.ref tq_bytes, .int t_length, .int t_at, .int t_deep, .int t_fault, .int t_place, .int t_end, .int t_nodes, .ref tq_kinds, .ref tq_firsts, .ref tq_numbers, .ref tq_sizes, .ref tq_inner, .ref tq_nexts, .ref tq_letters, .int t_lettered, .int t_shapes, .int t_looked, .ref tq_sorts, .ref tq_names, .ref tq_wide, .ref tq_kids, .ref tq_many, .ref tq_fallback, .int t_kidCount, .ref tq_kidShape, .ref tq_kidName, .ref tq_kidDefault, .ref tq_kidNext, .int t_done, .ref tq_finished, .int t_root, .ref tq_plain, .int t_plainSize, .ref tq_told])), (tq_bytes, .inl (cB, 4096, .inl t_bytes))] sz) "java/lang/IllegalStateException" res) (t2_mc res) (t2_ms res) (va_A [(ob0, .inr (0, [.ref tq_bytes, .int t_length, .int t_at, .int t_deep, .int t_fault, .int t_place, .int t_end, .int t_nodes, .ref tq_kinds, .ref tq_firsts, .ref tq_numbers, .ref tq_sizes, .ref tq_inner, .ref tq_nexts, .ref tq_letters, .int t_lettered, .int t_shapes, .int t_looked, .ref tq_sorts, .ref tq_names, .ref tq_wide, .ref tq_kids, .ref tq_many, .ref tq_fallback, .int t_kidCount, .ref tq_kidShape, .ref tq_kidName, .ref tq_kidDefault, .ref tq_kidNext, .int t_done, .ref tq_finished, .int t_root, .ref tq_plain, .int t_plainSize, .ref tq_told])), (tq_bytes, .inl (cB, 4096, .inl t_bytes))] sz) := by
  refine t2_ofW (cc := cX9_take) (maxL := 2) (ret := none) (by decide) rfl ?_
  intro p e s m args below meth c s₁ B hml hex had hv
  obtain ⟨rfl, hsz, hP, hK, hD0, hz0⟩ := hv
  have hx := B.exec
  have hb := B.bytes
  have hr := B.returns
  have hts := atoms_spec (ws := wsX9_take) B.pre
  have hown : s.vm.findClass RX9 = some m.cls := findClass_of_methodNamed B.named
  have hlocks := B.notSynchronized
  subst hsz
  have hD := hD0.self (sz := s.heap.size)
  generalize hAe : va_A [(ob0, .inr (0, [.ref tq_bytes, .int t_length, .int t_at, .int t_deep, .int t_fault, .int t_place, .int t_end, .int t_nodes, .ref tq_kinds, .ref tq_firsts, .ref tq_numbers, .ref tq_sizes, .ref tq_inner, .ref tq_nexts, .ref tq_letters, .int t_lettered, .int t_shapes, .int t_looked, .ref tq_sorts, .ref tq_names, .ref tq_wide, .ref tq_kids, .ref tq_many, .ref tq_fallback, .int t_kidCount, .ref tq_kidShape, .ref tq_kidName, .ref tq_kidDefault, .ref tq_kidNext, .int t_done, .ref tq_finished, .int t_root, .ref tq_plain, .int t_plainSize, .ref tq_told])), (tq_bytes, .inl (cB, 4096, .inl t_bytes))] s.heap.size = A at hD hz0 ⊢
  have hA : ∀ q : Nat, s.heap.size ≤ q → A q := fun q h => by rw [← hAe]; exact Or.inr h
  have hS : va_S A s.heap s.heap [] := va_S.rf
  generalize hQ0 : t2_MQ below (t2_Q t2_rV (pcB (dC, dI) srCl [(cI, .int), (cB, .byte), (cJ, .long), (cZ, .boolean), (cQ, .object "SchemaReader$Schema")] (fun u : Int32 × Int32 × Int32 => [(ob0, .inr (0, [.ref tq_bytes, .int t_length, .int u.1, .int t_deep, .int u.2.1, .int u.2.2, .int t_end, .int t_nodes, .ref tq_kinds, .ref tq_firsts, .ref tq_numbers, .ref tq_sizes, .ref tq_inner, .ref tq_nexts, .ref tq_letters, .int t_lettered, .int t_shapes, .int t_looked, .ref tq_sorts, .ref tq_names, .ref tq_wide, .ref tq_kids, .ref tq_many, .ref tq_fallback, .int t_kidCount, .ref tq_kidShape, .ref tq_kidName, .ref tq_kidDefault, .ref tq_kidNext, .int t_done, .ref tq_finished, .int t_root, .ref tq_plain, .int t_plainSize, .ref tq_told])), (tq_bytes, .inl (cB, 4096, .inl t_bytes))]) A) A "java/lang/IllegalStateException" res) [.ref ob0, .int a0].toArray s (t2_mc res) (t2_ms res) A = Q0
  have hl := lv_entry [.ref ob0, .int a0] (n := 2) (Nat.le_of_ble_eq_true rfl)
  rw [lg_entry_eq]
  generalize (lg_sl [.ref ob0, .int a0] ++ List.replicate (2 - (lg_sl [.ref ob0, .int a0]).length) Slot.unset).toArray = ls at hl ⊢
  have hl : lv_has ls 2 [(0, .ref ob0), (1, .int a0)] := hl
  unfold m_X9_take at hm
  refine lv_aload_n hx hb dX9_take_0 rfl (lv_at hl 0 rfl) ?_
  refine lv_aload_n hx hb dX9_take_1 rfl (lv_at hl 0 rfl) ?_
  obtain ⟨r1, hz1, hm⟩ := mr_bind hm
  refine mr_pV (As := []) (rest := [.ref ob0]) (sr_okZ adK adV) ⟨hx, hb, hml, hown, hts⟩ (kX9_look l htr dC dI adK adV cI cB cJ cZ cQ ob0 tq_bytes tq_kinds tq_firsts tq_numbers tq_sizes tq_inner tq_nexts tq_letters tq_sorts tq_names tq_wide tq_kids tq_many tq_fallback tq_kidShape tq_kidName tq_kidDefault tq_kidNext tq_finished tq_plain tq_told t_length t_at t_deep t_fault t_place t_end t_nodes t_lettered t_shapes t_looked t_kidCount t_done t_root t_plainSize t_bytes r1 hz1) (cwV 0 hts (g9_101 _) rfl rfl rfl (by decide +kernel) ⟨(by show 0 + 1 ≤ 10; omega), (by show 8 + (1 + 11) + (0) ≤ 165; omega)⟩) hS hP hK hz0 [0, 1] rfl (va_recv hK hP (ci := 0) (q0 := 0) rfl rfl) rfl rfl hl.1 (Nat.le_of_ble_eq_true rfl) dX9_take_2 ⟨Nat.zero_le _, Nat.zero_le _⟩ ?_
  refine lv_iload_n hx hb dX9_take_5 rfl (lv_at hl 1 rfl) ?_
  have j14 : ∀ (t_at : Int32) (t_fault : Int32) (t_place : Int32) (y0 : Int32) (H : Heap) (locs : List Loc) (ls : Array Slot), va_P (dC, dI) srCl [(ob0, .inr (0, [.ref tq_bytes, .int t_length, .int t_at, .int t_deep, .int t_fault, .int t_place, .int t_end, .int t_nodes, .ref tq_kinds, .ref tq_firsts, .ref tq_numbers, .ref tq_sizes, .ref tq_inner, .ref tq_nexts, .ref tq_letters, .int t_lettered, .int t_shapes, .int t_looked, .ref tq_sorts, .ref tq_names, .ref tq_wide, .ref tq_kids, .ref tq_many, .ref tq_fallback, .int t_kidCount, .ref tq_kidShape, .ref tq_kidName, .ref tq_kidDefault, .ref tq_kidNext, .int t_done, .ref tq_finished, .int t_root, .ref tq_plain, .int t_plainSize, .ref tq_told])), (tq_bytes, .inl (cB, 4096, .inl t_bytes))] H → va_D A [(ob0, .inr (0, [.ref tq_bytes, .int t_length, .int t_at, .int t_deep, .int t_fault, .int t_place, .int t_end, .int t_nodes, .ref tq_kinds, .ref tq_firsts, .ref tq_numbers, .ref tq_sizes, .ref tq_inner, .ref tq_nexts, .ref tq_letters, .int t_lettered, .int t_shapes, .int t_looked, .ref tq_sorts, .ref tq_names, .ref tq_wide, .ref tq_kids, .ref tq_many, .ref tq_fallback, .int t_kidCount, .ref tq_kidShape, .ref tq_kidName, .ref tq_kidDefault, .ref tq_kidNext, .int t_done, .ref tq_finished, .int t_root, .ref tq_plain, .int t_plainSize, .ref tq_told])), (tq_bytes, .inl (cB, 4096, .inl t_bytes))] → va_S A s.heap H locs → lv_has ls 2 [(0, .ref ob0)] → m_X9_take_14 t_bytes t_length t_at t_fault t_place y0 = some res → W p l e (headSpec wsX9_take (rmX9_take (t2_mc res) (t2_ms res))).room s m [.ref ob0, .int a0].toArray below meth c H locs 0 0 Q0 (F0 m 14 ls [.int y0, .ref ob0]) := by
    intro t_at t_fault t_place y0 H locs ls hP hD hS hl hm
    unfold m_X9_take_14 at hm
    refine lv_iconst (v := 1) hx hb dX9_take_14 (by decide) ?_
    refine lv_aload_n hx hb dX9_take_15 rfl (lv_at hl 0 rfl) ?_
    refine va_get (D := (dC, dI)) (ci := 0) (v := .int t_at) (C := RX9) (T := TX9) (N := 35) hx hb hts (inX9 _) hown hK hP 0 rfl rfl 2 (by decide) (hts _ (List.mem_cons_of_mem _ wf9_95)) (fun _ h9 => h9) rfl dX9_take_16 ?_
    rcases mr_tried hm with ⟨r2, ⟨t_fault_2, t_place_2⟩, hz2, hm⟩ | ⟨⟨t_fault_2, t_place_2⟩, hz2, hm⟩
    · try dsimp only at hm
      refine mr_wVv (As := [.int y0, .int 1, .int t_at]) (rest := []) (sr_okZ adK adV) ⟨hx, hb, hml, hown, hts⟩ (t2_okV (kX9_need l htr dC dI adK adV cI cB cJ cZ cQ ob0 tq_bytes tq_kinds tq_firsts tq_numbers tq_sizes tq_inner tq_nexts tq_letters tq_sorts tq_names tq_wide tq_kids tq_many tq_fallback tq_kidShape tq_kidName tq_kidDefault tq_kidNext tq_finished tq_plain tq_told t_length t_at t_deep t_fault t_place t_end t_nodes t_lettered t_shapes t_looked t_kidCount t_done t_root t_plainSize _ y0 1 t_at _ hz2)) (cwV 3 hts (g9_105 _) rfl rfl rfl (by decide +kernel) ⟨(by show 9 + 1 ≤ 10; omega), (by show 8 + (4 + 11) + (142) ≤ 165; omega)⟩) hS hA hP hD hK hz0 (wr := [(tq_bytes, .inl (cB, 4096, .inl t_bytes))]) (w1 := [(ob0, .inr (0, [.ref tq_bytes, .int t_length, .int t_at, .int t_deep, .int t_fault_2, .int t_place_2, .int t_end, .int t_nodes, .ref tq_kinds, .ref tq_firsts, .ref tq_numbers, .ref tq_sizes, .ref tq_inner, .ref tq_nexts, .ref tq_letters, .int t_lettered, .int t_shapes, .int t_looked, .ref tq_sorts, .ref tq_names, .ref tq_wide, .ref tq_kids, .ref tq_many, .ref tq_fallback, .int t_kidCount, .ref tq_kidShape, .ref tq_kidName, .ref tq_kidDefault, .ref tq_kidNext, .int t_done, .ref tq_finished, .int t_root, .ref tq_plain, .int t_plainSize, .ref tq_told])), (tq_bytes, .inl (cB, 4096, .inl t_bytes))]) [0] [1] [1, 0] rfl rfl rfl rfl rfl (by decide) rfl rfl rfl (va_recv hK hP (ci := 0) (q0 := 0) rfl rfl) rfl rfl hl.1 (Nat.le_of_ble_eq_true rfl) dX9_take_19 ⟨Nat.zero_le _, Nat.zero_le _⟩ (fun H locs hP hD hS => ?_)
      refine lv_aload_n hx hb dX9_take_22 rfl (lv_at hl 0 rfl) ?_
      refine lv_dup hx hb dX9_take_23 rfl ?_
      refine va_get (D := (dC, dI)) (ci := 0) (v := .int t_at) (C := RX9) (T := TX9) (N := 35) hx hb hts (inX9 _) hown hK hP 0 rfl rfl 2 (by decide) (hts _ (List.mem_cons_of_mem _ wf9_95)) (fun _ h9 => h9) rfl dX9_take_24 ?_
      refine lv_iconst (v := 1) hx hb dX9_take_27 (by decide) ?_
      refine lv_iadd hx hb dX9_take_28 ?_
      refine va_put (D := (dC, dI)) (ci := 0) (v := .int (t_at + 1)) (ty := .int) (C := RX9) (T := TX9) (N := 35) hx hb hts (inX9 _) tyX9 tyX9_ok nmX9 hown hK hP hD hS 0 rfl rfl 2 (by decide) (hts _ (List.mem_cons_of_mem _ wf9_95)) (fun _ h9 => h9) rfl (by decide +kernel) rfl rfl (Nat.le_of_ble_eq_true rfl) dX9_take_29 (fun H locs hP hD hS => ?_)
      have hP : va_P (dC, dI) srCl [(ob0, .inr (0, [.ref tq_bytes, .int t_length, .int (t_at + 1), .int t_deep, .int t_fault_2, .int t_place_2, .int t_end, .int t_nodes, .ref tq_kinds, .ref tq_firsts, .ref tq_numbers, .ref tq_sizes, .ref tq_inner, .ref tq_nexts, .ref tq_letters, .int t_lettered, .int t_shapes, .int t_looked, .ref tq_sorts, .ref tq_names, .ref tq_wide, .ref tq_kids, .ref tq_many, .ref tq_fallback, .int t_kidCount, .ref tq_kidShape, .ref tq_kidName, .ref tq_kidDefault, .ref tq_kidNext, .int t_done, .ref tq_finished, .int t_root, .ref tq_plain, .int t_plainSize, .ref tq_told])), (tq_bytes, .inl (cB, 4096, .inl t_bytes))] H := hP
      have hD : va_D A [(ob0, .inr (0, [.ref tq_bytes, .int t_length, .int (t_at + 1), .int t_deep, .int t_fault_2, .int t_place_2, .int t_end, .int t_nodes, .ref tq_kinds, .ref tq_firsts, .ref tq_numbers, .ref tq_sizes, .ref tq_inner, .ref tq_nexts, .ref tq_letters, .int t_lettered, .int t_shapes, .int t_looked, .ref tq_sorts, .ref tq_names, .ref tq_wide, .ref tq_kids, .ref tq_many, .ref tq_fallback, .int t_kidCount, .ref tq_kidShape, .ref tq_kidName, .ref tq_kidDefault, .ref tq_kidNext, .int t_done, .ref tq_finished, .int t_root, .ref tq_plain, .int t_plainSize, .ref tq_told])), (tq_bytes, .inl (cB, 4096, .inl t_bytes))] := hD
      obtain rfl := Option.some.inj hm
      subst hQ0
      exact t2_vret hx hb hr (fun t ht hW => ⟨⟨rfl, by rw [ht]; exact hP, va_K.moved hW.alike hK, hD⟩, hS.F ht⟩) hS.2.2 dX9_take_32 hlocks
    · try dsimp only at hm
      subst hm
      subst hQ0
      exact mr_xV (R := (headSpec wsX9_take (rmX9_take (t2_mc (.error (t_at, t_fault_2, t_place_2) : Except (Int32 × Int32 × Int32) (Unit × (Int32 × Int32 × Int32)))) (t2_ms (.error (t_at, t_fault_2, t_place_2) : Except (Int32 × Int32 × Int32) (Unit × (Int32 × Int32 × Int32)))))).room) (cells := 0) (slots := 0) (As := [.int y0, .int 1, .int t_at]) (rest := []) (wf' := (fun u : Int32 × Int32 × Int32 => [(ob0, .inr (0, [.ref tq_bytes, .int t_length, .int u.1, .int t_deep, .int u.2.1, .int u.2.2, .int t_end, .int t_nodes, .ref tq_kinds, .ref tq_firsts, .ref tq_numbers, .ref tq_sizes, .ref tq_inner, .ref tq_nexts, .ref tq_letters, .int t_lettered, .int t_shapes, .int t_looked, .ref tq_sorts, .ref tq_names, .ref tq_wide, .ref tq_kids, .ref tq_many, .ref tq_fallback, .int t_kidCount, .ref tq_kidShape, .ref tq_kidName, .ref tq_kidDefault, .ref tq_kidNext, .int t_done, .ref tq_finished, .int t_root, .ref tq_plain, .int t_plainSize, .ref tq_told])), (tq_bytes, .inl (cB, 4096, .inl t_bytes))])) (u' := (t_at, t_fault_2, t_place_2)) (sr_okZ adK adV) ⟨hx, hb, hml, hown, hts⟩ (kX9_need l htr dC dI adK adV cI cB cJ cZ cQ ob0 tq_bytes tq_kinds tq_firsts tq_numbers tq_sizes tq_inner tq_nexts tq_letters tq_sorts tq_names tq_wide tq_kids tq_many tq_fallback tq_kidShape tq_kidName tq_kidDefault tq_kidNext tq_finished tq_plain tq_told t_length t_at t_deep t_fault t_place t_end t_nodes t_lettered t_shapes t_looked t_kidCount t_done t_root t_plainSize _ y0 1 t_at _ hz2) (cwV 3 hts (g9_105 _) rfl rfl rfl (by decide +kernel) ⟨(by show 9 + 1 ≤ 10; omega), (by show 8 + (4 + 11) + (142) ≤ 165; omega)⟩) hS hA hP hD hK hz0 (wr := [(tq_bytes, .inl (cB, 4096, .inl t_bytes))]) [0] [1] [1, 0] rfl rfl rfl rfl rfl (by decide) rfl rfl rfl (va_recv hK hP (ci := 0) (q0 := 0) rfl rfl) rfl rfl hl.1 (Nat.le_of_ble_eq_true rfl) dX9_take_19 rfl rfl ⟨Nat.le_refl _, Nat.le_refl _⟩ hex hlocks
  refine lv_icmp_ne (tgt := 13) hx hb dX9_take_6 (by decide) (fun c3 => ?_) (fun c3 => ?_)
  · have hm := mr_un c3 hm
    refine lv_iconst (v := 0) hx hb dX9_take_13 (by decide) ?_
    exact j14 t_at t_fault t_place 0 _ _ ls hP hD hS (lv_sub hl [0] rfl) hm
  · have hm := mr_if c3 hm
    refine lv_iconst (v := 1) hx hb dX9_take_9 (by decide) ?_
    refine lv_goto (tgt := 14) hx hb dX9_take_10 (by decide) ?_
    exact j14 t_at t_fault t_place 1 _ _ ls hP hD hS (lv_sub hl [0] rfl) hm
set_option maxHeartbeats 4000000 in
set_option maxRecDepth 100000 in
theorem kX9_number (l : Launch) (htr : l.stackTraces = false) (dC : Nat → ClassId) (dI : Nat → Nat → Nat) (adK adV : Nat → Nat) (cI cB cJ cZ cQ : ClassId) (ob0 tq_bytes tq_kinds tq_firsts tq_numbers tq_sizes tq_inner tq_nexts tq_letters tq_sorts tq_names tq_wide tq_kids tq_many tq_fallback tq_kidShape tq_kidName tq_kidDefault tq_kidNext tq_finished tq_plain tq_told : Nat) (t_length : Int32) (t_at : Int32) (t_deep : Int32) (t_fault : Int32) (t_place : Int32) (t_end : Int32) (t_nodes : Int32) (t_lettered : Int32) (t_shapes : Int32) (t_looked : Int32) (t_kidCount : Int32) (t_done : Int32) (t_root : Int32) (t_plainSize : Int32) (t_bytes : Nat → Int32) (t_kinds : Nat → Int32) (t_firsts : Nat → Int32) (t_numbers : Nat → Int64) (t_sizes : Nat → Int32) (t_inner : Nat → Int32) (t_nexts : Nat → Int32) (sz : Nat) (res : Except (Int32 × Int32 × Int32 × Int32 × (Nat → Int32) × (Nat → Int32) × (Nat → Int64) × (Nat → Int32) × (Nat → Int32) × (Nat → Int32)) (Int32 × (Int32 × Int32 × Int32 × Int32 × (Nat → Int32) × (Nat → Int32) × (Nat → Int64) × (Nat → Int32) × (Nat → Int32) × (Nat → Int32)))) (hm : m_X9_number t_bytes t_length t_at t_fault t_place t_nodes t_kinds t_firsts t_numbers t_sizes t_inner t_nexts = some res) : t2_Met l yX9_number wsX9_number (rmX9_number (t2_mc res) (t2_ms res)) (pcW (sr_Z adK adV) (dC, dI) srCl [(cI, .int), (cB, .byte), (cJ, .long), (cZ, .boolean), (cQ, .object "SchemaReader$Schema")] [.ref ob0] [(ob0, .inr (0, [.ref tq_bytes, .int t_length, .int t_at, .int t_deep, .int t_fault, .int t_place, .int t_end, .int t_nodes, .ref tq_kinds, .ref tq_firsts, .ref tq_numbers, .ref tq_sizes, .ref tq_inner, .ref tq_nexts, .ref tq_letters, .int t_lettered, .int t_shapes, .int t_looked, .ref tq_sorts, .ref tq_names, .ref tq_wide, .ref tq_kids, .ref tq_many, .ref tq_fallback, .int t_kidCount, .ref tq_kidShape, .ref tq_kidName, .ref tq_kidDefault, .ref tq_kidNext, .int t_done, .ref tq_finished, .int t_root, .ref tq_plain, .int t_plainSize, .ref tq_told])), (tq_bytes, .inl (cB, 4096, .inl t_bytes)), (tq_kinds, .inl (cI, 4200, .inl t_kinds)), (tq_firsts, .inl (cI, 4200, .inl t_firsts)), (tq_numbers, .inl (cJ, 4200, .inr (.inl t_numbers))), (tq_sizes, .inl (cI, 4200, .inl t_sizes)), (tq_inner, .inl (cI, 4200, .inl t_inner)), (tq_nexts, .inl (cI, 4200, .inl t_nexts))] sz) (t2_Q t2_rI (pcB (dC, dI) srCl [(cI, .int), (cB, .byte), (cJ, .long), (cZ, .boolean), (cQ, .object "SchemaReader$Schema")] (fun u : Int32 × Int32 × Int32 × Int32 × (Nat → Int32) × (Nat → Int32) × (Nat → Int64) × (Nat → Int32) × (Nat → Int32) × (Nat → Int32) => [(ob0, .inr (0, [.ref tq_bytes, .int t_length, .int u.1, .int t_deep, .int u.2.1, .int u.2.2.1, .int t_end, .int u.2.2.2.1, .ref tq_kinds, .ref tq_firsts, .ref tq_numbers, .ref tq_sizes, .ref tq_inner, .ref tq_nexts, .ref tq_letters, .int t_lettered, .int t_shapes, .int t_looked, .ref tq_sorts, .ref tq_names, .ref tq_wide, .ref tq_kids, .ref tq_many, .ref tq_fallback, .int t_kidCount, .ref tq_kidShape, .ref tq_kidName, .ref tq_kidDefault, .ref tq_kidNext, .int t_done, .ref tq_finished, .int t_root, .ref tq_plain, .int t_plainSize, .ref tq_told])), (tq_bytes, .inl (cB, 4096, .inl t_bytes)), (tq_kinds, .inl (cI, 4200, .inl u.2.2.2.2.1)), (tq_firsts, .inl (cI, 4200, .inl u.2.2.2.2.2.1)), (tq_numbers, .inl (cJ, 4200, .inr (.inl u.2.2.2.2.2.2.1))), (tq_sizes, .inl (cI, 4200, .inl u.2.2.2.2.2.2.2.1)), (tq_inner, .inl (cI, 4200, .inl u.2.2.2.2.2.2.2.2.1)), (tq_nexts, .inl (cI, 4200, .inl u.2.2.2.2.2.2.2.2.2))]) (va_A [(ob0, .inr (0, [.ref tq_bytes, .int t_length, .int t_at, .int t_deep, .int t_fault, .int t_place, .int t_end, .int t_nodes, .ref tq_kinds, .ref tq_firsts, .ref tq_numbers, .ref tq_sizes, .ref tq_inner, .ref tq_nexts, .ref tq_letters, .int t_lettered, .int t_shapes, .int t_looked, .ref tq_sorts, .ref tq_names, .ref tq_wide, .ref tq_kids, .ref tq_many, .ref tq_fallback, .int t_kidCount, .ref tq_kidShape, .ref tq_kidName, .ref tq_kidDefault, .ref tq_kidNext, .int t_done, .ref tq_finished, .int t_root, .ref tq_plain, .int t_plainSize, .ref tq_told])), (tq_bytes, .inl (cB, 4096, .inl t_bytes)), (tq_kinds, .inl (cI, 4200, .inl t_kinds)), (tq_firsts, .inl (cI, 4200, .inl t_firsts)), (tq_numbers, .inl (cJ, 4200, .inr (.inl t_numbers))), (tq_sizes, .inl (cI, 4200, .inl t_sizes)), (tq_inner, .inl (cI, 4200, .inl t_inner)), (tq_nexts, .inl (cI, 4200, .inl t_nexts))] sz)) (va_A [(ob0, .inr (0, [.ref tq_bytes, .int t_length, .int t_at, .int t_deep, .int t_fault, .int t_place, .int t_end, .int t_nodes, .ref tq_kinds, .ref tq_firsts, .ref tq_numbers, .ref tq_sizes, .ref tq_inner, .ref tq_nexts, .ref tq_letters, .int t_lettered, .int t_shapes, .int t_looked, .ref tq_sorts, .ref tq_names, .ref tq_wide, .ref tq_kids, .ref tq_many, .ref tq_fallback, .int t_kidCount, .ref tq_kidShape, .ref tq_kidName, .ref tq_kidDefault, .ref tq_kidNext, .int t_done, .ref tq_finished, .int t_root, .ref tq_plain, .int t_plainSize, .ref tq_told])), (tq_bytes, .inl (cB, 4096, .inl t_bytes)), (tq_kinds, .inl (cI, 4200, .inl t_kinds)), (tq_firsts, .inl (cI, 4200, .inl t_firsts)), (tq_numbers, .inl (cJ, 4200, .inr (.inl t_numbers))), (tq_sizes, .inl (cI, 4200, .inl t_sizes)), (tq_inner, .inl (cI, 4200, .inl t_inner)), (tq_nexts, .inl (cI, 4200, .inl t_nexts))] sz) "java/lang/IllegalStateException" res) (t2_mc res) (t2_ms res) (va_A [(ob0, .inr (0, [.ref tq_bytes, .int t_length, .int t_at, .int t_deep, .int t_fault, .int t_place, .int t_end, .int t_nodes, .ref tq_kinds, .ref tq_firsts, .ref tq_numbers, .ref tq_sizes, .ref tq_inner, .ref tq_nexts, .ref tq_letters, .int t_lettered, .int t_shapes, .int t_looked, .ref tq_sorts, .ref tq_names, .ref tq_wide, .ref tq_kids, .ref tq_many, .ref tq_fallback, .int t_kidCount, .ref tq_kidShape, .ref tq_kidName, .ref tq_kidDefault, .ref tq_kidNext, .int t_done, .ref tq_finished, .int t_root, .ref tq_plain, .int t_plainSize, .ref tq_told])), (tq_bytes, .inl (cB, 4096, .inl t_bytes)), (tq_kinds, .inl (cI, 4200, .inl t_kinds)), (tq_firsts, .inl (cI, 4200, .inl t_firsts)), (tq_numbers, .inl (cJ, 4200, .inr (.inl t_numbers))), (tq_sizes, .inl (cI, 4200, .inl t_sizes)), (tq_inner, .inl (cI, 4200, .inl t_inner)), (tq_nexts, .inl (cI, 4200, .inl t_nexts))] sz) := by
  refine t2_ofW (cc := cX9_number) (maxL := 8) (ret := (some .int)) (by decide) rfl ?_
  intro p e s m args below meth c s₁ B hml hex had hv
  obtain ⟨rfl, hsz, hP, hK, hD0, hz0⟩ := hv
  have hx := B.exec
  have hb := B.bytes
  have hr := B.returns
  have hts := atoms_spec (ws := wsX9_number) B.pre
  have hown : s.vm.findClass RX9 = some m.cls := findClass_of_methodNamed B.named
  have hlocks := B.notSynchronized
  subst hsz
  have hD := hD0.self (sz := s.heap.size)
  generalize hAe : va_A [(ob0, .inr (0, [.ref tq_bytes, .int t_length, .int t_at, .int t_deep, .int t_fault, .int t_place, .int t_end, .int t_nodes, .ref tq_kinds, .ref tq_firsts, .ref tq_numbers, .ref tq_sizes, .ref tq_inner, .ref tq_nexts, .ref tq_letters, .int t_lettered, .int t_shapes, .int t_looked, .ref tq_sorts, .ref tq_names, .ref tq_wide, .ref tq_kids, .ref tq_many, .ref tq_fallback, .int t_kidCount, .ref tq_kidShape, .ref tq_kidName, .ref tq_kidDefault, .ref tq_kidNext, .int t_done, .ref tq_finished, .int t_root, .ref tq_plain, .int t_plainSize, .ref tq_told])), (tq_bytes, .inl (cB, 4096, .inl t_bytes)), (tq_kinds, .inl (cI, 4200, .inl t_kinds)), (tq_firsts, .inl (cI, 4200, .inl t_firsts)), (tq_numbers, .inl (cJ, 4200, .inr (.inl t_numbers))), (tq_sizes, .inl (cI, 4200, .inl t_sizes)), (tq_inner, .inl (cI, 4200, .inl t_inner)), (tq_nexts, .inl (cI, 4200, .inl t_nexts))] s.heap.size = A at hD hz0 ⊢
  have hA : ∀ q : Nat, s.heap.size ≤ q → A q := fun q h => by rw [← hAe]; exact Or.inr h
  have hS : va_S A s.heap s.heap [] := va_S.rf
  generalize hQ0 : t2_MQ below (t2_Q t2_rI (pcB (dC, dI) srCl [(cI, .int), (cB, .byte), (cJ, .long), (cZ, .boolean), (cQ, .object "SchemaReader$Schema")] (fun u : Int32 × Int32 × Int32 × Int32 × (Nat → Int32) × (Nat → Int32) × (Nat → Int64) × (Nat → Int32) × (Nat → Int32) × (Nat → Int32) => [(ob0, .inr (0, [.ref tq_bytes, .int t_length, .int u.1, .int t_deep, .int u.2.1, .int u.2.2.1, .int t_end, .int u.2.2.2.1, .ref tq_kinds, .ref tq_firsts, .ref tq_numbers, .ref tq_sizes, .ref tq_inner, .ref tq_nexts, .ref tq_letters, .int t_lettered, .int t_shapes, .int t_looked, .ref tq_sorts, .ref tq_names, .ref tq_wide, .ref tq_kids, .ref tq_many, .ref tq_fallback, .int t_kidCount, .ref tq_kidShape, .ref tq_kidName, .ref tq_kidDefault, .ref tq_kidNext, .int t_done, .ref tq_finished, .int t_root, .ref tq_plain, .int t_plainSize, .ref tq_told])), (tq_bytes, .inl (cB, 4096, .inl t_bytes)), (tq_kinds, .inl (cI, 4200, .inl u.2.2.2.2.1)), (tq_firsts, .inl (cI, 4200, .inl u.2.2.2.2.2.1)), (tq_numbers, .inl (cJ, 4200, .inr (.inl u.2.2.2.2.2.2.1))), (tq_sizes, .inl (cI, 4200, .inl u.2.2.2.2.2.2.2.1)), (tq_inner, .inl (cI, 4200, .inl u.2.2.2.2.2.2.2.2.1)), (tq_nexts, .inl (cI, 4200, .inl u.2.2.2.2.2.2.2.2.2))]) A) A "java/lang/IllegalStateException" res) [.ref ob0].toArray s (t2_mc res) (t2_ms res) A = Q0
  have hl := lv_entry [.ref ob0] (n := 8) (Nat.le_of_ble_eq_true rfl)
  rw [lg_entry_eq]
  generalize (lg_sl [.ref ob0] ++ List.replicate (8 - (lg_sl [.ref ob0]).length) Slot.unset).toArray = ls at hl ⊢
  have hl : lv_has ls 8 [(0, .ref ob0)] := hl
  unfold m_X9_number at hm
  refine lv_aload_n hx hb dX9_number_0 rfl (lv_at hl 0 rfl) ?_
  refine lv_iconst (v := 3) hx hb dX9_number_1 (by decide) ?_
  obtain ⟨⟨r1, t_nodes_1, t_kinds_1, t_firsts_1, t_numbers_1, t_sizes_1, t_inner_1, t_nexts_1⟩, hz1, hm⟩ := mr_bind hm
  try dsimp only at hm
  refine mr_wVi (As := [.int 3]) (rest := []) (sr_okZ adK adV) ⟨hx, hb, hml, hown, hts⟩ (kX9_node l htr dC dI adK adV cI cB cJ cZ cQ ob0 tq_bytes tq_kinds tq_firsts tq_numbers tq_sizes tq_inner tq_nexts tq_letters tq_sorts tq_names tq_wide tq_kids tq_many tq_fallback tq_kidShape tq_kidName tq_kidDefault tq_kidNext tq_finished tq_plain tq_told t_length t_at t_deep t_fault t_place t_end t_nodes t_lettered t_shapes t_looked t_kidCount t_done t_root t_plainSize t_kinds t_firsts t_numbers t_sizes t_inner t_nexts _ 3 _ hz1) (cwV 1 hts (g9_127 _) rfl rfl rfl (by decide +kernel) ⟨(by show 0 + 1 ≤ 10; omega), (by show 8 + (2 + 11) + (0) ≤ 165; omega)⟩) hS hA hP hD hK hz0 (wr := [(tq_bytes, .inl (cB, 4096, .inl t_bytes))]) (w1 := [(ob0, .inr (0, [.ref tq_bytes, .int t_length, .int t_at, .int t_deep, .int t_fault, .int t_place, .int t_end, .int t_nodes_1, .ref tq_kinds, .ref tq_firsts, .ref tq_numbers, .ref tq_sizes, .ref tq_inner, .ref tq_nexts, .ref tq_letters, .int t_lettered, .int t_shapes, .int t_looked, .ref tq_sorts, .ref tq_names, .ref tq_wide, .ref tq_kids, .ref tq_many, .ref tq_fallback, .int t_kidCount, .ref tq_kidShape, .ref tq_kidName, .ref tq_kidDefault, .ref tq_kidNext, .int t_done, .ref tq_finished, .int t_root, .ref tq_plain, .int t_plainSize, .ref tq_told])), (tq_bytes, .inl (cB, 4096, .inl t_bytes)), (tq_kinds, .inl (cI, 4200, .inl t_kinds_1)), (tq_firsts, .inl (cI, 4200, .inl t_firsts_1)), (tq_numbers, .inl (cJ, 4200, .inr (.inl t_numbers_1))), (tq_sizes, .inl (cI, 4200, .inl t_sizes_1)), (tq_inner, .inl (cI, 4200, .inl t_inner_1)), (tq_nexts, .inl (cI, 4200, .inl t_nexts_1))]) [0, 2, 3, 4, 5, 6, 7] [1] [1, 0, 2, 3, 4, 5, 6, 7] rfl rfl rfl rfl rfl (by decide) rfl rfl rfl (va_recv hK hP (ci := 0) (q0 := 0) rfl rfl) rfl rfl hl.1 (Nat.le_of_ble_eq_true rfl) dX9_number_2 ⟨Nat.zero_le _, Nat.zero_le _⟩ (fun H locs hP hD hS => ?_)
  refine lv_istore_n (lv' := [(1, .int r1), (0, .ref ob0)]) hx hb dX9_number_5 rfl hl (by decide) rfl (fun ls hl => ?_)
  refine lv_aload_n hx hb dX9_number_6 rfl (lv_at hl 1 rfl) ?_
  obtain ⟨r2, hz2, hm⟩ := mr_bind hm
  refine mr_pV (As := []) (rest := []) (sr_okZ adK adV) ⟨hx, hb, hml, hown, hts⟩ (kX9_look l htr dC dI adK adV cI cB cJ cZ cQ ob0 tq_bytes tq_kinds tq_firsts tq_numbers tq_sizes tq_inner tq_nexts tq_letters tq_sorts tq_names tq_wide tq_kids tq_many tq_fallback tq_kidShape tq_kidName tq_kidDefault tq_kidNext tq_finished tq_plain tq_told t_length t_at t_deep t_fault t_place t_end t_nodes_1 t_lettered t_shapes t_looked t_kidCount t_done t_root t_plainSize t_bytes r2 hz2) (cwV 0 hts (g9_101 _) rfl rfl rfl (by decide +kernel) ⟨(by show 0 + 1 ≤ 10; omega), (by show 8 + (1 + 11) + (0) ≤ 165; omega)⟩) hS hP hK hz0 [0, 1] rfl (va_recv hK hP (ci := 0) (q0 := 0) rfl rfl) rfl rfl hl.1 (Nat.le_of_ble_eq_true rfl) dX9_number_7 ⟨Nat.zero_le _, Nat.zero_le _⟩ ?_
  refine lv_bipush (v := 45) hx hb dX9_number_10 (by decide) ?_
  have j20 : ∀ (t_at : Int32) (t_fault : Int32) (t_place : Int32) (t_nodes : Int32) (t_kinds : Nat → Int32) (t_firsts : Nat → Int32) (t_numbers : Nat → Int64) (t_sizes : Nat → Int32) (t_inner : Nat → Int32) (t_nexts : Nat → Int32) (x1 : Int32) (y0 : Int32) (H : Heap) (locs : List Loc) (ls : Array Slot), va_P (dC, dI) srCl [(ob0, .inr (0, [.ref tq_bytes, .int t_length, .int t_at, .int t_deep, .int t_fault, .int t_place, .int t_end, .int t_nodes, .ref tq_kinds, .ref tq_firsts, .ref tq_numbers, .ref tq_sizes, .ref tq_inner, .ref tq_nexts, .ref tq_letters, .int t_lettered, .int t_shapes, .int t_looked, .ref tq_sorts, .ref tq_names, .ref tq_wide, .ref tq_kids, .ref tq_many, .ref tq_fallback, .int t_kidCount, .ref tq_kidShape, .ref tq_kidName, .ref tq_kidDefault, .ref tq_kidNext, .int t_done, .ref tq_finished, .int t_root, .ref tq_plain, .int t_plainSize, .ref tq_told])), (tq_bytes, .inl (cB, 4096, .inl t_bytes)), (tq_kinds, .inl (cI, 4200, .inl t_kinds)), (tq_firsts, .inl (cI, 4200, .inl t_firsts)), (tq_numbers, .inl (cJ, 4200, .inr (.inl t_numbers))), (tq_sizes, .inl (cI, 4200, .inl t_sizes)), (tq_inner, .inl (cI, 4200, .inl t_inner)), (tq_nexts, .inl (cI, 4200, .inl t_nexts))] H → va_D A [(ob0, .inr (0, [.ref tq_bytes, .int t_length, .int t_at, .int t_deep, .int t_fault, .int t_place, .int t_end, .int t_nodes, .ref tq_kinds, .ref tq_firsts, .ref tq_numbers, .ref tq_sizes, .ref tq_inner, .ref tq_nexts, .ref tq_letters, .int t_lettered, .int t_shapes, .int t_looked, .ref tq_sorts, .ref tq_names, .ref tq_wide, .ref tq_kids, .ref tq_many, .ref tq_fallback, .int t_kidCount, .ref tq_kidShape, .ref tq_kidName, .ref tq_kidDefault, .ref tq_kidNext, .int t_done, .ref tq_finished, .int t_root, .ref tq_plain, .int t_plainSize, .ref tq_told])), (tq_bytes, .inl (cB, 4096, .inl t_bytes)), (tq_kinds, .inl (cI, 4200, .inl t_kinds)), (tq_firsts, .inl (cI, 4200, .inl t_firsts)), (tq_numbers, .inl (cJ, 4200, .inr (.inl t_numbers))), (tq_sizes, .inl (cI, 4200, .inl t_sizes)), (tq_inner, .inl (cI, 4200, .inl t_inner)), (tq_nexts, .inl (cI, 4200, .inl t_nexts))] → va_S A s.heap H locs → lv_has ls 8 [(0, .ref ob0), (1, .int x1)] → m_X9_number_20 t_bytes t_length t_at t_fault t_place t_nodes t_kinds t_firsts t_numbers t_sizes t_inner t_nexts x1 y0 = some res → W p l e (headSpec wsX9_number (rmX9_number (t2_mc res) (t2_ms res))).room s m [.ref ob0].toArray below meth c H locs 0 0 Q0 (F0 m 20 ls [.int y0]) := by
    intro t_at t_fault t_place t_nodes t_kinds t_firsts t_numbers t_sizes t_inner t_nexts x1 y0 H locs ls hP hD hS hl hm
    unfold m_X9_number_20 at hm
    refine lv_istore_n (lv' := [(2, .int y0), (0, .ref ob0), (1, .int x1)]) hx hb dX9_number_20 rfl hl (by decide) rfl (fun ls hl => ?_)
    refine lv_aload_n hx hb dX9_number_21 rfl (lv_at hl 1 rfl) ?_
    refine lv_iload_n hx hb dX9_number_22 rfl (lv_at hl 0 rfl) ?_
    have j39 : ∀ (t_at : Int32) (t_fault : Int32) (t_place : Int32) (t_nodes : Int32) (t_kinds : Nat → Int32) (t_firsts : Nat → Int32) (t_numbers : Nat → Int64) (t_sizes : Nat → Int32) (t_inner : Nat → Int32) (t_nexts : Nat → Int32) (x1 : Int32) (x2 : Int32) (y0 : Int32) (H : Heap) (locs : List Loc) (ls : Array Slot), va_P (dC, dI) srCl [(ob0, .inr (0, [.ref tq_bytes, .int t_length, .int t_at, .int t_deep, .int t_fault, .int t_place, .int t_end, .int t_nodes, .ref tq_kinds, .ref tq_firsts, .ref tq_numbers, .ref tq_sizes, .ref tq_inner, .ref tq_nexts, .ref tq_letters, .int t_lettered, .int t_shapes, .int t_looked, .ref tq_sorts, .ref tq_names, .ref tq_wide, .ref tq_kids, .ref tq_many, .ref tq_fallback, .int t_kidCount, .ref tq_kidShape, .ref tq_kidName, .ref tq_kidDefault, .ref tq_kidNext, .int t_done, .ref tq_finished, .int t_root, .ref tq_plain, .int t_plainSize, .ref tq_told])), (tq_bytes, .inl (cB, 4096, .inl t_bytes)), (tq_kinds, .inl (cI, 4200, .inl t_kinds)), (tq_firsts, .inl (cI, 4200, .inl t_firsts)), (tq_numbers, .inl (cJ, 4200, .inr (.inl t_numbers))), (tq_sizes, .inl (cI, 4200, .inl t_sizes)), (tq_inner, .inl (cI, 4200, .inl t_inner)), (tq_nexts, .inl (cI, 4200, .inl t_nexts))] H → va_D A [(ob0, .inr (0, [.ref tq_bytes, .int t_length, .int t_at, .int t_deep, .int t_fault, .int t_place, .int t_end, .int t_nodes, .ref tq_kinds, .ref tq_firsts, .ref tq_numbers, .ref tq_sizes, .ref tq_inner, .ref tq_nexts, .ref tq_letters, .int t_lettered, .int t_shapes, .int t_looked, .ref tq_sorts, .ref tq_names, .ref tq_wide, .ref tq_kids, .ref tq_many, .ref tq_fallback, .int t_kidCount, .ref tq_kidShape, .ref tq_kidName, .ref tq_kidDefault, .ref tq_kidNext, .int t_done, .ref tq_finished, .int t_root, .ref tq_plain, .int t_plainSize, .ref tq_told])), (tq_bytes, .inl (cB, 4096, .inl t_bytes)), (tq_kinds, .inl (cI, 4200, .inl t_kinds)), (tq_firsts, .inl (cI, 4200, .inl t_firsts)), (tq_numbers, .inl (cJ, 4200, .inr (.inl t_numbers))), (tq_sizes, .inl (cI, 4200, .inl t_sizes)), (tq_inner, .inl (cI, 4200, .inl t_inner)), (tq_nexts, .inl (cI, 4200, .inl t_nexts))] → va_S A s.heap H locs → lv_has ls 8 [(0, .ref ob0), (1, .int x1), (2, .int x2)] → m_X9_number_39 t_bytes t_length t_at t_fault t_place t_nodes t_kinds t_firsts t_numbers t_sizes t_inner t_nexts x1 x2 y0 = some res → W p l e (headSpec wsX9_number (rmX9_number (t2_mc res) (t2_ms res))).room s m [.ref ob0].toArray below meth c H locs 0 0 Q0 (F0 m 39 ls [.int y0, .ref ob0]) := by
      intro t_at t_fault t_place t_nodes t_kinds t_firsts t_numbers t_sizes t_inner t_nexts x1 x2 y0 H locs ls hP hD hS hl hm
      unfold m_X9_number_39 at hm
      refine va_put (D := (dC, dI)) (ci := 0) (v := .int y0) (ty := .int) (C := RX9) (T := TX9) (N := 35) hx hb hts (inX9 _) tyX9 tyX9_ok nmX9 hown hK hP hD hS 0 rfl rfl 2 (by decide) (hts _ (List.mem_cons_of_mem _ wf9_95)) (fun _ h9 => h9) rfl (by decide +kernel) rfl rfl (Nat.le_of_ble_eq_true rfl) dX9_number_39 (fun H locs hP hD hS => ?_)
      have hP : va_P (dC, dI) srCl [(ob0, .inr (0, [.ref tq_bytes, .int t_length, .int y0, .int t_deep, .int t_fault, .int t_place, .int t_end, .int t_nodes, .ref tq_kinds, .ref tq_firsts, .ref tq_numbers, .ref tq_sizes, .ref tq_inner, .ref tq_nexts, .ref tq_letters, .int t_lettered, .int t_shapes, .int t_looked, .ref tq_sorts, .ref tq_names, .ref tq_wide, .ref tq_kids, .ref tq_many, .ref tq_fallback, .int t_kidCount, .ref tq_kidShape, .ref tq_kidName, .ref tq_kidDefault, .ref tq_kidNext, .int t_done, .ref tq_finished, .int t_root, .ref tq_plain, .int t_plainSize, .ref tq_told])), (tq_bytes, .inl (cB, 4096, .inl t_bytes)), (tq_kinds, .inl (cI, 4200, .inl t_kinds)), (tq_firsts, .inl (cI, 4200, .inl t_firsts)), (tq_numbers, .inl (cJ, 4200, .inr (.inl t_numbers))), (tq_sizes, .inl (cI, 4200, .inl t_sizes)), (tq_inner, .inl (cI, 4200, .inl t_inner)), (tq_nexts, .inl (cI, 4200, .inl t_nexts))] H := hP
      have hD : va_D A [(ob0, .inr (0, [.ref tq_bytes, .int t_length, .int y0, .int t_deep, .int t_fault, .int t_place, .int t_end, .int t_nodes, .ref tq_kinds, .ref tq_firsts, .ref tq_numbers, .ref tq_sizes, .ref tq_inner, .ref tq_nexts, .ref tq_letters, .int t_lettered, .int t_shapes, .int t_looked, .ref tq_sorts, .ref tq_names, .ref tq_wide, .ref tq_kids, .ref tq_many, .ref tq_fallback, .int t_kidCount, .ref tq_kidShape, .ref tq_kidName, .ref tq_kidDefault, .ref tq_kidNext, .int t_done, .ref tq_finished, .int t_root, .ref tq_plain, .int t_plainSize, .ref tq_told])), (tq_bytes, .inl (cB, 4096, .inl t_bytes)), (tq_kinds, .inl (cI, 4200, .inl t_kinds)), (tq_firsts, .inl (cI, 4200, .inl t_firsts)), (tq_numbers, .inl (cJ, 4200, .inr (.inl t_numbers))), (tq_sizes, .inl (cI, 4200, .inl t_sizes)), (tq_inner, .inl (cI, 4200, .inl t_inner)), (tq_nexts, .inl (cI, 4200, .inl t_nexts))] := hD
      refine lv_aload_n hx hb dX9_number_42 rfl (lv_at hl 0 rfl) ?_
      refine lv_aload_n hx hb dX9_number_43 rfl (lv_at hl 0 rfl) ?_
      obtain ⟨r3, hz3, hm⟩ := mr_bind hm
      refine mr_pV (As := []) (rest := [.ref ob0]) (sr_okZ adK adV) ⟨hx, hb, hml, hown, hts⟩ (kX9_look l htr dC dI adK adV cI cB cJ cZ cQ ob0 tq_bytes tq_kinds tq_firsts tq_numbers tq_sizes tq_inner tq_nexts tq_letters tq_sorts tq_names tq_wide tq_kids tq_many tq_fallback tq_kidShape tq_kidName tq_kidDefault tq_kidNext tq_finished tq_plain tq_told t_length y0 t_deep t_fault t_place t_end t_nodes t_lettered t_shapes t_looked t_kidCount t_done t_root t_plainSize t_bytes r3 hz3) (cwV 0 hts (g9_101 _) rfl rfl rfl (by decide +kernel) ⟨(by show 0 + 1 ≤ 10; omega), (by show 8 + (1 + 11) + (0) ≤ 165; omega)⟩) hS hP hK hz0 [0, 1] rfl (va_recv hK hP (ci := 0) (q0 := 0) rfl rfl) rfl rfl hl.1 (Nat.le_of_ble_eq_true rfl) dX9_number_44 ⟨Nat.zero_le _, Nat.zero_le _⟩ ?_
      refine lv_bipush (v := 48) hx hb dX9_number_47 (by decide) ?_
      have j66 : ∀ (t_at : Int32) (t_fault : Int32) (t_place : Int32) (t_nodes : Int32) (t_kinds : Nat → Int32) (t_firsts : Nat → Int32) (t_numbers : Nat → Int64) (t_sizes : Nat → Int32) (t_inner : Nat → Int32) (t_nexts : Nat → Int32) (x1 : Int32) (x2 : Int32) (y0 : Int32) (H : Heap) (locs : List Loc) (ls : Array Slot), va_P (dC, dI) srCl [(ob0, .inr (0, [.ref tq_bytes, .int t_length, .int t_at, .int t_deep, .int t_fault, .int t_place, .int t_end, .int t_nodes, .ref tq_kinds, .ref tq_firsts, .ref tq_numbers, .ref tq_sizes, .ref tq_inner, .ref tq_nexts, .ref tq_letters, .int t_lettered, .int t_shapes, .int t_looked, .ref tq_sorts, .ref tq_names, .ref tq_wide, .ref tq_kids, .ref tq_many, .ref tq_fallback, .int t_kidCount, .ref tq_kidShape, .ref tq_kidName, .ref tq_kidDefault, .ref tq_kidNext, .int t_done, .ref tq_finished, .int t_root, .ref tq_plain, .int t_plainSize, .ref tq_told])), (tq_bytes, .inl (cB, 4096, .inl t_bytes)), (tq_kinds, .inl (cI, 4200, .inl t_kinds)), (tq_firsts, .inl (cI, 4200, .inl t_firsts)), (tq_numbers, .inl (cJ, 4200, .inr (.inl t_numbers))), (tq_sizes, .inl (cI, 4200, .inl t_sizes)), (tq_inner, .inl (cI, 4200, .inl t_inner)), (tq_nexts, .inl (cI, 4200, .inl t_nexts))] H → va_D A [(ob0, .inr (0, [.ref tq_bytes, .int t_length, .int t_at, .int t_deep, .int t_fault, .int t_place, .int t_end, .int t_nodes, .ref tq_kinds, .ref tq_firsts, .ref tq_numbers, .ref tq_sizes, .ref tq_inner, .ref tq_nexts, .ref tq_letters, .int t_lettered, .int t_shapes, .int t_looked, .ref tq_sorts, .ref tq_names, .ref tq_wide, .ref tq_kids, .ref tq_many, .ref tq_fallback, .int t_kidCount, .ref tq_kidShape, .ref tq_kidName, .ref tq_kidDefault, .ref tq_kidNext, .int t_done, .ref tq_finished, .int t_root, .ref tq_plain, .int t_plainSize, .ref tq_told])), (tq_bytes, .inl (cB, 4096, .inl t_bytes)), (tq_kinds, .inl (cI, 4200, .inl t_kinds)), (tq_firsts, .inl (cI, 4200, .inl t_firsts)), (tq_numbers, .inl (cJ, 4200, .inr (.inl t_numbers))), (tq_sizes, .inl (cI, 4200, .inl t_sizes)), (tq_inner, .inl (cI, 4200, .inl t_inner)), (tq_nexts, .inl (cI, 4200, .inl t_nexts))] → va_S A s.heap H locs → lv_has ls 8 [(0, .ref ob0), (1, .int x1), (2, .int x2)] → m_X9_number_66 t_bytes t_length t_at t_fault t_place t_nodes t_kinds t_firsts t_numbers t_sizes t_inner t_nexts x1 x2 y0 = some res → W p l e (headSpec wsX9_number (rmX9_number (t2_mc res) (t2_ms res))).room s m [.ref ob0].toArray below meth c H locs 0 0 Q0 (F0 m 66 ls [.int y0, .ref ob0]) := by
        intro t_at t_fault t_place t_nodes t_kinds t_firsts t_numbers t_sizes t_inner t_nexts x1 x2 y0 H locs ls hP hD hS hl hm
        unfold m_X9_number_66 at hm
        refine lv_iconst (v := 1) hx hb dX9_number_66 (by decide) ?_
        refine lv_aload_n hx hb dX9_number_67 rfl (lv_at hl 0 rfl) ?_
        refine va_get (D := (dC, dI)) (ci := 0) (v := .int t_at) (C := RX9) (T := TX9) (N := 35) hx hb hts (inX9 _) hown hK hP 0 rfl rfl 2 (by decide) (hts _ (List.mem_cons_of_mem _ wf9_95)) (fun _ h9 => h9) rfl dX9_number_68 ?_
        rcases mr_tried hm with ⟨r4, ⟨t_fault_4, t_place_4⟩, hz4, hm⟩ | ⟨⟨t_fault_4, t_place_4⟩, hz4, hm⟩
        · try dsimp only at hm
          refine mr_wVv (As := [.int y0, .int 1, .int t_at]) (rest := []) (sr_okZ adK adV) ⟨hx, hb, hml, hown, hts⟩ (t2_okV (kX9_need l htr dC dI adK adV cI cB cJ cZ cQ ob0 tq_bytes tq_kinds tq_firsts tq_numbers tq_sizes tq_inner tq_nexts tq_letters tq_sorts tq_names tq_wide tq_kids tq_many tq_fallback tq_kidShape tq_kidName tq_kidDefault tq_kidNext tq_finished tq_plain tq_told t_length t_at t_deep t_fault t_place t_end t_nodes t_lettered t_shapes t_looked t_kidCount t_done t_root t_plainSize _ y0 1 t_at _ hz4)) (cwV 3 hts (g9_105 _) rfl rfl rfl (by decide +kernel) ⟨(by show 9 + 1 ≤ 10; omega), (by show 8 + (4 + 11) + (142) ≤ 165; omega)⟩) hS hA hP hD hK hz0 (wr := [(tq_bytes, .inl (cB, 4096, .inl t_bytes)), (tq_kinds, .inl (cI, 4200, .inl t_kinds)), (tq_firsts, .inl (cI, 4200, .inl t_firsts)), (tq_numbers, .inl (cJ, 4200, .inr (.inl t_numbers))), (tq_sizes, .inl (cI, 4200, .inl t_sizes)), (tq_inner, .inl (cI, 4200, .inl t_inner)), (tq_nexts, .inl (cI, 4200, .inl t_nexts))]) (w1 := [(ob0, .inr (0, [.ref tq_bytes, .int t_length, .int t_at, .int t_deep, .int t_fault_4, .int t_place_4, .int t_end, .int t_nodes, .ref tq_kinds, .ref tq_firsts, .ref tq_numbers, .ref tq_sizes, .ref tq_inner, .ref tq_nexts, .ref tq_letters, .int t_lettered, .int t_shapes, .int t_looked, .ref tq_sorts, .ref tq_names, .ref tq_wide, .ref tq_kids, .ref tq_many, .ref tq_fallback, .int t_kidCount, .ref tq_kidShape, .ref tq_kidName, .ref tq_kidDefault, .ref tq_kidNext, .int t_done, .ref tq_finished, .int t_root, .ref tq_plain, .int t_plainSize, .ref tq_told])), (tq_bytes, .inl (cB, 4096, .inl t_bytes)), (tq_kinds, .inl (cI, 4200, .inl t_kinds)), (tq_firsts, .inl (cI, 4200, .inl t_firsts)), (tq_numbers, .inl (cJ, 4200, .inr (.inl t_numbers))), (tq_sizes, .inl (cI, 4200, .inl t_sizes)), (tq_inner, .inl (cI, 4200, .inl t_inner)), (tq_nexts, .inl (cI, 4200, .inl t_nexts))]) [0] [1, 2, 3, 4, 5, 6, 7] [7, 0, 1, 2, 3, 4, 5, 6] rfl rfl rfl rfl rfl (by decide) rfl rfl rfl (va_recv hK hP (ci := 0) (q0 := 0) rfl rfl) rfl rfl hl.1 (Nat.le_of_ble_eq_true rfl) dX9_number_71 ⟨Nat.zero_le _, Nat.zero_le _⟩ (fun H locs hP hD hS => ?_)
          refine lv_aload_n hx hb dX9_number_74 rfl (lv_at hl 0 rfl) ?_
          obtain ⟨r5, hz5, hm⟩ := mr_bind hm
          refine mr_pV (As := []) (rest := []) (sr_okZ adK adV) ⟨hx, hb, hml, hown, hts⟩ (kX9_look l htr dC dI adK adV cI cB cJ cZ cQ ob0 tq_bytes tq_kinds tq_firsts tq_numbers tq_sizes tq_inner tq_nexts tq_letters tq_sorts tq_names tq_wide tq_kids tq_many tq_fallback tq_kidShape tq_kidName tq_kidDefault tq_kidNext tq_finished tq_plain tq_told t_length t_at t_deep t_fault_4 t_place_4 t_end t_nodes t_lettered t_shapes t_looked t_kidCount t_done t_root t_plainSize t_bytes r5 hz5) (cwV 0 hts (g9_101 _) rfl rfl rfl (by decide +kernel) ⟨(by show 0 + 1 ≤ 10; omega), (by show 8 + (1 + 11) + (0) ≤ 165; omega)⟩) hS hP hK hz0 [0, 1] rfl (va_recv hK hP (ci := 0) (q0 := 0) rfl rfl) rfl rfl hl.1 (Nat.le_of_ble_eq_true rfl) dX9_number_75 ⟨Nat.zero_le _, Nat.zero_le _⟩ ?_
          refine lv_bipush (v := 48) hx hb dX9_number_78 (by decide) ?_
          have j88 : ∀ (t_at : Int32) (t_fault : Int32) (t_place : Int32) (t_nodes : Int32) (t_kinds : Nat → Int32) (t_firsts : Nat → Int32) (t_numbers : Nat → Int64) (t_sizes : Nat → Int32) (t_inner : Nat → Int32) (t_nexts : Nat → Int32) (x1 : Int32) (x2 : Int32) (y0 : Int32) (H : Heap) (locs : List Loc) (ls : Array Slot), va_P (dC, dI) srCl [(ob0, .inr (0, [.ref tq_bytes, .int t_length, .int t_at, .int t_deep, .int t_fault, .int t_place, .int t_end, .int t_nodes, .ref tq_kinds, .ref tq_firsts, .ref tq_numbers, .ref tq_sizes, .ref tq_inner, .ref tq_nexts, .ref tq_letters, .int t_lettered, .int t_shapes, .int t_looked, .ref tq_sorts, .ref tq_names, .ref tq_wide, .ref tq_kids, .ref tq_many, .ref tq_fallback, .int t_kidCount, .ref tq_kidShape, .ref tq_kidName, .ref tq_kidDefault, .ref tq_kidNext, .int t_done, .ref tq_finished, .int t_root, .ref tq_plain, .int t_plainSize, .ref tq_told])), (tq_bytes, .inl (cB, 4096, .inl t_bytes)), (tq_kinds, .inl (cI, 4200, .inl t_kinds)), (tq_firsts, .inl (cI, 4200, .inl t_firsts)), (tq_numbers, .inl (cJ, 4200, .inr (.inl t_numbers))), (tq_sizes, .inl (cI, 4200, .inl t_sizes)), (tq_inner, .inl (cI, 4200, .inl t_inner)), (tq_nexts, .inl (cI, 4200, .inl t_nexts))] H → va_D A [(ob0, .inr (0, [.ref tq_bytes, .int t_length, .int t_at, .int t_deep, .int t_fault, .int t_place, .int t_end, .int t_nodes, .ref tq_kinds, .ref tq_firsts, .ref tq_numbers, .ref tq_sizes, .ref tq_inner, .ref tq_nexts, .ref tq_letters, .int t_lettered, .int t_shapes, .int t_looked, .ref tq_sorts, .ref tq_names, .ref tq_wide, .ref tq_kids, .ref tq_many, .ref tq_fallback, .int t_kidCount, .ref tq_kidShape, .ref tq_kidName, .ref tq_kidDefault, .ref tq_kidNext, .int t_done, .ref tq_finished, .int t_root, .ref tq_plain, .int t_plainSize, .ref tq_told])), (tq_bytes, .inl (cB, 4096, .inl t_bytes)), (tq_kinds, .inl (cI, 4200, .inl t_kinds)), (tq_firsts, .inl (cI, 4200, .inl t_firsts)), (tq_numbers, .inl (cJ, 4200, .inr (.inl t_numbers))), (tq_sizes, .inl (cI, 4200, .inl t_sizes)), (tq_inner, .inl (cI, 4200, .inl t_inner)), (tq_nexts, .inl (cI, 4200, .inl t_nexts))] → va_S A s.heap H locs → lv_has ls 8 [(0, .ref ob0), (1, .int x1), (2, .int x2)] → m_X9_number_88 t_bytes t_length t_at t_fault t_place t_nodes t_kinds t_firsts t_numbers t_sizes t_inner t_nexts x1 x2 y0 = some res → W p l e (headSpec wsX9_number (rmX9_number (t2_mc res) (t2_ms res))).room s m [.ref ob0].toArray below meth c H locs 0 0 Q0 (F0 m 88 ls [.int y0]) := by
            intro t_at t_fault t_place t_nodes t_kinds t_firsts t_numbers t_sizes t_inner t_nexts x1 x2 y0 H locs ls hP hD hS hl hm
            unfold m_X9_number_88 at hm
            refine lv_istore_n (lv' := [(3, .int y0), (0, .ref ob0), (1, .int x1), (2, .int x2)]) hx hb dX9_number_88 rfl hl (by decide) rfl (fun ls hl => ?_)
            refine lv_iconst (v := 1) hx hb dX9_number_89 (by decide) ?_
            refine lv_istore (lv' := [(4, .int 1), (3, .int y0), (0, .ref ob0), (1, .int x1), (2, .int x2)]) hx hb dX9_number_90 hl (by decide) rfl (fun ls hl => ?_)
            refine lv_lconst (v := 0) hx hb dX9_number_92 (by decide) ?_
            have j95 : ∀ (n95 : Nat) (t_at : Int32) (t_fault : Int32) (t_place : Int32) (t_nodes : Int32) (t_kinds : Nat → Int32) (t_firsts : Nat → Int32) (t_numbers : Nat → Int64) (t_sizes : Nat → Int32) (t_inner : Nat → Int32) (t_nexts : Nat → Int32) (x1 : Int32) (x2 : Int32) (x3 : Int32) (x4 : Int32) (x5 : Int64) (H : Heap) (locs : List Loc) (ls : Array Slot), va_P (dC, dI) srCl [(ob0, .inr (0, [.ref tq_bytes, .int t_length, .int t_at, .int t_deep, .int t_fault, .int t_place, .int t_end, .int t_nodes, .ref tq_kinds, .ref tq_firsts, .ref tq_numbers, .ref tq_sizes, .ref tq_inner, .ref tq_nexts, .ref tq_letters, .int t_lettered, .int t_shapes, .int t_looked, .ref tq_sorts, .ref tq_names, .ref tq_wide, .ref tq_kids, .ref tq_many, .ref tq_fallback, .int t_kidCount, .ref tq_kidShape, .ref tq_kidName, .ref tq_kidDefault, .ref tq_kidNext, .int t_done, .ref tq_finished, .int t_root, .ref tq_plain, .int t_plainSize, .ref tq_told])), (tq_bytes, .inl (cB, 4096, .inl t_bytes)), (tq_kinds, .inl (cI, 4200, .inl t_kinds)), (tq_firsts, .inl (cI, 4200, .inl t_firsts)), (tq_numbers, .inl (cJ, 4200, .inr (.inl t_numbers))), (tq_sizes, .inl (cI, 4200, .inl t_sizes)), (tq_inner, .inl (cI, 4200, .inl t_inner)), (tq_nexts, .inl (cI, 4200, .inl t_nexts))] H → va_D A [(ob0, .inr (0, [.ref tq_bytes, .int t_length, .int t_at, .int t_deep, .int t_fault, .int t_place, .int t_end, .int t_nodes, .ref tq_kinds, .ref tq_firsts, .ref tq_numbers, .ref tq_sizes, .ref tq_inner, .ref tq_nexts, .ref tq_letters, .int t_lettered, .int t_shapes, .int t_looked, .ref tq_sorts, .ref tq_names, .ref tq_wide, .ref tq_kids, .ref tq_many, .ref tq_fallback, .int t_kidCount, .ref tq_kidShape, .ref tq_kidName, .ref tq_kidDefault, .ref tq_kidNext, .int t_done, .ref tq_finished, .int t_root, .ref tq_plain, .int t_plainSize, .ref tq_told])), (tq_bytes, .inl (cB, 4096, .inl t_bytes)), (tq_kinds, .inl (cI, 4200, .inl t_kinds)), (tq_firsts, .inl (cI, 4200, .inl t_firsts)), (tq_numbers, .inl (cJ, 4200, .inr (.inl t_numbers))), (tq_sizes, .inl (cI, 4200, .inl t_sizes)), (tq_inner, .inl (cI, 4200, .inl t_inner)), (tq_nexts, .inl (cI, 4200, .inl t_nexts))] → va_S A s.heap H locs → lv_has ls 8 [(0, .ref ob0), (1, .int x1), (2, .int x2), (3, .int x3), (4, .int x4), (5, .long x5)] → m_X9_number_95 t_bytes t_length n95 t_at t_fault t_place t_nodes t_kinds t_firsts t_numbers t_sizes t_inner t_nexts x1 x2 x3 x4 x5 = some res → W p l e (headSpec wsX9_number (rmX9_number (t2_mc res) (t2_ms res))).room s m [.ref ob0].toArray below meth c H locs 0 0 Q0 (F0 m 95 ls []) := by
              intro n95
              induction n95 with
              | zero => intro t_at t_fault t_place t_nodes t_kinds t_firsts t_numbers t_sizes t_inner t_nexts x1 x2 x3 x4 x5 H locs ls hP hD hS hl hm; exact nomatch (show (none : Option _) = some res from hm)
              | succ n95 ih95 =>
                intro t_at t_fault t_place t_nodes t_kinds t_firsts t_numbers t_sizes t_inner t_nexts x1 x2 x3 x4 x5 H locs ls hP hD hS hl hm
                rw [m_X9_number_95] at hm
                refine lv_aload_n hx hb dX9_number_95 rfl (lv_at hl 0 rfl) ?_
                obtain ⟨r6, hz6, hm⟩ := mr_bind hm
                refine mr_pV (As := []) (rest := []) (sr_okZ adK adV) ⟨hx, hb, hml, hown, hts⟩ (kX9_look l htr dC dI adK adV cI cB cJ cZ cQ ob0 tq_bytes tq_kinds tq_firsts tq_numbers tq_sizes tq_inner tq_nexts tq_letters tq_sorts tq_names tq_wide tq_kids tq_many tq_fallback tq_kidShape tq_kidName tq_kidDefault tq_kidNext tq_finished tq_plain tq_told t_length t_at t_deep t_fault t_place t_end t_nodes t_lettered t_shapes t_looked t_kidCount t_done t_root t_plainSize t_bytes r6 hz6) (cwV 0 hts (g9_101 _) rfl rfl rfl (by decide +kernel) ⟨(by show 0 + 1 ≤ 10; omega), (by show 8 + (1 + 11) + (0) ≤ 165; omega)⟩) hS hP hK hz0 [0, 1] rfl (va_recv hK hP (ci := 0) (q0 := 0) rfl rfl) rfl rfl hl.1 (Nat.le_of_ble_eq_true rfl) dX9_number_96 ⟨Nat.zero_le _, Nat.zero_le _⟩ ?_
                refine lv_bipush (v := 48) hx hb dX9_number_99 (by decide) ?_
                have j243 : ∀ (t_at : Int32) (t_fault : Int32) (t_place : Int32) (t_nodes : Int32) (t_kinds : Nat → Int32) (t_firsts : Nat → Int32) (t_numbers : Nat → Int64) (t_sizes : Nat → Int32) (t_inner : Nat → Int32) (t_nexts : Nat → Int32) (x1 : Int32) (x2 : Int32) (x4 : Int32) (x5 : Int64) (H : Heap) (locs : List Loc) (ls : Array Slot), va_P (dC, dI) srCl [(ob0, .inr (0, [.ref tq_bytes, .int t_length, .int t_at, .int t_deep, .int t_fault, .int t_place, .int t_end, .int t_nodes, .ref tq_kinds, .ref tq_firsts, .ref tq_numbers, .ref tq_sizes, .ref tq_inner, .ref tq_nexts, .ref tq_letters, .int t_lettered, .int t_shapes, .int t_looked, .ref tq_sorts, .ref tq_names, .ref tq_wide, .ref tq_kids, .ref tq_many, .ref tq_fallback, .int t_kidCount, .ref tq_kidShape, .ref tq_kidName, .ref tq_kidDefault, .ref tq_kidNext, .int t_done, .ref tq_finished, .int t_root, .ref tq_plain, .int t_plainSize, .ref tq_told])), (tq_bytes, .inl (cB, 4096, .inl t_bytes)), (tq_kinds, .inl (cI, 4200, .inl t_kinds)), (tq_firsts, .inl (cI, 4200, .inl t_firsts)), (tq_numbers, .inl (cJ, 4200, .inr (.inl t_numbers))), (tq_sizes, .inl (cI, 4200, .inl t_sizes)), (tq_inner, .inl (cI, 4200, .inl t_inner)), (tq_nexts, .inl (cI, 4200, .inl t_nexts))] H → va_D A [(ob0, .inr (0, [.ref tq_bytes, .int t_length, .int t_at, .int t_deep, .int t_fault, .int t_place, .int t_end, .int t_nodes, .ref tq_kinds, .ref tq_firsts, .ref tq_numbers, .ref tq_sizes, .ref tq_inner, .ref tq_nexts, .ref tq_letters, .int t_lettered, .int t_shapes, .int t_looked, .ref tq_sorts, .ref tq_names, .ref tq_wide, .ref tq_kids, .ref tq_many, .ref tq_fallback, .int t_kidCount, .ref tq_kidShape, .ref tq_kidName, .ref tq_kidDefault, .ref tq_kidNext, .int t_done, .ref tq_finished, .int t_root, .ref tq_plain, .int t_plainSize, .ref tq_told])), (tq_bytes, .inl (cB, 4096, .inl t_bytes)), (tq_kinds, .inl (cI, 4200, .inl t_kinds)), (tq_firsts, .inl (cI, 4200, .inl t_firsts)), (tq_numbers, .inl (cJ, 4200, .inr (.inl t_numbers))), (tq_sizes, .inl (cI, 4200, .inl t_sizes)), (tq_inner, .inl (cI, 4200, .inl t_inner)), (tq_nexts, .inl (cI, 4200, .inl t_nexts))] → va_S A s.heap H locs → lv_has ls 8 [(0, .ref ob0), (1, .int x1), (2, .int x2), (4, .int x4), (5, .long x5)] → m_X9_number_243 t_bytes t_length t_at t_fault t_place t_nodes t_kinds t_firsts t_numbers t_sizes t_inner t_nexts x1 x2 x4 x5 = some res → W p l e (headSpec wsX9_number (rmX9_number (t2_mc res) (t2_ms res))).room s m [.ref ob0].toArray below meth c H locs 0 0 Q0 (F0 m 243 ls []) := by
                  intro t_at t_fault t_place t_nodes t_kinds t_firsts t_numbers t_sizes t_inner t_nexts x1 x2 x4 x5 H locs ls hP hD hS hl hm
                  unfold m_X9_number_243 at hm
                  refine lv_aload_n hx hb dX9_number_243 rfl (lv_at hl 0 rfl) ?_
                  refine lv_iload hx hb dX9_number_244 (lv_at hl 3 rfl) ?_
                  refine lv_iconst (v := 1) hx hb dX9_number_246 (by decide) ?_
                  refine lv_aload_n hx hb dX9_number_247 rfl (lv_at hl 0 rfl) ?_
                  refine va_get (D := (dC, dI)) (ci := 0) (v := .ref tq_firsts) (C := RX9) (T := TX9) (N := 35) hx hb hts (inX9 _) hown hK hP 0 rfl rfl 9 (by decide) (hts _ (List.mem_cons_of_mem _ wf9_19)) (fun _ h9 => h9) rfl dX9_number_248 ?_
                  refine lv_iload_n hx hb dX9_number_251 rfl (lv_at hl 1 rfl) ?_
                  obtain ⟨h7, hm⟩ := mr_bd hm
                  refine va_iald hx hb hK hP 3 0 rfl rfl h7 dX9_number_252 ?_
                  rcases mr_tried hm with ⟨r8, ⟨t_fault_8, t_place_8⟩, hz8, hm⟩ | ⟨⟨t_fault_8, t_place_8⟩, hz8, hm⟩
                  · try dsimp only at hm
                    refine mr_wVv (As := [.int x4, .int 1, .int (t_firsts (x1 : Int32).toNatClampNeg)]) (rest := []) (sr_okZ adK adV) ⟨hx, hb, hml, hown, hts⟩ (t2_okV (kX9_need l htr dC dI adK adV cI cB cJ cZ cQ ob0 tq_bytes tq_kinds tq_firsts tq_numbers tq_sizes tq_inner tq_nexts tq_letters tq_sorts tq_names tq_wide tq_kids tq_many tq_fallback tq_kidShape tq_kidName tq_kidDefault tq_kidNext tq_finished tq_plain tq_told t_length t_at t_deep t_fault t_place t_end t_nodes t_lettered t_shapes t_looked t_kidCount t_done t_root t_plainSize _ x4 1 (t_firsts (x1 : Int32).toNatClampNeg) _ hz8)) (cwV 3 hts (g9_105 _) rfl rfl rfl (by decide +kernel) ⟨(by show 9 + 1 ≤ 10; omega), (by show 8 + (4 + 11) + (142) ≤ 165; omega)⟩) hS hA hP hD hK hz0 (wr := [(tq_bytes, .inl (cB, 4096, .inl t_bytes)), (tq_kinds, .inl (cI, 4200, .inl t_kinds)), (tq_firsts, .inl (cI, 4200, .inl t_firsts)), (tq_numbers, .inl (cJ, 4200, .inr (.inl t_numbers))), (tq_sizes, .inl (cI, 4200, .inl t_sizes)), (tq_inner, .inl (cI, 4200, .inl t_inner)), (tq_nexts, .inl (cI, 4200, .inl t_nexts))]) (w1 := [(ob0, .inr (0, [.ref tq_bytes, .int t_length, .int t_at, .int t_deep, .int t_fault_8, .int t_place_8, .int t_end, .int t_nodes, .ref tq_kinds, .ref tq_firsts, .ref tq_numbers, .ref tq_sizes, .ref tq_inner, .ref tq_nexts, .ref tq_letters, .int t_lettered, .int t_shapes, .int t_looked, .ref tq_sorts, .ref tq_names, .ref tq_wide, .ref tq_kids, .ref tq_many, .ref tq_fallback, .int t_kidCount, .ref tq_kidShape, .ref tq_kidName, .ref tq_kidDefault, .ref tq_kidNext, .int t_done, .ref tq_finished, .int t_root, .ref tq_plain, .int t_plainSize, .ref tq_told])), (tq_bytes, .inl (cB, 4096, .inl t_bytes)), (tq_kinds, .inl (cI, 4200, .inl t_kinds)), (tq_firsts, .inl (cI, 4200, .inl t_firsts)), (tq_numbers, .inl (cJ, 4200, .inr (.inl t_numbers))), (tq_sizes, .inl (cI, 4200, .inl t_sizes)), (tq_inner, .inl (cI, 4200, .inl t_inner)), (tq_nexts, .inl (cI, 4200, .inl t_nexts))]) [0] [1, 2, 3, 4, 5, 6, 7] [7, 0, 1, 2, 3, 4, 5, 6] rfl rfl rfl rfl rfl (by decide) rfl rfl rfl (va_recv hK hP (ci := 0) (q0 := 0) rfl rfl) rfl rfl hl.1 (Nat.le_of_ble_eq_true rfl) dX9_number_253 ⟨Nat.zero_le _, Nat.zero_le _⟩ (fun H locs hP hD hS => ?_)
                    refine lv_aload_n hx hb dX9_number_256 rfl (lv_at hl 0 rfl) ?_
                    refine va_get (D := (dC, dI)) (ci := 0) (v := .ref tq_numbers) (C := RX9) (T := TX9) (N := 35) hx hb hts (inX9 _) hown hK hP 0 rfl rfl 10 (by decide) (hts _ (List.mem_cons_of_mem _ wf9_22)) (fun _ h9 => h9) rfl dX9_number_257 ?_
                    refine lv_iload_n hx hb dX9_number_260 rfl (lv_at hl 1 rfl) ?_
                    refine lv_iload_n hx hb dX9_number_261 rfl (lv_at hl 2 rfl) ?_
                    refine lv_if_eq (tgt := 270) hx hb dX9_number_262 (by decide) (fun c9 => ?_) (fun c9 => ?_)
                    · have hm := mr_if c9 hm
                      refine lv_lload hx hb dX9_number_270 (lv_at hl 4 rfl) ?_
                      refine lv_lneg hx hb dX9_number_272 ?_
                      obtain ⟨h10, hm⟩ := mr_bd hm
                      refine va_last hx hb hK hP hD hS 4 2 rfl rfl h10 dX9_number_273 (fun H locs hP hD hS => ?_)
                      have hP : va_P (dC, dI) srCl [(ob0, .inr (0, [.ref tq_bytes, .int t_length, .int t_at, .int t_deep, .int t_fault_8, .int t_place_8, .int t_end, .int t_nodes, .ref tq_kinds, .ref tq_firsts, .ref tq_numbers, .ref tq_sizes, .ref tq_inner, .ref tq_nexts, .ref tq_letters, .int t_lettered, .int t_shapes, .int t_looked, .ref tq_sorts, .ref tq_names, .ref tq_wide, .ref tq_kids, .ref tq_many, .ref tq_fallback, .int t_kidCount, .ref tq_kidShape, .ref tq_kidName, .ref tq_kidDefault, .ref tq_kidNext, .int t_done, .ref tq_finished, .int t_root, .ref tq_plain, .int t_plainSize, .ref tq_told])), (tq_bytes, .inl (cB, 4096, .inl t_bytes)), (tq_kinds, .inl (cI, 4200, .inl t_kinds)), (tq_firsts, .inl (cI, 4200, .inl t_firsts)), (tq_numbers, .inl (cJ, 4200, .inr (.inl (vp_updL t_numbers (x1 : Int32).toNatClampNeg (-x5))))), (tq_sizes, .inl (cI, 4200, .inl t_sizes)), (tq_inner, .inl (cI, 4200, .inl t_inner)), (tq_nexts, .inl (cI, 4200, .inl t_nexts))] H := hP
                      have hD : va_D A [(ob0, .inr (0, [.ref tq_bytes, .int t_length, .int t_at, .int t_deep, .int t_fault_8, .int t_place_8, .int t_end, .int t_nodes, .ref tq_kinds, .ref tq_firsts, .ref tq_numbers, .ref tq_sizes, .ref tq_inner, .ref tq_nexts, .ref tq_letters, .int t_lettered, .int t_shapes, .int t_looked, .ref tq_sorts, .ref tq_names, .ref tq_wide, .ref tq_kids, .ref tq_many, .ref tq_fallback, .int t_kidCount, .ref tq_kidShape, .ref tq_kidName, .ref tq_kidDefault, .ref tq_kidNext, .int t_done, .ref tq_finished, .int t_root, .ref tq_plain, .int t_plainSize, .ref tq_told])), (tq_bytes, .inl (cB, 4096, .inl t_bytes)), (tq_kinds, .inl (cI, 4200, .inl t_kinds)), (tq_firsts, .inl (cI, 4200, .inl t_firsts)), (tq_numbers, .inl (cJ, 4200, .inr (.inl (vp_updL t_numbers (x1 : Int32).toNatClampNeg (-x5))))), (tq_sizes, .inl (cI, 4200, .inl t_sizes)), (tq_inner, .inl (cI, 4200, .inl t_inner)), (tq_nexts, .inl (cI, 4200, .inl t_nexts))] := hD
                      refine lv_iload_n hx hb dX9_number_274 rfl (lv_at hl 1 rfl) ?_
                      obtain rfl := Option.some.inj hm
                      subst hQ0
                      exact t2_iret (v := x1) hx hb hr (fun t ht hW => ⟨⟨rfl, by rw [ht]; exact hP, va_K.moved hW.alike hK, hD⟩, hS.F ht⟩) hS.2.2 dX9_number_275 hlocks
                    · have hm := mr_un c9 hm
                      refine lv_lload hx hb dX9_number_265 (lv_at hl 4 rfl) ?_
                      refine lv_goto (tgt := 273) hx hb dX9_number_267 (by decide) ?_
                      obtain ⟨h11, hm⟩ := mr_bd hm
                      refine va_last hx hb hK hP hD hS 4 2 rfl rfl h11 dX9_number_273 (fun H locs hP hD hS => ?_)
                      have hP : va_P (dC, dI) srCl [(ob0, .inr (0, [.ref tq_bytes, .int t_length, .int t_at, .int t_deep, .int t_fault_8, .int t_place_8, .int t_end, .int t_nodes, .ref tq_kinds, .ref tq_firsts, .ref tq_numbers, .ref tq_sizes, .ref tq_inner, .ref tq_nexts, .ref tq_letters, .int t_lettered, .int t_shapes, .int t_looked, .ref tq_sorts, .ref tq_names, .ref tq_wide, .ref tq_kids, .ref tq_many, .ref tq_fallback, .int t_kidCount, .ref tq_kidShape, .ref tq_kidName, .ref tq_kidDefault, .ref tq_kidNext, .int t_done, .ref tq_finished, .int t_root, .ref tq_plain, .int t_plainSize, .ref tq_told])), (tq_bytes, .inl (cB, 4096, .inl t_bytes)), (tq_kinds, .inl (cI, 4200, .inl t_kinds)), (tq_firsts, .inl (cI, 4200, .inl t_firsts)), (tq_numbers, .inl (cJ, 4200, .inr (.inl (vp_updL t_numbers (x1 : Int32).toNatClampNeg x5)))), (tq_sizes, .inl (cI, 4200, .inl t_sizes)), (tq_inner, .inl (cI, 4200, .inl t_inner)), (tq_nexts, .inl (cI, 4200, .inl t_nexts))] H := hP
                      have hD : va_D A [(ob0, .inr (0, [.ref tq_bytes, .int t_length, .int t_at, .int t_deep, .int t_fault_8, .int t_place_8, .int t_end, .int t_nodes, .ref tq_kinds, .ref tq_firsts, .ref tq_numbers, .ref tq_sizes, .ref tq_inner, .ref tq_nexts, .ref tq_letters, .int t_lettered, .int t_shapes, .int t_looked, .ref tq_sorts, .ref tq_names, .ref tq_wide, .ref tq_kids, .ref tq_many, .ref tq_fallback, .int t_kidCount, .ref tq_kidShape, .ref tq_kidName, .ref tq_kidDefault, .ref tq_kidNext, .int t_done, .ref tq_finished, .int t_root, .ref tq_plain, .int t_plainSize, .ref tq_told])), (tq_bytes, .inl (cB, 4096, .inl t_bytes)), (tq_kinds, .inl (cI, 4200, .inl t_kinds)), (tq_firsts, .inl (cI, 4200, .inl t_firsts)), (tq_numbers, .inl (cJ, 4200, .inr (.inl (vp_updL t_numbers (x1 : Int32).toNatClampNeg x5)))), (tq_sizes, .inl (cI, 4200, .inl t_sizes)), (tq_inner, .inl (cI, 4200, .inl t_inner)), (tq_nexts, .inl (cI, 4200, .inl t_nexts))] := hD
                      refine lv_iload_n hx hb dX9_number_274 rfl (lv_at hl 1 rfl) ?_
                      obtain rfl := Option.some.inj hm
                      subst hQ0
                      exact t2_iret (v := x1) hx hb hr (fun t ht hW => ⟨⟨rfl, by rw [ht]; exact hP, va_K.moved hW.alike hK, hD⟩, hS.F ht⟩) hS.2.2 dX9_number_275 hlocks
                  · try dsimp only at hm
                    subst hm
                    subst hQ0
                    exact mr_xV (R := (headSpec wsX9_number (rmX9_number (t2_mc (.error (t_at, t_fault_8, t_place_8, t_nodes, t_kinds, t_firsts, t_numbers, t_sizes, t_inner, t_nexts) : Except (Int32 × Int32 × Int32 × Int32 × (Nat → Int32) × (Nat → Int32) × (Nat → Int64) × (Nat → Int32) × (Nat → Int32) × (Nat → Int32)) (Int32 × (Int32 × Int32 × Int32 × Int32 × (Nat → Int32) × (Nat → Int32) × (Nat → Int64) × (Nat → Int32) × (Nat → Int32) × (Nat → Int32))))) (t2_ms (.error (t_at, t_fault_8, t_place_8, t_nodes, t_kinds, t_firsts, t_numbers, t_sizes, t_inner, t_nexts) : Except (Int32 × Int32 × Int32 × Int32 × (Nat → Int32) × (Nat → Int32) × (Nat → Int64) × (Nat → Int32) × (Nat → Int32) × (Nat → Int32)) (Int32 × (Int32 × Int32 × Int32 × Int32 × (Nat → Int32) × (Nat → Int32) × (Nat → Int64) × (Nat → Int32) × (Nat → Int32) × (Nat → Int32))))))).room) (cells := 0) (slots := 0) (As := [.int x4, .int 1, .int (t_firsts (x1 : Int32).toNatClampNeg)]) (rest := []) (wf' := (fun u : Int32 × Int32 × Int32 × Int32 × (Nat → Int32) × (Nat → Int32) × (Nat → Int64) × (Nat → Int32) × (Nat → Int32) × (Nat → Int32) => [(ob0, .inr (0, [.ref tq_bytes, .int t_length, .int u.1, .int t_deep, .int u.2.1, .int u.2.2.1, .int t_end, .int u.2.2.2.1, .ref tq_kinds, .ref tq_firsts, .ref tq_numbers, .ref tq_sizes, .ref tq_inner, .ref tq_nexts, .ref tq_letters, .int t_lettered, .int t_shapes, .int t_looked, .ref tq_sorts, .ref tq_names, .ref tq_wide, .ref tq_kids, .ref tq_many, .ref tq_fallback, .int t_kidCount, .ref tq_kidShape, .ref tq_kidName, .ref tq_kidDefault, .ref tq_kidNext, .int t_done, .ref tq_finished, .int t_root, .ref tq_plain, .int t_plainSize, .ref tq_told])), (tq_bytes, .inl (cB, 4096, .inl t_bytes)), (tq_kinds, .inl (cI, 4200, .inl u.2.2.2.2.1)), (tq_firsts, .inl (cI, 4200, .inl u.2.2.2.2.2.1)), (tq_numbers, .inl (cJ, 4200, .inr (.inl u.2.2.2.2.2.2.1))), (tq_sizes, .inl (cI, 4200, .inl u.2.2.2.2.2.2.2.1)), (tq_inner, .inl (cI, 4200, .inl u.2.2.2.2.2.2.2.2.1)), (tq_nexts, .inl (cI, 4200, .inl u.2.2.2.2.2.2.2.2.2))])) (u' := (t_at, t_fault_8, t_place_8, t_nodes, t_kinds, t_firsts, t_numbers, t_sizes, t_inner, t_nexts)) (sr_okZ adK adV) ⟨hx, hb, hml, hown, hts⟩ (kX9_need l htr dC dI adK adV cI cB cJ cZ cQ ob0 tq_bytes tq_kinds tq_firsts tq_numbers tq_sizes tq_inner tq_nexts tq_letters tq_sorts tq_names tq_wide tq_kids tq_many tq_fallback tq_kidShape tq_kidName tq_kidDefault tq_kidNext tq_finished tq_plain tq_told t_length t_at t_deep t_fault t_place t_end t_nodes t_lettered t_shapes t_looked t_kidCount t_done t_root t_plainSize _ x4 1 (t_firsts (x1 : Int32).toNatClampNeg) _ hz8) (cwV 3 hts (g9_105 _) rfl rfl rfl (by decide +kernel) ⟨(by show 9 + 1 ≤ 10; omega), (by show 8 + (4 + 11) + (142) ≤ 165; omega)⟩) hS hA hP hD hK hz0 (wr := [(tq_bytes, .inl (cB, 4096, .inl t_bytes)), (tq_kinds, .inl (cI, 4200, .inl t_kinds)), (tq_firsts, .inl (cI, 4200, .inl t_firsts)), (tq_numbers, .inl (cJ, 4200, .inr (.inl t_numbers))), (tq_sizes, .inl (cI, 4200, .inl t_sizes)), (tq_inner, .inl (cI, 4200, .inl t_inner)), (tq_nexts, .inl (cI, 4200, .inl t_nexts))]) [0] [1, 2, 3, 4, 5, 6, 7] [7, 0, 1, 2, 3, 4, 5, 6] rfl rfl rfl rfl rfl (by decide) rfl rfl rfl (va_recv hK hP (ci := 0) (q0 := 0) rfl rfl) rfl rfl hl.1 (Nat.le_of_ble_eq_true rfl) dX9_number_253 rfl rfl ⟨Nat.le_refl _, Nat.le_refl _⟩ hex hlocks
                refine lv_icmp_lt (tgt := 243) hx hb dX9_number_101 (by decide) (fun c12 => ?_) (fun c12 => ?_)
                · have hm := mr_if c12 hm
                  exact j243 t_at t_fault t_place t_nodes t_kinds t_firsts t_numbers t_sizes t_inner t_nexts x1 x2 x4 x5 _ _ ls hP hD hS (lv_sub hl [0, 1, 2, 4, 5] rfl) hm
                · have hm := mr_un c12 hm
                  refine lv_aload_n hx hb dX9_number_104 rfl (lv_at hl 0 rfl) ?_
                  obtain ⟨r13, hz13, hm⟩ := mr_bind hm
                  refine mr_pV (As := []) (rest := []) (sr_okZ adK adV) ⟨hx, hb, hml, hown, hts⟩ (kX9_look l htr dC dI adK adV cI cB cJ cZ cQ ob0 tq_bytes tq_kinds tq_firsts tq_numbers tq_sizes tq_inner tq_nexts tq_letters tq_sorts tq_names tq_wide tq_kids tq_many tq_fallback tq_kidShape tq_kidName tq_kidDefault tq_kidNext tq_finished tq_plain tq_told t_length t_at t_deep t_fault t_place t_end t_nodes t_lettered t_shapes t_looked t_kidCount t_done t_root t_plainSize t_bytes r13 hz13) (cwV 0 hts (g9_101 _) rfl rfl rfl (by decide +kernel) ⟨(by show 0 + 1 ≤ 10; omega), (by show 8 + (1 + 11) + (0) ≤ 165; omega)⟩) hS hP hK hz0 [0, 1] rfl (va_recv hK hP (ci := 0) (q0 := 0) rfl rfl) rfl rfl hl.1 (Nat.le_of_ble_eq_true rfl) dX9_number_105 ⟨Nat.zero_le _, Nat.zero_le _⟩ ?_
                  refine lv_bipush (v := 57) hx hb dX9_number_108 (by decide) ?_
                  refine lv_icmp_gt (tgt := 243) hx hb dX9_number_110 (by decide) (fun c14 => ?_) (fun c14 => ?_)
                  · have hm := mr_if c14 hm
                    exact j243 t_at t_fault t_place t_nodes t_kinds t_firsts t_numbers t_sizes t_inner t_nexts x1 x2 x4 x5 _ _ ls hP hD hS (lv_sub hl [0, 1, 2, 4, 5] rfl) hm
                  · have hm := mr_un c14 hm
                    refine lv_iload_n hx hb dX9_number_113 rfl (lv_at hl 3 rfl) ?_
                    have j143 : ∀ (t_at : Int32) (t_fault : Int32) (t_place : Int32) (t_nodes : Int32) (t_kinds : Nat → Int32) (t_firsts : Nat → Int32) (t_numbers : Nat → Int64) (t_sizes : Nat → Int32) (t_inner : Nat → Int32) (t_nexts : Nat → Int32) (x1 : Int32) (x2 : Int32) (x3 : Int32) (x4 : Int32) (x5 : Int64) (H : Heap) (locs : List Loc) (ls : Array Slot), va_P (dC, dI) srCl [(ob0, .inr (0, [.ref tq_bytes, .int t_length, .int t_at, .int t_deep, .int t_fault, .int t_place, .int t_end, .int t_nodes, .ref tq_kinds, .ref tq_firsts, .ref tq_numbers, .ref tq_sizes, .ref tq_inner, .ref tq_nexts, .ref tq_letters, .int t_lettered, .int t_shapes, .int t_looked, .ref tq_sorts, .ref tq_names, .ref tq_wide, .ref tq_kids, .ref tq_many, .ref tq_fallback, .int t_kidCount, .ref tq_kidShape, .ref tq_kidName, .ref tq_kidDefault, .ref tq_kidNext, .int t_done, .ref tq_finished, .int t_root, .ref tq_plain, .int t_plainSize, .ref tq_told])), (tq_bytes, .inl (cB, 4096, .inl t_bytes)), (tq_kinds, .inl (cI, 4200, .inl t_kinds)), (tq_firsts, .inl (cI, 4200, .inl t_firsts)), (tq_numbers, .inl (cJ, 4200, .inr (.inl t_numbers))), (tq_sizes, .inl (cI, 4200, .inl t_sizes)), (tq_inner, .inl (cI, 4200, .inl t_inner)), (tq_nexts, .inl (cI, 4200, .inl t_nexts))] H → va_D A [(ob0, .inr (0, [.ref tq_bytes, .int t_length, .int t_at, .int t_deep, .int t_fault, .int t_place, .int t_end, .int t_nodes, .ref tq_kinds, .ref tq_firsts, .ref tq_numbers, .ref tq_sizes, .ref tq_inner, .ref tq_nexts, .ref tq_letters, .int t_lettered, .int t_shapes, .int t_looked, .ref tq_sorts, .ref tq_names, .ref tq_wide, .ref tq_kids, .ref tq_many, .ref tq_fallback, .int t_kidCount, .ref tq_kidShape, .ref tq_kidName, .ref tq_kidDefault, .ref tq_kidNext, .int t_done, .ref tq_finished, .int t_root, .ref tq_plain, .int t_plainSize, .ref tq_told])), (tq_bytes, .inl (cB, 4096, .inl t_bytes)), (tq_kinds, .inl (cI, 4200, .inl t_kinds)), (tq_firsts, .inl (cI, 4200, .inl t_firsts)), (tq_numbers, .inl (cJ, 4200, .inr (.inl t_numbers))), (tq_sizes, .inl (cI, 4200, .inl t_sizes)), (tq_inner, .inl (cI, 4200, .inl t_inner)), (tq_nexts, .inl (cI, 4200, .inl t_nexts))] → va_S A s.heap H locs → lv_has ls 8 [(0, .ref ob0), (1, .int x1), (2, .int x2), (3, .int x3), (4, .int x4), (5, .long x5)] → m_X9_number_143 t_bytes t_length (m_X9_number_95 t_bytes t_length n95) t_at t_fault t_place t_nodes t_kinds t_firsts t_numbers t_sizes t_inner t_nexts x1 x2 x3 x4 x5 = some res → W p l e (headSpec wsX9_number (rmX9_number (t2_mc res) (t2_ms res))).room s m [.ref ob0].toArray below meth c H locs 0 0 Q0 (F0 m 143 ls []) := by
                      intro t_at t_fault t_place t_nodes t_kinds t_firsts t_numbers t_sizes t_inner t_nexts x1 x2 x3 x4 x5 H locs ls hP hD hS hl hm
                      unfold m_X9_number_143 at hm
                      refine lv_aload_n hx hb dX9_number_143 rfl (lv_at hl 0 rfl) ?_
                      obtain ⟨r15, hz15, hm⟩ := mr_bind hm
                      refine mr_pV (As := []) (rest := []) (sr_okZ adK adV) ⟨hx, hb, hml, hown, hts⟩ (kX9_look l htr dC dI adK adV cI cB cJ cZ cQ ob0 tq_bytes tq_kinds tq_firsts tq_numbers tq_sizes tq_inner tq_nexts tq_letters tq_sorts tq_names tq_wide tq_kids tq_many tq_fallback tq_kidShape tq_kidName tq_kidDefault tq_kidNext tq_finished tq_plain tq_told t_length t_at t_deep t_fault t_place t_end t_nodes t_lettered t_shapes t_looked t_kidCount t_done t_root t_plainSize t_bytes r15 hz15) (cwV 0 hts (g9_101 _) rfl rfl rfl (by decide +kernel) ⟨(by show 0 + 1 ≤ 10; omega), (by show 8 + (1 + 11) + (0) ≤ 165; omega)⟩) hS hP hK hz0 [0, 1] rfl (va_recv hK hP (ci := 0) (q0 := 0) rfl rfl) rfl rfl hl.1 (Nat.le_of_ble_eq_true rfl) dX9_number_144 ⟨Nat.zero_le _, Nat.zero_le _⟩ ?_
                      refine lv_bipush (v := 48) hx hb dX9_number_147 (by decide) ?_
                      refine lv_isub hx hb dX9_number_149 ?_
                      refine lv_istore (lv' := [(7, .int (r15 - 48)), (0, .ref ob0), (1, .int x1), (2, .int x2), (3, .int x3), (4, .int x4), (5, .long x5)]) hx hb dX9_number_150 hl (by decide) rfl (fun ls hl => ?_)
                      refine lv_iload hx hb dX9_number_152 (lv_at hl 5 rfl) ?_
                      have j196 : ∀ (t_at : Int32) (t_fault : Int32) (t_place : Int32) (t_nodes : Int32) (t_kinds : Nat → Int32) (t_firsts : Nat → Int32) (t_numbers : Nat → Int64) (t_sizes : Nat → Int32) (t_inner : Nat → Int32) (t_nexts : Nat → Int32) (x1 : Int32) (x2 : Int32) (x3 : Int32) (x5 : Int64) (x7 : Int32) (y0 : Int32) (H : Heap) (locs : List Loc) (ls : Array Slot), va_P (dC, dI) srCl [(ob0, .inr (0, [.ref tq_bytes, .int t_length, .int t_at, .int t_deep, .int t_fault, .int t_place, .int t_end, .int t_nodes, .ref tq_kinds, .ref tq_firsts, .ref tq_numbers, .ref tq_sizes, .ref tq_inner, .ref tq_nexts, .ref tq_letters, .int t_lettered, .int t_shapes, .int t_looked, .ref tq_sorts, .ref tq_names, .ref tq_wide, .ref tq_kids, .ref tq_many, .ref tq_fallback, .int t_kidCount, .ref tq_kidShape, .ref tq_kidName, .ref tq_kidDefault, .ref tq_kidNext, .int t_done, .ref tq_finished, .int t_root, .ref tq_plain, .int t_plainSize, .ref tq_told])), (tq_bytes, .inl (cB, 4096, .inl t_bytes)), (tq_kinds, .inl (cI, 4200, .inl t_kinds)), (tq_firsts, .inl (cI, 4200, .inl t_firsts)), (tq_numbers, .inl (cJ, 4200, .inr (.inl t_numbers))), (tq_sizes, .inl (cI, 4200, .inl t_sizes)), (tq_inner, .inl (cI, 4200, .inl t_inner)), (tq_nexts, .inl (cI, 4200, .inl t_nexts))] H → va_D A [(ob0, .inr (0, [.ref tq_bytes, .int t_length, .int t_at, .int t_deep, .int t_fault, .int t_place, .int t_end, .int t_nodes, .ref tq_kinds, .ref tq_firsts, .ref tq_numbers, .ref tq_sizes, .ref tq_inner, .ref tq_nexts, .ref tq_letters, .int t_lettered, .int t_shapes, .int t_looked, .ref tq_sorts, .ref tq_names, .ref tq_wide, .ref tq_kids, .ref tq_many, .ref tq_fallback, .int t_kidCount, .ref tq_kidShape, .ref tq_kidName, .ref tq_kidDefault, .ref tq_kidNext, .int t_done, .ref tq_finished, .int t_root, .ref tq_plain, .int t_plainSize, .ref tq_told])), (tq_bytes, .inl (cB, 4096, .inl t_bytes)), (tq_kinds, .inl (cI, 4200, .inl t_kinds)), (tq_firsts, .inl (cI, 4200, .inl t_firsts)), (tq_numbers, .inl (cJ, 4200, .inr (.inl t_numbers))), (tq_sizes, .inl (cI, 4200, .inl t_sizes)), (tq_inner, .inl (cI, 4200, .inl t_inner)), (tq_nexts, .inl (cI, 4200, .inl t_nexts))] → va_S A s.heap H locs → lv_has ls 8 [(0, .ref ob0), (1, .int x1), (2, .int x2), (3, .int x3), (5, .long x5), (7, .int x7)] → m_X9_number_196 t_bytes t_length (m_X9_number_95 t_bytes t_length n95) t_at t_fault t_place t_nodes t_kinds t_firsts t_numbers t_sizes t_inner t_nexts x1 x2 x3 x5 x7 y0 = some res → W p l e (headSpec wsX9_number (rmX9_number (t2_mc res) (t2_ms res))).room s m [.ref ob0].toArray below meth c H locs 0 0 Q0 (F0 m 196 ls [.int y0]) := by
                        intro t_at t_fault t_place t_nodes t_kinds t_firsts t_numbers t_sizes t_inner t_nexts x1 x2 x3 x5 x7 y0 H locs ls hP hD hS hl hm
                        unfold m_X9_number_196 at hm
                        refine lv_istore (lv' := [(4, .int y0), (0, .ref ob0), (1, .int x1), (2, .int x2), (3, .int x3), (5, .long x5), (7, .int x7)]) hx hb dX9_number_196 hl (by decide) rfl (fun ls hl => ?_)
                        refine lv_iload hx hb dX9_number_198 (lv_at hl 0 rfl) ?_
                        have j218 : ∀ (t_at : Int32) (t_fault : Int32) (t_place : Int32) (t_nodes : Int32) (t_kinds : Nat → Int32) (t_firsts : Nat → Int32) (t_numbers : Nat → Int64) (t_sizes : Nat → Int32) (t_inner : Nat → Int32) (t_nexts : Nat → Int32) (x1 : Int32) (x2 : Int32) (x3 : Int32) (x4 : Int32) (y0 : Int64) (H : Heap) (locs : List Loc) (ls : Array Slot), va_P (dC, dI) srCl [(ob0, .inr (0, [.ref tq_bytes, .int t_length, .int t_at, .int t_deep, .int t_fault, .int t_place, .int t_end, .int t_nodes, .ref tq_kinds, .ref tq_firsts, .ref tq_numbers, .ref tq_sizes, .ref tq_inner, .ref tq_nexts, .ref tq_letters, .int t_lettered, .int t_shapes, .int t_looked, .ref tq_sorts, .ref tq_names, .ref tq_wide, .ref tq_kids, .ref tq_many, .ref tq_fallback, .int t_kidCount, .ref tq_kidShape, .ref tq_kidName, .ref tq_kidDefault, .ref tq_kidNext, .int t_done, .ref tq_finished, .int t_root, .ref tq_plain, .int t_plainSize, .ref tq_told])), (tq_bytes, .inl (cB, 4096, .inl t_bytes)), (tq_kinds, .inl (cI, 4200, .inl t_kinds)), (tq_firsts, .inl (cI, 4200, .inl t_firsts)), (tq_numbers, .inl (cJ, 4200, .inr (.inl t_numbers))), (tq_sizes, .inl (cI, 4200, .inl t_sizes)), (tq_inner, .inl (cI, 4200, .inl t_inner)), (tq_nexts, .inl (cI, 4200, .inl t_nexts))] H → va_D A [(ob0, .inr (0, [.ref tq_bytes, .int t_length, .int t_at, .int t_deep, .int t_fault, .int t_place, .int t_end, .int t_nodes, .ref tq_kinds, .ref tq_firsts, .ref tq_numbers, .ref tq_sizes, .ref tq_inner, .ref tq_nexts, .ref tq_letters, .int t_lettered, .int t_shapes, .int t_looked, .ref tq_sorts, .ref tq_names, .ref tq_wide, .ref tq_kids, .ref tq_many, .ref tq_fallback, .int t_kidCount, .ref tq_kidShape, .ref tq_kidName, .ref tq_kidDefault, .ref tq_kidNext, .int t_done, .ref tq_finished, .int t_root, .ref tq_plain, .int t_plainSize, .ref tq_told])), (tq_bytes, .inl (cB, 4096, .inl t_bytes)), (tq_kinds, .inl (cI, 4200, .inl t_kinds)), (tq_firsts, .inl (cI, 4200, .inl t_firsts)), (tq_numbers, .inl (cJ, 4200, .inr (.inl t_numbers))), (tq_sizes, .inl (cI, 4200, .inl t_sizes)), (tq_inner, .inl (cI, 4200, .inl t_inner)), (tq_nexts, .inl (cI, 4200, .inl t_nexts))] → va_S A s.heap H locs → lv_has ls 8 [(0, .ref ob0), (1, .int x1), (2, .int x2), (3, .int x3), (4, .int x4)] → m_X9_number_218 t_bytes t_length (m_X9_number_95 t_bytes t_length n95) t_at t_fault t_place t_nodes t_kinds t_firsts t_numbers t_sizes t_inner t_nexts x1 x2 x3 x4 y0 = some res → W p l e (headSpec wsX9_number (rmX9_number (t2_mc res) (t2_ms res))).room s m [.ref ob0].toArray below meth c H locs 0 0 Q0 (F0 m 218 ls [.long y0]) := by
                          intro t_at t_fault t_place t_nodes t_kinds t_firsts t_numbers t_sizes t_inner t_nexts x1 x2 x3 x4 y0 H locs ls hP hD hS hl hm
                          unfold m_X9_number_218 at hm
                          refine lv_lstore (lv' := [(5, .long y0), (0, .ref ob0), (1, .int x1), (2, .int x2), (3, .int x3), (4, .int x4)]) hx hb dX9_number_218 hl (by decide) rfl (fun ls hl => ?_)
                          refine lv_aload_n hx hb dX9_number_220 rfl (lv_at hl 1 rfl) ?_
                          refine va_get (D := (dC, dI)) (ci := 0) (v := .ref tq_sizes) (C := RX9) (T := TX9) (N := 35) hx hb hts (inX9 _) hown hK hP 0 rfl rfl 11 (by decide) (hts _ (List.mem_cons_of_mem _ wf9_26)) (fun _ h9 => h9) rfl dX9_number_221 ?_
                          refine lv_iload_n hx hb dX9_number_224 rfl (lv_at hl 2 rfl) ?_
                          refine lv_dup2_11 hx hb dX9_number_225 rfl rfl ?_
                          obtain ⟨h16, hm⟩ := mr_bd hm
                          refine va_iald hx hb hK hP 5 0 rfl rfl h16 dX9_number_226 ?_
                          refine lv_iconst (v := 1) hx hb dX9_number_227 (by decide) ?_
                          refine lv_iadd hx hb dX9_number_228 ?_
                          obtain ⟨h17, hm⟩ := mr_bd hm
                          refine va_iast hx hb hK hP hD hS 5 0 rfl rfl h17 dX9_number_229 (fun H locs hP hD hS => ?_)
                          have hP : va_P (dC, dI) srCl [(ob0, .inr (0, [.ref tq_bytes, .int t_length, .int t_at, .int t_deep, .int t_fault, .int t_place, .int t_end, .int t_nodes, .ref tq_kinds, .ref tq_firsts, .ref tq_numbers, .ref tq_sizes, .ref tq_inner, .ref tq_nexts, .ref tq_letters, .int t_lettered, .int t_shapes, .int t_looked, .ref tq_sorts, .ref tq_names, .ref tq_wide, .ref tq_kids, .ref tq_many, .ref tq_fallback, .int t_kidCount, .ref tq_kidShape, .ref tq_kidName, .ref tq_kidDefault, .ref tq_kidNext, .int t_done, .ref tq_finished, .int t_root, .ref tq_plain, .int t_plainSize, .ref tq_told])), (tq_bytes, .inl (cB, 4096, .inl t_bytes)), (tq_kinds, .inl (cI, 4200, .inl t_kinds)), (tq_firsts, .inl (cI, 4200, .inl t_firsts)), (tq_numbers, .inl (cJ, 4200, .inr (.inl t_numbers))), (tq_sizes, .inl (cI, 4200, .inl (upd t_sizes (x1 : Int32).toNatClampNeg ((t_sizes (x1 : Int32).toNatClampNeg) + 1)))), (tq_inner, .inl (cI, 4200, .inl t_inner)), (tq_nexts, .inl (cI, 4200, .inl t_nexts))] H := hP
                          have hD : va_D A [(ob0, .inr (0, [.ref tq_bytes, .int t_length, .int t_at, .int t_deep, .int t_fault, .int t_place, .int t_end, .int t_nodes, .ref tq_kinds, .ref tq_firsts, .ref tq_numbers, .ref tq_sizes, .ref tq_inner, .ref tq_nexts, .ref tq_letters, .int t_lettered, .int t_shapes, .int t_looked, .ref tq_sorts, .ref tq_names, .ref tq_wide, .ref tq_kids, .ref tq_many, .ref tq_fallback, .int t_kidCount, .ref tq_kidShape, .ref tq_kidName, .ref tq_kidDefault, .ref tq_kidNext, .int t_done, .ref tq_finished, .int t_root, .ref tq_plain, .int t_plainSize, .ref tq_told])), (tq_bytes, .inl (cB, 4096, .inl t_bytes)), (tq_kinds, .inl (cI, 4200, .inl t_kinds)), (tq_firsts, .inl (cI, 4200, .inl t_firsts)), (tq_numbers, .inl (cJ, 4200, .inr (.inl t_numbers))), (tq_sizes, .inl (cI, 4200, .inl (upd t_sizes (x1 : Int32).toNatClampNeg ((t_sizes (x1 : Int32).toNatClampNeg) + 1)))), (tq_inner, .inl (cI, 4200, .inl t_inner)), (tq_nexts, .inl (cI, 4200, .inl t_nexts))] := hD
                          refine lv_aload_n hx hb dX9_number_230 rfl (lv_at hl 1 rfl) ?_
                          refine lv_dup hx hb dX9_number_231 rfl ?_
                          refine va_get (D := (dC, dI)) (ci := 0) (v := .int t_at) (C := RX9) (T := TX9) (N := 35) hx hb hts (inX9 _) hown hK hP 0 rfl rfl 2 (by decide) (hts _ (List.mem_cons_of_mem _ wf9_95)) (fun _ h9 => h9) rfl dX9_number_232 ?_
                          refine lv_iconst (v := 1) hx hb dX9_number_235 (by decide) ?_
                          refine lv_iadd hx hb dX9_number_236 ?_
                          refine va_put (D := (dC, dI)) (ci := 0) (v := .int (t_at + 1)) (ty := .int) (C := RX9) (T := TX9) (N := 35) hx hb hts (inX9 _) tyX9 tyX9_ok nmX9 hown hK hP hD hS 0 rfl rfl 2 (by decide) (hts _ (List.mem_cons_of_mem _ wf9_95)) (fun _ h9 => h9) rfl (by decide +kernel) rfl rfl (Nat.le_of_ble_eq_true rfl) dX9_number_237 (fun H locs hP hD hS => ?_)
                          have hP : va_P (dC, dI) srCl [(ob0, .inr (0, [.ref tq_bytes, .int t_length, .int (t_at + 1), .int t_deep, .int t_fault, .int t_place, .int t_end, .int t_nodes, .ref tq_kinds, .ref tq_firsts, .ref tq_numbers, .ref tq_sizes, .ref tq_inner, .ref tq_nexts, .ref tq_letters, .int t_lettered, .int t_shapes, .int t_looked, .ref tq_sorts, .ref tq_names, .ref tq_wide, .ref tq_kids, .ref tq_many, .ref tq_fallback, .int t_kidCount, .ref tq_kidShape, .ref tq_kidName, .ref tq_kidDefault, .ref tq_kidNext, .int t_done, .ref tq_finished, .int t_root, .ref tq_plain, .int t_plainSize, .ref tq_told])), (tq_bytes, .inl (cB, 4096, .inl t_bytes)), (tq_kinds, .inl (cI, 4200, .inl t_kinds)), (tq_firsts, .inl (cI, 4200, .inl t_firsts)), (tq_numbers, .inl (cJ, 4200, .inr (.inl t_numbers))), (tq_sizes, .inl (cI, 4200, .inl (upd t_sizes (x1 : Int32).toNatClampNeg ((t_sizes (x1 : Int32).toNatClampNeg) + 1)))), (tq_inner, .inl (cI, 4200, .inl t_inner)), (tq_nexts, .inl (cI, 4200, .inl t_nexts))] H := hP
                          have hD : va_D A [(ob0, .inr (0, [.ref tq_bytes, .int t_length, .int (t_at + 1), .int t_deep, .int t_fault, .int t_place, .int t_end, .int t_nodes, .ref tq_kinds, .ref tq_firsts, .ref tq_numbers, .ref tq_sizes, .ref tq_inner, .ref tq_nexts, .ref tq_letters, .int t_lettered, .int t_shapes, .int t_looked, .ref tq_sorts, .ref tq_names, .ref tq_wide, .ref tq_kids, .ref tq_many, .ref tq_fallback, .int t_kidCount, .ref tq_kidShape, .ref tq_kidName, .ref tq_kidDefault, .ref tq_kidNext, .int t_done, .ref tq_finished, .int t_root, .ref tq_plain, .int t_plainSize, .ref tq_told])), (tq_bytes, .inl (cB, 4096, .inl t_bytes)), (tq_kinds, .inl (cI, 4200, .inl t_kinds)), (tq_firsts, .inl (cI, 4200, .inl t_firsts)), (tq_numbers, .inl (cJ, 4200, .inr (.inl t_numbers))), (tq_sizes, .inl (cI, 4200, .inl (upd t_sizes (x1 : Int32).toNatClampNeg ((t_sizes (x1 : Int32).toNatClampNeg) + 1)))), (tq_inner, .inl (cI, 4200, .inl t_inner)), (tq_nexts, .inl (cI, 4200, .inl t_nexts))] := hD
                          refine lv_goto (tgt := 95) hx hb dX9_number_240 (by decide) ?_
                          exact ih95 (t_at + 1) t_fault t_place t_nodes t_kinds t_firsts t_numbers (upd t_sizes (x1 : Int32).toNatClampNeg ((t_sizes (x1 : Int32).toNatClampNeg) + 1)) t_inner t_nexts x1 x2 x3 x4 y0 _ _ ls hP hD hS (lv_sub hl [1, 2, 3, 4, 5, 0] rfl) hm
                        refine lv_if_eq (tgt := 216) hx hb dX9_number_200 (by decide) (fun c18 => ?_) (fun c18 => ?_)
                        · have hm := mr_if c18 hm
                          refine lv_lload hx hb dX9_number_216 (lv_at hl 5 rfl) ?_
                          exact j218 t_at t_fault t_place t_nodes t_kinds t_firsts t_numbers t_sizes t_inner t_nexts x1 x2 x3 y0 x5 _ _ ls hP hD hS (lv_sub hl [1, 2, 3, 4, 0] rfl) hm
                        · have hm := mr_un c18 hm
                          refine lv_ldc2 (v := 10) hx hb hown (hts _ (List.mem_cons_of_mem _ wcl9_175)) dX9_number_203 ?_
                          refine lv_lload hx hb dX9_number_206 (lv_at hl 5 rfl) ?_
                          refine lv_lmul hx hb dX9_number_208 ?_
                          refine lv_iload hx hb dX9_number_209 (lv_at hl 6 rfl) ?_
                          refine lv_i2l hx hb dX9_number_211 rfl ?_
                          refine lv_lsub hx hb dX9_number_212 ?_
                          refine lv_goto (tgt := 218) hx hb dX9_number_213 (by decide) ?_
                          exact j218 t_at t_fault t_place t_nodes t_kinds t_firsts t_numbers t_sizes t_inner t_nexts x1 x2 x3 y0 ((10 * x5) - ((x7 : Int32).toInt64)) _ _ ls hP hD hS (lv_sub hl [1, 2, 3, 4, 0] rfl) hm
                      have j195 : ∀ (t_at : Int32) (t_fault : Int32) (t_place : Int32) (t_nodes : Int32) (t_kinds : Nat → Int32) (t_firsts : Nat → Int32) (t_numbers : Nat → Int64) (t_sizes : Nat → Int32) (t_inner : Nat → Int32) (t_nexts : Nat → Int32) (x1 : Int32) (x2 : Int32) (x3 : Int32) (x5 : Int64) (x7 : Int32) (H : Heap) (locs : List Loc) (ls : Array Slot), va_P (dC, dI) srCl [(ob0, .inr (0, [.ref tq_bytes, .int t_length, .int t_at, .int t_deep, .int t_fault, .int t_place, .int t_end, .int t_nodes, .ref tq_kinds, .ref tq_firsts, .ref tq_numbers, .ref tq_sizes, .ref tq_inner, .ref tq_nexts, .ref tq_letters, .int t_lettered, .int t_shapes, .int t_looked, .ref tq_sorts, .ref tq_names, .ref tq_wide, .ref tq_kids, .ref tq_many, .ref tq_fallback, .int t_kidCount, .ref tq_kidShape, .ref tq_kidName, .ref tq_kidDefault, .ref tq_kidNext, .int t_done, .ref tq_finished, .int t_root, .ref tq_plain, .int t_plainSize, .ref tq_told])), (tq_bytes, .inl (cB, 4096, .inl t_bytes)), (tq_kinds, .inl (cI, 4200, .inl t_kinds)), (tq_firsts, .inl (cI, 4200, .inl t_firsts)), (tq_numbers, .inl (cJ, 4200, .inr (.inl t_numbers))), (tq_sizes, .inl (cI, 4200, .inl t_sizes)), (tq_inner, .inl (cI, 4200, .inl t_inner)), (tq_nexts, .inl (cI, 4200, .inl t_nexts))] H → va_D A [(ob0, .inr (0, [.ref tq_bytes, .int t_length, .int t_at, .int t_deep, .int t_fault, .int t_place, .int t_end, .int t_nodes, .ref tq_kinds, .ref tq_firsts, .ref tq_numbers, .ref tq_sizes, .ref tq_inner, .ref tq_nexts, .ref tq_letters, .int t_lettered, .int t_shapes, .int t_looked, .ref tq_sorts, .ref tq_names, .ref tq_wide, .ref tq_kids, .ref tq_many, .ref tq_fallback, .int t_kidCount, .ref tq_kidShape, .ref tq_kidName, .ref tq_kidDefault, .ref tq_kidNext, .int t_done, .ref tq_finished, .int t_root, .ref tq_plain, .int t_plainSize, .ref tq_told])), (tq_bytes, .inl (cB, 4096, .inl t_bytes)), (tq_kinds, .inl (cI, 4200, .inl t_kinds)), (tq_firsts, .inl (cI, 4200, .inl t_firsts)), (tq_numbers, .inl (cJ, 4200, .inr (.inl t_numbers))), (tq_sizes, .inl (cI, 4200, .inl t_sizes)), (tq_inner, .inl (cI, 4200, .inl t_inner)), (tq_nexts, .inl (cI, 4200, .inl t_nexts))] → va_S A s.heap H locs → lv_has ls 8 [(0, .ref ob0), (1, .int x1), (2, .int x2), (3, .int x3), (5, .long x5), (7, .int x7)] → m_X9_number_195 t_bytes t_length (m_X9_number_95 t_bytes t_length n95) t_at t_fault t_place t_nodes t_kinds t_firsts t_numbers t_sizes t_inner t_nexts x1 x2 x3 x5 x7 = some res → W p l e (headSpec wsX9_number (rmX9_number (t2_mc res) (t2_ms res))).room s m [.ref ob0].toArray below meth c H locs 0 0 Q0 (F0 m 195 ls []) := by
                        intro t_at t_fault t_place t_nodes t_kinds t_firsts t_numbers t_sizes t_inner t_nexts x1 x2 x3 x5 x7 H locs ls hP hD hS hl hm
                        unfold m_X9_number_195 at hm
                        refine lv_iconst (v := 0) hx hb dX9_number_195 (by decide) ?_
                        exact j196 t_at t_fault t_place t_nodes t_kinds t_firsts t_numbers t_sizes t_inner t_nexts x1 x2 x3 x5 x7 0 _ _ ls hP hD hS (lv_sub hl [0, 1, 2, 3, 4, 5] rfl) hm
                      refine lv_if_eq (tgt := 195) hx hb dX9_number_154 (by decide) (fun c19 => ?_) (fun c19 => ?_)
                      · have hm := mr_if c19 hm
                        exact j195 t_at t_fault t_place t_nodes t_kinds t_firsts t_numbers t_sizes t_inner t_nexts x1 x2 x3 x5 (r15 - 48) _ _ ls hP hD hS (lv_sub hl [1, 2, 3, 4, 6, 0] rfl) hm
                      · have hm := mr_un c19 hm
                        refine lv_lload hx hb dX9_number_157 (lv_at hl 6 rfl) ?_
                        refine lv_ldc2 (v := -922337203685477580) hx hb hown (hts _ (List.mem_cons_of_mem _ wcl9_173)) dX9_number_159 ?_
                        refine W.lcmp hx hb dX9_number_162 ?_
                        have j191 : ∀ (t_at : Int32) (t_fault : Int32) (t_place : Int32) (t_nodes : Int32) (t_kinds : Nat → Int32) (t_firsts : Nat → Int32) (t_numbers : Nat → Int64) (t_sizes : Nat → Int32) (t_inner : Nat → Int32) (t_nexts : Nat → Int32) (x1 : Int32) (x2 : Int32) (x3 : Int32) (x5 : Int64) (x7 : Int32) (H : Heap) (locs : List Loc) (ls : Array Slot), va_P (dC, dI) srCl [(ob0, .inr (0, [.ref tq_bytes, .int t_length, .int t_at, .int t_deep, .int t_fault, .int t_place, .int t_end, .int t_nodes, .ref tq_kinds, .ref tq_firsts, .ref tq_numbers, .ref tq_sizes, .ref tq_inner, .ref tq_nexts, .ref tq_letters, .int t_lettered, .int t_shapes, .int t_looked, .ref tq_sorts, .ref tq_names, .ref tq_wide, .ref tq_kids, .ref tq_many, .ref tq_fallback, .int t_kidCount, .ref tq_kidShape, .ref tq_kidName, .ref tq_kidDefault, .ref tq_kidNext, .int t_done, .ref tq_finished, .int t_root, .ref tq_plain, .int t_plainSize, .ref tq_told])), (tq_bytes, .inl (cB, 4096, .inl t_bytes)), (tq_kinds, .inl (cI, 4200, .inl t_kinds)), (tq_firsts, .inl (cI, 4200, .inl t_firsts)), (tq_numbers, .inl (cJ, 4200, .inr (.inl t_numbers))), (tq_sizes, .inl (cI, 4200, .inl t_sizes)), (tq_inner, .inl (cI, 4200, .inl t_inner)), (tq_nexts, .inl (cI, 4200, .inl t_nexts))] H → va_D A [(ob0, .inr (0, [.ref tq_bytes, .int t_length, .int t_at, .int t_deep, .int t_fault, .int t_place, .int t_end, .int t_nodes, .ref tq_kinds, .ref tq_firsts, .ref tq_numbers, .ref tq_sizes, .ref tq_inner, .ref tq_nexts, .ref tq_letters, .int t_lettered, .int t_shapes, .int t_looked, .ref tq_sorts, .ref tq_names, .ref tq_wide, .ref tq_kids, .ref tq_many, .ref tq_fallback, .int t_kidCount, .ref tq_kidShape, .ref tq_kidName, .ref tq_kidDefault, .ref tq_kidNext, .int t_done, .ref tq_finished, .int t_root, .ref tq_plain, .int t_plainSize, .ref tq_told])), (tq_bytes, .inl (cB, 4096, .inl t_bytes)), (tq_kinds, .inl (cI, 4200, .inl t_kinds)), (tq_firsts, .inl (cI, 4200, .inl t_firsts)), (tq_numbers, .inl (cJ, 4200, .inr (.inl t_numbers))), (tq_sizes, .inl (cI, 4200, .inl t_sizes)), (tq_inner, .inl (cI, 4200, .inl t_inner)), (tq_nexts, .inl (cI, 4200, .inl t_nexts))] → va_S A s.heap H locs → lv_has ls 8 [(0, .ref ob0), (1, .int x1), (2, .int x2), (3, .int x3), (5, .long x5), (7, .int x7)] → m_X9_number_191 t_bytes t_length (m_X9_number_95 t_bytes t_length n95) t_at t_fault t_place t_nodes t_kinds t_firsts t_numbers t_sizes t_inner t_nexts x1 x2 x3 x5 x7 = some res → W p l e (headSpec wsX9_number (rmX9_number (t2_mc res) (t2_ms res))).room s m [.ref ob0].toArray below meth c H locs 0 0 Q0 (F0 m 191 ls []) := by
                          intro t_at t_fault t_place t_nodes t_kinds t_firsts t_numbers t_sizes t_inner t_nexts x1 x2 x3 x5 x7 H locs ls hP hD hS hl hm
                          unfold m_X9_number_191 at hm
                          refine lv_iconst (v := 1) hx hb dX9_number_191 (by decide) ?_
                          refine lv_goto (tgt := 196) hx hb dX9_number_192 (by decide) ?_
                          exact j196 t_at t_fault t_place t_nodes t_kinds t_firsts t_numbers t_sizes t_inner t_nexts x1 x2 x3 x5 x7 1 _ _ ls hP hD hS (lv_sub hl [0, 1, 2, 3, 4, 5] rfl) hm
                        refine lv_if_gt (tgt := 191) hx hb dX9_number_163 (by decide) (fun c20 => ?_) (fun c20 => ?_)
                        · have hm := mr_if c20 hm
                          exact j191 t_at t_fault t_place t_nodes t_kinds t_firsts t_numbers t_sizes t_inner t_nexts x1 x2 x3 x5 (r15 - 48) _ _ ls hP hD hS (lv_sub hl [1, 2, 3, 4, 6, 0] rfl) hm
                        · have hm := mr_un c20 hm
                          refine lv_lload hx hb dX9_number_166 (lv_at hl 6 rfl) ?_
                          refine lv_ldc2 (v := -922337203685477580) hx hb hown (hts _ (List.mem_cons_of_mem _ wcl9_173)) dX9_number_168 ?_
                          refine W.lcmp hx hb dX9_number_171 ?_
                          refine lv_if_ne (tgt := 195) hx hb dX9_number_172 (by decide) (fun c21 => ?_) (fun c21 => ?_)
                          · have hm := mr_un c21 hm
                            exact j195 t_at t_fault t_place t_nodes t_kinds t_firsts t_numbers t_sizes t_inner t_nexts x1 x2 x3 x5 (r15 - 48) _ _ ls hP hD hS (lv_sub hl [1, 2, 3, 4, 6, 0] rfl) hm
                          · have hm := mr_if c21 hm
                            refine lv_iload hx hb dX9_number_175 (lv_at hl 0 rfl) ?_
                            refine lv_iload_n hx hb dX9_number_177 rfl (lv_at hl 3 rfl) ?_
                            have j188 : ∀ (t_at : Int32) (t_fault : Int32) (t_place : Int32) (t_nodes : Int32) (t_kinds : Nat → Int32) (t_firsts : Nat → Int32) (t_numbers : Nat → Int64) (t_sizes : Nat → Int32) (t_inner : Nat → Int32) (t_nexts : Nat → Int32) (x1 : Int32) (x2 : Int32) (x3 : Int32) (x5 : Int64) (x7 : Int32) (y0 : Int32) (y1 : Int32) (H : Heap) (locs : List Loc) (ls : Array Slot), va_P (dC, dI) srCl [(ob0, .inr (0, [.ref tq_bytes, .int t_length, .int t_at, .int t_deep, .int t_fault, .int t_place, .int t_end, .int t_nodes, .ref tq_kinds, .ref tq_firsts, .ref tq_numbers, .ref tq_sizes, .ref tq_inner, .ref tq_nexts, .ref tq_letters, .int t_lettered, .int t_shapes, .int t_looked, .ref tq_sorts, .ref tq_names, .ref tq_wide, .ref tq_kids, .ref tq_many, .ref tq_fallback, .int t_kidCount, .ref tq_kidShape, .ref tq_kidName, .ref tq_kidDefault, .ref tq_kidNext, .int t_done, .ref tq_finished, .int t_root, .ref tq_plain, .int t_plainSize, .ref tq_told])), (tq_bytes, .inl (cB, 4096, .inl t_bytes)), (tq_kinds, .inl (cI, 4200, .inl t_kinds)), (tq_firsts, .inl (cI, 4200, .inl t_firsts)), (tq_numbers, .inl (cJ, 4200, .inr (.inl t_numbers))), (tq_sizes, .inl (cI, 4200, .inl t_sizes)), (tq_inner, .inl (cI, 4200, .inl t_inner)), (tq_nexts, .inl (cI, 4200, .inl t_nexts))] H → va_D A [(ob0, .inr (0, [.ref tq_bytes, .int t_length, .int t_at, .int t_deep, .int t_fault, .int t_place, .int t_end, .int t_nodes, .ref tq_kinds, .ref tq_firsts, .ref tq_numbers, .ref tq_sizes, .ref tq_inner, .ref tq_nexts, .ref tq_letters, .int t_lettered, .int t_shapes, .int t_looked, .ref tq_sorts, .ref tq_names, .ref tq_wide, .ref tq_kids, .ref tq_many, .ref tq_fallback, .int t_kidCount, .ref tq_kidShape, .ref tq_kidName, .ref tq_kidDefault, .ref tq_kidNext, .int t_done, .ref tq_finished, .int t_root, .ref tq_plain, .int t_plainSize, .ref tq_told])), (tq_bytes, .inl (cB, 4096, .inl t_bytes)), (tq_kinds, .inl (cI, 4200, .inl t_kinds)), (tq_firsts, .inl (cI, 4200, .inl t_firsts)), (tq_numbers, .inl (cJ, 4200, .inr (.inl t_numbers))), (tq_sizes, .inl (cI, 4200, .inl t_sizes)), (tq_inner, .inl (cI, 4200, .inl t_inner)), (tq_nexts, .inl (cI, 4200, .inl t_nexts))] → va_S A s.heap H locs → lv_has ls 8 [(0, .ref ob0), (1, .int x1), (2, .int x2), (3, .int x3), (5, .long x5), (7, .int x7)] → m_X9_number_188 t_bytes t_length (m_X9_number_95 t_bytes t_length n95) t_at t_fault t_place t_nodes t_kinds t_firsts t_numbers t_sizes t_inner t_nexts x1 x2 x3 x5 x7 y0 y1 = some res → W p l e (headSpec wsX9_number (rmX9_number (t2_mc res) (t2_ms res))).room s m [.ref ob0].toArray below meth c H locs 0 0 Q0 (F0 m 188 ls [.int y0, .int y1]) := by
                              intro t_at t_fault t_place t_nodes t_kinds t_firsts t_numbers t_sizes t_inner t_nexts x1 x2 x3 x5 x7 y0 y1 H locs ls hP hD hS hl hm
                              unfold m_X9_number_188 at hm
                              refine lv_icmp_gt (tgt := 195) hx hb dX9_number_188 (by decide) (fun c22 => ?_) (fun c22 => ?_)
                              · have hm := mr_if c22 hm
                                exact j195 t_at t_fault t_place t_nodes t_kinds t_firsts t_numbers t_sizes t_inner t_nexts x1 x2 x3 x5 x7 _ _ ls hP hD hS (lv_sub hl [0, 1, 2, 3, 4, 5] rfl) hm
                              · have hm := mr_un c22 hm
                                exact j191 t_at t_fault t_place t_nodes t_kinds t_firsts t_numbers t_sizes t_inner t_nexts x1 x2 x3 x5 x7 _ _ ls hP hD hS (lv_sub hl [0, 1, 2, 3, 4, 5] rfl) hm
                            refine lv_if_eq (tgt := 186) hx hb dX9_number_178 (by decide) (fun c23 => ?_) (fun c23 => ?_)
                            · have hm := mr_if c23 hm
                              refine lv_bipush (v := 7) hx hb dX9_number_186 (by decide) ?_
                              exact j188 t_at t_fault t_place t_nodes t_kinds t_firsts t_numbers t_sizes t_inner t_nexts x1 x2 x3 x5 (r15 - 48) 7 (r15 - 48) _ _ ls hP hD hS (lv_sub hl [1, 2, 3, 4, 6, 0] rfl) hm
                            · have hm := mr_un c23 hm
                              refine lv_bipush (v := 8) hx hb dX9_number_181 (by decide) ?_
                              refine lv_goto (tgt := 188) hx hb dX9_number_183 (by decide) ?_
                              exact j188 t_at t_fault t_place t_nodes t_kinds t_firsts t_numbers t_sizes t_inner t_nexts x1 x2 x3 x5 (r15 - 48) 8 (r15 - 48) _ _ ls hP hD hS (lv_sub hl [1, 2, 3, 4, 6, 0] rfl) hm
                    refine lv_if_eq (tgt := 143) hx hb dX9_number_114 (by decide) (fun c24 => ?_) (fun c24 => ?_)
                    · have hm := mr_if c24 hm
                      exact j143 t_at t_fault t_place t_nodes t_kinds t_firsts t_numbers t_sizes t_inner t_nexts x1 x2 x3 x4 x5 _ _ ls hP hD hS (lv_sub hl [0, 1, 2, 3, 4, 5] rfl) hm
                    · have hm := mr_un c24 hm
                      refine lv_lload hx hb dX9_number_117 (lv_at hl 5 rfl) ?_
                      refine lv_lconst (v := 0) hx hb dX9_number_119 (by decide) ?_
                      refine W.lcmp hx hb dX9_number_120 ?_
                      refine lv_if_ne (tgt := 243) hx hb dX9_number_121 (by decide) (fun c25 => ?_) (fun c25 => ?_)
                      · have hm := mr_un c25 hm
                        exact j243 t_at t_fault t_place t_nodes t_kinds t_firsts t_numbers t_sizes t_inner t_nexts x1 x2 x4 x5 _ _ ls hP hD hS (lv_sub hl [0, 1, 2, 4, 5] rfl) hm
                      · have hm := mr_if c25 hm
                        refine lv_aload_n hx hb dX9_number_124 rfl (lv_at hl 0 rfl) ?_
                        refine va_get (D := (dC, dI)) (ci := 0) (v := .ref tq_kinds) (C := RX9) (T := TX9) (N := 35) hx hb hts (inX9 _) hown hK hP 0 rfl rfl 8 (by decide) (hts _ (List.mem_cons_of_mem _ wf9_15)) (fun _ h9 => h9) rfl dX9_number_125 ?_
                        refine lv_iload_n hx hb dX9_number_128 rfl (lv_at hl 1 rfl) ?_
                        obtain ⟨h26, hm⟩ := mr_bd hm
                        refine va_iald hx hb hK hP 2 0 rfl rfl h26 dX9_number_129 ?_
                        refine lv_iconst (v := 3) hx hb dX9_number_130 (by decide) ?_
                        refine lv_icmp_ne (tgt := 243) hx hb dX9_number_131 (by decide) (fun c27 => ?_) (fun c27 => ?_)
                        · have hm := mr_un c27 hm
                          exact j243 t_at t_fault t_place t_nodes t_kinds t_firsts t_numbers t_sizes t_inner t_nexts x1 x2 x4 x5 _ _ ls hP hD hS (lv_sub hl [0, 1, 2, 4, 5] rfl) hm
                        · have hm := mr_if c27 hm
                          refine lv_aload_n hx hb dX9_number_134 rfl (lv_at hl 0 rfl) ?_
                          refine va_get (D := (dC, dI)) (ci := 0) (v := .ref tq_sizes) (C := RX9) (T := TX9) (N := 35) hx hb hts (inX9 _) hown hK hP 0 rfl rfl 11 (by decide) (hts _ (List.mem_cons_of_mem _ wf9_26)) (fun _ h9 => h9) rfl dX9_number_135 ?_
                          refine lv_iload_n hx hb dX9_number_138 rfl (lv_at hl 1 rfl) ?_
                          obtain ⟨h28, hm⟩ := mr_bd hm
                          refine va_iald hx hb hK hP 5 0 rfl rfl h28 dX9_number_139 ?_
                          refine lv_if_ne (tgt := 243) hx hb dX9_number_140 (by decide) (fun c29 => ?_) (fun c29 => ?_)
                          · have hm := mr_un c29 hm
                            exact j243 t_at t_fault t_place t_nodes t_kinds t_firsts t_numbers t_sizes t_inner t_nexts x1 x2 x4 x5 _ _ ls hP hD hS (lv_sub hl [0, 1, 2, 4, 5] rfl) hm
                          · have hm := mr_if c29 hm
                            exact j143 t_at t_fault t_place t_nodes t_kinds t_firsts t_numbers t_sizes t_inner t_nexts x1 x2 x3 x4 x5 _ _ ls hP hD hS (lv_sub hl [0, 1, 2, 3, 4, 5] rfl) hm
            refine lv_lstore (lv' := [(5, .long 0), (4, .int 1), (3, .int y0), (0, .ref ob0), (1, .int x1), (2, .int x2)]) hx hb dX9_number_93 hl (by decide) rfl (fun ls hl => ?_)
            exact j95 sr_fuel t_at t_fault t_place t_nodes t_kinds t_firsts t_numbers t_sizes t_inner t_nexts x1 x2 y0 1 0 _ _ ls hP hD hS (lv_sub hl [3, 4, 5, 2, 1, 0] rfl) hm
          refine lv_icmp_ne (tgt := 87) hx hb dX9_number_80 (by decide) (fun c30 => ?_) (fun c30 => ?_)
          · have hm := mr_un c30 hm
            refine lv_iconst (v := 0) hx hb dX9_number_87 (by decide) ?_
            exact j88 t_at t_fault_4 t_place_4 t_nodes t_kinds t_firsts t_numbers t_sizes t_inner t_nexts x1 x2 0 _ _ ls hP hD hS (lv_sub hl [0, 1, 2] rfl) hm
          · have hm := mr_if c30 hm
            refine lv_iconst (v := 1) hx hb dX9_number_83 (by decide) ?_
            refine lv_goto (tgt := 88) hx hb dX9_number_84 (by decide) ?_
            exact j88 t_at t_fault_4 t_place_4 t_nodes t_kinds t_firsts t_numbers t_sizes t_inner t_nexts x1 x2 1 _ _ ls hP hD hS (lv_sub hl [0, 1, 2] rfl) hm
        · try dsimp only at hm
          subst hm
          subst hQ0
          exact mr_xV (R := (headSpec wsX9_number (rmX9_number (t2_mc (.error (t_at, t_fault_4, t_place_4, t_nodes, t_kinds, t_firsts, t_numbers, t_sizes, t_inner, t_nexts) : Except (Int32 × Int32 × Int32 × Int32 × (Nat → Int32) × (Nat → Int32) × (Nat → Int64) × (Nat → Int32) × (Nat → Int32) × (Nat → Int32)) (Int32 × (Int32 × Int32 × Int32 × Int32 × (Nat → Int32) × (Nat → Int32) × (Nat → Int64) × (Nat → Int32) × (Nat → Int32) × (Nat → Int32))))) (t2_ms (.error (t_at, t_fault_4, t_place_4, t_nodes, t_kinds, t_firsts, t_numbers, t_sizes, t_inner, t_nexts) : Except (Int32 × Int32 × Int32 × Int32 × (Nat → Int32) × (Nat → Int32) × (Nat → Int64) × (Nat → Int32) × (Nat → Int32) × (Nat → Int32)) (Int32 × (Int32 × Int32 × Int32 × Int32 × (Nat → Int32) × (Nat → Int32) × (Nat → Int64) × (Nat → Int32) × (Nat → Int32) × (Nat → Int32))))))).room) (cells := 0) (slots := 0) (As := [.int y0, .int 1, .int t_at]) (rest := []) (wf' := (fun u : Int32 × Int32 × Int32 × Int32 × (Nat → Int32) × (Nat → Int32) × (Nat → Int64) × (Nat → Int32) × (Nat → Int32) × (Nat → Int32) => [(ob0, .inr (0, [.ref tq_bytes, .int t_length, .int u.1, .int t_deep, .int u.2.1, .int u.2.2.1, .int t_end, .int u.2.2.2.1, .ref tq_kinds, .ref tq_firsts, .ref tq_numbers, .ref tq_sizes, .ref tq_inner, .ref tq_nexts, .ref tq_letters, .int t_lettered, .int t_shapes, .int t_looked, .ref tq_sorts, .ref tq_names, .ref tq_wide, .ref tq_kids, .ref tq_many, .ref tq_fallback, .int t_kidCount, .ref tq_kidShape, .ref tq_kidName, .ref tq_kidDefault, .ref tq_kidNext, .int t_done, .ref tq_finished, .int t_root, .ref tq_plain, .int t_plainSize, .ref tq_told])), (tq_bytes, .inl (cB, 4096, .inl t_bytes)), (tq_kinds, .inl (cI, 4200, .inl u.2.2.2.2.1)), (tq_firsts, .inl (cI, 4200, .inl u.2.2.2.2.2.1)), (tq_numbers, .inl (cJ, 4200, .inr (.inl u.2.2.2.2.2.2.1))), (tq_sizes, .inl (cI, 4200, .inl u.2.2.2.2.2.2.2.1)), (tq_inner, .inl (cI, 4200, .inl u.2.2.2.2.2.2.2.2.1)), (tq_nexts, .inl (cI, 4200, .inl u.2.2.2.2.2.2.2.2.2))])) (u' := (t_at, t_fault_4, t_place_4, t_nodes, t_kinds, t_firsts, t_numbers, t_sizes, t_inner, t_nexts)) (sr_okZ adK adV) ⟨hx, hb, hml, hown, hts⟩ (kX9_need l htr dC dI adK adV cI cB cJ cZ cQ ob0 tq_bytes tq_kinds tq_firsts tq_numbers tq_sizes tq_inner tq_nexts tq_letters tq_sorts tq_names tq_wide tq_kids tq_many tq_fallback tq_kidShape tq_kidName tq_kidDefault tq_kidNext tq_finished tq_plain tq_told t_length t_at t_deep t_fault t_place t_end t_nodes t_lettered t_shapes t_looked t_kidCount t_done t_root t_plainSize _ y0 1 t_at _ hz4) (cwV 3 hts (g9_105 _) rfl rfl rfl (by decide +kernel) ⟨(by show 9 + 1 ≤ 10; omega), (by show 8 + (4 + 11) + (142) ≤ 165; omega)⟩) hS hA hP hD hK hz0 (wr := [(tq_bytes, .inl (cB, 4096, .inl t_bytes)), (tq_kinds, .inl (cI, 4200, .inl t_kinds)), (tq_firsts, .inl (cI, 4200, .inl t_firsts)), (tq_numbers, .inl (cJ, 4200, .inr (.inl t_numbers))), (tq_sizes, .inl (cI, 4200, .inl t_sizes)), (tq_inner, .inl (cI, 4200, .inl t_inner)), (tq_nexts, .inl (cI, 4200, .inl t_nexts))]) [0] [1, 2, 3, 4, 5, 6, 7] [7, 0, 1, 2, 3, 4, 5, 6] rfl rfl rfl rfl rfl (by decide) rfl rfl rfl (va_recv hK hP (ci := 0) (q0 := 0) rfl rfl) rfl rfl hl.1 (Nat.le_of_ble_eq_true rfl) dX9_number_71 rfl rfl ⟨Nat.le_refl _, Nat.le_refl _⟩ hex hlocks
      have j65 : ∀ (t_at : Int32) (t_fault : Int32) (t_place : Int32) (t_nodes : Int32) (t_kinds : Nat → Int32) (t_firsts : Nat → Int32) (t_numbers : Nat → Int64) (t_sizes : Nat → Int32) (t_inner : Nat → Int32) (t_nexts : Nat → Int32) (x1 : Int32) (x2 : Int32) (H : Heap) (locs : List Loc) (ls : Array Slot), va_P (dC, dI) srCl [(ob0, .inr (0, [.ref tq_bytes, .int t_length, .int t_at, .int t_deep, .int t_fault, .int t_place, .int t_end, .int t_nodes, .ref tq_kinds, .ref tq_firsts, .ref tq_numbers, .ref tq_sizes, .ref tq_inner, .ref tq_nexts, .ref tq_letters, .int t_lettered, .int t_shapes, .int t_looked, .ref tq_sorts, .ref tq_names, .ref tq_wide, .ref tq_kids, .ref tq_many, .ref tq_fallback, .int t_kidCount, .ref tq_kidShape, .ref tq_kidName, .ref tq_kidDefault, .ref tq_kidNext, .int t_done, .ref tq_finished, .int t_root, .ref tq_plain, .int t_plainSize, .ref tq_told])), (tq_bytes, .inl (cB, 4096, .inl t_bytes)), (tq_kinds, .inl (cI, 4200, .inl t_kinds)), (tq_firsts, .inl (cI, 4200, .inl t_firsts)), (tq_numbers, .inl (cJ, 4200, .inr (.inl t_numbers))), (tq_sizes, .inl (cI, 4200, .inl t_sizes)), (tq_inner, .inl (cI, 4200, .inl t_inner)), (tq_nexts, .inl (cI, 4200, .inl t_nexts))] H → va_D A [(ob0, .inr (0, [.ref tq_bytes, .int t_length, .int t_at, .int t_deep, .int t_fault, .int t_place, .int t_end, .int t_nodes, .ref tq_kinds, .ref tq_firsts, .ref tq_numbers, .ref tq_sizes, .ref tq_inner, .ref tq_nexts, .ref tq_letters, .int t_lettered, .int t_shapes, .int t_looked, .ref tq_sorts, .ref tq_names, .ref tq_wide, .ref tq_kids, .ref tq_many, .ref tq_fallback, .int t_kidCount, .ref tq_kidShape, .ref tq_kidName, .ref tq_kidDefault, .ref tq_kidNext, .int t_done, .ref tq_finished, .int t_root, .ref tq_plain, .int t_plainSize, .ref tq_told])), (tq_bytes, .inl (cB, 4096, .inl t_bytes)), (tq_kinds, .inl (cI, 4200, .inl t_kinds)), (tq_firsts, .inl (cI, 4200, .inl t_firsts)), (tq_numbers, .inl (cJ, 4200, .inr (.inl t_numbers))), (tq_sizes, .inl (cI, 4200, .inl t_sizes)), (tq_inner, .inl (cI, 4200, .inl t_inner)), (tq_nexts, .inl (cI, 4200, .inl t_nexts))] → va_S A s.heap H locs → lv_has ls 8 [(0, .ref ob0), (1, .int x1), (2, .int x2)] → m_X9_number_65 t_bytes t_length t_at t_fault t_place t_nodes t_kinds t_firsts t_numbers t_sizes t_inner t_nexts x1 x2 = some res → W p l e (headSpec wsX9_number (rmX9_number (t2_mc res) (t2_ms res))).room s m [.ref ob0].toArray below meth c H locs 0 0 Q0 (F0 m 65 ls [.ref ob0]) := by
        intro t_at t_fault t_place t_nodes t_kinds t_firsts t_numbers t_sizes t_inner t_nexts x1 x2 H locs ls hP hD hS hl hm
        unfold m_X9_number_65 at hm
        refine lv_iconst (v := 0) hx hb dX9_number_65 (by decide) ?_
        exact j66 t_at t_fault t_place t_nodes t_kinds t_firsts t_numbers t_sizes t_inner t_nexts x1 x2 0 _ _ ls hP hD hS (lv_sub hl [0, 1, 2] rfl) hm
      refine lv_icmp_lt (tgt := 65) hx hb dX9_number_49 (by decide) (fun c31 => ?_) (fun c31 => ?_)
      · have hm := mr_if c31 hm
        exact j65 y0 t_fault t_place t_nodes t_kinds t_firsts t_numbers t_sizes t_inner t_nexts x1 x2 _ _ ls hP hD hS (lv_sub hl [0, 1, 2] rfl) hm
      · have hm := mr_un c31 hm
        refine lv_aload_n hx hb dX9_number_52 rfl (lv_at hl 0 rfl) ?_
        obtain ⟨r32, hz32, hm⟩ := mr_bind hm
        refine mr_pV (As := []) (rest := [.ref ob0]) (sr_okZ adK adV) ⟨hx, hb, hml, hown, hts⟩ (kX9_look l htr dC dI adK adV cI cB cJ cZ cQ ob0 tq_bytes tq_kinds tq_firsts tq_numbers tq_sizes tq_inner tq_nexts tq_letters tq_sorts tq_names tq_wide tq_kids tq_many tq_fallback tq_kidShape tq_kidName tq_kidDefault tq_kidNext tq_finished tq_plain tq_told t_length y0 t_deep t_fault t_place t_end t_nodes t_lettered t_shapes t_looked t_kidCount t_done t_root t_plainSize t_bytes r32 hz32) (cwV 0 hts (g9_101 _) rfl rfl rfl (by decide +kernel) ⟨(by show 0 + 1 ≤ 10; omega), (by show 8 + (1 + 11) + (0) ≤ 165; omega)⟩) hS hP hK hz0 [0, 1] rfl (va_recv hK hP (ci := 0) (q0 := 0) rfl rfl) rfl rfl hl.1 (Nat.le_of_ble_eq_true rfl) dX9_number_53 ⟨Nat.zero_le _, Nat.zero_le _⟩ ?_
        refine lv_bipush (v := 57) hx hb dX9_number_56 (by decide) ?_
        refine lv_icmp_gt (tgt := 65) hx hb dX9_number_58 (by decide) (fun c33 => ?_) (fun c33 => ?_)
        · have hm := mr_if c33 hm
          exact j65 y0 t_fault t_place t_nodes t_kinds t_firsts t_numbers t_sizes t_inner t_nexts x1 x2 _ _ ls hP hD hS (lv_sub hl [0, 1, 2] rfl) hm
        · have hm := mr_un c33 hm
          refine lv_iconst (v := 1) hx hb dX9_number_61 (by decide) ?_
          refine lv_goto (tgt := 66) hx hb dX9_number_62 (by decide) ?_
          exact j66 y0 t_fault t_place t_nodes t_kinds t_firsts t_numbers t_sizes t_inner t_nexts x1 x2 1 _ _ ls hP hD hS (lv_sub hl [0, 1, 2] rfl) hm
    refine lv_if_eq (tgt := 35) hx hb dX9_number_23 (by decide) (fun c34 => ?_) (fun c34 => ?_)
    · have hm := mr_if c34 hm
      refine lv_aload_n hx hb dX9_number_35 rfl (lv_at hl 1 rfl) ?_
      refine va_get (D := (dC, dI)) (ci := 0) (v := .int t_at) (C := RX9) (T := TX9) (N := 35) hx hb hts (inX9 _) hown hK hP 0 rfl rfl 2 (by decide) (hts _ (List.mem_cons_of_mem _ wf9_95)) (fun _ h9 => h9) rfl dX9_number_36 ?_
      exact j39 t_at t_fault t_place t_nodes t_kinds t_firsts t_numbers t_sizes t_inner t_nexts x1 y0 t_at _ _ ls hP hD hS (lv_sub hl [1, 2, 0] rfl) hm
    · have hm := mr_un c34 hm
      refine lv_aload_n hx hb dX9_number_26 rfl (lv_at hl 1 rfl) ?_
      refine va_get (D := (dC, dI)) (ci := 0) (v := .int t_at) (C := RX9) (T := TX9) (N := 35) hx hb hts (inX9 _) hown hK hP 0 rfl rfl 2 (by decide) (hts _ (List.mem_cons_of_mem _ wf9_95)) (fun _ h9 => h9) rfl dX9_number_27 ?_
      refine lv_iconst (v := 1) hx hb dX9_number_30 (by decide) ?_
      refine lv_iadd hx hb dX9_number_31 ?_
      refine lv_goto (tgt := 39) hx hb dX9_number_32 (by decide) ?_
      exact j39 t_at t_fault t_place t_nodes t_kinds t_firsts t_numbers t_sizes t_inner t_nexts x1 y0 (t_at + 1) _ _ ls hP hD hS (lv_sub hl [1, 2, 0] rfl) hm
  refine lv_icmp_ne (tgt := 19) hx hb dX9_number_12 (by decide) (fun c35 => ?_) (fun c35 => ?_)
  · have hm := mr_un c35 hm
    refine lv_iconst (v := 0) hx hb dX9_number_19 (by decide) ?_
    exact j20 t_at t_fault t_place t_nodes_1 t_kinds_1 t_firsts_1 t_numbers_1 t_sizes_1 t_inner_1 t_nexts_1 r1 0 _ _ ls hP hD hS (lv_sub hl [1, 0] rfl) hm
  · have hm := mr_if c35 hm
    refine lv_iconst (v := 1) hx hb dX9_number_15 (by decide) ?_
    refine lv_goto (tgt := 20) hx hb dX9_number_16 (by decide) ?_
    exact j20 t_at t_fault t_place t_nodes_1 t_kinds_1 t_firsts_1 t_numbers_1 t_sizes_1 t_inner_1 t_nexts_1 r1 1 _ _ ls hP hD hS (lv_sub hl [1, 0] rfl) hm
end
