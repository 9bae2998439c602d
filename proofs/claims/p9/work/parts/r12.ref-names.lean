abbrev cX9_look : ByteArray := prog_13_method_4_code
def yX9_look : MethodName := ⟨RX9, "look", "()I"⟩
def wsX9_look : List Cond := .code yX9_look cX9_look 1 (some .int) :: sr_G
theorem dX9_look_0 : decode cX9_look 0 = .ok (.aload_n 0, 1) := by decide +kernel
theorem dX9_look_1 : decode cX9_look 1 = .ok (.getfield 95, 3) := by decide +kernel
theorem dX9_look_4 : decode cX9_look 4 = .ok (.aload_n 0, 1) := by decide +kernel
theorem dX9_look_5 : decode cX9_look 5 = .ok (.getfield 98, 3) := by decide +kernel
theorem dX9_look_8 : decode cX9_look 8 = .ok (.if_icmp .ge 15, 3) := by decide +kernel
theorem dX9_look_11 : decode cX9_look 11 = .ok (.aload_n 0, 1) := by decide +kernel
theorem dX9_look_12 : decode cX9_look 12 = .ok (.getfield 9, 3) := by decide +kernel
theorem dX9_look_15 : decode cX9_look 15 = .ok (.aload_n 0, 1) := by decide +kernel
theorem dX9_look_16 : decode cX9_look 16 = .ok (.getfield 95, 3) := by decide +kernel
theorem dX9_look_19 : decode cX9_look 19 = .ok (.baload, 1) := by decide +kernel
theorem dX9_look_20 : decode cX9_look 20 = .ok (.goto 4, 3) := by decide +kernel
theorem dX9_look_23 : decode cX9_look 23 = .ok (.iconst (-1), 1) := by decide +kernel
theorem dX9_look_24 : decode cX9_look 24 = .ok (.ireturn, 1) := by decide +kernel
def rmX9_look (mc ms : Nat) : Room := { frames := 0, cells := mc, slots := ms, locals := 0 }
abbrev cX9_blanks : ByteArray := prog_13_method_5_code
def yX9_blanks : MethodName := ⟨RX9, "blanks", "()V"⟩
def wsX9_blanks : List Cond := .code yX9_blanks cX9_blanks 1 none :: sr_G
theorem dX9_blanks_0 : decode cX9_blanks 0 = .ok (.aload_n 0, 1) := by decide +kernel
theorem dX9_blanks_1 : decode cX9_blanks 1 = .ok (.invokevirtual 101, 3) := by decide +kernel
theorem dX9_blanks_4 : decode cX9_blanks 4 = .ok (.bipush 32, 2) := by decide +kernel
theorem dX9_blanks_6 : decode cX9_blanks 6 = .ok (.if_icmp .eq 30, 3) := by decide +kernel
theorem dX9_blanks_9 : decode cX9_blanks 9 = .ok (.aload_n 0, 1) := by decide +kernel
theorem dX9_blanks_10 : decode cX9_blanks 10 = .ok (.invokevirtual 101, 3) := by decide +kernel
theorem dX9_blanks_13 : decode cX9_blanks 13 = .ok (.bipush 9, 2) := by decide +kernel
theorem dX9_blanks_15 : decode cX9_blanks 15 = .ok (.if_icmp .eq 21, 3) := by decide +kernel
theorem dX9_blanks_18 : decode cX9_blanks 18 = .ok (.aload_n 0, 1) := by decide +kernel
theorem dX9_blanks_19 : decode cX9_blanks 19 = .ok (.invokevirtual 101, 3) := by decide +kernel
theorem dX9_blanks_22 : decode cX9_blanks 22 = .ok (.bipush 10, 2) := by decide +kernel
theorem dX9_blanks_24 : decode cX9_blanks 24 = .ok (.if_icmp .eq 12, 3) := by decide +kernel
theorem dX9_blanks_27 : decode cX9_blanks 27 = .ok (.aload_n 0, 1) := by decide +kernel
theorem dX9_blanks_28 : decode cX9_blanks 28 = .ok (.invokevirtual 101, 3) := by decide +kernel
theorem dX9_blanks_31 : decode cX9_blanks 31 = .ok (.bipush 13, 2) := by decide +kernel
theorem dX9_blanks_33 : decode cX9_blanks 33 = .ok (.if_icmp .ne 16, 3) := by decide +kernel
theorem dX9_blanks_36 : decode cX9_blanks 36 = .ok (.aload_n 0, 1) := by decide +kernel
theorem dX9_blanks_37 : decode cX9_blanks 37 = .ok (.dup, 1) := by decide +kernel
theorem dX9_blanks_38 : decode cX9_blanks 38 = .ok (.getfield 95, 3) := by decide +kernel
theorem dX9_blanks_41 : decode cX9_blanks 41 = .ok (.iconst 1, 1) := by decide +kernel
theorem dX9_blanks_42 : decode cX9_blanks 42 = .ok (.iadd, 1) := by decide +kernel
theorem dX9_blanks_43 : decode cX9_blanks 43 = .ok (.putfield 95, 3) := by decide +kernel
theorem dX9_blanks_46 : decode cX9_blanks 46 = .ok (.goto (-46), 3) := by decide +kernel
theorem dX9_blanks_49 : decode cX9_blanks 49 = .ok (.return_, 1) := by decide +kernel
def rmX9_blanks (mc ms : Nat) : Room := { frames := 1, cells := mc, slots := ms, locals := 20 }
abbrev cX9_node : ByteArray := prog_13_method_7_code
def yX9_node : MethodName := ⟨RX9, "node", "(I)I"⟩
def wsX9_node : List Cond := .code yX9_node cX9_node 2 (some .int) :: sr_G
theorem dX9_node_0 : decode cX9_node 0 = .ok (.aload_n 0, 1) := by decide +kernel
theorem dX9_node_1 : decode cX9_node 1 = .ok (.getfield 15, 3) := by decide +kernel
theorem dX9_node_4 : decode cX9_node 4 = .ok (.aload_n 0, 1) := by decide +kernel
theorem dX9_node_5 : decode cX9_node 5 = .ok (.getfield 109, 3) := by decide +kernel
theorem dX9_node_8 : decode cX9_node 8 = .ok (.iload_n 1, 1) := by decide +kernel
theorem dX9_node_9 : decode cX9_node 9 = .ok (.iastore, 1) := by decide +kernel
theorem dX9_node_10 : decode cX9_node 10 = .ok (.aload_n 0, 1) := by decide +kernel
theorem dX9_node_11 : decode cX9_node 11 = .ok (.getfield 19, 3) := by decide +kernel
theorem dX9_node_14 : decode cX9_node 14 = .ok (.aload_n 0, 1) := by decide +kernel
theorem dX9_node_15 : decode cX9_node 15 = .ok (.getfield 109, 3) := by decide +kernel
theorem dX9_node_18 : decode cX9_node 18 = .ok (.aload_n 0, 1) := by decide +kernel
theorem dX9_node_19 : decode cX9_node 19 = .ok (.getfield 95, 3) := by decide +kernel
theorem dX9_node_22 : decode cX9_node 22 = .ok (.iastore, 1) := by decide +kernel
theorem dX9_node_23 : decode cX9_node 23 = .ok (.aload_n 0, 1) := by decide +kernel
theorem dX9_node_24 : decode cX9_node 24 = .ok (.getfield 22, 3) := by decide +kernel
theorem dX9_node_27 : decode cX9_node 27 = .ok (.aload_n 0, 1) := by decide +kernel
theorem dX9_node_28 : decode cX9_node 28 = .ok (.getfield 109, 3) := by decide +kernel
theorem dX9_node_31 : decode cX9_node 31 = .ok (.lconst 0, 1) := by decide +kernel
theorem dX9_node_32 : decode cX9_node 32 = .ok (.lastore, 1) := by decide +kernel
theorem dX9_node_33 : decode cX9_node 33 = .ok (.aload_n 0, 1) := by decide +kernel
theorem dX9_node_34 : decode cX9_node 34 = .ok (.getfield 26, 3) := by decide +kernel
theorem dX9_node_37 : decode cX9_node 37 = .ok (.aload_n 0, 1) := by decide +kernel
theorem dX9_node_38 : decode cX9_node 38 = .ok (.getfield 109, 3) := by decide +kernel
theorem dX9_node_41 : decode cX9_node 41 = .ok (.iconst 0, 1) := by decide +kernel
theorem dX9_node_42 : decode cX9_node 42 = .ok (.iastore, 1) := by decide +kernel
theorem dX9_node_43 : decode cX9_node 43 = .ok (.aload_n 0, 1) := by decide +kernel
theorem dX9_node_44 : decode cX9_node 44 = .ok (.getfield 29, 3) := by decide +kernel
theorem dX9_node_47 : decode cX9_node 47 = .ok (.aload_n 0, 1) := by decide +kernel
theorem dX9_node_48 : decode cX9_node 48 = .ok (.getfield 109, 3) := by decide +kernel
theorem dX9_node_51 : decode cX9_node 51 = .ok (.iconst (-1), 1) := by decide +kernel
theorem dX9_node_52 : decode cX9_node 52 = .ok (.iastore, 1) := by decide +kernel
theorem dX9_node_53 : decode cX9_node 53 = .ok (.aload_n 0, 1) := by decide +kernel
theorem dX9_node_54 : decode cX9_node 54 = .ok (.getfield 32, 3) := by decide +kernel
theorem dX9_node_57 : decode cX9_node 57 = .ok (.aload_n 0, 1) := by decide +kernel
theorem dX9_node_58 : decode cX9_node 58 = .ok (.getfield 109, 3) := by decide +kernel
theorem dX9_node_61 : decode cX9_node 61 = .ok (.iconst (-1), 1) := by decide +kernel
theorem dX9_node_62 : decode cX9_node 62 = .ok (.iastore, 1) := by decide +kernel
theorem dX9_node_63 : decode cX9_node 63 = .ok (.aload_n 0, 1) := by decide +kernel
theorem dX9_node_64 : decode cX9_node 64 = .ok (.dup, 1) := by decide +kernel
theorem dX9_node_65 : decode cX9_node 65 = .ok (.getfield 109, 3) := by decide +kernel
theorem dX9_node_68 : decode cX9_node 68 = .ok (.iconst 1, 1) := by decide +kernel
theorem dX9_node_69 : decode cX9_node 69 = .ok (.iadd, 1) := by decide +kernel
theorem dX9_node_70 : decode cX9_node 70 = .ok (.putfield 109, 3) := by decide +kernel
theorem dX9_node_73 : decode cX9_node 73 = .ok (.aload_n 0, 1) := by decide +kernel
theorem dX9_node_74 : decode cX9_node 74 = .ok (.getfield 109, 3) := by decide +kernel
theorem dX9_node_77 : decode cX9_node 77 = .ok (.iconst 1, 1) := by decide +kernel
theorem dX9_node_78 : decode cX9_node 78 = .ok (.isub, 1) := by decide +kernel
theorem dX9_node_79 : decode cX9_node 79 = .ok (.ireturn, 1) := by decide +kernel
def rmX9_node (mc ms : Nat) : Room := { frames := 0, cells := mc, slots := ms, locals := 0 }
abbrev cX9_hex : ByteArray := prog_13_method_11_code
def yX9_hex : MethodName := ⟨RX9, "hex", "(I)I"⟩
def wsX9_hex : List Cond := .code yX9_hex cX9_hex 1 (some .int) :: sr_G
theorem dX9_hex_0 : decode cX9_hex 0 = .ok (.iload_n 0, 1) := by decide +kernel
theorem dX9_hex_1 : decode cX9_hex 1 = .ok (.bipush 48, 2) := by decide +kernel
theorem dX9_hex_3 : decode cX9_hex 3 = .ok (.if_icmp .lt 16, 3) := by decide +kernel
theorem dX9_hex_6 : decode cX9_hex 6 = .ok (.iload_n 0, 1) := by decide +kernel
theorem dX9_hex_7 : decode cX9_hex 7 = .ok (.bipush 57, 2) := by decide +kernel
theorem dX9_hex_9 : decode cX9_hex 9 = .ok (.if_icmp .gt 10, 3) := by decide +kernel
theorem dX9_hex_12 : decode cX9_hex 12 = .ok (.iload_n 0, 1) := by decide +kernel
theorem dX9_hex_13 : decode cX9_hex 13 = .ok (.bipush 48, 2) := by decide +kernel
theorem dX9_hex_15 : decode cX9_hex 15 = .ok (.isub, 1) := by decide +kernel
theorem dX9_hex_16 : decode cX9_hex 16 = .ok (.goto 48, 3) := by decide +kernel
theorem dX9_hex_19 : decode cX9_hex 19 = .ok (.iload_n 0, 1) := by decide +kernel
theorem dX9_hex_20 : decode cX9_hex 20 = .ok (.bipush 97, 2) := by decide +kernel
theorem dX9_hex_22 : decode cX9_hex 22 = .ok (.if_icmp .lt 19, 3) := by decide +kernel
theorem dX9_hex_25 : decode cX9_hex 25 = .ok (.iload_n 0, 1) := by decide +kernel
theorem dX9_hex_26 : decode cX9_hex 26 = .ok (.bipush 102, 2) := by decide +kernel
theorem dX9_hex_28 : decode cX9_hex 28 = .ok (.if_icmp .gt 13, 3) := by decide +kernel
theorem dX9_hex_31 : decode cX9_hex 31 = .ok (.iload_n 0, 1) := by decide +kernel
theorem dX9_hex_32 : decode cX9_hex 32 = .ok (.bipush 97, 2) := by decide +kernel
theorem dX9_hex_34 : decode cX9_hex 34 = .ok (.isub, 1) := by decide +kernel
theorem dX9_hex_35 : decode cX9_hex 35 = .ok (.bipush 10, 2) := by decide +kernel
theorem dX9_hex_37 : decode cX9_hex 37 = .ok (.iadd, 1) := by decide +kernel
theorem dX9_hex_38 : decode cX9_hex 38 = .ok (.goto 26, 3) := by decide +kernel
theorem dX9_hex_41 : decode cX9_hex 41 = .ok (.iload_n 0, 1) := by decide +kernel
theorem dX9_hex_42 : decode cX9_hex 42 = .ok (.bipush 65, 2) := by decide +kernel
theorem dX9_hex_44 : decode cX9_hex 44 = .ok (.if_icmp .lt 19, 3) := by decide +kernel
theorem dX9_hex_47 : decode cX9_hex 47 = .ok (.iload_n 0, 1) := by decide +kernel
theorem dX9_hex_48 : decode cX9_hex 48 = .ok (.bipush 70, 2) := by decide +kernel
theorem dX9_hex_50 : decode cX9_hex 50 = .ok (.if_icmp .gt 13, 3) := by decide +kernel
theorem dX9_hex_53 : decode cX9_hex 53 = .ok (.iload_n 0, 1) := by decide +kernel
theorem dX9_hex_54 : decode cX9_hex 54 = .ok (.bipush 65, 2) := by decide +kernel
theorem dX9_hex_56 : decode cX9_hex 56 = .ok (.isub, 1) := by decide +kernel
theorem dX9_hex_57 : decode cX9_hex 57 = .ok (.bipush 10, 2) := by decide +kernel
theorem dX9_hex_59 : decode cX9_hex 59 = .ok (.iadd, 1) := by decide +kernel
theorem dX9_hex_60 : decode cX9_hex 60 = .ok (.goto 4, 3) := by decide +kernel
theorem dX9_hex_63 : decode cX9_hex 63 = .ok (.iconst (-1), 1) := by decide +kernel
theorem dX9_hex_64 : decode cX9_hex 64 = .ok (.ireturn, 1) := by decide +kernel
def rmX9_hex (mc ms : Nat) : Room := { frames := 0, cells := mc, slots := ms, locals := 0 }
abbrev cX9_same : ByteArray := prog_13_method_15_code
def yX9_same : MethodName := ⟨RX9, "same", "(ILSchemaReaderModel$Text;I)Z"⟩
def wsX9_same : List Cond := .code yX9_same cX9_same 5 (some .boolean) :: sr_G
theorem dX9_same_0 : decode cX9_same 0 = .ok (.aload_n 0, 1) := by decide +kernel
theorem dX9_same_1 : decode cX9_same 1 = .ok (.getfield 26, 3) := by decide +kernel
theorem dX9_same_4 : decode cX9_same 4 = .ok (.iload_n 1, 1) := by decide +kernel
theorem dX9_same_5 : decode cX9_same 5 = .ok (.iaload, 1) := by decide +kernel
theorem dX9_same_6 : decode cX9_same 6 = .ok (.aload_n 2, 1) := by decide +kernel
theorem dX9_same_7 : decode cX9_same 7 = .ok (.getfield 26, 3) := by decide +kernel
theorem dX9_same_10 : decode cX9_same 10 = .ok (.iload_n 3, 1) := by decide +kernel
theorem dX9_same_11 : decode cX9_same 11 = .ok (.iaload, 1) := by decide +kernel
theorem dX9_same_12 : decode cX9_same 12 = .ok (.if_icmp .eq 5, 3) := by decide +kernel
theorem dX9_same_15 : decode cX9_same 15 = .ok (.iconst 0, 1) := by decide +kernel
theorem dX9_same_16 : decode cX9_same 16 = .ok (.ireturn, 1) := by decide +kernel
theorem dX9_same_17 : decode cX9_same 17 = .ok (.iconst 0, 1) := by decide +kernel
theorem dX9_same_18 : decode cX9_same 18 = .ok (.istore 4, 2) := by decide +kernel
theorem dX9_same_20 : decode cX9_same 20 = .ok (.iload 4, 2) := by decide +kernel
theorem dX9_same_22 : decode cX9_same 22 = .ok (.aload_n 0, 1) := by decide +kernel
theorem dX9_same_23 : decode cX9_same 23 = .ok (.getfield 26, 3) := by decide +kernel
theorem dX9_same_26 : decode cX9_same 26 = .ok (.iload_n 1, 1) := by decide +kernel
theorem dX9_same_27 : decode cX9_same 27 = .ok (.iaload, 1) := by decide +kernel
theorem dX9_same_28 : decode cX9_same 28 = .ok (.if_icmp .ge 44, 3) := by decide +kernel
theorem dX9_same_31 : decode cX9_same 31 = .ok (.aload_n 0, 1) := by decide +kernel
theorem dX9_same_32 : decode cX9_same 32 = .ok (.getfield 35, 3) := by decide +kernel
theorem dX9_same_35 : decode cX9_same 35 = .ok (.aload_n 0, 1) := by decide +kernel
theorem dX9_same_36 : decode cX9_same 36 = .ok (.getfield 22, 3) := by decide +kernel
theorem dX9_same_39 : decode cX9_same 39 = .ok (.iload_n 1, 1) := by decide +kernel
theorem dX9_same_40 : decode cX9_same 40 = .ok (.laload, 1) := by decide +kernel
theorem dX9_same_41 : decode cX9_same 41 = .ok (.l2i, 1) := by decide +kernel
theorem dX9_same_42 : decode cX9_same 42 = .ok (.iload 4, 2) := by decide +kernel
theorem dX9_same_44 : decode cX9_same 44 = .ok (.iadd, 1) := by decide +kernel
theorem dX9_same_45 : decode cX9_same 45 = .ok (.baload, 1) := by decide +kernel
theorem dX9_same_46 : decode cX9_same 46 = .ok (.aload_n 2, 1) := by decide +kernel
theorem dX9_same_47 : decode cX9_same 47 = .ok (.getfield 35, 3) := by decide +kernel
theorem dX9_same_50 : decode cX9_same 50 = .ok (.aload_n 2, 1) := by decide +kernel
theorem dX9_same_51 : decode cX9_same 51 = .ok (.getfield 22, 3) := by decide +kernel
theorem dX9_same_54 : decode cX9_same 54 = .ok (.iload_n 3, 1) := by decide +kernel
theorem dX9_same_55 : decode cX9_same 55 = .ok (.laload, 1) := by decide +kernel
theorem dX9_same_56 : decode cX9_same 56 = .ok (.l2i, 1) := by decide +kernel
theorem dX9_same_57 : decode cX9_same 57 = .ok (.iload 4, 2) := by decide +kernel
theorem dX9_same_59 : decode cX9_same 59 = .ok (.iadd, 1) := by decide +kernel
theorem dX9_same_60 : decode cX9_same 60 = .ok (.baload, 1) := by decide +kernel
theorem dX9_same_61 : decode cX9_same 61 = .ok (.if_icmp .eq 5, 3) := by decide +kernel
theorem dX9_same_64 : decode cX9_same 64 = .ok (.iconst 0, 1) := by decide +kernel
theorem dX9_same_65 : decode cX9_same 65 = .ok (.ireturn, 1) := by decide +kernel
theorem dX9_same_66 : decode cX9_same 66 = .ok (.iinc 4 1, 3) := by decide +kernel
theorem dX9_same_69 : decode cX9_same 69 = .ok (.goto (-49), 3) := by decide +kernel
theorem dX9_same_72 : decode cX9_same 72 = .ok (.iconst 1, 1) := by decide +kernel
theorem dX9_same_73 : decode cX9_same 73 = .ok (.ireturn, 1) := by decide +kernel
def rmX9_same (mc ms : Nat) : Room := { frames := 0, cells := mc, slots := ms, locals := 0 }
abbrev cX9_isName : ByteArray := prog_13_method_18_code
def yX9_isName : MethodName := ⟨RX9, "isName", "(I)Z"⟩
def wsX9_isName : List Cond := .code yX9_isName cX9_isName 6 (some .boolean) :: sr_G
theorem dX9_isName_0 : decode cX9_isName 0 = .ok (.aload_n 0, 1) := by decide +kernel
theorem dX9_isName_1 : decode cX9_isName 1 = .ok (.getfield 15, 3) := by decide +kernel
theorem dX9_isName_4 : decode cX9_isName 4 = .ok (.iload_n 1, 1) := by decide +kernel
theorem dX9_isName_5 : decode cX9_isName 5 = .ok (.iaload, 1) := by decide +kernel
theorem dX9_isName_6 : decode cX9_isName 6 = .ok (.iconst 2, 1) := by decide +kernel
theorem dX9_isName_7 : decode cX9_isName 7 = .ok (.if_icmp .ne 27, 3) := by decide +kernel
theorem dX9_isName_10 : decode cX9_isName 10 = .ok (.aload_n 0, 1) := by decide +kernel
theorem dX9_isName_11 : decode cX9_isName 11 = .ok (.getfield 26, 3) := by decide +kernel
theorem dX9_isName_14 : decode cX9_isName 14 = .ok (.iload_n 1, 1) := by decide +kernel
theorem dX9_isName_15 : decode cX9_isName 15 = .ok (.iaload, 1) := by decide +kernel
theorem dX9_isName_16 : decode cX9_isName 16 = .ok (.ifCond .le 18, 3) := by decide +kernel
theorem dX9_isName_19 : decode cX9_isName 19 = .ok (.aload_n 0, 1) := by decide +kernel
theorem dX9_isName_20 : decode cX9_isName 20 = .ok (.getfield 26, 3) := by decide +kernel
theorem dX9_isName_23 : decode cX9_isName 23 = .ok (.iload_n 1, 1) := by decide +kernel
theorem dX9_isName_24 : decode cX9_isName 24 = .ok (.iaload, 1) := by decide +kernel
theorem dX9_isName_25 : decode cX9_isName 25 = .ok (.bipush 33, 2) := by decide +kernel
theorem dX9_isName_27 : decode cX9_isName 27 = .ok (.if_icmp .ge 7, 3) := by decide +kernel
theorem dX9_isName_30 : decode cX9_isName 30 = .ok (.iconst 1, 1) := by decide +kernel
theorem dX9_isName_31 : decode cX9_isName 31 = .ok (.goto 4, 3) := by decide +kernel
theorem dX9_isName_34 : decode cX9_isName 34 = .ok (.iconst 0, 1) := by decide +kernel
theorem dX9_isName_35 : decode cX9_isName 35 = .ok (.istore_n 2, 1) := by decide +kernel
theorem dX9_isName_36 : decode cX9_isName 36 = .ok (.iconst 0, 1) := by decide +kernel
theorem dX9_isName_37 : decode cX9_isName 37 = .ok (.istore_n 3, 1) := by decide +kernel
theorem dX9_isName_38 : decode cX9_isName 38 = .ok (.iload_n 3, 1) := by decide +kernel
theorem dX9_isName_39 : decode cX9_isName 39 = .ok (.aload_n 0, 1) := by decide +kernel
theorem dX9_isName_40 : decode cX9_isName 40 = .ok (.getfield 26, 3) := by decide +kernel
theorem dX9_isName_43 : decode cX9_isName 43 = .ok (.iload_n 1, 1) := by decide +kernel
theorem dX9_isName_44 : decode cX9_isName 44 = .ok (.iaload, 1) := by decide +kernel
theorem dX9_isName_45 : decode cX9_isName 45 = .ok (.if_icmp .ge 100, 3) := by decide +kernel
theorem dX9_isName_48 : decode cX9_isName 48 = .ok (.iload_n 2, 1) := by decide +kernel
theorem dX9_isName_49 : decode cX9_isName 49 = .ok (.ifCond .eq 96, 3) := by decide +kernel
theorem dX9_isName_52 : decode cX9_isName 52 = .ok (.aload_n 0, 1) := by decide +kernel
theorem dX9_isName_53 : decode cX9_isName 53 = .ok (.getfield 35, 3) := by decide +kernel
theorem dX9_isName_56 : decode cX9_isName 56 = .ok (.aload_n 0, 1) := by decide +kernel
theorem dX9_isName_57 : decode cX9_isName 57 = .ok (.getfield 22, 3) := by decide +kernel
theorem dX9_isName_60 : decode cX9_isName 60 = .ok (.iload_n 1, 1) := by decide +kernel
theorem dX9_isName_61 : decode cX9_isName 61 = .ok (.laload, 1) := by decide +kernel
theorem dX9_isName_62 : decode cX9_isName 62 = .ok (.l2i, 1) := by decide +kernel
theorem dX9_isName_63 : decode cX9_isName 63 = .ok (.iload_n 3, 1) := by decide +kernel
theorem dX9_isName_64 : decode cX9_isName 64 = .ok (.iadd, 1) := by decide +kernel
theorem dX9_isName_65 : decode cX9_isName 65 = .ok (.baload, 1) := by decide +kernel
theorem dX9_isName_66 : decode cX9_isName 66 = .ok (.istore 4, 2) := by decide +kernel
theorem dX9_isName_68 : decode cX9_isName 68 = .ok (.iload 4, 2) := by decide +kernel
theorem dX9_isName_70 : decode cX9_isName 70 = .ok (.bipush 48, 2) := by decide +kernel
theorem dX9_isName_72 : decode cX9_isName 72 = .ok (.if_icmp .lt 14, 3) := by decide +kernel
theorem dX9_isName_75 : decode cX9_isName 75 = .ok (.iload 4, 2) := by decide +kernel
theorem dX9_isName_77 : decode cX9_isName 77 = .ok (.bipush 57, 2) := by decide +kernel
theorem dX9_isName_79 : decode cX9_isName 79 = .ok (.if_icmp .gt 7, 3) := by decide +kernel
theorem dX9_isName_82 : decode cX9_isName 82 = .ok (.iconst 1, 1) := by decide +kernel
theorem dX9_isName_83 : decode cX9_isName 83 = .ok (.goto 4, 3) := by decide +kernel
theorem dX9_isName_86 : decode cX9_isName 86 = .ok (.iconst 0, 1) := by decide +kernel
theorem dX9_isName_87 : decode cX9_isName 87 = .ok (.istore 5, 2) := by decide +kernel
theorem dX9_isName_89 : decode cX9_isName 89 = .ok (.iload 4, 2) := by decide +kernel
theorem dX9_isName_91 : decode cX9_isName 91 = .ok (.bipush 97, 2) := by decide +kernel
theorem dX9_isName_93 : decode cX9_isName 93 = .ok (.if_icmp .lt 10, 3) := by decide +kernel
theorem dX9_isName_96 : decode cX9_isName 96 = .ok (.iload 4, 2) := by decide +kernel
theorem dX9_isName_98 : decode cX9_isName 98 = .ok (.bipush 122, 2) := by decide +kernel
theorem dX9_isName_100 : decode cX9_isName 100 = .ok (.if_icmp .le 33, 3) := by decide +kernel
theorem dX9_isName_103 : decode cX9_isName 103 = .ok (.iload 4, 2) := by decide +kernel
theorem dX9_isName_105 : decode cX9_isName 105 = .ok (.bipush 65, 2) := by decide +kernel
theorem dX9_isName_107 : decode cX9_isName 107 = .ok (.if_icmp .lt 10, 3) := by decide +kernel
theorem dX9_isName_110 : decode cX9_isName 110 = .ok (.iload 4, 2) := by decide +kernel
theorem dX9_isName_112 : decode cX9_isName 112 = .ok (.bipush 90, 2) := by decide +kernel
theorem dX9_isName_114 : decode cX9_isName 114 = .ok (.if_icmp .le 19, 3) := by decide +kernel
theorem dX9_isName_117 : decode cX9_isName 117 = .ok (.iload 4, 2) := by decide +kernel
theorem dX9_isName_119 : decode cX9_isName 119 = .ok (.bipush 95, 2) := by decide +kernel
theorem dX9_isName_121 : decode cX9_isName 121 = .ok (.if_icmp .eq 12, 3) := by decide +kernel
theorem dX9_isName_124 : decode cX9_isName 124 = .ok (.iload 5, 2) := by decide +kernel
theorem dX9_isName_126 : decode cX9_isName 126 = .ok (.ifCond .eq 11, 3) := by decide +kernel
theorem dX9_isName_129 : decode cX9_isName 129 = .ok (.iload_n 3, 1) := by decide +kernel
theorem dX9_isName_130 : decode cX9_isName 130 = .ok (.ifCond .le 7, 3) := by decide +kernel
theorem dX9_isName_133 : decode cX9_isName 133 = .ok (.iconst 1, 1) := by decide +kernel
theorem dX9_isName_134 : decode cX9_isName 134 = .ok (.goto 4, 3) := by decide +kernel
theorem dX9_isName_137 : decode cX9_isName 137 = .ok (.iconst 0, 1) := by decide +kernel
theorem dX9_isName_138 : decode cX9_isName 138 = .ok (.istore_n 2, 1) := by decide +kernel
theorem dX9_isName_139 : decode cX9_isName 139 = .ok (.iinc 3 1, 3) := by decide +kernel
theorem dX9_isName_142 : decode cX9_isName 142 = .ok (.goto (-104), 3) := by decide +kernel
theorem dX9_isName_145 : decode cX9_isName 145 = .ok (.iload_n 2, 1) := by decide +kernel
theorem dX9_isName_146 : decode cX9_isName 146 = .ok (.ireturn, 1) := by decide +kernel
def rmX9_isName (mc ms : Nat) : Room := { frames := 0, cells := mc, slots := ms, locals := 0 }
abbrev cX9_memberLike : ByteArray := prog_13_method_32_code
def yX9_memberLike : MethodName := ⟨RX9, "memberLike", "(II)I"⟩
def wsX9_memberLike : List Cond := .code yX9_memberLike cX9_memberLike 4 (some .int) :: sr_G
theorem dX9_memberLike_0 : decode cX9_memberLike 0 = .ok (.aload_n 0, 1) := by decide +kernel
theorem dX9_memberLike_1 : decode cX9_memberLike 1 = .ok (.getfield 29, 3) := by decide +kernel
theorem dX9_memberLike_4 : decode cX9_memberLike 4 = .ok (.iload_n 1, 1) := by decide +kernel
theorem dX9_memberLike_5 : decode cX9_memberLike 5 = .ok (.iaload, 1) := by decide +kernel
theorem dX9_memberLike_6 : decode cX9_memberLike 6 = .ok (.istore_n 3, 1) := by decide +kernel
theorem dX9_memberLike_7 : decode cX9_memberLike 7 = .ok (.iload_n 3, 1) := by decide +kernel
theorem dX9_memberLike_8 : decode cX9_memberLike 8 = .ok (.ifCond .lt 35, 3) := by decide +kernel
theorem dX9_memberLike_11 : decode cX9_memberLike 11 = .ok (.aload_n 0, 1) := by decide +kernel
theorem dX9_memberLike_12 : decode cX9_memberLike 12 = .ok (.iload_n 3, 1) := by decide +kernel
theorem dX9_memberLike_13 : decode cX9_memberLike 13 = .ok (.aload_n 0, 1) := by decide +kernel
theorem dX9_memberLike_14 : decode cX9_memberLike 14 = .ok (.iload_n 2, 1) := by decide +kernel
theorem dX9_memberLike_15 : decode cX9_memberLike 15 = .ok (.invokevirtual 155, 3) := by decide +kernel
theorem dX9_memberLike_18 : decode cX9_memberLike 18 = .ok (.ifCond .eq 10, 3) := by decide +kernel
theorem dX9_memberLike_21 : decode cX9_memberLike 21 = .ok (.aload_n 0, 1) := by decide +kernel
theorem dX9_memberLike_22 : decode cX9_memberLike 22 = .ok (.getfield 32, 3) := by decide +kernel
theorem dX9_memberLike_25 : decode cX9_memberLike 25 = .ok (.iload_n 3, 1) := by decide +kernel
theorem dX9_memberLike_26 : decode cX9_memberLike 26 = .ok (.iaload, 1) := by decide +kernel
theorem dX9_memberLike_27 : decode cX9_memberLike 27 = .ok (.ireturn, 1) := by decide +kernel
theorem dX9_memberLike_28 : decode cX9_memberLike 28 = .ok (.aload_n 0, 1) := by decide +kernel
theorem dX9_memberLike_29 : decode cX9_memberLike 29 = .ok (.getfield 32, 3) := by decide +kernel
theorem dX9_memberLike_32 : decode cX9_memberLike 32 = .ok (.aload_n 0, 1) := by decide +kernel
theorem dX9_memberLike_33 : decode cX9_memberLike 33 = .ok (.getfield 32, 3) := by decide +kernel
theorem dX9_memberLike_36 : decode cX9_memberLike 36 = .ok (.iload_n 3, 1) := by decide +kernel
theorem dX9_memberLike_37 : decode cX9_memberLike 37 = .ok (.iaload, 1) := by decide +kernel
theorem dX9_memberLike_38 : decode cX9_memberLike 38 = .ok (.iaload, 1) := by decide +kernel
theorem dX9_memberLike_39 : decode cX9_memberLike 39 = .ok (.istore_n 3, 1) := by decide +kernel
theorem dX9_memberLike_40 : decode cX9_memberLike 40 = .ok (.goto (-33), 3) := by decide +kernel
theorem dX9_memberLike_43 : decode cX9_memberLike 43 = .ok (.iconst (-1), 1) := by decide +kernel
theorem dX9_memberLike_44 : decode cX9_memberLike 44 = .ok (.ireturn, 1) := by decide +kernel
def rmX9_memberLike (mc ms : Nat) : Room := { frames := 1, cells := mc, slots := ms, locals := 24 }
abbrev cX9_defined : ByteArray := prog_13_method_20_code
def yX9_defined : MethodName := ⟨RX9, "defined", "(I)I"⟩
def wsX9_defined : List Cond := .code yX9_defined cX9_defined 3 (some .int) :: sr_G
theorem dX9_defined_0 : decode cX9_defined 0 = .ok (.bipush 6, 2) := by decide +kernel
theorem dX9_defined_2 : decode cX9_defined 2 = .ok (.istore_n 2, 1) := by decide +kernel
theorem dX9_defined_3 : decode cX9_defined 3 = .ok (.iload_n 2, 1) := by decide +kernel
theorem dX9_defined_4 : decode cX9_defined 4 = .ok (.aload_n 0, 1) := by decide +kernel
theorem dX9_defined_5 : decode cX9_defined 5 = .ok (.getfield 189, 3) := by decide +kernel
theorem dX9_defined_8 : decode cX9_defined 8 = .ok (.if_icmp .ge 35, 3) := by decide +kernel
theorem dX9_defined_11 : decode cX9_defined 11 = .ok (.aload_n 0, 1) := by decide +kernel
theorem dX9_defined_12 : decode cX9_defined 12 = .ok (.getfield 41, 3) := by decide +kernel
theorem dX9_defined_15 : decode cX9_defined 15 = .ok (.iload_n 2, 1) := by decide +kernel
theorem dX9_defined_16 : decode cX9_defined 16 = .ok (.iaload, 1) := by decide +kernel
theorem dX9_defined_17 : decode cX9_defined 17 = .ok (.ifCond .lt 20, 3) := by decide +kernel
theorem dX9_defined_20 : decode cX9_defined 20 = .ok (.aload_n 0, 1) := by decide +kernel
theorem dX9_defined_21 : decode cX9_defined 21 = .ok (.aload_n 0, 1) := by decide +kernel
theorem dX9_defined_22 : decode cX9_defined 22 = .ok (.getfield 41, 3) := by decide +kernel
theorem dX9_defined_25 : decode cX9_defined 25 = .ok (.iload_n 2, 1) := by decide +kernel
theorem dX9_defined_26 : decode cX9_defined 26 = .ok (.iaload, 1) := by decide +kernel
theorem dX9_defined_27 : decode cX9_defined 27 = .ok (.aload_n 0, 1) := by decide +kernel
theorem dX9_defined_28 : decode cX9_defined 28 = .ok (.iload_n 1, 1) := by decide +kernel
theorem dX9_defined_29 : decode cX9_defined 29 = .ok (.invokevirtual 155, 3) := by decide +kernel
theorem dX9_defined_32 : decode cX9_defined 32 = .ok (.ifCond .eq 5, 3) := by decide +kernel
theorem dX9_defined_35 : decode cX9_defined 35 = .ok (.iload_n 2, 1) := by decide +kernel
theorem dX9_defined_36 : decode cX9_defined 36 = .ok (.ireturn, 1) := by decide +kernel
theorem dX9_defined_37 : decode cX9_defined 37 = .ok (.iinc 2 1, 3) := by decide +kernel
theorem dX9_defined_40 : decode cX9_defined 40 = .ok (.goto (-37), 3) := by decide +kernel
theorem dX9_defined_43 : decode cX9_defined 43 = .ok (.iconst (-1), 1) := by decide +kernel
theorem dX9_defined_44 : decode cX9_defined 44 = .ok (.ireturn, 1) := by decide +kernel
def rmX9_defined (mc ms : Nat) : Room := { frames := 1, cells := mc, slots := ms, locals := 24 }
abbrev cX9_shape : ByteArray := prog_13_method_21_code
def yX9_shape : MethodName := ⟨RX9, "shape", "(I)I"⟩
def wsX9_shape : List Cond := .code yX9_shape cX9_shape 2 (some .int) :: sr_G
theorem dX9_shape_0 : decode cX9_shape 0 = .ok (.aload_n 0, 1) := by decide +kernel
theorem dX9_shape_1 : decode cX9_shape 1 = .ok (.getfield 38, 3) := by decide +kernel
theorem dX9_shape_4 : decode cX9_shape 4 = .ok (.aload_n 0, 1) := by decide +kernel
theorem dX9_shape_5 : decode cX9_shape 5 = .ok (.getfield 189, 3) := by decide +kernel
theorem dX9_shape_8 : decode cX9_shape 8 = .ok (.iload_n 1, 1) := by decide +kernel
theorem dX9_shape_9 : decode cX9_shape 9 = .ok (.iastore, 1) := by decide +kernel
theorem dX9_shape_10 : decode cX9_shape 10 = .ok (.aload_n 0, 1) := by decide +kernel
theorem dX9_shape_11 : decode cX9_shape 11 = .ok (.getfield 41, 3) := by decide +kernel
theorem dX9_shape_14 : decode cX9_shape 14 = .ok (.aload_n 0, 1) := by decide +kernel
theorem dX9_shape_15 : decode cX9_shape 15 = .ok (.getfield 189, 3) := by decide +kernel
theorem dX9_shape_18 : decode cX9_shape 18 = .ok (.iconst (-1), 1) := by decide +kernel
theorem dX9_shape_19 : decode cX9_shape 19 = .ok (.iastore, 1) := by decide +kernel
theorem dX9_shape_20 : decode cX9_shape 20 = .ok (.aload_n 0, 1) := by decide +kernel
theorem dX9_shape_21 : decode cX9_shape 21 = .ok (.getfield 44, 3) := by decide +kernel
theorem dX9_shape_24 : decode cX9_shape 24 = .ok (.aload_n 0, 1) := by decide +kernel
theorem dX9_shape_25 : decode cX9_shape 25 = .ok (.getfield 189, 3) := by decide +kernel
theorem dX9_shape_28 : decode cX9_shape 28 = .ok (.iconst 0, 1) := by decide +kernel
theorem dX9_shape_29 : decode cX9_shape 29 = .ok (.iastore, 1) := by decide +kernel
theorem dX9_shape_30 : decode cX9_shape 30 = .ok (.aload_n 0, 1) := by decide +kernel
theorem dX9_shape_31 : decode cX9_shape 31 = .ok (.getfield 47, 3) := by decide +kernel
theorem dX9_shape_34 : decode cX9_shape 34 = .ok (.aload_n 0, 1) := by decide +kernel
theorem dX9_shape_35 : decode cX9_shape 35 = .ok (.getfield 189, 3) := by decide +kernel
theorem dX9_shape_38 : decode cX9_shape 38 = .ok (.iconst (-1), 1) := by decide +kernel
theorem dX9_shape_39 : decode cX9_shape 39 = .ok (.iastore, 1) := by decide +kernel
theorem dX9_shape_40 : decode cX9_shape 40 = .ok (.aload_n 0, 1) := by decide +kernel
theorem dX9_shape_41 : decode cX9_shape 41 = .ok (.getfield 50, 3) := by decide +kernel
theorem dX9_shape_44 : decode cX9_shape 44 = .ok (.aload_n 0, 1) := by decide +kernel
theorem dX9_shape_45 : decode cX9_shape 45 = .ok (.getfield 189, 3) := by decide +kernel
theorem dX9_shape_48 : decode cX9_shape 48 = .ok (.iconst 0, 1) := by decide +kernel
theorem dX9_shape_49 : decode cX9_shape 49 = .ok (.iastore, 1) := by decide +kernel
theorem dX9_shape_50 : decode cX9_shape 50 = .ok (.aload_n 0, 1) := by decide +kernel
theorem dX9_shape_51 : decode cX9_shape 51 = .ok (.getfield 53, 3) := by decide +kernel
theorem dX9_shape_54 : decode cX9_shape 54 = .ok (.aload_n 0, 1) := by decide +kernel
theorem dX9_shape_55 : decode cX9_shape 55 = .ok (.getfield 189, 3) := by decide +kernel
theorem dX9_shape_58 : decode cX9_shape 58 = .ok (.iconst (-1), 1) := by decide +kernel
theorem dX9_shape_59 : decode cX9_shape 59 = .ok (.iastore, 1) := by decide +kernel
theorem dX9_shape_60 : decode cX9_shape 60 = .ok (.aload_n 0, 1) := by decide +kernel
theorem dX9_shape_61 : decode cX9_shape 61 = .ok (.dup, 1) := by decide +kernel
theorem dX9_shape_62 : decode cX9_shape 62 = .ok (.getfield 189, 3) := by decide +kernel
theorem dX9_shape_65 : decode cX9_shape 65 = .ok (.iconst 1, 1) := by decide +kernel
theorem dX9_shape_66 : decode cX9_shape 66 = .ok (.iadd, 1) := by decide +kernel
theorem dX9_shape_67 : decode cX9_shape 67 = .ok (.putfield 189, 3) := by decide +kernel
theorem dX9_shape_70 : decode cX9_shape 70 = .ok (.aload_n 0, 1) := by decide +kernel
theorem dX9_shape_71 : decode cX9_shape 71 = .ok (.getfield 189, 3) := by decide +kernel
theorem dX9_shape_74 : decode cX9_shape 74 = .ok (.iconst 1, 1) := by decide +kernel
theorem dX9_shape_75 : decode cX9_shape 75 = .ok (.isub, 1) := by decide +kernel
theorem dX9_shape_76 : decode cX9_shape 76 = .ok (.ireturn, 1) := by decide +kernel
def rmX9_shape (mc ms : Nat) : Room := { frames := 0, cells := mc, slots := ms, locals := 0 }
abbrev cX9_addKid : ByteArray := prog_13_method_22_code
def yX9_addKid : MethodName := ⟨RX9, "addKid", "(II)I"⟩
def wsX9_addKid : List Cond := .code yX9_addKid cX9_addKid 4 (some .int) :: sr_G
theorem dX9_addKid_0 : decode cX9_addKid 0 = .ok (.aload_n 0, 1) := by decide +kernel
theorem dX9_addKid_1 : decode cX9_addKid 1 = .ok (.getfield 192, 3) := by decide +kernel
theorem dX9_addKid_4 : decode cX9_addKid 4 = .ok (.istore_n 3, 1) := by decide +kernel
theorem dX9_addKid_5 : decode cX9_addKid 5 = .ok (.aload_n 0, 1) := by decide +kernel
theorem dX9_addKid_6 : decode cX9_addKid 6 = .ok (.dup, 1) := by decide +kernel
theorem dX9_addKid_7 : decode cX9_addKid 7 = .ok (.getfield 192, 3) := by decide +kernel
theorem dX9_addKid_10 : decode cX9_addKid 10 = .ok (.iconst 1, 1) := by decide +kernel
theorem dX9_addKid_11 : decode cX9_addKid 11 = .ok (.iadd, 1) := by decide +kernel
theorem dX9_addKid_12 : decode cX9_addKid 12 = .ok (.putfield 192, 3) := by decide +kernel
theorem dX9_addKid_15 : decode cX9_addKid 15 = .ok (.aload_n 0, 1) := by decide +kernel
theorem dX9_addKid_16 : decode cX9_addKid 16 = .ok (.getfield 56, 3) := by decide +kernel
theorem dX9_addKid_19 : decode cX9_addKid 19 = .ok (.iload_n 3, 1) := by decide +kernel
theorem dX9_addKid_20 : decode cX9_addKid 20 = .ok (.iconst (-1), 1) := by decide +kernel
theorem dX9_addKid_21 : decode cX9_addKid 21 = .ok (.iastore, 1) := by decide +kernel
theorem dX9_addKid_22 : decode cX9_addKid 22 = .ok (.aload_n 0, 1) := by decide +kernel
theorem dX9_addKid_23 : decode cX9_addKid 23 = .ok (.getfield 59, 3) := by decide +kernel
theorem dX9_addKid_26 : decode cX9_addKid 26 = .ok (.iload_n 3, 1) := by decide +kernel
theorem dX9_addKid_27 : decode cX9_addKid 27 = .ok (.iconst (-1), 1) := by decide +kernel
theorem dX9_addKid_28 : decode cX9_addKid 28 = .ok (.iastore, 1) := by decide +kernel
theorem dX9_addKid_29 : decode cX9_addKid 29 = .ok (.aload_n 0, 1) := by decide +kernel
theorem dX9_addKid_30 : decode cX9_addKid 30 = .ok (.getfield 62, 3) := by decide +kernel
theorem dX9_addKid_33 : decode cX9_addKid 33 = .ok (.iload_n 3, 1) := by decide +kernel
theorem dX9_addKid_34 : decode cX9_addKid 34 = .ok (.iconst (-1), 1) := by decide +kernel
theorem dX9_addKid_35 : decode cX9_addKid 35 = .ok (.iastore, 1) := by decide +kernel
theorem dX9_addKid_36 : decode cX9_addKid 36 = .ok (.aload_n 0, 1) := by decide +kernel
theorem dX9_addKid_37 : decode cX9_addKid 37 = .ok (.getfield 65, 3) := by decide +kernel
theorem dX9_addKid_40 : decode cX9_addKid 40 = .ok (.iload_n 3, 1) := by decide +kernel
theorem dX9_addKid_41 : decode cX9_addKid 41 = .ok (.iconst (-1), 1) := by decide +kernel
theorem dX9_addKid_42 : decode cX9_addKid 42 = .ok (.iastore, 1) := by decide +kernel
theorem dX9_addKid_43 : decode cX9_addKid 43 = .ok (.iload_n 2, 1) := by decide +kernel
theorem dX9_addKid_44 : decode cX9_addKid 44 = .ok (.ifCond .ge 13, 3) := by decide +kernel
theorem dX9_addKid_47 : decode cX9_addKid 47 = .ok (.aload_n 0, 1) := by decide +kernel
theorem dX9_addKid_48 : decode cX9_addKid 48 = .ok (.getfield 47, 3) := by decide +kernel
theorem dX9_addKid_51 : decode cX9_addKid 51 = .ok (.iload_n 1, 1) := by decide +kernel
theorem dX9_addKid_52 : decode cX9_addKid 52 = .ok (.iload_n 3, 1) := by decide +kernel
theorem dX9_addKid_53 : decode cX9_addKid 53 = .ok (.iastore, 1) := by decide +kernel
theorem dX9_addKid_54 : decode cX9_addKid 54 = .ok (.goto 10, 3) := by decide +kernel
theorem dX9_addKid_57 : decode cX9_addKid 57 = .ok (.aload_n 0, 1) := by decide +kernel
theorem dX9_addKid_58 : decode cX9_addKid 58 = .ok (.getfield 65, 3) := by decide +kernel
theorem dX9_addKid_61 : decode cX9_addKid 61 = .ok (.iload_n 2, 1) := by decide +kernel
theorem dX9_addKid_62 : decode cX9_addKid 62 = .ok (.iload_n 3, 1) := by decide +kernel
theorem dX9_addKid_63 : decode cX9_addKid 63 = .ok (.iastore, 1) := by decide +kernel
theorem dX9_addKid_64 : decode cX9_addKid 64 = .ok (.aload_n 0, 1) := by decide +kernel
theorem dX9_addKid_65 : decode cX9_addKid 65 = .ok (.getfield 50, 3) := by decide +kernel
theorem dX9_addKid_68 : decode cX9_addKid 68 = .ok (.iload_n 1, 1) := by decide +kernel
theorem dX9_addKid_69 : decode cX9_addKid 69 = .ok (.dup2, 1) := by decide +kernel
theorem dX9_addKid_70 : decode cX9_addKid 70 = .ok (.iaload, 1) := by decide +kernel
theorem dX9_addKid_71 : decode cX9_addKid 71 = .ok (.iconst 1, 1) := by decide +kernel
theorem dX9_addKid_72 : decode cX9_addKid 72 = .ok (.iadd, 1) := by decide +kernel
theorem dX9_addKid_73 : decode cX9_addKid 73 = .ok (.iastore, 1) := by decide +kernel
theorem dX9_addKid_74 : decode cX9_addKid 74 = .ok (.iload_n 3, 1) := by decide +kernel
theorem dX9_addKid_75 : decode cX9_addKid 75 = .ok (.ireturn, 1) := by decide +kernel
def rmX9_addKid (mc ms : Nat) : Room := { frames := 0, cells := mc, slots := ms, locals := 0 }
abbrev cX9_alike : ByteArray := prog_13_method_24_code
def yX9_alike : MethodName := ⟨RX9, "alike", "(II)Z"⟩
def wsX9_alike : List Cond := .code yX9_alike cX9_alike 3 (some .boolean) :: sr_G
theorem dX9_alike_0 : decode cX9_alike 0 = .ok (.iload_n 1, 1) := by decide +kernel
theorem dX9_alike_1 : decode cX9_alike 1 = .ok (.iload_n 2, 1) := by decide +kernel
theorem dX9_alike_2 : decode cX9_alike 2 = .ok (.if_icmp .ne 5, 3) := by decide +kernel
theorem dX9_alike_5 : decode cX9_alike 5 = .ok (.iconst 1, 1) := by decide +kernel
theorem dX9_alike_6 : decode cX9_alike 6 = .ok (.ireturn, 1) := by decide +kernel
theorem dX9_alike_7 : decode cX9_alike 7 = .ok (.aload_n 0, 1) := by decide +kernel
theorem dX9_alike_8 : decode cX9_alike 8 = .ok (.getfield 38, 3) := by decide +kernel
theorem dX9_alike_11 : decode cX9_alike 11 = .ok (.iload_n 1, 1) := by decide +kernel
theorem dX9_alike_12 : decode cX9_alike 12 = .ok (.iaload, 1) := by decide +kernel
theorem dX9_alike_13 : decode cX9_alike 13 = .ok (.aload_n 0, 1) := by decide +kernel
theorem dX9_alike_14 : decode cX9_alike 14 = .ok (.getfield 38, 3) := by decide +kernel
theorem dX9_alike_17 : decode cX9_alike 17 = .ok (.iload_n 2, 1) := by decide +kernel
theorem dX9_alike_18 : decode cX9_alike 18 = .ok (.iaload, 1) := by decide +kernel
theorem dX9_alike_19 : decode cX9_alike 19 = .ok (.if_icmp .ne 29, 3) := by decide +kernel
theorem dX9_alike_22 : decode cX9_alike 22 = .ok (.aload_n 0, 1) := by decide +kernel
theorem dX9_alike_23 : decode cX9_alike 23 = .ok (.getfield 38, 3) := by decide +kernel
theorem dX9_alike_26 : decode cX9_alike 26 = .ok (.iload_n 1, 1) := by decide +kernel
theorem dX9_alike_27 : decode cX9_alike 27 = .ok (.iaload, 1) := by decide +kernel
theorem dX9_alike_28 : decode cX9_alike 28 = .ok (.bipush 6, 2) := by decide +kernel
theorem dX9_alike_30 : decode cX9_alike 30 = .ok (.if_icmp .eq 14, 3) := by decide +kernel
theorem dX9_alike_33 : decode cX9_alike 33 = .ok (.aload_n 0, 1) := by decide +kernel
theorem dX9_alike_34 : decode cX9_alike 34 = .ok (.getfield 38, 3) := by decide +kernel
theorem dX9_alike_37 : decode cX9_alike 37 = .ok (.iload_n 1, 1) := by decide +kernel
theorem dX9_alike_38 : decode cX9_alike 38 = .ok (.iaload, 1) := by decide +kernel
theorem dX9_alike_39 : decode cX9_alike 39 = .ok (.bipush 7, 2) := by decide +kernel
theorem dX9_alike_41 : decode cX9_alike 41 = .ok (.if_icmp .ne 7, 3) := by decide +kernel
theorem dX9_alike_44 : decode cX9_alike 44 = .ok (.iconst 1, 1) := by decide +kernel
theorem dX9_alike_45 : decode cX9_alike 45 = .ok (.goto 4, 3) := by decide +kernel
theorem dX9_alike_48 : decode cX9_alike 48 = .ok (.iconst 0, 1) := by decide +kernel
theorem dX9_alike_49 : decode cX9_alike 49 = .ok (.ireturn, 1) := by decide +kernel
def rmX9_alike (mc ms : Nat) : Room := { frames := 0, cells := mc, slots := ms, locals := 0 }
abbrev cX9_symbol : ByteArray := prog_13_method_28_code
def yX9_symbol : MethodName := ⟨RX9, "symbol", "(ILSchemaReaderModel$Text;I)I"⟩
def wsX9_symbol : List Cond := .code yX9_symbol cX9_symbol 6 (some .int) :: sr_G
theorem dX9_symbol_0 : decode cX9_symbol 0 = .ok (.iconst 0, 1) := by decide +kernel
theorem dX9_symbol_1 : decode cX9_symbol 1 = .ok (.istore 4, 2) := by decide +kernel
theorem dX9_symbol_3 : decode cX9_symbol 3 = .ok (.aload_n 0, 1) := by decide +kernel
theorem dX9_symbol_4 : decode cX9_symbol 4 = .ok (.getfield 47, 3) := by decide +kernel
theorem dX9_symbol_7 : decode cX9_symbol 7 = .ok (.iload_n 1, 1) := by decide +kernel
theorem dX9_symbol_8 : decode cX9_symbol 8 = .ok (.iaload, 1) := by decide +kernel
theorem dX9_symbol_9 : decode cX9_symbol 9 = .ok (.istore 5, 2) := by decide +kernel
theorem dX9_symbol_11 : decode cX9_symbol 11 = .ok (.iload 5, 2) := by decide +kernel
theorem dX9_symbol_13 : decode cX9_symbol 13 = .ok (.ifCond .lt 37, 3) := by decide +kernel
theorem dX9_symbol_16 : decode cX9_symbol 16 = .ok (.aload_n 0, 1) := by decide +kernel
theorem dX9_symbol_17 : decode cX9_symbol 17 = .ok (.aload_n 0, 1) := by decide +kernel
theorem dX9_symbol_18 : decode cX9_symbol 18 = .ok (.getfield 59, 3) := by decide +kernel
theorem dX9_symbol_21 : decode cX9_symbol 21 = .ok (.iload 5, 2) := by decide +kernel
theorem dX9_symbol_23 : decode cX9_symbol 23 = .ok (.iaload, 1) := by decide +kernel
theorem dX9_symbol_24 : decode cX9_symbol 24 = .ok (.aload_n 2, 1) := by decide +kernel
theorem dX9_symbol_25 : decode cX9_symbol 25 = .ok (.iload_n 3, 1) := by decide +kernel
theorem dX9_symbol_26 : decode cX9_symbol 26 = .ok (.invokevirtual 155, 3) := by decide +kernel
theorem dX9_symbol_29 : decode cX9_symbol 29 = .ok (.ifCond .eq 6, 3) := by decide +kernel
theorem dX9_symbol_32 : decode cX9_symbol 32 = .ok (.iload 4, 2) := by decide +kernel
theorem dX9_symbol_34 : decode cX9_symbol 34 = .ok (.ireturn, 1) := by decide +kernel
theorem dX9_symbol_35 : decode cX9_symbol 35 = .ok (.iinc 4 1, 3) := by decide +kernel
theorem dX9_symbol_38 : decode cX9_symbol 38 = .ok (.aload_n 0, 1) := by decide +kernel
theorem dX9_symbol_39 : decode cX9_symbol 39 = .ok (.getfield 65, 3) := by decide +kernel
theorem dX9_symbol_42 : decode cX9_symbol 42 = .ok (.iload 5, 2) := by decide +kernel
theorem dX9_symbol_44 : decode cX9_symbol 44 = .ok (.iaload, 1) := by decide +kernel
theorem dX9_symbol_45 : decode cX9_symbol 45 = .ok (.istore 5, 2) := by decide +kernel
theorem dX9_symbol_47 : decode cX9_symbol 47 = .ok (.goto (-36), 3) := by decide +kernel
theorem dX9_symbol_50 : decode cX9_symbol 50 = .ok (.iconst (-1), 1) := by decide +kernel
theorem dX9_symbol_51 : decode cX9_symbol 51 = .ok (.ireturn, 1) := by decide +kernel
def rmX9_symbol (mc ms : Nat) : Room := { frames := 1, cells := mc, slots := ms, locals := 24 }
abbrev cX9_figure : ByteArray := prog_13_method_38_code
def yX9_figure : MethodName := ⟨RX9, "figure", "(I)V"⟩
def wsX9_figure : List Cond := .code yX9_figure cX9_figure 2 none :: sr_G
theorem dX9_figure_0 : decode cX9_figure 0 = .ok (.aload_n 0, 1) := by decide +kernel
theorem dX9_figure_1 : decode cX9_figure 1 = .ok (.getfield 71, 3) := by decide +kernel
theorem dX9_figure_4 : decode cX9_figure 4 = .ok (.aload_n 0, 1) := by decide +kernel
theorem dX9_figure_5 : decode cX9_figure 5 = .ok (.getfield 280, 3) := by decide +kernel
theorem dX9_figure_8 : decode cX9_figure 8 = .ok (.bipush 48, 2) := by decide +kernel
theorem dX9_figure_10 : decode cX9_figure 10 = .ok (.iload_n 1, 1) := by decide +kernel
theorem dX9_figure_11 : decode cX9_figure 11 = .ok (.iadd, 1) := by decide +kernel
theorem dX9_figure_12 : decode cX9_figure 12 = .ok (.i2b, 1) := by decide +kernel
theorem dX9_figure_13 : decode cX9_figure 13 = .ok (.bastore, 1) := by decide +kernel
theorem dX9_figure_14 : decode cX9_figure 14 = .ok (.aload_n 0, 1) := by decide +kernel
theorem dX9_figure_15 : decode cX9_figure 15 = .ok (.dup, 1) := by decide +kernel
theorem dX9_figure_16 : decode cX9_figure 16 = .ok (.getfield 280, 3) := by decide +kernel
theorem dX9_figure_19 : decode cX9_figure 19 = .ok (.iconst 1, 1) := by decide +kernel
theorem dX9_figure_20 : decode cX9_figure 20 = .ok (.iadd, 1) := by decide +kernel
theorem dX9_figure_21 : decode cX9_figure 21 = .ok (.putfield 280, 3) := by decide +kernel
theorem dX9_figure_24 : decode cX9_figure 24 = .ok (.return_, 1) := by decide +kernel
def rmX9_figure (mc ms : Nat) : Room := { frames := 0, cells := mc, slots := ms, locals := 0 }
abbrev cX9_print : ByteArray := prog_13_method_40_code
def yX9_print : MethodName := ⟨RX9, "print", "()J"⟩
def wsX9_print : List Cond := .code yX9_print cX9_print 7 (some .long) :: sr_G
theorem dX9_print_0 : decode cX9_print 0 = .ok (.ldc2_w 335, 3) := by decide +kernel
theorem dX9_print_3 : decode cX9_print 3 = .ok (.lstore_n 1, 1) := by decide +kernel
theorem dX9_print_4 : decode cX9_print 4 = .ok (.iconst 0, 1) := by decide +kernel
theorem dX9_print_5 : decode cX9_print 5 = .ok (.istore_n 3, 1) := by decide +kernel
theorem dX9_print_6 : decode cX9_print 6 = .ok (.iload_n 3, 1) := by decide +kernel
theorem dX9_print_7 : decode cX9_print 7 = .ok (.aload_n 0, 1) := by decide +kernel
theorem dX9_print_8 : decode cX9_print 8 = .ok (.getfield 280, 3) := by decide +kernel
theorem dX9_print_11 : decode cX9_print 11 = .ok (.if_icmp .ge 71, 3) := by decide +kernel
theorem dX9_print_14 : decode cX9_print 14 = .ok (.lload_n 1, 1) := by decide +kernel
theorem dX9_print_15 : decode cX9_print 15 = .ok (.aload_n 0, 1) := by decide +kernel
theorem dX9_print_16 : decode cX9_print 16 = .ok (.getfield 71, 3) := by decide +kernel
theorem dX9_print_19 : decode cX9_print 19 = .ok (.iload_n 3, 1) := by decide +kernel
theorem dX9_print_20 : decode cX9_print 20 = .ok (.baload, 1) := by decide +kernel
theorem dX9_print_21 : decode cX9_print 21 = .ok (.i2l, 1) := by decide +kernel
theorem dX9_print_22 : decode cX9_print 22 = .ok (.lxor, 1) := by decide +kernel
theorem dX9_print_23 : decode cX9_print 23 = .ok (.ldc2_w 337, 3) := by decide +kernel
theorem dX9_print_26 : decode cX9_print 26 = .ok (.land, 1) := by decide +kernel
theorem dX9_print_27 : decode cX9_print 27 = .ok (.lstore 4, 2) := by decide +kernel
theorem dX9_print_29 : decode cX9_print 29 = .ok (.iconst 0, 1) := by decide +kernel
theorem dX9_print_30 : decode cX9_print 30 = .ok (.istore 6, 2) := by decide +kernel
theorem dX9_print_32 : decode cX9_print 32 = .ok (.iload 6, 2) := by decide +kernel
theorem dX9_print_34 : decode cX9_print 34 = .ok (.bipush 8, 2) := by decide +kernel
theorem dX9_print_36 : decode cX9_print 36 = .ok (.if_icmp .ge 32, 3) := by decide +kernel
theorem dX9_print_39 : decode cX9_print 39 = .ok (.lload 4, 2) := by decide +kernel
theorem dX9_print_41 : decode cX9_print 41 = .ok (.iconst 1, 1) := by decide +kernel
theorem dX9_print_42 : decode cX9_print 42 = .ok (.lushr, 1) := by decide +kernel
theorem dX9_print_43 : decode cX9_print 43 = .ok (.lload 4, 2) := by decide +kernel
theorem dX9_print_45 : decode cX9_print 45 = .ok (.lconst 1, 1) := by decide +kernel
theorem dX9_print_46 : decode cX9_print 46 = .ok (.land, 1) := by decide +kernel
theorem dX9_print_47 : decode cX9_print 47 = .ok (.lconst 1, 1) := by decide +kernel
theorem dX9_print_48 : decode cX9_print 48 = .ok (.lcmp, 1) := by decide +kernel
theorem dX9_print_49 : decode cX9_print 49 = .ok (.ifCond .ne 9, 3) := by decide +kernel
theorem dX9_print_52 : decode cX9_print 52 = .ok (.ldc2_w 335, 3) := by decide +kernel
theorem dX9_print_55 : decode cX9_print 55 = .ok (.goto 4, 3) := by decide +kernel
theorem dX9_print_58 : decode cX9_print 58 = .ok (.lconst 0, 1) := by decide +kernel
theorem dX9_print_59 : decode cX9_print 59 = .ok (.lxor, 1) := by decide +kernel
theorem dX9_print_60 : decode cX9_print 60 = .ok (.lstore 4, 2) := by decide +kernel
theorem dX9_print_62 : decode cX9_print 62 = .ok (.iinc 6 1, 3) := by decide +kernel
theorem dX9_print_65 : decode cX9_print 65 = .ok (.goto (-33), 3) := by decide +kernel
theorem dX9_print_68 : decode cX9_print 68 = .ok (.lload_n 1, 1) := by decide +kernel
theorem dX9_print_69 : decode cX9_print 69 = .ok (.bipush 8, 2) := by decide +kernel
theorem dX9_print_71 : decode cX9_print 71 = .ok (.lushr, 1) := by decide +kernel
theorem dX9_print_72 : decode cX9_print 72 = .ok (.lload 4, 2) := by decide +kernel
theorem dX9_print_74 : decode cX9_print 74 = .ok (.lxor, 1) := by decide +kernel
theorem dX9_print_75 : decode cX9_print 75 = .ok (.lstore_n 1, 1) := by decide +kernel
theorem dX9_print_76 : decode cX9_print 76 = .ok (.iinc 3 1, 3) := by decide +kernel
theorem dX9_print_79 : decode cX9_print 79 = .ok (.goto (-73), 3) := by decide +kernel
theorem dX9_print_82 : decode cX9_print 82 = .ok (.lload_n 1, 1) := by decide +kernel
theorem dX9_print_83 : decode cX9_print 83 = .ok (.lreturn, 1) := by decide +kernel
def rmX9_print (mc ms : Nat) : Room := { frames := 0, cells := mc, slots := ms, locals := 0 }
theorem g9_101 (c0 : Cond) : GoodIn (c0 :: sr_G) (wsV RX9 101 RX9 yX9_look wsX9_look) := sr_V c0 (sr_ins (by decide +kernel))
theorem g9_155 (c0 : Cond) : GoodIn (c0 :: sr_G) (wsV RX9 155 RX9 yX9_same wsX9_same) := sr_V c0 (sr_ins (by decide +kernel))
