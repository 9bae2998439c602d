abbrev cX10_matchesT : ByteArray := prog_12_method_18_code
def yX10_matchesT : MethodName := ⟨RX10, "matches", "(LSchemaReaderModel$Text;ILSchemaReaderModel$Text;I)Z"⟩
def wsX10_matchesT : List Cond := .code yX10_matchesT cX10_matchesT 6 (some .boolean) :: sr_G
theorem dX10_matchesT_0 : decode cX10_matchesT 0 = .ok (.aload_n 0, 1) := by decide +kernel
theorem dX10_matchesT_1 : decode cX10_matchesT 1 = .ok (.getfield 92, 3) := by decide +kernel
theorem dX10_matchesT_4 : decode cX10_matchesT 4 = .ok (.iload_n 1, 1) := by decide +kernel
theorem dX10_matchesT_5 : decode cX10_matchesT 5 = .ok (.iaload, 1) := by decide +kernel
theorem dX10_matchesT_6 : decode cX10_matchesT 6 = .ok (.istore 4, 2) := by decide +kernel
theorem dX10_matchesT_8 : decode cX10_matchesT 8 = .ok (.aload_n 2, 1) := by decide +kernel
theorem dX10_matchesT_9 : decode cX10_matchesT 9 = .ok (.getfield 92, 3) := by decide +kernel
theorem dX10_matchesT_12 : decode cX10_matchesT 12 = .ok (.iload_n 3, 1) := by decide +kernel
theorem dX10_matchesT_13 : decode cX10_matchesT 13 = .ok (.iaload, 1) := by decide +kernel
theorem dX10_matchesT_14 : decode cX10_matchesT 14 = .ok (.istore 5, 2) := by decide +kernel
theorem dX10_matchesT_16 : decode cX10_matchesT 16 = .ok (.iload 4, 2) := by decide +kernel
theorem dX10_matchesT_18 : decode cX10_matchesT 18 = .ok (.bipush 8, 2) := by decide +kernel
theorem dX10_matchesT_20 : decode cX10_matchesT 20 = .ok (.if_icmp .eq 10, 3) := by decide +kernel
theorem dX10_matchesT_23 : decode cX10_matchesT 23 = .ok (.iload 5, 2) := by decide +kernel
theorem dX10_matchesT_25 : decode cX10_matchesT 25 = .ok (.bipush 8, 2) := by decide +kernel
theorem dX10_matchesT_27 : decode cX10_matchesT 27 = .ok (.if_icmp .ne 5, 3) := by decide +kernel
theorem dX10_matchesT_30 : decode cX10_matchesT 30 = .ok (.iconst 1, 1) := by decide +kernel
theorem dX10_matchesT_31 : decode cX10_matchesT 31 = .ok (.ireturn, 1) := by decide +kernel
theorem dX10_matchesT_32 : decode cX10_matchesT 32 = .ok (.iload 4, 2) := by decide +kernel
theorem dX10_matchesT_34 : decode cX10_matchesT 34 = .ok (.invokestatic 95, 3) := by decide +kernel
theorem dX10_matchesT_37 : decode cX10_matchesT 37 = .ok (.ifCond .ne 11, 3) := by decide +kernel
theorem dX10_matchesT_40 : decode cX10_matchesT 40 = .ok (.iload 5, 2) := by decide +kernel
theorem dX10_matchesT_42 : decode cX10_matchesT 42 = .ok (.invokestatic 95, 3) := by decide +kernel
theorem dX10_matchesT_45 : decode cX10_matchesT 45 = .ok (.ifCond .eq 35, 3) := by decide +kernel
theorem dX10_matchesT_48 : decode cX10_matchesT 48 = .ok (.iload 4, 2) := by decide +kernel
theorem dX10_matchesT_50 : decode cX10_matchesT 50 = .ok (.invokestatic 95, 3) := by decide +kernel
theorem dX10_matchesT_53 : decode cX10_matchesT 53 = .ok (.ifCond .eq 25, 3) := by decide +kernel
theorem dX10_matchesT_56 : decode cX10_matchesT 56 = .ok (.iload 5, 2) := by decide +kernel
theorem dX10_matchesT_58 : decode cX10_matchesT 58 = .ok (.invokestatic 95, 3) := by decide +kernel
theorem dX10_matchesT_61 : decode cX10_matchesT 61 = .ok (.ifCond .eq 17, 3) := by decide +kernel
theorem dX10_matchesT_64 : decode cX10_matchesT 64 = .ok (.iload 4, 2) := by decide +kernel
theorem dX10_matchesT_66 : decode cX10_matchesT 66 = .ok (.iload 5, 2) := by decide +kernel
theorem dX10_matchesT_68 : decode cX10_matchesT 68 = .ok (.invokestatic 98, 3) := by decide +kernel
theorem dX10_matchesT_71 : decode cX10_matchesT 71 = .ok (.ifCond .eq 7, 3) := by decide +kernel
theorem dX10_matchesT_74 : decode cX10_matchesT 74 = .ok (.iconst 1, 1) := by decide +kernel
theorem dX10_matchesT_75 : decode cX10_matchesT 75 = .ok (.goto 4, 3) := by decide +kernel
theorem dX10_matchesT_78 : decode cX10_matchesT 78 = .ok (.iconst 0, 1) := by decide +kernel
theorem dX10_matchesT_79 : decode cX10_matchesT 79 = .ok (.ireturn, 1) := by decide +kernel
theorem dX10_matchesT_80 : decode cX10_matchesT 80 = .ok (.iload 4, 2) := by decide +kernel
theorem dX10_matchesT_82 : decode cX10_matchesT 82 = .ok (.iload 5, 2) := by decide +kernel
theorem dX10_matchesT_84 : decode cX10_matchesT 84 = .ok (.if_icmp .eq 5, 3) := by decide +kernel
theorem dX10_matchesT_87 : decode cX10_matchesT 87 = .ok (.iconst 0, 1) := by decide +kernel
theorem dX10_matchesT_88 : decode cX10_matchesT 88 = .ok (.ireturn, 1) := by decide +kernel
theorem dX10_matchesT_89 : decode cX10_matchesT 89 = .ok (.iload 4, 2) := by decide +kernel
theorem dX10_matchesT_91 : decode cX10_matchesT 91 = .ok (.bipush 6, 2) := by decide +kernel
theorem dX10_matchesT_93 : decode cX10_matchesT 93 = .ok (.if_icmp .eq 10, 3) := by decide +kernel
theorem dX10_matchesT_96 : decode cX10_matchesT 96 = .ok (.iload 4, 2) := by decide +kernel
theorem dX10_matchesT_98 : decode cX10_matchesT 98 = .ok (.bipush 7, 2) := by decide +kernel
theorem dX10_matchesT_100 : decode cX10_matchesT 100 = .ok (.if_icmp .ne 31, 3) := by decide +kernel
theorem dX10_matchesT_103 : decode cX10_matchesT 103 = .ok (.aload_n 0, 1) := by decide +kernel
theorem dX10_matchesT_104 : decode cX10_matchesT 104 = .ok (.aload_n 0, 1) := by decide +kernel
theorem dX10_matchesT_105 : decode cX10_matchesT 105 = .ok (.getfield 102, 3) := by decide +kernel
theorem dX10_matchesT_108 : decode cX10_matchesT 108 = .ok (.aload_n 0, 1) := by decide +kernel
theorem dX10_matchesT_109 : decode cX10_matchesT 109 = .ok (.getfield 105, 3) := by decide +kernel
theorem dX10_matchesT_112 : decode cX10_matchesT 112 = .ok (.iload_n 1, 1) := by decide +kernel
theorem dX10_matchesT_113 : decode cX10_matchesT 113 = .ok (.iaload, 1) := by decide +kernel
theorem dX10_matchesT_114 : decode cX10_matchesT 114 = .ok (.iaload, 1) := by decide +kernel
theorem dX10_matchesT_115 : decode cX10_matchesT 115 = .ok (.aload_n 2, 1) := by decide +kernel
theorem dX10_matchesT_116 : decode cX10_matchesT 116 = .ok (.aload_n 2, 1) := by decide +kernel
theorem dX10_matchesT_117 : decode cX10_matchesT 117 = .ok (.getfield 102, 3) := by decide +kernel
theorem dX10_matchesT_120 : decode cX10_matchesT 120 = .ok (.aload_n 2, 1) := by decide +kernel
theorem dX10_matchesT_121 : decode cX10_matchesT 121 = .ok (.getfield 105, 3) := by decide +kernel
theorem dX10_matchesT_124 : decode cX10_matchesT 124 = .ok (.iload_n 3, 1) := by decide +kernel
theorem dX10_matchesT_125 : decode cX10_matchesT 125 = .ok (.iaload, 1) := by decide +kernel
theorem dX10_matchesT_126 : decode cX10_matchesT 126 = .ok (.iaload, 1) := by decide +kernel
theorem dX10_matchesT_127 : decode cX10_matchesT 127 = .ok (.invokestatic 108, 3) := by decide +kernel
theorem dX10_matchesT_130 : decode cX10_matchesT 130 = .ok (.ireturn, 1) := by decide +kernel
theorem dX10_matchesT_131 : decode cX10_matchesT 131 = .ok (.aload_n 0, 1) := by decide +kernel
theorem dX10_matchesT_132 : decode cX10_matchesT 132 = .ok (.aload_n 0, 1) := by decide +kernel
theorem dX10_matchesT_133 : decode cX10_matchesT 133 = .ok (.getfield 112, 3) := by decide +kernel
theorem dX10_matchesT_136 : decode cX10_matchesT 136 = .ok (.iload_n 1, 1) := by decide +kernel
theorem dX10_matchesT_137 : decode cX10_matchesT 137 = .ok (.iaload, 1) := by decide +kernel
theorem dX10_matchesT_138 : decode cX10_matchesT 138 = .ok (.aload_n 2, 1) := by decide +kernel
theorem dX10_matchesT_139 : decode cX10_matchesT 139 = .ok (.aload_n 2, 1) := by decide +kernel
theorem dX10_matchesT_140 : decode cX10_matchesT 140 = .ok (.getfield 112, 3) := by decide +kernel
theorem dX10_matchesT_143 : decode cX10_matchesT 143 = .ok (.iload_n 3, 1) := by decide +kernel
theorem dX10_matchesT_144 : decode cX10_matchesT 144 = .ok (.iaload, 1) := by decide +kernel
theorem dX10_matchesT_145 : decode cX10_matchesT 145 = .ok (.invokevirtual 115, 3) := by decide +kernel
theorem dX10_matchesT_148 : decode cX10_matchesT 148 = .ok (.ifCond .eq 29, 3) := by decide +kernel
theorem dX10_matchesT_151 : decode cX10_matchesT 151 = .ok (.iload 4, 2) := by decide +kernel
theorem dX10_matchesT_153 : decode cX10_matchesT 153 = .ok (.bipush 9, 2) := by decide +kernel
theorem dX10_matchesT_155 : decode cX10_matchesT 155 = .ok (.if_icmp .ne 18, 3) := by decide +kernel
theorem dX10_matchesT_158 : decode cX10_matchesT 158 = .ok (.aload_n 0, 1) := by decide +kernel
theorem dX10_matchesT_159 : decode cX10_matchesT 159 = .ok (.getfield 119, 3) := by decide +kernel
theorem dX10_matchesT_162 : decode cX10_matchesT 162 = .ok (.iload_n 1, 1) := by decide +kernel
theorem dX10_matchesT_163 : decode cX10_matchesT 163 = .ok (.iaload, 1) := by decide +kernel
theorem dX10_matchesT_164 : decode cX10_matchesT 164 = .ok (.aload_n 2, 1) := by decide +kernel
theorem dX10_matchesT_165 : decode cX10_matchesT 165 = .ok (.getfield 119, 3) := by decide +kernel
theorem dX10_matchesT_168 : decode cX10_matchesT 168 = .ok (.iload_n 3, 1) := by decide +kernel
theorem dX10_matchesT_169 : decode cX10_matchesT 169 = .ok (.iaload, 1) := by decide +kernel
theorem dX10_matchesT_170 : decode cX10_matchesT 170 = .ok (.if_icmp .ne 7, 3) := by decide +kernel
theorem dX10_matchesT_173 : decode cX10_matchesT 173 = .ok (.iconst 1, 1) := by decide +kernel
theorem dX10_matchesT_174 : decode cX10_matchesT 174 = .ok (.goto 4, 3) := by decide +kernel
theorem dX10_matchesT_177 : decode cX10_matchesT 177 = .ok (.iconst 0, 1) := by decide +kernel
theorem dX10_matchesT_178 : decode cX10_matchesT 178 = .ok (.ireturn, 1) := by decide +kernel
def rmX10_matchesT (d : Nat) (mc ms : Nat) : Room := { frames := 1 * d + 1, cells := mc, slots := ms, locals := 25 * d + 24 }
abbrev cX10_branchFor : ByteArray := prog_12_method_19_code
def yX10_branchFor : MethodName := ⟨RX10, "branchFor", "(LSchemaReaderModel$Text;ILSchemaReaderModel$Text;I)I"⟩
def wsX10_branchFor : List Cond := .code yX10_branchFor cX10_branchFor 5 (some .int) :: sr_G
theorem dX10_branchFor_0 : decode cX10_branchFor 0 = .ok (.aload_n 2, 1) := by decide +kernel
theorem dX10_branchFor_1 : decode cX10_branchFor 1 = .ok (.getfield 105, 3) := by decide +kernel
theorem dX10_branchFor_4 : decode cX10_branchFor 4 = .ok (.iload_n 3, 1) := by decide +kernel
theorem dX10_branchFor_5 : decode cX10_branchFor 5 = .ok (.iaload, 1) := by decide +kernel
theorem dX10_branchFor_6 : decode cX10_branchFor 6 = .ok (.istore 4, 2) := by decide +kernel
theorem dX10_branchFor_8 : decode cX10_branchFor 8 = .ok (.iload 4, 2) := by decide +kernel
theorem dX10_branchFor_10 : decode cX10_branchFor 10 = .ok (.ifCond .lt 34, 3) := by decide +kernel
theorem dX10_branchFor_13 : decode cX10_branchFor 13 = .ok (.aload_n 0, 1) := by decide +kernel
theorem dX10_branchFor_14 : decode cX10_branchFor 14 = .ok (.iload_n 1, 1) := by decide +kernel
theorem dX10_branchFor_15 : decode cX10_branchFor 15 = .ok (.aload_n 2, 1) := by decide +kernel
theorem dX10_branchFor_16 : decode cX10_branchFor 16 = .ok (.aload_n 2, 1) := by decide +kernel
theorem dX10_branchFor_17 : decode cX10_branchFor 17 = .ok (.getfield 102, 3) := by decide +kernel
theorem dX10_branchFor_20 : decode cX10_branchFor 20 = .ok (.iload 4, 2) := by decide +kernel
theorem dX10_branchFor_22 : decode cX10_branchFor 22 = .ok (.iaload, 1) := by decide +kernel
theorem dX10_branchFor_23 : decode cX10_branchFor 23 = .ok (.invokestatic 108, 3) := by decide +kernel
theorem dX10_branchFor_26 : decode cX10_branchFor 26 = .ok (.ifCond .eq 6, 3) := by decide +kernel
theorem dX10_branchFor_29 : decode cX10_branchFor 29 = .ok (.iload 4, 2) := by decide +kernel
theorem dX10_branchFor_31 : decode cX10_branchFor 31 = .ok (.ireturn, 1) := by decide +kernel
theorem dX10_branchFor_32 : decode cX10_branchFor 32 = .ok (.aload_n 2, 1) := by decide +kernel
theorem dX10_branchFor_33 : decode cX10_branchFor 33 = .ok (.getfield 122, 3) := by decide +kernel
theorem dX10_branchFor_36 : decode cX10_branchFor 36 = .ok (.iload 4, 2) := by decide +kernel
theorem dX10_branchFor_38 : decode cX10_branchFor 38 = .ok (.iaload, 1) := by decide +kernel
theorem dX10_branchFor_39 : decode cX10_branchFor 39 = .ok (.istore 4, 2) := by decide +kernel
theorem dX10_branchFor_41 : decode cX10_branchFor 41 = .ok (.goto (-33), 3) := by decide +kernel
theorem dX10_branchFor_44 : decode cX10_branchFor 44 = .ok (.iconst (-1), 1) := by decide +kernel
theorem dX10_branchFor_45 : decode cX10_branchFor 45 = .ok (.ireturn, 1) := by decide +kernel
def rmX10_branchFor (mc ms : Nat) : Room := { frames := 152, cells := mc, slots := ms, locals := 3799 }
abbrev cX10_ask : ByteArray := prog_12_method_20_code
def yX10_ask : MethodName := ⟨RX10, "ask", "(II)V"⟩
def wsX10_ask : List Cond := .code yX10_ask cX10_ask 3 none :: sr_G
theorem dX10_ask_0 : decode cX10_ask 0 = .ok (.aload_n 0, 1) := by decide +kernel
theorem dX10_ask_1 : decode cX10_ask 1 = .ok (.getfield 38, 3) := by decide +kernel
theorem dX10_ask_4 : decode cX10_ask 4 = .ok (.sipush 140, 3) := by decide +kernel
theorem dX10_ask_7 : decode cX10_ask 7 = .ok (.iload_n 1, 1) := by decide +kernel
theorem dX10_ask_8 : decode cX10_ask 8 = .ok (.imul, 1) := by decide +kernel
theorem dX10_ask_9 : decode cX10_ask 9 = .ok (.iload_n 2, 1) := by decide +kernel
theorem dX10_ask_10 : decode cX10_ask 10 = .ok (.iadd, 1) := by decide +kernel
theorem dX10_ask_11 : decode cX10_ask 11 = .ok (.baload, 1) := by decide +kernel
theorem dX10_ask_12 : decode cX10_ask 12 = .ok (.ifCond .ne 42, 3) := by decide +kernel
theorem dX10_ask_15 : decode cX10_ask 15 = .ok (.aload_n 0, 1) := by decide +kernel
theorem dX10_ask_16 : decode cX10_ask 16 = .ok (.getfield 38, 3) := by decide +kernel
theorem dX10_ask_19 : decode cX10_ask 19 = .ok (.sipush 140, 3) := by decide +kernel
theorem dX10_ask_22 : decode cX10_ask 22 = .ok (.iload_n 1, 1) := by decide +kernel
theorem dX10_ask_23 : decode cX10_ask 23 = .ok (.imul, 1) := by decide +kernel
theorem dX10_ask_24 : decode cX10_ask 24 = .ok (.iload_n 2, 1) := by decide +kernel
theorem dX10_ask_25 : decode cX10_ask 25 = .ok (.iadd, 1) := by decide +kernel
theorem dX10_ask_26 : decode cX10_ask 26 = .ok (.iconst 1, 1) := by decide +kernel
theorem dX10_ask_27 : decode cX10_ask 27 = .ok (.bastore, 1) := by decide +kernel
theorem dX10_ask_28 : decode cX10_ask 28 = .ok (.aload_n 0, 1) := by decide +kernel
theorem dX10_ask_29 : decode cX10_ask 29 = .ok (.getfield 42, 3) := by decide +kernel
theorem dX10_ask_32 : decode cX10_ask 32 = .ok (.aload_n 0, 1) := by decide +kernel
theorem dX10_ask_33 : decode cX10_ask 33 = .ok (.getfield 125, 3) := by decide +kernel
theorem dX10_ask_36 : decode cX10_ask 36 = .ok (.sipush 140, 3) := by decide +kernel
theorem dX10_ask_39 : decode cX10_ask 39 = .ok (.iload_n 1, 1) := by decide +kernel
theorem dX10_ask_40 : decode cX10_ask 40 = .ok (.imul, 1) := by decide +kernel
theorem dX10_ask_41 : decode cX10_ask 41 = .ok (.iload_n 2, 1) := by decide +kernel
theorem dX10_ask_42 : decode cX10_ask 42 = .ok (.iadd, 1) := by decide +kernel
theorem dX10_ask_43 : decode cX10_ask 43 = .ok (.iastore, 1) := by decide +kernel
theorem dX10_ask_44 : decode cX10_ask 44 = .ok (.aload_n 0, 1) := by decide +kernel
theorem dX10_ask_45 : decode cX10_ask 45 = .ok (.dup, 1) := by decide +kernel
theorem dX10_ask_46 : decode cX10_ask 46 = .ok (.getfield 125, 3) := by decide +kernel
theorem dX10_ask_49 : decode cX10_ask 49 = .ok (.iconst 1, 1) := by decide +kernel
theorem dX10_ask_50 : decode cX10_ask 50 = .ok (.iadd, 1) := by decide +kernel
theorem dX10_ask_51 : decode cX10_ask 51 = .ok (.putfield 125, 3) := by decide +kernel
theorem dX10_ask_54 : decode cX10_ask 54 = .ok (.return_, 1) := by decide +kernel
def rmX10_ask (mc ms : Nat) : Room := { frames := 0, cells := mc, slots := ms, locals := 0 }
abbrev cX10_may : ByteArray := prog_12_method_22_code
def yX10_may : MethodName := ⟨RX10, "may", "(LSchemaReaderModel$Text;ILSchemaReaderModel$Text;I)Z"⟩
def wsX10_may : List Cond := .code yX10_may cX10_may 9 (some .boolean) :: sr_G
theorem dX10_may_0 : decode cX10_may 0 = .ok (.aload_n 1, 1) := by decide +kernel
theorem dX10_may_1 : decode cX10_may 1 = .ok (.getfield 92, 3) := by decide +kernel
theorem dX10_may_4 : decode cX10_may 4 = .ok (.iload_n 2, 1) := by decide +kernel
theorem dX10_may_5 : decode cX10_may 5 = .ok (.iaload, 1) := by decide +kernel
theorem dX10_may_6 : decode cX10_may 6 = .ok (.istore 5, 2) := by decide +kernel
theorem dX10_may_8 : decode cX10_may 8 = .ok (.iload 5, 2) := by decide +kernel
theorem dX10_may_10 : decode cX10_may 10 = .ok (.bipush 8, 2) := by decide +kernel
theorem dX10_may_12 : decode cX10_may 12 = .ok (.if_icmp .ne 43, 3) := by decide +kernel
theorem dX10_may_15 : decode cX10_may 15 = .ok (.aload_n 1, 1) := by decide +kernel
theorem dX10_may_16 : decode cX10_may 16 = .ok (.getfield 105, 3) := by decide +kernel
theorem dX10_may_19 : decode cX10_may 19 = .ok (.iload_n 2, 1) := by decide +kernel
theorem dX10_may_20 : decode cX10_may 20 = .ok (.iaload, 1) := by decide +kernel
theorem dX10_may_21 : decode cX10_may 21 = .ok (.istore 6, 2) := by decide +kernel
theorem dX10_may_23 : decode cX10_may 23 = .ok (.iload 6, 2) := by decide +kernel
theorem dX10_may_25 : decode cX10_may 25 = .ok (.ifCond .lt 28, 3) := by decide +kernel
theorem dX10_may_28 : decode cX10_may 28 = .ok (.aload_n 0, 1) := by decide +kernel
theorem dX10_may_29 : decode cX10_may 29 = .ok (.aload_n 1, 1) := by decide +kernel
theorem dX10_may_30 : decode cX10_may 30 = .ok (.getfield 102, 3) := by decide +kernel
theorem dX10_may_33 : decode cX10_may 33 = .ok (.iload 6, 2) := by decide +kernel
theorem dX10_may_35 : decode cX10_may 35 = .ok (.iaload, 1) := by decide +kernel
theorem dX10_may_36 : decode cX10_may 36 = .ok (.iload 4, 2) := by decide +kernel
theorem dX10_may_38 : decode cX10_may 38 = .ok (.invokevirtual 131, 3) := by decide +kernel
theorem dX10_may_41 : decode cX10_may 41 = .ok (.aload_n 1, 1) := by decide +kernel
theorem dX10_may_42 : decode cX10_may 42 = .ok (.getfield 122, 3) := by decide +kernel
theorem dX10_may_45 : decode cX10_may 45 = .ok (.iload 6, 2) := by decide +kernel
theorem dX10_may_47 : decode cX10_may 47 = .ok (.iaload, 1) := by decide +kernel
theorem dX10_may_48 : decode cX10_may 48 = .ok (.istore 6, 2) := by decide +kernel
theorem dX10_may_50 : decode cX10_may 50 = .ok (.goto (-27), 3) := by decide +kernel
theorem dX10_may_53 : decode cX10_may 53 = .ok (.iconst 1, 1) := by decide +kernel
theorem dX10_may_54 : decode cX10_may 54 = .ok (.ireturn, 1) := by decide +kernel
theorem dX10_may_55 : decode cX10_may 55 = .ok (.aload_n 3, 1) := by decide +kernel
theorem dX10_may_56 : decode cX10_may 56 = .ok (.getfield 92, 3) := by decide +kernel
theorem dX10_may_59 : decode cX10_may 59 = .ok (.iload 4, 2) := by decide +kernel
theorem dX10_may_61 : decode cX10_may 61 = .ok (.iaload, 1) := by decide +kernel
theorem dX10_may_62 : decode cX10_may 62 = .ok (.bipush 8, 2) := by decide +kernel
theorem dX10_may_64 : decode cX10_may 64 = .ok (.if_icmp .ne 41, 3) := by decide +kernel
theorem dX10_may_67 : decode cX10_may 67 = .ok (.aload_n 1, 1) := by decide +kernel
theorem dX10_may_68 : decode cX10_may 68 = .ok (.iload_n 2, 1) := by decide +kernel
theorem dX10_may_69 : decode cX10_may 69 = .ok (.aload_n 3, 1) := by decide +kernel
theorem dX10_may_70 : decode cX10_may 70 = .ok (.iload 4, 2) := by decide +kernel
theorem dX10_may_72 : decode cX10_may 72 = .ok (.invokestatic 138, 3) := by decide +kernel
theorem dX10_may_75 : decode cX10_may 75 = .ok (.istore 6, 2) := by decide +kernel
theorem dX10_may_77 : decode cX10_may 77 = .ok (.iload 6, 2) := by decide +kernel
theorem dX10_may_79 : decode cX10_may 79 = .ok (.ifCond .lt 15, 3) := by decide +kernel
theorem dX10_may_82 : decode cX10_may 82 = .ok (.aload_n 0, 1) := by decide +kernel
theorem dX10_may_83 : decode cX10_may 83 = .ok (.iload_n 2, 1) := by decide +kernel
theorem dX10_may_84 : decode cX10_may 84 = .ok (.aload_n 3, 1) := by decide +kernel
theorem dX10_may_85 : decode cX10_may 85 = .ok (.getfield 102, 3) := by decide +kernel
theorem dX10_may_88 : decode cX10_may 88 = .ok (.iload 6, 2) := by decide +kernel
theorem dX10_may_90 : decode cX10_may 90 = .ok (.iaload, 1) := by decide +kernel
theorem dX10_may_91 : decode cX10_may 91 = .ok (.invokevirtual 131, 3) := by decide +kernel
theorem dX10_may_94 : decode cX10_may 94 = .ok (.iload 6, 2) := by decide +kernel
theorem dX10_may_96 : decode cX10_may 96 = .ok (.ifCond .lt 7, 3) := by decide +kernel
theorem dX10_may_99 : decode cX10_may 99 = .ok (.iconst 1, 1) := by decide +kernel
theorem dX10_may_100 : decode cX10_may 100 = .ok (.goto 4, 3) := by decide +kernel
theorem dX10_may_103 : decode cX10_may 103 = .ok (.iconst 0, 1) := by decide +kernel
theorem dX10_may_104 : decode cX10_may 104 = .ok (.ireturn, 1) := by decide +kernel
theorem dX10_may_105 : decode cX10_may 105 = .ok (.iload 5, 2) := by decide +kernel
theorem dX10_may_107 : decode cX10_may 107 = .ok (.invokestatic 95, 3) := by decide +kernel
theorem dX10_may_110 : decode cX10_may 110 = .ok (.ifCond .ne 16, 3) := by decide +kernel
theorem dX10_may_113 : decode cX10_may 113 = .ok (.aload_n 3, 1) := by decide +kernel
theorem dX10_may_114 : decode cX10_may 114 = .ok (.getfield 92, 3) := by decide +kernel
theorem dX10_may_117 : decode cX10_may 117 = .ok (.iload 4, 2) := by decide +kernel
theorem dX10_may_119 : decode cX10_may 119 = .ok (.iaload, 1) := by decide +kernel
theorem dX10_may_120 : decode cX10_may 120 = .ok (.invokestatic 95, 3) := by decide +kernel
theorem dX10_may_123 : decode cX10_may 123 = .ok (.ifCond .eq 45, 3) := by decide +kernel
theorem dX10_may_126 : decode cX10_may 126 = .ok (.iload 5, 2) := by decide +kernel
theorem dX10_may_128 : decode cX10_may 128 = .ok (.invokestatic 95, 3) := by decide +kernel
theorem dX10_may_131 : decode cX10_may 131 = .ok (.ifCond .eq 35, 3) := by decide +kernel
theorem dX10_may_134 : decode cX10_may 134 = .ok (.aload_n 3, 1) := by decide +kernel
theorem dX10_may_135 : decode cX10_may 135 = .ok (.getfield 92, 3) := by decide +kernel
theorem dX10_may_138 : decode cX10_may 138 = .ok (.iload 4, 2) := by decide +kernel
theorem dX10_may_140 : decode cX10_may 140 = .ok (.iaload, 1) := by decide +kernel
theorem dX10_may_141 : decode cX10_may 141 = .ok (.invokestatic 95, 3) := by decide +kernel
theorem dX10_may_144 : decode cX10_may 144 = .ok (.ifCond .eq 22, 3) := by decide +kernel
theorem dX10_may_147 : decode cX10_may 147 = .ok (.iload 5, 2) := by decide +kernel
theorem dX10_may_149 : decode cX10_may 149 = .ok (.aload_n 3, 1) := by decide +kernel
theorem dX10_may_150 : decode cX10_may 150 = .ok (.getfield 92, 3) := by decide +kernel
theorem dX10_may_153 : decode cX10_may 153 = .ok (.iload 4, 2) := by decide +kernel
theorem dX10_may_155 : decode cX10_may 155 = .ok (.iaload, 1) := by decide +kernel
theorem dX10_may_156 : decode cX10_may 156 = .ok (.invokestatic 98, 3) := by decide +kernel
theorem dX10_may_159 : decode cX10_may 159 = .ok (.ifCond .eq 7, 3) := by decide +kernel
theorem dX10_may_162 : decode cX10_may 162 = .ok (.iconst 1, 1) := by decide +kernel
theorem dX10_may_163 : decode cX10_may 163 = .ok (.goto 4, 3) := by decide +kernel
theorem dX10_may_166 : decode cX10_may 166 = .ok (.iconst 0, 1) := by decide +kernel
theorem dX10_may_167 : decode cX10_may 167 = .ok (.ireturn, 1) := by decide +kernel
theorem dX10_may_168 : decode cX10_may 168 = .ok (.iload 5, 2) := by decide +kernel
theorem dX10_may_170 : decode cX10_may 170 = .ok (.aload_n 3, 1) := by decide +kernel
theorem dX10_may_171 : decode cX10_may 171 = .ok (.getfield 92, 3) := by decide +kernel
theorem dX10_may_174 : decode cX10_may 174 = .ok (.iload 4, 2) := by decide +kernel
theorem dX10_may_176 : decode cX10_may 176 = .ok (.iaload, 1) := by decide +kernel
theorem dX10_may_177 : decode cX10_may 177 = .ok (.if_icmp .eq 5, 3) := by decide +kernel
theorem dX10_may_180 : decode cX10_may 180 = .ok (.iconst 0, 1) := by decide +kernel
theorem dX10_may_181 : decode cX10_may 181 = .ok (.ireturn, 1) := by decide +kernel
theorem dX10_may_182 : decode cX10_may 182 = .ok (.iload 5, 2) := by decide +kernel
theorem dX10_may_184 : decode cX10_may 184 = .ok (.bipush 6, 2) := by decide +kernel
theorem dX10_may_186 : decode cX10_may 186 = .ok (.if_icmp .eq 10, 3) := by decide +kernel
theorem dX10_may_189 : decode cX10_may 189 = .ok (.iload 5, 2) := by decide +kernel
theorem dX10_may_191 : decode cX10_may 191 = .ok (.bipush 7, 2) := by decide +kernel
theorem dX10_may_193 : decode cX10_may 193 = .ok (.if_icmp .ne 32, 3) := by decide +kernel
theorem dX10_may_196 : decode cX10_may 196 = .ok (.aload_n 0, 1) := by decide +kernel
theorem dX10_may_197 : decode cX10_may 197 = .ok (.aload_n 1, 1) := by decide +kernel
theorem dX10_may_198 : decode cX10_may 198 = .ok (.getfield 102, 3) := by decide +kernel
theorem dX10_may_201 : decode cX10_may 201 = .ok (.aload_n 1, 1) := by decide +kernel
theorem dX10_may_202 : decode cX10_may 202 = .ok (.getfield 105, 3) := by decide +kernel
theorem dX10_may_205 : decode cX10_may 205 = .ok (.iload_n 2, 1) := by decide +kernel
theorem dX10_may_206 : decode cX10_may 206 = .ok (.iaload, 1) := by decide +kernel
theorem dX10_may_207 : decode cX10_may 207 = .ok (.iaload, 1) := by decide +kernel
theorem dX10_may_208 : decode cX10_may 208 = .ok (.aload_n 3, 1) := by decide +kernel
theorem dX10_may_209 : decode cX10_may 209 = .ok (.getfield 102, 3) := by decide +kernel
theorem dX10_may_212 : decode cX10_may 212 = .ok (.aload_n 3, 1) := by decide +kernel
theorem dX10_may_213 : decode cX10_may 213 = .ok (.getfield 105, 3) := by decide +kernel
theorem dX10_may_216 : decode cX10_may 216 = .ok (.iload 4, 2) := by decide +kernel
theorem dX10_may_218 : decode cX10_may 218 = .ok (.iaload, 1) := by decide +kernel
theorem dX10_may_219 : decode cX10_may 219 = .ok (.iaload, 1) := by decide +kernel
theorem dX10_may_220 : decode cX10_may 220 = .ok (.invokevirtual 131, 3) := by decide +kernel
theorem dX10_may_223 : decode cX10_may 223 = .ok (.iconst 1, 1) := by decide +kernel
theorem dX10_may_224 : decode cX10_may 224 = .ok (.ireturn, 1) := by decide +kernel
theorem dX10_may_225 : decode cX10_may 225 = .ok (.aload_n 1, 1) := by decide +kernel
theorem dX10_may_226 : decode cX10_may 226 = .ok (.iload_n 2, 1) := by decide +kernel
theorem dX10_may_227 : decode cX10_may 227 = .ok (.aload_n 3, 1) := by decide +kernel
theorem dX10_may_228 : decode cX10_may 228 = .ok (.iload 4, 2) := by decide +kernel
theorem dX10_may_230 : decode cX10_may 230 = .ok (.invokestatic 108, 3) := by decide +kernel
theorem dX10_may_233 : decode cX10_may 233 = .ok (.ifCond .ne 5, 3) := by decide +kernel
theorem dX10_may_236 : decode cX10_may 236 = .ok (.iconst 0, 1) := by decide +kernel
theorem dX10_may_237 : decode cX10_may 237 = .ok (.ireturn, 1) := by decide +kernel
theorem dX10_may_238 : decode cX10_may 238 = .ok (.iload 5, 2) := by decide +kernel
theorem dX10_may_240 : decode cX10_may 240 = .ok (.bipush 10, 2) := by decide +kernel
theorem dX10_may_242 : decode cX10_may 242 = .ok (.if_icmp .ne 81, 3) := by decide +kernel
theorem dX10_may_245 : decode cX10_may 245 = .ok (.iconst 1, 1) := by decide +kernel
theorem dX10_may_246 : decode cX10_may 246 = .ok (.istore 6, 2) := by decide +kernel
theorem dX10_may_248 : decode cX10_may 248 = .ok (.aload_n 1, 1) := by decide +kernel
theorem dX10_may_249 : decode cX10_may 249 = .ok (.getfield 105, 3) := by decide +kernel
theorem dX10_may_252 : decode cX10_may 252 = .ok (.iload_n 2, 1) := by decide +kernel
theorem dX10_may_253 : decode cX10_may 253 = .ok (.iaload, 1) := by decide +kernel
theorem dX10_may_254 : decode cX10_may 254 = .ok (.istore 7, 2) := by decide +kernel
theorem dX10_may_256 : decode cX10_may 256 = .ok (.iload 7, 2) := by decide +kernel
theorem dX10_may_258 : decode cX10_may 258 = .ok (.ifCond .lt 44, 3) := by decide +kernel
theorem dX10_may_261 : decode cX10_may 261 = .ok (.iload 6, 2) := by decide +kernel
theorem dX10_may_263 : decode cX10_may 263 = .ok (.ifCond .eq 24, 3) := by decide +kernel
theorem dX10_may_266 : decode cX10_may 266 = .ok (.aload_n 3, 1) := by decide +kernel
theorem dX10_may_267 : decode cX10_may 267 = .ok (.iload 4, 2) := by decide +kernel
theorem dX10_may_269 : decode cX10_may 269 = .ok (.aload_n 1, 1) := by decide +kernel
theorem dX10_may_270 : decode cX10_may 270 = .ok (.aload_n 1, 1) := by decide +kernel
theorem dX10_may_271 : decode cX10_may 271 = .ok (.getfield 142, 3) := by decide +kernel
theorem dX10_may_274 : decode cX10_may 274 = .ok (.iload 7, 2) := by decide +kernel
theorem dX10_may_276 : decode cX10_may 276 = .ok (.iaload, 1) := by decide +kernel
theorem dX10_may_277 : decode cX10_may 277 = .ok (.invokevirtual 145, 3) := by decide +kernel
theorem dX10_may_280 : decode cX10_may 280 = .ok (.ifCond .lt 7, 3) := by decide +kernel
theorem dX10_may_283 : decode cX10_may 283 = .ok (.iconst 1, 1) := by decide +kernel
theorem dX10_may_284 : decode cX10_may 284 = .ok (.goto 4, 3) := by decide +kernel
theorem dX10_may_287 : decode cX10_may 287 = .ok (.iconst 0, 1) := by decide +kernel
theorem dX10_may_288 : decode cX10_may 288 = .ok (.istore 6, 2) := by decide +kernel
theorem dX10_may_290 : decode cX10_may 290 = .ok (.aload_n 1, 1) := by decide +kernel
theorem dX10_may_291 : decode cX10_may 291 = .ok (.getfield 122, 3) := by decide +kernel
theorem dX10_may_294 : decode cX10_may 294 = .ok (.iload 7, 2) := by decide +kernel
theorem dX10_may_296 : decode cX10_may 296 = .ok (.iaload, 1) := by decide +kernel
theorem dX10_may_297 : decode cX10_may 297 = .ok (.istore 7, 2) := by decide +kernel
theorem dX10_may_299 : decode cX10_may 299 = .ok (.goto (-43), 3) := by decide +kernel
theorem dX10_may_302 : decode cX10_may 302 = .ok (.aload_n 3, 1) := by decide +kernel
theorem dX10_may_303 : decode cX10_may 303 = .ok (.getfield 149, 3) := by decide +kernel
theorem dX10_may_306 : decode cX10_may 306 = .ok (.iload 4, 2) := by decide +kernel
theorem dX10_may_308 : decode cX10_may 308 = .ok (.iaload, 1) := by decide +kernel
theorem dX10_may_309 : decode cX10_may 309 = .ok (.ifCond .ge 8, 3) := by decide +kernel
theorem dX10_may_312 : decode cX10_may 312 = .ok (.iload 6, 2) := by decide +kernel
theorem dX10_may_314 : decode cX10_may 314 = .ok (.ifCond .eq 7, 3) := by decide +kernel
theorem dX10_may_317 : decode cX10_may 317 = .ok (.iconst 1, 1) := by decide +kernel
theorem dX10_may_318 : decode cX10_may 318 = .ok (.goto 4, 3) := by decide +kernel
theorem dX10_may_321 : decode cX10_may 321 = .ok (.iconst 0, 1) := by decide +kernel
theorem dX10_may_322 : decode cX10_may 322 = .ok (.ireturn, 1) := by decide +kernel
theorem dX10_may_323 : decode cX10_may 323 = .ok (.iconst 1, 1) := by decide +kernel
theorem dX10_may_324 : decode cX10_may 324 = .ok (.istore 6, 2) := by decide +kernel
theorem dX10_may_326 : decode cX10_may 326 = .ok (.aload_n 3, 1) := by decide +kernel
theorem dX10_may_327 : decode cX10_may 327 = .ok (.getfield 105, 3) := by decide +kernel
theorem dX10_may_330 : decode cX10_may 330 = .ok (.iload 4, 2) := by decide +kernel
theorem dX10_may_332 : decode cX10_may 332 = .ok (.iaload, 1) := by decide +kernel
theorem dX10_may_333 : decode cX10_may 333 = .ok (.istore 7, 2) := by decide +kernel
theorem dX10_may_335 : decode cX10_may 335 = .ok (.iload 7, 2) := by decide +kernel
theorem dX10_may_337 : decode cX10_may 337 = .ok (.ifCond .lt 82, 3) := by decide +kernel
theorem dX10_may_340 : decode cX10_may 340 = .ok (.iload 5, 2) := by decide +kernel
theorem dX10_may_342 : decode cX10_may 342 = .ok (.bipush 11, 2) := by decide +kernel
theorem dX10_may_344 : decode cX10_may 344 = .ok (.if_icmp .ne 75, 3) := by decide +kernel
theorem dX10_may_347 : decode cX10_may 347 = .ok (.aload_n 1, 1) := by decide +kernel
theorem dX10_may_348 : decode cX10_may 348 = .ok (.iload_n 2, 1) := by decide +kernel
theorem dX10_may_349 : decode cX10_may 349 = .ok (.aload_n 3, 1) := by decide +kernel
theorem dX10_may_350 : decode cX10_may 350 = .ok (.iload 7, 2) := by decide +kernel
theorem dX10_may_352 : decode cX10_may 352 = .ok (.invokestatic 152, 3) := by decide +kernel
theorem dX10_may_355 : decode cX10_may 355 = .ok (.istore 8, 2) := by decide +kernel
theorem dX10_may_357 : decode cX10_may 357 = .ok (.iload 8, 2) := by decide +kernel
theorem dX10_may_359 : decode cX10_may 359 = .ok (.ifCond .lt 21, 3) := by decide +kernel
theorem dX10_may_362 : decode cX10_may 362 = .ok (.aload_n 0, 1) := by decide +kernel
theorem dX10_may_363 : decode cX10_may 363 = .ok (.aload_n 1, 1) := by decide +kernel
theorem dX10_may_364 : decode cX10_may 364 = .ok (.getfield 102, 3) := by decide +kernel
theorem dX10_may_367 : decode cX10_may 367 = .ok (.iload 8, 2) := by decide +kernel
theorem dX10_may_369 : decode cX10_may 369 = .ok (.iaload, 1) := by decide +kernel
theorem dX10_may_370 : decode cX10_may 370 = .ok (.aload_n 3, 1) := by decide +kernel
theorem dX10_may_371 : decode cX10_may 371 = .ok (.getfield 102, 3) := by decide +kernel
theorem dX10_may_374 : decode cX10_may 374 = .ok (.iload 7, 2) := by decide +kernel
theorem dX10_may_376 : decode cX10_may 376 = .ok (.iaload, 1) := by decide +kernel
theorem dX10_may_377 : decode cX10_may 377 = .ok (.invokevirtual 131, 3) := by decide +kernel
theorem dX10_may_380 : decode cX10_may 380 = .ok (.iload 6, 2) := by decide +kernel
theorem dX10_may_382 : decode cX10_may 382 = .ok (.ifCond .eq 22, 3) := by decide +kernel
theorem dX10_may_385 : decode cX10_may 385 = .ok (.iload 8, 2) := by decide +kernel
theorem dX10_may_387 : decode cX10_may 387 = .ok (.ifCond .ge 13, 3) := by decide +kernel
theorem dX10_may_390 : decode cX10_may 390 = .ok (.aload_n 3, 1) := by decide +kernel
theorem dX10_may_391 : decode cX10_may 391 = .ok (.getfield 155, 3) := by decide +kernel
theorem dX10_may_394 : decode cX10_may 394 = .ok (.iload 7, 2) := by decide +kernel
theorem dX10_may_396 : decode cX10_may 396 = .ok (.iaload, 1) := by decide +kernel
theorem dX10_may_397 : decode cX10_may 397 = .ok (.ifCond .lt 7, 3) := by decide +kernel
theorem dX10_may_400 : decode cX10_may 400 = .ok (.iconst 1, 1) := by decide +kernel
theorem dX10_may_401 : decode cX10_may 401 = .ok (.goto 4, 3) := by decide +kernel
theorem dX10_may_404 : decode cX10_may 404 = .ok (.iconst 0, 1) := by decide +kernel
theorem dX10_may_405 : decode cX10_may 405 = .ok (.istore 6, 2) := by decide +kernel
theorem dX10_may_407 : decode cX10_may 407 = .ok (.aload_n 3, 1) := by decide +kernel
theorem dX10_may_408 : decode cX10_may 408 = .ok (.getfield 122, 3) := by decide +kernel
theorem dX10_may_411 : decode cX10_may 411 = .ok (.iload 7, 2) := by decide +kernel
theorem dX10_may_413 : decode cX10_may 413 = .ok (.iaload, 1) := by decide +kernel
theorem dX10_may_414 : decode cX10_may 414 = .ok (.istore 7, 2) := by decide +kernel
theorem dX10_may_416 : decode cX10_may 416 = .ok (.goto (-81), 3) := by decide +kernel
theorem dX10_may_419 : decode cX10_may 419 = .ok (.iload 6, 2) := by decide +kernel
theorem dX10_may_421 : decode cX10_may 421 = .ok (.ireturn, 1) := by decide +kernel
def rmX10_may (mc ms : Nat) : Room := { frames := 153, cells := mc, slots := ms, locals := 3823 }
abbrev cX10_fitsAll : ByteArray := prog_12_method_21_code
def yX10_fitsAll : MethodName := ⟨RX10, "fitsAll", "(LSchemaReaderModel$Text;LSchemaReaderModel$Text;)Z"⟩
def wsX10_fitsAll : List Cond := .code yX10_fitsAll cX10_fitsAll 5 (some .boolean) :: sr_G
theorem dX10_fitsAll_0 : decode cX10_fitsAll 0 = .ok (.iconst 0, 1) := by decide +kernel
theorem dX10_fitsAll_1 : decode cX10_fitsAll 1 = .ok (.istore_n 3, 1) := by decide +kernel
theorem dX10_fitsAll_2 : decode cX10_fitsAll 2 = .ok (.iload_n 3, 1) := by decide +kernel
theorem dX10_fitsAll_3 : decode cX10_fitsAll 3 = .ok (.sipush 19600, 3) := by decide +kernel
theorem dX10_fitsAll_6 : decode cX10_fitsAll 6 = .ok (.if_icmp .ge 16, 3) := by decide +kernel
theorem dX10_fitsAll_9 : decode cX10_fitsAll 9 = .ok (.aload_n 0, 1) := by decide +kernel
theorem dX10_fitsAll_10 : decode cX10_fitsAll 10 = .ok (.getfield 38, 3) := by decide +kernel
theorem dX10_fitsAll_13 : decode cX10_fitsAll 13 = .ok (.iload_n 3, 1) := by decide +kernel
theorem dX10_fitsAll_14 : decode cX10_fitsAll 14 = .ok (.iconst 0, 1) := by decide +kernel
theorem dX10_fitsAll_15 : decode cX10_fitsAll 15 = .ok (.bastore, 1) := by decide +kernel
theorem dX10_fitsAll_16 : decode cX10_fitsAll 16 = .ok (.iinc 3 1, 3) := by decide +kernel
theorem dX10_fitsAll_19 : decode cX10_fitsAll 19 = .ok (.goto (-17), 3) := by decide +kernel
theorem dX10_fitsAll_22 : decode cX10_fitsAll 22 = .ok (.aload_n 0, 1) := by decide +kernel
theorem dX10_fitsAll_23 : decode cX10_fitsAll 23 = .ok (.iconst 0, 1) := by decide +kernel
theorem dX10_fitsAll_24 : decode cX10_fitsAll 24 = .ok (.putfield 125, 3) := by decide +kernel
theorem dX10_fitsAll_27 : decode cX10_fitsAll 27 = .ok (.aload_n 0, 1) := by decide +kernel
theorem dX10_fitsAll_28 : decode cX10_fitsAll 28 = .ok (.aload_n 1, 1) := by decide +kernel
theorem dX10_fitsAll_29 : decode cX10_fitsAll 29 = .ok (.getfield 128, 3) := by decide +kernel
theorem dX10_fitsAll_32 : decode cX10_fitsAll 32 = .ok (.aload_n 2, 1) := by decide +kernel
theorem dX10_fitsAll_33 : decode cX10_fitsAll 33 = .ok (.getfield 128, 3) := by decide +kernel
theorem dX10_fitsAll_36 : decode cX10_fitsAll 36 = .ok (.invokevirtual 131, 3) := by decide +kernel
theorem dX10_fitsAll_39 : decode cX10_fitsAll 39 = .ok (.iconst 1, 1) := by decide +kernel
theorem dX10_fitsAll_40 : decode cX10_fitsAll 40 = .ok (.istore_n 3, 1) := by decide +kernel
theorem dX10_fitsAll_41 : decode cX10_fitsAll 41 = .ok (.iconst 0, 1) := by decide +kernel
theorem dX10_fitsAll_42 : decode cX10_fitsAll 42 = .ok (.istore 4, 2) := by decide +kernel
theorem dX10_fitsAll_44 : decode cX10_fitsAll 44 = .ok (.iload 4, 2) := by decide +kernel
theorem dX10_fitsAll_46 : decode cX10_fitsAll 46 = .ok (.aload_n 0, 1) := by decide +kernel
theorem dX10_fitsAll_47 : decode cX10_fitsAll 47 = .ok (.getfield 125, 3) := by decide +kernel
theorem dX10_fitsAll_50 : decode cX10_fitsAll 50 = .ok (.if_icmp .ge 42, 3) := by decide +kernel
theorem dX10_fitsAll_53 : decode cX10_fitsAll 53 = .ok (.iload_n 3, 1) := by decide +kernel
theorem dX10_fitsAll_54 : decode cX10_fitsAll 54 = .ok (.ifCond .eq 38, 3) := by decide +kernel
theorem dX10_fitsAll_57 : decode cX10_fitsAll 57 = .ok (.aload_n 0, 1) := by decide +kernel
theorem dX10_fitsAll_58 : decode cX10_fitsAll 58 = .ok (.aload_n 1, 1) := by decide +kernel
theorem dX10_fitsAll_59 : decode cX10_fitsAll 59 = .ok (.aload_n 0, 1) := by decide +kernel
theorem dX10_fitsAll_60 : decode cX10_fitsAll 60 = .ok (.getfield 42, 3) := by decide +kernel
theorem dX10_fitsAll_63 : decode cX10_fitsAll 63 = .ok (.iload 4, 2) := by decide +kernel
theorem dX10_fitsAll_65 : decode cX10_fitsAll 65 = .ok (.iaload, 1) := by decide +kernel
theorem dX10_fitsAll_66 : decode cX10_fitsAll 66 = .ok (.sipush 140, 3) := by decide +kernel
theorem dX10_fitsAll_69 : decode cX10_fitsAll 69 = .ok (.idiv, 1) := by decide +kernel
theorem dX10_fitsAll_70 : decode cX10_fitsAll 70 = .ok (.aload_n 2, 1) := by decide +kernel
theorem dX10_fitsAll_71 : decode cX10_fitsAll 71 = .ok (.aload_n 0, 1) := by decide +kernel
theorem dX10_fitsAll_72 : decode cX10_fitsAll 72 = .ok (.getfield 42, 3) := by decide +kernel
theorem dX10_fitsAll_75 : decode cX10_fitsAll 75 = .ok (.iload 4, 2) := by decide +kernel
theorem dX10_fitsAll_77 : decode cX10_fitsAll 77 = .ok (.iaload, 1) := by decide +kernel
theorem dX10_fitsAll_78 : decode cX10_fitsAll 78 = .ok (.sipush 140, 3) := by decide +kernel
theorem dX10_fitsAll_81 : decode cX10_fitsAll 81 = .ok (.irem, 1) := by decide +kernel
theorem dX10_fitsAll_82 : decode cX10_fitsAll 82 = .ok (.invokevirtual 135, 3) := by decide +kernel
theorem dX10_fitsAll_85 : decode cX10_fitsAll 85 = .ok (.istore_n 3, 1) := by decide +kernel
theorem dX10_fitsAll_86 : decode cX10_fitsAll 86 = .ok (.iinc 4 1, 3) := by decide +kernel
theorem dX10_fitsAll_89 : decode cX10_fitsAll 89 = .ok (.goto (-45), 3) := by decide +kernel
theorem dX10_fitsAll_92 : decode cX10_fitsAll 92 = .ok (.iload_n 3, 1) := by decide +kernel
theorem dX10_fitsAll_93 : decode cX10_fitsAll 93 = .ok (.ireturn, 1) := by decide +kernel
def rmX10_fitsAll (mc ms : Nat) : Room := { frames := 154, cells := mc, slots := ms, locals := 3851 }
theorem g10_95 (c0 : Cond) : GoodIn (c0 :: sr_G) (va_wsS RX10 95 yX10_sixOf wsX10_sixOf) := sr_S c0 (sr_ins (by decide +kernel))
theorem g10_98 (c0 : Cond) : GoodIn (c0 :: sr_G) (va_wsS RX10 98 yX10_matchesSix wsX10_matchesSix) := sr_S c0 (sr_ins (by decide +kernel))
theorem g10_108 (c0 : Cond) : GoodIn (c0 :: sr_G) (va_wsS RX10 108 yX10_matchesT wsX10_matchesT) := sr_S c0 (sr_ins (by decide +kernel))
theorem g10_131 (c0 : Cond) : GoodIn (c0 :: sr_G) (wsV RX10 131 RX10 yX10_ask wsX10_ask) := sr_V c0 (sr_ins (by decide +kernel))
theorem g10_152 (c0 : Cond) : GoodIn (c0 :: sr_G) (va_wsS RX10 152 yX10_fieldLike wsX10_fieldLike) := sr_S c0 (sr_ins (by decide +kernel))
theorem g10_138 (c0 : Cond) : GoodIn (c0 :: sr_G) (va_wsS RX10 138 yX10_branchFor wsX10_branchFor) := sr_S c0 (sr_ins (by decide +kernel))
theorem g10_135 (c0 : Cond) : GoodIn (c0 :: sr_G) (wsV RX10 135 RX10 yX10_may wsX10_may) := sr_V c0 (sr_ins (by decide +kernel))
theorem gn10_145 : (∀ w ∈ ([.instanceMethod yX9_symbol, .selects RX9 yX9_symbol yX9_symbol, .initialized yX9_symbol.cls, .code yX9_symbol cX9_symbol 6 (some .int)] : List Cond), w ∈ sr_G) ∧ (.methodLinkNest RX10 145 yX9_symbol "SchemaReaderModel" : Cond) ∈ sr_N := ⟨sr_ins (by decide +kernel), List.mem_filter.mpr ⟨in_tables_1_7 _ (List.mem_of_getElem? (i := 69) rfl), rfl⟩⟩
