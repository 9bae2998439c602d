abbrev cX10_matchesT : ByteArray := prog_12_method_18_code
def yX10_matchesT : MethodName := ⟨RX10, "matches", "(LSchemaReaderModel$Text;ILSchemaReaderModel$Text;I)Z"⟩
def wsX10_matchesT : List Cond := .code yX10_matchesT cX10_matchesT 6 (some .boolean) :: sr_G
theorem dX10_matchesT_0 : decode cX10_matchesT 0 = .ok (.aload_n 0, 1) := by decide +kernel
theorem dX10_matchesT_1 : decode cX10_matchesT 1 = .ok (.getfield 92, 3) := by decide +kernel
theorem dX10_matchesT_4 : decode cX10_matchesT 4 = .ok (.iload_n 1, 1) := by decide +kernel
theorem dX10_matchesT_5 : decode cX10_matchesT 5 = .ok (.iaload, 1) := by decide +kernel
theorem dX10_matchesT_6 : decode cX10_matchesT 6 = .ok (.istore 4, 2) := by decide +kernel
theorem dX10_matchesT_8 : decode cX10_matchesT 8 = .ok (.aload_n 2, 1) := by decide +kernel
theorem dX10_matchesT_9 : decode cX10_matchesT 9 = .ok (.getfield 92, 3) := by decide +kernel
theorem dX10_matchesT_12 : decode cX10_matchesT 12 = .ok (.iload_n 3, 1) := by decide +kernel
theorem dX10_matchesT_13 : decode cX10_matchesT 13 = .ok (.iaload, 1) := by decide +kernel
theorem dX10_matchesT_14 : decode cX10_matchesT 14 = .ok (.istore 5, 2) := by decide +kernel
theorem dX10_matchesT_16 : decode cX10_matchesT 16 = .ok (.iload 4, 2) := by decide +kernel
theorem dX10_matchesT_18 : decode cX10_matchesT 18 = .ok (.bipush 8, 2) := by decide +kernel
theorem dX10_matchesT_20 : decode cX10_matchesT 20 = .ok (.if_icmp .eq 10, 3) := by decide +kernel
theorem dX10_matchesT_23 : decode cX10_matchesT 23 = .ok (.iload 5, 2) := by decide +kernel
theorem dX10_matchesT_25 : decode cX10_matchesT 25 = .ok (.bipush 8, 2) := by decide +kernel
theorem dX10_matchesT_27 : decode cX10_matchesT 27 = .ok (.if_icmp .ne 5, 3) := by decide +kernel
theorem dX10_matchesT_30 : decode cX10_matchesT 30 = .ok (.iconst 1, 1) := by decide +kernel
theorem dX10_matchesT_31 : decode cX10_matchesT 31 = .ok (.ireturn, 1) := by decide +kernel
theorem dX10_matchesT_32 : decode cX10_matchesT 32 = .ok (.iload 4, 2) := by decide +kernel
theorem dX10_matchesT_34 : decode cX10_matchesT 34 = .ok (.invokestatic 95, 3) := by decide +kernel
theorem dX10_matchesT_37 : decode cX10_matchesT 37 = .ok (.ifCond .ne 11, 3) := by decide +kernel
theorem dX10_matchesT_40 : decode cX10_matchesT 40 = .ok (.iload 5, 2) := by decide +kernel
theorem dX10_matchesT_42 : decode cX10_matchesT 42 = .ok (.invokestatic 95, 3) := by decide +kernel
theorem dX10_matchesT_45 : decode cX10_matchesT 45 = .ok (.ifCond .eq 35, 3) := by decide +kernel
theorem dX10_matchesT_48 : decode cX10_matchesT 48 = .ok (.iload 4, 2) := by decide +kernel
theorem dX10_matchesT_50 : decode cX10_matchesT 50 = .ok (.invokestatic 95, 3) := by decide +kernel
theorem dX10_matchesT_53 : decode cX10_matchesT 53 = .ok (.ifCond .eq 25, 3) := by decide +kernel
theorem dX10_matchesT_56 : decode cX10_matchesT 56 = .ok (.iload 5, 2) := by decide +kernel
theorem dX10_matchesT_58 : decode cX10_matchesT 58 = .ok (.invokestatic 95, 3) := by decide +kernel
theorem dX10_matchesT_61 : decode cX10_matchesT 61 = .ok (.ifCond .eq 17, 3) := by decide +kernel
theorem dX10_matchesT_64 : decode cX10_matchesT 64 = .ok (.iload 4, 2) := by decide +kernel
theorem dX10_matchesT_66 : decode cX10_matchesT 66 = .ok (.iload 5, 2) := by decide +kernel
theorem dX10_matchesT_68 : decode cX10_matchesT 68 = .ok (.invokestatic 98, 3) := by decide +kernel
theorem dX10_matchesT_71 : decode cX10_matchesT 71 = .ok (.ifCond .eq 7, 3) := by decide +kernel
theorem dX10_matchesT_74 : decode cX10_matchesT 74 = .ok (.iconst 1, 1) := by decide +kernel
theorem dX10_matchesT_75 : decode cX10_matchesT 75 = .ok (.goto 4, 3) := by decide +kernel
theorem dX10_matchesT_78 : decode cX10_matchesT 78 = .ok (.iconst 0, 1) := by decide +kernel
theorem dX10_matchesT_79 : decode cX10_matchesT 79 = .ok (.ireturn, 1) := by decide +kernel
theorem dX10_matchesT_80 : decode cX10_matchesT 80 = .ok (.iload 4, 2) := by decide +kernel
theorem dX10_matchesT_82 : decode cX10_matchesT 82 = .ok (.iload 5, 2) := by decide +kernel
theorem dX10_matchesT_84 : decode cX10_matchesT 84 = .ok (.if_icmp .eq 5, 3) := by decide +kernel
theorem dX10_matchesT_87 : decode cX10_matchesT 87 = .ok (.iconst 0, 1) := by decide +kernel
theorem dX10_matchesT_88 : decode cX10_matchesT 88 = .ok (.ireturn, 1) := by decide +kernel
theorem dX10_matchesT_89 : decode cX10_matchesT 89 = .ok (.iload 4, 2) := by decide +kernel
theorem dX10_matchesT_91 : decode cX10_matchesT 91 = .ok (.bipush 6, 2) := by decide +kernel
theorem dX10_matchesT_93 : decode cX10_matchesT 93 = .ok (.if_icmp .eq 10, 3) := by decide +kernel
theorem dX10_matchesT_96 : decode cX10_matchesT 96 = .ok (.iload 4, 2) := by decide +kernel
theorem dX10_matchesT_98 : decode cX10_matchesT 98 = .ok (.bipush 7, 2) := by decide +kernel
theorem dX10_matchesT_100 : decode cX10_matchesT 100 = .ok (.if_icmp .ne 31, 3) := by decide +kernel
theorem dX10_matchesT_103 : decode cX10_matchesT 103 = .ok (.aload_n 0, 1) := by decide +kernel
theorem dX10_matchesT_104 : decode cX10_matchesT 104 = .ok (.aload_n 0, 1) := by decide +kernel
theorem dX10_matchesT_105 : decode cX10_matchesT 105 = .ok (.getfield 102, 3) := by decide +kernel
theorem dX10_matchesT_108 : decode cX10_matchesT 108 = .ok (.aload_n 0, 1) := by decide +kernel
theorem dX10_matchesT_109 : decode cX10_matchesT 109 = .ok (.getfield 105, 3) := by decide +kernel
theorem dX10_matchesT_112 : decode cX10_matchesT 112 = .ok (.iload_n 1, 1) := by decide +kernel
theorem dX10_matchesT_113 : decode cX10_matchesT 113 = .ok (.iaload, 1) := by decide +kernel
theorem dX10_matchesT_114 : decode cX10_matchesT 114 = .ok (.iaload, 1) := by decide +kernel
theorem dX10_matchesT_115 : decode cX10_matchesT 115 = .ok (.aload_n 2, 1) := by decide +kernel
theorem dX10_matchesT_116 : decode cX10_matchesT 116 = .ok (.aload_n 2, 1) := by decide +kernel
theorem dX10_matchesT_117 : decode cX10_matchesT 117 = .ok (.getfield 102, 3) := by decide +kernel
theorem dX10_matchesT_120 : decode cX10_matchesT 120 = .ok (.aload_n 2, 1) := by decide +kernel
theorem dX10_matchesT_121 : decode cX10_matchesT 121 = .ok (.getfield 105, 3) := by decide +kernel
theorem dX10_matchesT_124 : decode cX10_matchesT 124 = .ok (.iload_n 3, 1) := by decide +kernel
theorem dX10_matchesT_125 : decode cX10_matchesT 125 = .ok (.iaload, 1) := by decide +kernel
theorem dX10_matchesT_126 : decode cX10_matchesT 126 = .ok (.iaload, 1) := by decide +kernel
theorem dX10_matchesT_127 : decode cX10_matchesT 127 = .ok (.invokestatic 108, 3) := by decide +kernel
theorem dX10_matchesT_130 : decode cX10_matchesT 130 = .ok (.ireturn, 1) := by decide +kernel
theorem dX10_matchesT_131 : decode cX10_matchesT 131 = .ok (.aload_n 0, 1) := by decide +kernel
theorem dX10_matchesT_132 : decode cX10_matchesT 132 = .ok (.aload_n 0, 1) := by decide +kernel
theorem dX10_matchesT_133 : decode cX10_matchesT 133 = .ok (.getfield 112, 3) := by decide +kernel
theorem dX10_matchesT_136 : decode cX10_matchesT 136 = .ok (.iload_n 1, 1) := by decide +kernel
theorem dX10_matchesT_137 : decode cX10_matchesT 137 = .ok (.iaload, 1) := by decide +kernel
theorem dX10_matchesT_138 : decode cX10_matchesT 138 = .ok (.aload_n 2, 1) := by decide +kernel
theorem dX10_matchesT_139 : decode cX10_matchesT 139 = .ok (.aload_n 2, 1) := by decide +kernel
theorem dX10_matchesT_140 : decode cX10_matchesT 140 = .ok (.getfield 112, 3) := by decide +kernel
theorem dX10_matchesT_143 : decode cX10_matchesT 143 = .ok (.iload_n 3, 1) := by decide +kernel
theorem dX10_matchesT_144 : decode cX10_matchesT 144 = .ok (.iaload, 1) := by decide +kernel
theorem dX10_matchesT_145 : decode cX10_matchesT 145 = .ok (.invokevirtual 115, 3) := by decide +kernel
theorem dX10_matchesT_148 : decode cX10_matchesT 148 = .ok (.ifCond .eq 29, 3) := by decide +kernel
theorem dX10_matchesT_151 : decode cX10_matchesT 151 = .ok (.iload 4, 2) := by decide +kernel
theorem dX10_matchesT_153 : decode cX10_matchesT 153 = .ok (.bipush 9, 2) := by decide +kernel
theorem dX10_matchesT_155 : decode cX10_matchesT 155 = .ok (.if_icmp .ne 18, 3) := by decide +kernel
theorem dX10_matchesT_158 : decode cX10_matchesT 158 = .ok (.aload_n 0, 1) := by decide +kernel
theorem dX10_matchesT_159 : decode cX10_matchesT 159 = .ok (.getfield 119, 3) := by decide +kernel
theorem dX10_matchesT_162 : decode cX10_matchesT 162 = .ok (.iload_n 1, 1) := by decide +kernel
theorem dX10_matchesT_163 : decode cX10_matchesT 163 = .ok (.iaload, 1) := by decide +kernel
theorem dX10_matchesT_164 : decode cX10_matchesT 164 = .ok (.aload_n 2, 1) := by decide +kernel
theorem dX10_matchesT_165 : decode cX10_matchesT 165 = .ok (.getfield 119, 3) := by decide +kernel
theorem dX10_matchesT_168 : decode cX10_matchesT 168 = .ok (.iload_n 3, 1) := by decide +kernel
theorem dX10_matchesT_169 : decode cX10_matchesT 169 = .ok (.iaload, 1) := by decide +kernel
theorem dX10_matchesT_170 : decode cX10_matchesT 170 = .ok (.if_icmp .ne 7, 3) := by decide +kernel
theorem dX10_matchesT_173 : decode cX10_matchesT 173 = .ok (.iconst 1, 1) := by decide +kernel
theorem dX10_matchesT_174 : decode cX10_matchesT 174 = .ok (.goto 4, 3) := by decide +kernel
theorem dX10_matchesT_177 : decode cX10_matchesT 177 = .ok (.iconst 0, 1) := by decide +kernel
theorem dX10_matchesT_178 : decode cX10_matchesT 178 = .ok (.ireturn, 1) := by decide +kernel
def rmX10_matchesT (d : Nat) (mc ms : Nat) : Room := { frames := 1 * d + 1, cells := mc, slots := ms, locals := 25 * d + 24 }
abbrev cX10_branchFor : ByteArray := prog_12_method_19_code
def yX10_branchFor : MethodName := ⟨RX10, "branchFor", "(LSchemaReaderModel$Text;ILSchemaReaderModel$Text;I)I"⟩
def wsX10_branchFor : List Cond := .code yX10_branchFor cX10_branchFor 5 (some .int) :: sr_G
theorem dX10_branchFor_0 : decode cX10_branchFor 0 = .ok (.aload_n 2, 1) := by decide +kernel
theorem dX10_branchFor_1 : decode cX10_branchFor 1 = .ok (.getfield 105, 3) := by decide +kernel
theorem dX10_branchFor_4 : decode cX10_branchFor 4 = .ok (.iload_n 3, 1) := by decide +kernel
theorem dX10_branchFor_5 : decode cX10_branchFor 5 = .ok (.iaload, 1) := by decide +kernel
theorem dX10_branchFor_6 : decode cX10_branchFor 6 = .ok (.istore 4, 2) := by decide +kernel
theorem dX10_branchFor_8 : decode cX10_branchFor 8 = .ok (.iload 4, 2) := by decide +kernel
theorem dX10_branchFor_10 : decode cX10_branchFor 10 = .ok (.ifCond .lt 34, 3) := by decide +kernel
theorem dX10_branchFor_13 : decode cX10_branchFor 13 = .ok (.aload_n 0, 1) := by decide +kernel
theorem dX10_branchFor_14 : decode cX10_branchFor 14 = .ok (.iload_n 1, 1) := by decide +kernel
theorem dX10_branchFor_15 : decode cX10_branchFor 15 = .ok (.aload_n 2, 1) := by decide +kernel
theorem dX10_branchFor_16 : decode cX10_branchFor 16 = .ok (.aload_n 2, 1) := by decide +kernel
theorem dX10_branchFor_17 : decode cX10_branchFor 17 = .ok (.getfield 102, 3) := by decide +kernel
theorem dX10_branchFor_20 : decode cX10_branchFor 20 = .ok (.iload 4, 2) := by decide +kernel
theorem dX10_branchFor_22 : decode cX10_branchFor 22 = .ok (.iaload, 1) := by decide +kernel
theorem dX10_branchFor_23 : decode cX10_branchFor 23 = .ok (.invokestatic 108, 3) := by decide +kernel
theorem dX10_branchFor_26 : decode cX10_branchFor 26 = .ok (.ifCond .eq 6, 3) := by decide +kernel
theorem dX10_branchFor_29 : decode cX10_branchFor 29 = .ok (.iload 4, 2) := by decide +kernel
theorem dX10_branchFor_31 : decode cX10_branchFor 31 = .ok (.ireturn, 1) := by decide +kernel
theorem dX10_branchFor_32 : decode cX10_branchFor 32 = .ok (.aload_n 2, 1) := by decide +kernel
theorem dX10_branchFor_33 : decode cX10_branchFor 33 = .ok (.getfield 122, 3) := by decide +kernel
theorem dX10_branchFor_36 : decode cX10_branchFor 36 = .ok (.iload 4, 2) := by decide +kernel
theorem dX10_branchFor_38 : decode cX10_branchFor 38 = .ok (.iaload, 1) := by decide +kernel
theorem dX10_branchFor_39 : decode cX10_branchFor 39 = .ok (.istore 4, 2) := by decide +kernel
theorem dX10_branchFor_41 : decode cX10_branchFor 41 = .ok (.goto (-33), 3) := by decide +kernel
theorem dX10_branchFor_44 : decode cX10_branchFor 44 = .ok (.iconst (-1), 1) := by decide +kernel
theorem dX10_branchFor_45 : decode cX10_branchFor 45 = .ok (.ireturn, 1) := by decide +kernel
def rmX10_branchFor (mc ms : Nat) : Room := { frames := 152, cells := mc, slots := ms, locals := 3799 }
abbrev cX10_ask : ByteArray := prog_12_method_20_code
def yX10_ask : MethodName := ⟨RX10, "ask", "(II)V"⟩
def wsX10_ask : List Cond := .code yX10_ask cX10_ask 3 none :: sr_G
theorem dX10_ask_0 : decode cX10_ask 0 = .ok (.aload_n 0, 1) := by decide +kernel
theorem dX10_ask_1 : decode cX10_ask 1 = .ok (.getfield 38, 3) := by decide +kernel
theorem dX10_ask_4 : decode cX10_ask 4 = .ok (.sipush 140, 3) := by decide +kernel
theorem dX10_ask_7 : decode cX10_ask 7 = .ok (.iload_n 1, 1) := by decide +kernel
theorem dX10_ask_8 : decode cX10_ask 8 = .ok (.imul, 1) := by decide +kernel
theorem dX10_ask_9 : decode cX10_ask 9 = .ok (.iload_n 2, 1) := by decide +kernel
theorem dX10_ask_10 : decode cX10_ask 10 = .ok (.iadd, 1) := by decide +kernel
theorem dX10_ask_11 : decode cX10_ask 11 = .ok (.baload, 1) := by decide +kernel
theorem dX10_ask_12 : decode cX10_ask 12 = .ok (.ifCond .ne 42, 3) := by decide +kernel
theorem dX10_ask_15 : decode cX10_ask 15 = .ok (.aload_n 0, 1) := by decide +kernel
theorem dX10_ask_16 : decode cX10_ask 16 = .ok (.getfield 38, 3) := by decide +kernel
theorem dX10_ask_19 : decode cX10_ask 19 = .ok (.sipush 140, 3) := by decide +kernel
theorem dX10_ask_22 : decode cX10_ask 22 = .ok (.iload_n 1, 1) := by decide +kernel
theorem dX10_ask_23 : decode cX10_ask 23 = .ok (.imul, 1) := by decide +kernel
theorem dX10_ask_24 : decode cX10_ask 24 = .ok (.iload_n 2, 1) := by decide +kernel
theorem dX10_ask_25 : decode cX10_ask 25 = .ok (.iadd, 1) := by decide +kernel
theorem dX10_ask_26 : decode cX10_ask 26 = .ok (.iconst 1, 1) := by decide +kernel
theorem dX10_ask_27 : decode cX10_ask 27 = .ok (.bastore, 1) := by decide +kernel
theorem dX10_ask_28 : decode cX10_ask 28 = .ok (.aload_n 0, 1) := by decide +kernel
theorem dX10_ask_29 : decode cX10_ask 29 = .ok (.getfield 42, 3) := by decide +kernel
theorem dX10_ask_32 : decode cX10_ask 32 = .ok (.aload_n 0, 1) := by decide +kernel
theorem dX10_ask_33 : decode cX10_ask 33 = .ok (.getfield 125, 3) := by decide +kernel
theorem dX10_ask_36 : decode cX10_ask 36 = .ok (.sipush 140, 3) := by decide +kernel
theorem dX10_ask_39 : decode cX10_ask 39 = .ok (.iload_n 1, 1) := by decide +kernel
theorem dX10_ask_40 : decode cX10_ask 40 = .ok (.imul, 1) := by decide +kernel
theorem dX10_ask_41 : decode cX10_ask 41 = .ok (.iload_n 2, 1) := by decide +kernel
theorem dX10_ask_42 : decode cX10_ask 42 = .ok (.iadd, 1) := by decide +kernel
theorem dX10_ask_43 : decode cX10_ask 43 = .ok (.iastore, 1) := by decide +kernel
theorem dX10_ask_44 : decode cX10_ask 44 = .ok (.aload_n 0, 1) := by decide +kernel
theorem dX10_ask_45 : decode cX10_ask 45 = .ok (.dup, 1) := by decide +kernel
theorem dX10_ask_46 : decode cX10_ask 46 = .ok (.getfield 125, 3) := by decide +kernel
theorem dX10_ask_49 : decode cX10_ask 49 = .ok (.iconst 1, 1) := by decide +kernel
theorem dX10_ask_50 : decode cX10_ask 50 = .ok (.iadd, 1) := by decide +kernel
theorem dX10_ask_51 : decode cX10_ask 51 = .ok (.putfield 125, 3) := by decide +kernel
theorem dX10_ask_54 : decode cX10_ask 54 = .ok (.return_, 1) := by decide +kernel
def rmX10_ask (mc ms : Nat) : Room := { frames := 0, cells := mc, slots := ms, locals := 0 }
theorem g10_95 (c0 : Cond) : GoodIn (c0 :: sr_G) (va_wsS RX10 95 yX10_sixOf wsX10_sixOf) := sr_S c0 (sr_ins (by decide +kernel))
theorem g10_98 (c0 : Cond) : GoodIn (c0 :: sr_G) (va_wsS RX10 98 yX10_matchesSix wsX10_matchesSix) := sr_S c0 (sr_ins (by decide +kernel))
theorem g10_108 (c0 : Cond) : GoodIn (c0 :: sr_G) (va_wsS RX10 108 yX10_matchesT wsX10_matchesT) := sr_S c0 (sr_ins (by decide +kernel))
