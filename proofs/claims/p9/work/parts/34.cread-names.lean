abbrev cX2_clear : ByteArray := prog_5_method_2_code
def yX2_clear : MethodName := ⟨RX2, "clear", "()V"⟩
def wsX2_clear : List Cond := .code yX2_clear cX2_clear 1 none :: sr_G
theorem dX2_clear_0 : decode cX2_clear 0 = .ok (.aload_n 0, 1) := by decide +kernel
theorem dX2_clear_1 : decode cX2_clear 1 = .ok (.getfield 11, 3) := by decide +kernel
theorem dX2_clear_4 : decode cX2_clear 4 = .ok (.iconst (-1), 1) := by decide +kernel
theorem dX2_clear_5 : decode cX2_clear 5 = .ok (.invokestatic 28, 3) := by decide +kernel
theorem dX2_clear_8 : decode cX2_clear 8 = .ok (.aload_n 0, 1) := by decide +kernel
theorem dX2_clear_9 : decode cX2_clear 9 = .ok (.iconst 0, 1) := by decide +kernel
theorem dX2_clear_10 : decode cX2_clear 10 = .ok (.putfield 24, 3) := by decide +kernel
theorem dX2_clear_13 : decode cX2_clear 13 = .ok (.return_, 1) := by decide +kernel
def rmX2_clear (mc ms : Nat) : Room := { frames := 1, cells := mc, slots := ms, locals := 23 }
abbrev cX2_add : ByteArray := prog_5_method_3_code
def yX2_add : MethodName := ⟨RX2, "add", "(LSchemaReader$Text;II)Z"⟩
def wsX2_add : List Cond := .code yX2_add cX2_add 7 (some .boolean) :: sr_G
theorem dX2_add_0 : decode cX2_add 0 = .ok (.aload_n 1, 1) := by decide +kernel
theorem dX2_add_1 : decode cX2_add 1 = .ok (.iload_n 3, 1) := by decide +kernel
theorem dX2_add_2 : decode cX2_add 2 = .ok (.invokevirtual 34, 3) := by decide +kernel
theorem dX2_add_5 : decode cX2_add 5 = .ok (.iload_n 2, 1) := by decide +kernel
theorem dX2_add_6 : decode cX2_add 6 = .ok (.iadd, 1) := by decide +kernel
theorem dX2_add_7 : decode cX2_add 7 = .ok (.sipush 255, 3) := by decide +kernel
theorem dX2_add_10 : decode cX2_add 10 = .ok (.iand, 1) := by decide +kernel
theorem dX2_add_11 : decode cX2_add 11 = .ok (.istore 4, 2) := by decide +kernel
theorem dX2_add_13 : decode cX2_add 13 = .ok (.aload_n 0, 1) := by decide +kernel
theorem dX2_add_14 : decode cX2_add 14 = .ok (.getfield 11, 3) := by decide +kernel
theorem dX2_add_17 : decode cX2_add 17 = .ok (.iload 4, 2) := by decide +kernel
theorem dX2_add_19 : decode cX2_add 19 = .ok (.iaload, 1) := by decide +kernel
theorem dX2_add_20 : decode cX2_add 20 = .ok (.istore 5, 2) := by decide +kernel
theorem dX2_add_22 : decode cX2_add 22 = .ok (.iconst 0, 1) := by decide +kernel
theorem dX2_add_23 : decode cX2_add 23 = .ok (.istore 6, 2) := by decide +kernel
theorem dX2_add_25 : decode cX2_add 25 = .ok (.iload 6, 2) := by decide +kernel
theorem dX2_add_27 : decode cX2_add 27 = .ok (.aload_n 0, 1) := by decide +kernel
theorem dX2_add_28 : decode cX2_add 28 = .ok (.getfield 24, 3) := by decide +kernel
theorem dX2_add_31 : decode cX2_add 31 = .ok (.if_icmp .ge 59, 3) := by decide +kernel
theorem dX2_add_34 : decode cX2_add 34 = .ok (.iload 5, 2) := by decide +kernel
theorem dX2_add_36 : decode cX2_add 36 = .ok (.ifCond .lt 54, 3) := by decide +kernel
theorem dX2_add_39 : decode cX2_add 39 = .ok (.iload 5, 2) := by decide +kernel
theorem dX2_add_41 : decode cX2_add 41 = .ok (.sipush 1024, 3) := by decide +kernel
theorem dX2_add_44 : decode cX2_add 44 = .ok (.if_icmp .ge 46, 3) := by decide +kernel
theorem dX2_add_47 : decode cX2_add 47 = .ok (.aload_n 0, 1) := by decide +kernel
theorem dX2_add_48 : decode cX2_add 48 = .ok (.getfield 18, 3) := by decide +kernel
theorem dX2_add_51 : decode cX2_add 51 = .ok (.iload 5, 2) := by decide +kernel
theorem dX2_add_53 : decode cX2_add 53 = .ok (.iaload, 1) := by decide +kernel
theorem dX2_add_54 : decode cX2_add 54 = .ok (.iload_n 2, 1) := by decide +kernel
theorem dX2_add_55 : decode cX2_add 55 = .ok (.if_icmp .ne 20, 3) := by decide +kernel
theorem dX2_add_58 : decode cX2_add 58 = .ok (.aload_n 1, 1) := by decide +kernel
theorem dX2_add_59 : decode cX2_add 59 = .ok (.aload_n 0, 1) := by decide +kernel
theorem dX2_add_60 : decode cX2_add 60 = .ok (.getfield 15, 3) := by decide +kernel
theorem dX2_add_63 : decode cX2_add 63 = .ok (.iload 5, 2) := by decide +kernel
theorem dX2_add_65 : decode cX2_add 65 = .ok (.iaload, 1) := by decide +kernel
theorem dX2_add_66 : decode cX2_add 66 = .ok (.iload_n 3, 1) := by decide +kernel
theorem dX2_add_67 : decode cX2_add 67 = .ok (.invokevirtual 40, 3) := by decide +kernel
theorem dX2_add_70 : decode cX2_add 70 = .ok (.ifCond .eq 5, 3) := by decide +kernel
theorem dX2_add_73 : decode cX2_add 73 = .ok (.iconst 0, 1) := by decide +kernel
theorem dX2_add_74 : decode cX2_add 74 = .ok (.ireturn, 1) := by decide +kernel
theorem dX2_add_75 : decode cX2_add 75 = .ok (.aload_n 0, 1) := by decide +kernel
theorem dX2_add_76 : decode cX2_add 76 = .ok (.getfield 21, 3) := by decide +kernel
theorem dX2_add_79 : decode cX2_add 79 = .ok (.iload 5, 2) := by decide +kernel
theorem dX2_add_81 : decode cX2_add 81 = .ok (.iaload, 1) := by decide +kernel
theorem dX2_add_82 : decode cX2_add 82 = .ok (.istore 5, 2) := by decide +kernel
theorem dX2_add_84 : decode cX2_add 84 = .ok (.iinc 6 1, 3) := by decide +kernel
theorem dX2_add_87 : decode cX2_add 87 = .ok (.goto (-62), 3) := by decide +kernel
theorem dX2_add_90 : decode cX2_add 90 = .ok (.aload_n 0, 1) := by decide +kernel
theorem dX2_add_91 : decode cX2_add 91 = .ok (.getfield 24, 3) := by decide +kernel
theorem dX2_add_94 : decode cX2_add 94 = .ok (.sipush 1024, 3) := by decide +kernel
theorem dX2_add_97 : decode cX2_add 97 = .ok (.if_icmp .ge 60, 3) := by decide +kernel
theorem dX2_add_100 : decode cX2_add 100 = .ok (.aload_n 0, 1) := by decide +kernel
theorem dX2_add_101 : decode cX2_add 101 = .ok (.getfield 15, 3) := by decide +kernel
theorem dX2_add_104 : decode cX2_add 104 = .ok (.aload_n 0, 1) := by decide +kernel
theorem dX2_add_105 : decode cX2_add 105 = .ok (.getfield 24, 3) := by decide +kernel
theorem dX2_add_108 : decode cX2_add 108 = .ok (.iload_n 3, 1) := by decide +kernel
theorem dX2_add_109 : decode cX2_add 109 = .ok (.iastore, 1) := by decide +kernel
theorem dX2_add_110 : decode cX2_add 110 = .ok (.aload_n 0, 1) := by decide +kernel
theorem dX2_add_111 : decode cX2_add 111 = .ok (.getfield 18, 3) := by decide +kernel
theorem dX2_add_114 : decode cX2_add 114 = .ok (.aload_n 0, 1) := by decide +kernel
theorem dX2_add_115 : decode cX2_add 115 = .ok (.getfield 24, 3) := by decide +kernel
theorem dX2_add_118 : decode cX2_add 118 = .ok (.iload_n 2, 1) := by decide +kernel
theorem dX2_add_119 : decode cX2_add 119 = .ok (.iastore, 1) := by decide +kernel
theorem dX2_add_120 : decode cX2_add 120 = .ok (.aload_n 0, 1) := by decide +kernel
theorem dX2_add_121 : decode cX2_add 121 = .ok (.getfield 21, 3) := by decide +kernel
theorem dX2_add_124 : decode cX2_add 124 = .ok (.aload_n 0, 1) := by decide +kernel
theorem dX2_add_125 : decode cX2_add 125 = .ok (.getfield 24, 3) := by decide +kernel
theorem dX2_add_128 : decode cX2_add 128 = .ok (.aload_n 0, 1) := by decide +kernel
theorem dX2_add_129 : decode cX2_add 129 = .ok (.getfield 11, 3) := by decide +kernel
theorem dX2_add_132 : decode cX2_add 132 = .ok (.iload 4, 2) := by decide +kernel
theorem dX2_add_134 : decode cX2_add 134 = .ok (.iaload, 1) := by decide +kernel
theorem dX2_add_135 : decode cX2_add 135 = .ok (.iastore, 1) := by decide +kernel
theorem dX2_add_136 : decode cX2_add 136 = .ok (.aload_n 0, 1) := by decide +kernel
theorem dX2_add_137 : decode cX2_add 137 = .ok (.getfield 11, 3) := by decide +kernel
theorem dX2_add_140 : decode cX2_add 140 = .ok (.iload 4, 2) := by decide +kernel
theorem dX2_add_142 : decode cX2_add 142 = .ok (.aload_n 0, 1) := by decide +kernel
theorem dX2_add_143 : decode cX2_add 143 = .ok (.getfield 24, 3) := by decide +kernel
theorem dX2_add_146 : decode cX2_add 146 = .ok (.iastore, 1) := by decide +kernel
theorem dX2_add_147 : decode cX2_add 147 = .ok (.aload_n 0, 1) := by decide +kernel
theorem dX2_add_148 : decode cX2_add 148 = .ok (.dup, 1) := by decide +kernel
theorem dX2_add_149 : decode cX2_add 149 = .ok (.getfield 24, 3) := by decide +kernel
theorem dX2_add_152 : decode cX2_add 152 = .ok (.iconst 1, 1) := by decide +kernel
theorem dX2_add_153 : decode cX2_add 153 = .ok (.iadd, 1) := by decide +kernel
theorem dX2_add_154 : decode cX2_add 154 = .ok (.putfield 24, 3) := by decide +kernel
theorem dX2_add_157 : decode cX2_add 157 = .ok (.iconst 1, 1) := by decide +kernel
theorem dX2_add_158 : decode cX2_add 158 = .ok (.ireturn, 1) := by decide +kernel
def rmX2_add (mc ms : Nat) : Room := { frames := 2, cells := mc, slots := ms, locals := 45 }
abbrev cX7_join : ByteArray := prog_10_method_27_code
def yX7_join : MethodName := ⟨RX7, "join", "(III)V"⟩
def wsX7_join : List Cond := .code yX7_join cX7_join 4 none :: sr_G
theorem dX7_join_0 : decode cX7_join 0 = .ok (.iload_n 2, 1) := by decide +kernel
theorem dX7_join_1 : decode cX7_join 1 = .ok (.iconst (-1), 1) := by decide +kernel
theorem dX7_join_2 : decode cX7_join 2 = .ok (.if_icmp .ne 15, 3) := by decide +kernel
theorem dX7_join_5 : decode cX7_join 5 = .ok (.aload_n 0, 1) := by decide +kernel
theorem dX7_join_6 : decode cX7_join 6 = .ok (.getfield 18, 3) := by decide +kernel
theorem dX7_join_9 : decode cX7_join 9 = .ok (.iload_n 1, 1) := by decide +kernel
theorem dX7_join_10 : decode cX7_join 10 = .ok (.iload_n 3, 1) := by decide +kernel
theorem dX7_join_11 : decode cX7_join 11 = .ok (.invokestatic 125, 3) := by decide +kernel
theorem dX7_join_14 : decode cX7_join 14 = .ok (.goto 12, 3) := by decide +kernel
theorem dX7_join_17 : decode cX7_join 17 = .ok (.aload_n 0, 1) := by decide +kernel
theorem dX7_join_18 : decode cX7_join 18 = .ok (.getfield 22, 3) := by decide +kernel
theorem dX7_join_21 : decode cX7_join 21 = .ok (.iload_n 2, 1) := by decide +kernel
theorem dX7_join_22 : decode cX7_join 22 = .ok (.iload_n 3, 1) := by decide +kernel
theorem dX7_join_23 : decode cX7_join 23 = .ok (.invokestatic 125, 3) := by decide +kernel
theorem dX7_join_26 : decode cX7_join 26 = .ok (.aload_n 0, 1) := by decide +kernel
theorem dX7_join_27 : decode cX7_join 27 = .ok (.getfield 22, 3) := by decide +kernel
theorem dX7_join_30 : decode cX7_join 30 = .ok (.iload_n 3, 1) := by decide +kernel
theorem dX7_join_31 : decode cX7_join 31 = .ok (.iconst (-1), 1) := by decide +kernel
theorem dX7_join_32 : decode cX7_join 32 = .ok (.invokestatic 125, 3) := by decide +kernel
theorem dX7_join_35 : decode cX7_join 35 = .ok (.return_, 1) := by decide +kernel
def rmX7_join (mc ms : Nat) : Room := { frames := 1, cells := mc, slots := ms, locals := 22 }
abbrev cX7_say : ByteArray := prog_10_method_30_code
def yX7_say : MethodName := ⟨RX7, "say", "(II)V"⟩
def wsX7_say : List Cond := .code yX7_say cX7_say 3 none :: sr_G
theorem dX7_say_0 : decode cX7_say 0 = .ok (.iload_n 1, 1) := by decide +kernel
theorem dX7_say_1 : decode cX7_say 1 = .ok (.ifCond .lt 20, 3) := by decide +kernel
theorem dX7_say_4 : decode cX7_say 4 = .ok (.iload_n 1, 1) := by decide +kernel
theorem dX7_say_5 : decode cX7_say 5 = .ok (.aload_n 0, 1) := by decide +kernel
theorem dX7_say_6 : decode cX7_say 6 = .ok (.getfield 15, 3) := by decide +kernel
theorem dX7_say_9 : decode cX7_say 9 = .ok (.arraylength, 1) := by decide +kernel
theorem dX7_say_10 : decode cX7_say 10 = .ok (.if_icmp .ge 11, 3) := by decide +kernel
theorem dX7_say_13 : decode cX7_say 13 = .ok (.aload_n 0, 1) := by decide +kernel
theorem dX7_say_14 : decode cX7_say 14 = .ok (.getfield 15, 3) := by decide +kernel
theorem dX7_say_17 : decode cX7_say 17 = .ok (.iload_n 1, 1) := by decide +kernel
theorem dX7_say_18 : decode cX7_say 18 = .ok (.iload_n 2, 1) := by decide +kernel
theorem dX7_say_19 : decode cX7_say 19 = .ok (.i2b, 1) := by decide +kernel
theorem dX7_say_20 : decode cX7_say 20 = .ok (.bastore, 1) := by decide +kernel
theorem dX7_say_21 : decode cX7_say 21 = .ok (.return_, 1) := by decide +kernel
def rmX7_say (mc ms : Nat) : Room := { frames := 0, cells := mc, slots := ms, locals := 0 }
abbrev cX7_hexDigit : ByteArray := prog_10_method_32_code
def yX7_hexDigit : MethodName := ⟨RX7, "hexDigit", "(I)I"⟩
def wsX7_hexDigit : List Cond := .code yX7_hexDigit cX7_hexDigit 1 (some .int) :: sr_G
theorem dX7_hexDigit_0 : decode cX7_hexDigit 0 = .ok (.iload_n 0, 1) := by decide +kernel
theorem dX7_hexDigit_1 : decode cX7_hexDigit 1 = .ok (.bipush 48, 2) := by decide +kernel
theorem dX7_hexDigit_3 : decode cX7_hexDigit 3 = .ok (.if_icmp .lt 14, 3) := by decide +kernel
theorem dX7_hexDigit_6 : decode cX7_hexDigit 6 = .ok (.iload_n 0, 1) := by decide +kernel
theorem dX7_hexDigit_7 : decode cX7_hexDigit 7 = .ok (.bipush 57, 2) := by decide +kernel
theorem dX7_hexDigit_9 : decode cX7_hexDigit 9 = .ok (.if_icmp .gt 8, 3) := by decide +kernel
theorem dX7_hexDigit_12 : decode cX7_hexDigit 12 = .ok (.iload_n 0, 1) := by decide +kernel
theorem dX7_hexDigit_13 : decode cX7_hexDigit 13 = .ok (.bipush 48, 2) := by decide +kernel
theorem dX7_hexDigit_15 : decode cX7_hexDigit 15 = .ok (.isub, 1) := by decide +kernel
theorem dX7_hexDigit_16 : decode cX7_hexDigit 16 = .ok (.ireturn, 1) := by decide +kernel
theorem dX7_hexDigit_17 : decode cX7_hexDigit 17 = .ok (.iload_n 0, 1) := by decide +kernel
theorem dX7_hexDigit_18 : decode cX7_hexDigit 18 = .ok (.bipush 97, 2) := by decide +kernel
theorem dX7_hexDigit_20 : decode cX7_hexDigit 20 = .ok (.if_icmp .lt 17, 3) := by decide +kernel
theorem dX7_hexDigit_23 : decode cX7_hexDigit 23 = .ok (.iload_n 0, 1) := by decide +kernel
theorem dX7_hexDigit_24 : decode cX7_hexDigit 24 = .ok (.bipush 102, 2) := by decide +kernel
theorem dX7_hexDigit_26 : decode cX7_hexDigit 26 = .ok (.if_icmp .gt 11, 3) := by decide +kernel
theorem dX7_hexDigit_29 : decode cX7_hexDigit 29 = .ok (.iload_n 0, 1) := by decide +kernel
theorem dX7_hexDigit_30 : decode cX7_hexDigit 30 = .ok (.bipush 97, 2) := by decide +kernel
theorem dX7_hexDigit_32 : decode cX7_hexDigit 32 = .ok (.isub, 1) := by decide +kernel
theorem dX7_hexDigit_33 : decode cX7_hexDigit 33 = .ok (.bipush 10, 2) := by decide +kernel
theorem dX7_hexDigit_35 : decode cX7_hexDigit 35 = .ok (.iadd, 1) := by decide +kernel
theorem dX7_hexDigit_36 : decode cX7_hexDigit 36 = .ok (.ireturn, 1) := by decide +kernel
theorem dX7_hexDigit_37 : decode cX7_hexDigit 37 = .ok (.iload_n 0, 1) := by decide +kernel
theorem dX7_hexDigit_38 : decode cX7_hexDigit 38 = .ok (.bipush 65, 2) := by decide +kernel
theorem dX7_hexDigit_40 : decode cX7_hexDigit 40 = .ok (.if_icmp .lt 19, 3) := by decide +kernel
theorem dX7_hexDigit_43 : decode cX7_hexDigit 43 = .ok (.iload_n 0, 1) := by decide +kernel
theorem dX7_hexDigit_44 : decode cX7_hexDigit 44 = .ok (.bipush 70, 2) := by decide +kernel
theorem dX7_hexDigit_46 : decode cX7_hexDigit 46 = .ok (.if_icmp .gt 13, 3) := by decide +kernel
theorem dX7_hexDigit_49 : decode cX7_hexDigit 49 = .ok (.iload_n 0, 1) := by decide +kernel
theorem dX7_hexDigit_50 : decode cX7_hexDigit 50 = .ok (.bipush 65, 2) := by decide +kernel
theorem dX7_hexDigit_52 : decode cX7_hexDigit 52 = .ok (.isub, 1) := by decide +kernel
theorem dX7_hexDigit_53 : decode cX7_hexDigit 53 = .ok (.bipush 10, 2) := by decide +kernel
theorem dX7_hexDigit_55 : decode cX7_hexDigit 55 = .ok (.iadd, 1) := by decide +kernel
theorem dX7_hexDigit_56 : decode cX7_hexDigit 56 = .ok (.goto 4, 3) := by decide +kernel
theorem dX7_hexDigit_59 : decode cX7_hexDigit 59 = .ok (.iconst (-1), 1) := by decide +kernel
theorem dX7_hexDigit_60 : decode cX7_hexDigit 60 = .ok (.ireturn, 1) := by decide +kernel
def rmX7_hexDigit (mc ms : Nat) : Room := { frames := 0, cells := mc, slots := ms, locals := 0 }
abbrev cX7_readEscape : ByteArray := prog_10_method_31_code
def yX7_readEscape : MethodName := ⟨RX7, "readEscape", "(I)I"⟩
def wsX7_readEscape : List Cond := .code yX7_readEscape cX7_readEscape 6 (some .int) :: sr_G
theorem dX7_readEscape_0 : decode cX7_readEscape 0 = .ok (.aload_n 0, 1) := by decide +kernel
theorem dX7_readEscape_1 : decode cX7_readEscape 1 = .ok (.iload_n 1, 1) := by decide +kernel
theorem dX7_readEscape_2 : decode cX7_readEscape 2 = .ok (.iconst 1, 1) := by decide +kernel
theorem dX7_readEscape_3 : decode cX7_readEscape 3 = .ok (.iadd, 1) := by decide +kernel
theorem dX7_readEscape_4 : decode cX7_readEscape 4 = .ok (.invokevirtual 42, 3) := by decide +kernel
theorem dX7_readEscape_7 : decode cX7_readEscape 7 = .ok (.istore_n 2, 1) := by decide +kernel
theorem dX7_readEscape_8 : decode cX7_readEscape 8 = .ok (.iload_n 2, 1) := by decide +kernel
theorem dX7_readEscape_9 : decode cX7_readEscape 9 = .ok (.lookupswitch 103 #[(34, 83), (47, 83), (92, 83), (98, 85), (102, 88), (110, 91), (114, 94), (116, 97), (117, 100)], 83) := by decide +kernel
theorem dX7_readEscape_92 : decode cX7_readEscape 92 = .ok (.iload_n 2, 1) := by decide +kernel
theorem dX7_readEscape_93 : decode cX7_readEscape 93 = .ok (.ireturn, 1) := by decide +kernel
theorem dX7_readEscape_94 : decode cX7_readEscape 94 = .ok (.bipush 8, 2) := by decide +kernel
theorem dX7_readEscape_96 : decode cX7_readEscape 96 = .ok (.ireturn, 1) := by decide +kernel
theorem dX7_readEscape_97 : decode cX7_readEscape 97 = .ok (.bipush 12, 2) := by decide +kernel
theorem dX7_readEscape_99 : decode cX7_readEscape 99 = .ok (.ireturn, 1) := by decide +kernel
theorem dX7_readEscape_100 : decode cX7_readEscape 100 = .ok (.bipush 10, 2) := by decide +kernel
theorem dX7_readEscape_102 : decode cX7_readEscape 102 = .ok (.ireturn, 1) := by decide +kernel
theorem dX7_readEscape_103 : decode cX7_readEscape 103 = .ok (.bipush 13, 2) := by decide +kernel
theorem dX7_readEscape_105 : decode cX7_readEscape 105 = .ok (.ireturn, 1) := by decide +kernel
theorem dX7_readEscape_106 : decode cX7_readEscape 106 = .ok (.bipush 9, 2) := by decide +kernel
theorem dX7_readEscape_108 : decode cX7_readEscape 108 = .ok (.ireturn, 1) := by decide +kernel
theorem dX7_readEscape_109 : decode cX7_readEscape 109 = .ok (.goto 11, 3) := by decide +kernel
theorem dX7_readEscape_112 : decode cX7_readEscape 112 = .ok (.aload_n 0, 1) := by decide +kernel
theorem dX7_readEscape_113 : decode cX7_readEscape 113 = .ok (.iload_n 1, 1) := by decide +kernel
theorem dX7_readEscape_114 : decode cX7_readEscape 114 = .ok (.iconst 1, 1) := by decide +kernel
theorem dX7_readEscape_115 : decode cX7_readEscape 115 = .ok (.iadd, 1) := by decide +kernel
theorem dX7_readEscape_116 : decode cX7_readEscape 116 = .ok (.invokevirtual 94, 3) := by decide +kernel
theorem dX7_readEscape_119 : decode cX7_readEscape 119 = .ok (.ireturn, 1) := by decide +kernel
theorem dX7_readEscape_120 : decode cX7_readEscape 120 = .ok (.iconst 0, 1) := by decide +kernel
theorem dX7_readEscape_121 : decode cX7_readEscape 121 = .ok (.istore_n 3, 1) := by decide +kernel
theorem dX7_readEscape_122 : decode cX7_readEscape 122 = .ok (.iload_n 1, 1) := by decide +kernel
theorem dX7_readEscape_123 : decode cX7_readEscape 123 = .ok (.iconst 2, 1) := by decide +kernel
theorem dX7_readEscape_124 : decode cX7_readEscape 124 = .ok (.iadd, 1) := by decide +kernel
theorem dX7_readEscape_125 : decode cX7_readEscape 125 = .ok (.istore 4, 2) := by decide +kernel
theorem dX7_readEscape_127 : decode cX7_readEscape 127 = .ok (.iload 4, 2) := by decide +kernel
theorem dX7_readEscape_129 : decode cX7_readEscape 129 = .ok (.iload_n 1, 1) := by decide +kernel
theorem dX7_readEscape_130 : decode cX7_readEscape 130 = .ok (.bipush 6, 2) := by decide +kernel
theorem dX7_readEscape_132 : decode cX7_readEscape 132 = .ok (.iadd, 1) := by decide +kernel
theorem dX7_readEscape_133 : decode cX7_readEscape 133 = .ok (.if_icmp .ge 41, 3) := by decide +kernel
theorem dX7_readEscape_136 : decode cX7_readEscape 136 = .ok (.aload_n 0, 1) := by decide +kernel
theorem dX7_readEscape_137 : decode cX7_readEscape 137 = .ok (.iload 4, 2) := by decide +kernel
theorem dX7_readEscape_139 : decode cX7_readEscape 139 = .ok (.invokevirtual 42, 3) := by decide +kernel
theorem dX7_readEscape_142 : decode cX7_readEscape 142 = .ok (.invokestatic 147, 3) := by decide +kernel
theorem dX7_readEscape_145 : decode cX7_readEscape 145 = .ok (.istore 5, 2) := by decide +kernel
theorem dX7_readEscape_147 : decode cX7_readEscape 147 = .ok (.iload 5, 2) := by decide +kernel
theorem dX7_readEscape_149 : decode cX7_readEscape 149 = .ok (.iconst (-1), 1) := by decide +kernel
theorem dX7_readEscape_150 : decode cX7_readEscape 150 = .ok (.if_icmp .ne 10, 3) := by decide +kernel
theorem dX7_readEscape_153 : decode cX7_readEscape 153 = .ok (.aload_n 0, 1) := by decide +kernel
theorem dX7_readEscape_154 : decode cX7_readEscape 154 = .ok (.iload 4, 2) := by decide +kernel
theorem dX7_readEscape_156 : decode cX7_readEscape 156 = .ok (.invokevirtual 94, 3) := by decide +kernel
theorem dX7_readEscape_159 : decode cX7_readEscape 159 = .ok (.ireturn, 1) := by decide +kernel
theorem dX7_readEscape_160 : decode cX7_readEscape 160 = .ok (.iload_n 3, 1) := by decide +kernel
theorem dX7_readEscape_161 : decode cX7_readEscape 161 = .ok (.bipush 16, 2) := by decide +kernel
theorem dX7_readEscape_163 : decode cX7_readEscape 163 = .ok (.imul, 1) := by decide +kernel
theorem dX7_readEscape_164 : decode cX7_readEscape 164 = .ok (.iload 5, 2) := by decide +kernel
theorem dX7_readEscape_166 : decode cX7_readEscape 166 = .ok (.iadd, 1) := by decide +kernel
theorem dX7_readEscape_167 : decode cX7_readEscape 167 = .ok (.istore_n 3, 1) := by decide +kernel
theorem dX7_readEscape_168 : decode cX7_readEscape 168 = .ok (.iinc 4 1, 3) := by decide +kernel
theorem dX7_readEscape_171 : decode cX7_readEscape 171 = .ok (.goto (-44), 3) := by decide +kernel
theorem dX7_readEscape_174 : decode cX7_readEscape 174 = .ok (.iload_n 3, 1) := by decide +kernel
theorem dX7_readEscape_175 : decode cX7_readEscape 175 = .ok (.sipush 255, 3) := by decide +kernel
theorem dX7_readEscape_178 : decode cX7_readEscape 178 = .ok (.if_icmp .le 11, 3) := by decide +kernel
theorem dX7_readEscape_181 : decode cX7_readEscape 181 = .ok (.aload_n 0, 1) := by decide +kernel
theorem dX7_readEscape_182 : decode cX7_readEscape 182 = .ok (.iload_n 1, 1) := by decide +kernel
theorem dX7_readEscape_183 : decode cX7_readEscape 183 = .ok (.invokevirtual 94, 3) := by decide +kernel
theorem dX7_readEscape_186 : decode cX7_readEscape 186 = .ok (.goto 4, 3) := by decide +kernel
theorem dX7_readEscape_189 : decode cX7_readEscape 189 = .ok (.iload_n 3, 1) := by decide +kernel
theorem dX7_readEscape_190 : decode cX7_readEscape 190 = .ok (.ireturn, 1) := by decide +kernel
def rmX7_readEscape (mc ms : Nat) : Room := { frames := 1, cells := mc, slots := ms, locals := 21 }
abbrev cX7_isWithinLong : ByteArray := prog_10_method_34_code
def yX7_isWithinLong : MethodName := ⟨RX7, "isWithinLong", "(IIZ)Z"⟩
def wsX7_isWithinLong : List Cond := .code yX7_isWithinLong cX7_isWithinLong 9 (some .boolean) :: sr_G
theorem dX7_isWithinLong_0 : decode cX7_isWithinLong 0 = .ok (.iload_n 3, 1) := by decide +kernel
theorem dX7_isWithinLong_1 : decode cX7_isWithinLong 1 = .ok (.ifCond .eq 8, 3) := by decide +kernel
theorem dX7_isWithinLong_4 : decode cX7_isWithinLong 4 = .ok (.bipush 8, 2) := by decide +kernel
theorem dX7_isWithinLong_6 : decode cX7_isWithinLong 6 = .ok (.goto 5, 3) := by decide +kernel
theorem dX7_isWithinLong_9 : decode cX7_isWithinLong 9 = .ok (.bipush 7, 2) := by decide +kernel
theorem dX7_isWithinLong_11 : decode cX7_isWithinLong 11 = .ok (.istore 4, 2) := by decide +kernel
theorem dX7_isWithinLong_13 : decode cX7_isWithinLong 13 = .ok (.lconst 0, 1) := by decide +kernel
theorem dX7_isWithinLong_14 : decode cX7_isWithinLong 14 = .ok (.lstore 5, 2) := by decide +kernel
theorem dX7_isWithinLong_16 : decode cX7_isWithinLong 16 = .ok (.iload_n 1, 1) := by decide +kernel
theorem dX7_isWithinLong_17 : decode cX7_isWithinLong 17 = .ok (.istore 7, 2) := by decide +kernel
theorem dX7_isWithinLong_19 : decode cX7_isWithinLong 19 = .ok (.iload 7, 2) := by decide +kernel
theorem dX7_isWithinLong_21 : decode cX7_isWithinLong 21 = .ok (.iload_n 2, 1) := by decide +kernel
theorem dX7_isWithinLong_22 : decode cX7_isWithinLong 22 = .ok (.if_icmp .ge 59, 3) := by decide +kernel
theorem dX7_isWithinLong_25 : decode cX7_isWithinLong 25 = .ok (.aload_n 0, 1) := by decide +kernel
theorem dX7_isWithinLong_26 : decode cX7_isWithinLong 26 = .ok (.iload 7, 2) := by decide +kernel
theorem dX7_isWithinLong_28 : decode cX7_isWithinLong 28 = .ok (.invokevirtual 42, 3) := by decide +kernel
theorem dX7_isWithinLong_31 : decode cX7_isWithinLong 31 = .ok (.bipush 48, 2) := by decide +kernel
theorem dX7_isWithinLong_33 : decode cX7_isWithinLong 33 = .ok (.isub, 1) := by decide +kernel
theorem dX7_isWithinLong_34 : decode cX7_isWithinLong 34 = .ok (.istore 8, 2) := by decide +kernel
theorem dX7_isWithinLong_36 : decode cX7_isWithinLong 36 = .ok (.lload 5, 2) := by decide +kernel
theorem dX7_isWithinLong_38 : decode cX7_isWithinLong 38 = .ok (.ldc2_w 154, 3) := by decide +kernel
theorem dX7_isWithinLong_41 : decode cX7_isWithinLong 41 = .ok (.lcmp, 1) := by decide +kernel
theorem dX7_isWithinLong_42 : decode cX7_isWithinLong 42 = .ok (.ifCond .lt 19, 3) := by decide +kernel
theorem dX7_isWithinLong_45 : decode cX7_isWithinLong 45 = .ok (.lload 5, 2) := by decide +kernel
theorem dX7_isWithinLong_47 : decode cX7_isWithinLong 47 = .ok (.ldc2_w 154, 3) := by decide +kernel
theorem dX7_isWithinLong_50 : decode cX7_isWithinLong 50 = .ok (.lcmp, 1) := by decide +kernel
theorem dX7_isWithinLong_51 : decode cX7_isWithinLong 51 = .ok (.ifCond .ne 12, 3) := by decide +kernel
theorem dX7_isWithinLong_54 : decode cX7_isWithinLong 54 = .ok (.iload 8, 2) := by decide +kernel
theorem dX7_isWithinLong_56 : decode cX7_isWithinLong 56 = .ok (.iload 4, 2) := by decide +kernel
theorem dX7_isWithinLong_58 : decode cX7_isWithinLong 58 = .ok (.if_icmp .le 5, 3) := by decide +kernel
theorem dX7_isWithinLong_61 : decode cX7_isWithinLong 61 = .ok (.iconst 0, 1) := by decide +kernel
theorem dX7_isWithinLong_62 : decode cX7_isWithinLong 62 = .ok (.ireturn, 1) := by decide +kernel
theorem dX7_isWithinLong_63 : decode cX7_isWithinLong 63 = .ok (.lload 5, 2) := by decide +kernel
theorem dX7_isWithinLong_65 : decode cX7_isWithinLong 65 = .ok (.ldc2_w 82, 3) := by decide +kernel
theorem dX7_isWithinLong_68 : decode cX7_isWithinLong 68 = .ok (.lmul, 1) := by decide +kernel
theorem dX7_isWithinLong_69 : decode cX7_isWithinLong 69 = .ok (.iload 8, 2) := by decide +kernel
theorem dX7_isWithinLong_71 : decode cX7_isWithinLong 71 = .ok (.i2l, 1) := by decide +kernel
theorem dX7_isWithinLong_72 : decode cX7_isWithinLong 72 = .ok (.lsub, 1) := by decide +kernel
theorem dX7_isWithinLong_73 : decode cX7_isWithinLong 73 = .ok (.lstore 5, 2) := by decide +kernel
theorem dX7_isWithinLong_75 : decode cX7_isWithinLong 75 = .ok (.iinc 7 1, 3) := by decide +kernel
theorem dX7_isWithinLong_78 : decode cX7_isWithinLong 78 = .ok (.goto (-59), 3) := by decide +kernel
theorem dX7_isWithinLong_81 : decode cX7_isWithinLong 81 = .ok (.iconst 1, 1) := by decide +kernel
theorem dX7_isWithinLong_82 : decode cX7_isWithinLong 82 = .ok (.ireturn, 1) := by decide +kernel
def rmX7_isWithinLong (mc ms : Nat) : Room := { frames := 1, cells := mc, slots := ms, locals := 21 }
abbrev cX7_readNumber : ByteArray := prog_10_method_33_code
def yX7_readNumber : MethodName := ⟨RX7, "readNumber", "(I)I"⟩
def wsX7_readNumber : List Cond := .code yX7_readNumber cX7_readNumber 5 (some .int) :: sr_G
theorem dX7_readNumber_0 : decode cX7_readNumber 0 = .ok (.aload_n 0, 1) := by decide +kernel
theorem dX7_readNumber_1 : decode cX7_readNumber 1 = .ok (.iload_n 1, 1) := by decide +kernel
theorem dX7_readNumber_2 : decode cX7_readNumber 2 = .ok (.invokevirtual 42, 3) := by decide +kernel
theorem dX7_readNumber_5 : decode cX7_readNumber 5 = .ok (.bipush 45, 2) := by decide +kernel
theorem dX7_readNumber_7 : decode cX7_readNumber 7 = .ok (.if_icmp .ne 7, 3) := by decide +kernel
theorem dX7_readNumber_10 : decode cX7_readNumber 10 = .ok (.iconst 1, 1) := by decide +kernel
theorem dX7_readNumber_11 : decode cX7_readNumber 11 = .ok (.goto 4, 3) := by decide +kernel
theorem dX7_readNumber_14 : decode cX7_readNumber 14 = .ok (.iconst 0, 1) := by decide +kernel
theorem dX7_readNumber_15 : decode cX7_readNumber 15 = .ok (.istore_n 2, 1) := by decide +kernel
theorem dX7_readNumber_16 : decode cX7_readNumber 16 = .ok (.iload_n 2, 1) := by decide +kernel
theorem dX7_readNumber_17 : decode cX7_readNumber 17 = .ok (.ifCond .eq 9, 3) := by decide +kernel
theorem dX7_readNumber_20 : decode cX7_readNumber 20 = .ok (.iload_n 1, 1) := by decide +kernel
theorem dX7_readNumber_21 : decode cX7_readNumber 21 = .ok (.iconst 1, 1) := by decide +kernel
theorem dX7_readNumber_22 : decode cX7_readNumber 22 = .ok (.iadd, 1) := by decide +kernel
theorem dX7_readNumber_23 : decode cX7_readNumber 23 = .ok (.goto 4, 3) := by decide +kernel
theorem dX7_readNumber_26 : decode cX7_readNumber 26 = .ok (.iload_n 1, 1) := by decide +kernel
theorem dX7_readNumber_27 : decode cX7_readNumber 27 = .ok (.istore_n 3, 1) := by decide +kernel
theorem dX7_readNumber_28 : decode cX7_readNumber 28 = .ok (.aload_n 0, 1) := by decide +kernel
theorem dX7_readNumber_29 : decode cX7_readNumber 29 = .ok (.iload_n 3, 1) := by decide +kernel
theorem dX7_readNumber_30 : decode cX7_readNumber 30 = .ok (.invokevirtual 42, 3) := by decide +kernel
theorem dX7_readNumber_33 : decode cX7_readNumber 33 = .ok (.invokestatic 46, 3) := by decide +kernel
theorem dX7_readNumber_36 : decode cX7_readNumber 36 = .ok (.ifCond .ne 9, 3) := by decide +kernel
theorem dX7_readNumber_39 : decode cX7_readNumber 39 = .ok (.aload_n 0, 1) := by decide +kernel
theorem dX7_readNumber_40 : decode cX7_readNumber 40 = .ok (.iload_n 3, 1) := by decide +kernel
theorem dX7_readNumber_41 : decode cX7_readNumber 41 = .ok (.invokevirtual 94, 3) := by decide +kernel
theorem dX7_readNumber_44 : decode cX7_readNumber 44 = .ok (.ireturn, 1) := by decide +kernel
theorem dX7_readNumber_45 : decode cX7_readNumber 45 = .ok (.iload_n 3, 1) := by decide +kernel
theorem dX7_readNumber_46 : decode cX7_readNumber 46 = .ok (.iconst 1, 1) := by decide +kernel
theorem dX7_readNumber_47 : decode cX7_readNumber 47 = .ok (.iadd, 1) := by decide +kernel
theorem dX7_readNumber_48 : decode cX7_readNumber 48 = .ok (.istore 4, 2) := by decide +kernel
theorem dX7_readNumber_50 : decode cX7_readNumber 50 = .ok (.aload_n 0, 1) := by decide +kernel
theorem dX7_readNumber_51 : decode cX7_readNumber 51 = .ok (.iload_n 3, 1) := by decide +kernel
theorem dX7_readNumber_52 : decode cX7_readNumber 52 = .ok (.invokevirtual 42, 3) := by decide +kernel
theorem dX7_readNumber_55 : decode cX7_readNumber 55 = .ok (.bipush 48, 2) := by decide +kernel
theorem dX7_readNumber_57 : decode cX7_readNumber 57 = .ok (.if_icmp .eq 30, 3) := by decide +kernel
theorem dX7_readNumber_60 : decode cX7_readNumber 60 = .ok (.iload 4, 2) := by decide +kernel
theorem dX7_readNumber_62 : decode cX7_readNumber 62 = .ok (.aload_n 0, 1) := by decide +kernel
theorem dX7_readNumber_63 : decode cX7_readNumber 63 = .ok (.getfield 35, 3) := by decide +kernel
theorem dX7_readNumber_66 : decode cX7_readNumber 66 = .ok (.if_icmp .ge 21, 3) := by decide +kernel
theorem dX7_readNumber_69 : decode cX7_readNumber 69 = .ok (.aload_n 0, 1) := by decide +kernel
theorem dX7_readNumber_70 : decode cX7_readNumber 70 = .ok (.iload 4, 2) := by decide +kernel
theorem dX7_readNumber_72 : decode cX7_readNumber 72 = .ok (.invokevirtual 42, 3) := by decide +kernel
theorem dX7_readNumber_75 : decode cX7_readNumber 75 = .ok (.invokestatic 46, 3) := by decide +kernel
theorem dX7_readNumber_78 : decode cX7_readNumber 78 = .ok (.ifCond .eq 9, 3) := by decide +kernel
theorem dX7_readNumber_81 : decode cX7_readNumber 81 = .ok (.iinc 4 1, 3) := by decide +kernel
theorem dX7_readNumber_84 : decode cX7_readNumber 84 = .ok (.goto (-24), 3) := by decide +kernel
theorem dX7_readNumber_87 : decode cX7_readNumber 87 = .ok (.aload_n 0, 1) := by decide +kernel
theorem dX7_readNumber_88 : decode cX7_readNumber 88 = .ok (.iload_n 3, 1) := by decide +kernel
theorem dX7_readNumber_89 : decode cX7_readNumber 89 = .ok (.iload 4, 2) := by decide +kernel
theorem dX7_readNumber_91 : decode cX7_readNumber 91 = .ok (.iload_n 2, 1) := by decide +kernel
theorem dX7_readNumber_92 : decode cX7_readNumber 92 = .ok (.invokevirtual 150, 3) := by decide +kernel
theorem dX7_readNumber_95 : decode cX7_readNumber 95 = .ok (.ifCond .eq 8, 3) := by decide +kernel
theorem dX7_readNumber_98 : decode cX7_readNumber 98 = .ok (.iload 4, 2) := by decide +kernel
theorem dX7_readNumber_100 : decode cX7_readNumber 100 = .ok (.goto 8, 3) := by decide +kernel
theorem dX7_readNumber_103 : decode cX7_readNumber 103 = .ok (.aload_n 0, 1) := by decide +kernel
theorem dX7_readNumber_104 : decode cX7_readNumber 104 = .ok (.iload_n 1, 1) := by decide +kernel
theorem dX7_readNumber_105 : decode cX7_readNumber 105 = .ok (.invokevirtual 94, 3) := by decide +kernel
theorem dX7_readNumber_108 : decode cX7_readNumber 108 = .ok (.ireturn, 1) := by decide +kernel
def rmX7_readNumber (mc ms : Nat) : Room := { frames := 2, cells := mc, slots := ms, locals := 49 }
abbrev cX7_readWord : ByteArray := prog_10_method_35_code
def yX7_readWord : MethodName := ⟨RX7, "readWord", "(ILjava/lang/String;)I"⟩
def wsX7_readWord : List Cond := .code yX7_readWord cX7_readWord 4 (some .int) :: sr_G
theorem dX7_readWord_0 : decode cX7_readWord 0 = .ok (.iconst 0, 1) := by decide +kernel
theorem dX7_readWord_1 : decode cX7_readWord 1 = .ok (.istore_n 3, 1) := by decide +kernel
theorem dX7_readWord_2 : decode cX7_readWord 2 = .ok (.iload_n 3, 1) := by decide +kernel
theorem dX7_readWord_3 : decode cX7_readWord 3 = .ok (.aload_n 2, 1) := by decide +kernel
theorem dX7_readWord_4 : decode cX7_readWord 4 = .ok (.invokevirtual 54, 3) := by decide +kernel
theorem dX7_readWord_7 : decode cX7_readWord 7 = .ok (.if_icmp .ge 32, 3) := by decide +kernel
theorem dX7_readWord_10 : decode cX7_readWord 10 = .ok (.aload_n 0, 1) := by decide +kernel
theorem dX7_readWord_11 : decode cX7_readWord 11 = .ok (.iload_n 1, 1) := by decide +kernel
theorem dX7_readWord_12 : decode cX7_readWord 12 = .ok (.iload_n 3, 1) := by decide +kernel
theorem dX7_readWord_13 : decode cX7_readWord 13 = .ok (.iadd, 1) := by decide +kernel
theorem dX7_readWord_14 : decode cX7_readWord 14 = .ok (.invokevirtual 42, 3) := by decide +kernel
theorem dX7_readWord_17 : decode cX7_readWord 17 = .ok (.aload_n 2, 1) := by decide +kernel
theorem dX7_readWord_18 : decode cX7_readWord 18 = .ok (.iload_n 3, 1) := by decide +kernel
theorem dX7_readWord_19 : decode cX7_readWord 19 = .ok (.invokevirtual 62, 3) := by decide +kernel
theorem dX7_readWord_22 : decode cX7_readWord 22 = .ok (.if_icmp .eq 11, 3) := by decide +kernel
theorem dX7_readWord_25 : decode cX7_readWord 25 = .ok (.aload_n 0, 1) := by decide +kernel
theorem dX7_readWord_26 : decode cX7_readWord 26 = .ok (.iload_n 1, 1) := by decide +kernel
theorem dX7_readWord_27 : decode cX7_readWord 27 = .ok (.iload_n 3, 1) := by decide +kernel
theorem dX7_readWord_28 : decode cX7_readWord 28 = .ok (.iadd, 1) := by decide +kernel
theorem dX7_readWord_29 : decode cX7_readWord 29 = .ok (.invokevirtual 94, 3) := by decide +kernel
theorem dX7_readWord_32 : decode cX7_readWord 32 = .ok (.ireturn, 1) := by decide +kernel
theorem dX7_readWord_33 : decode cX7_readWord 33 = .ok (.iinc 3 1, 3) := by decide +kernel
theorem dX7_readWord_36 : decode cX7_readWord 36 = .ok (.goto (-34), 3) := by decide +kernel
theorem dX7_readWord_39 : decode cX7_readWord 39 = .ok (.iload_n 1, 1) := by decide +kernel
theorem dX7_readWord_40 : decode cX7_readWord 40 = .ok (.aload_n 2, 1) := by decide +kernel
theorem dX7_readWord_41 : decode cX7_readWord 41 = .ok (.invokevirtual 54, 3) := by decide +kernel
theorem dX7_readWord_44 : decode cX7_readWord 44 = .ok (.iadd, 1) := by decide +kernel
theorem dX7_readWord_45 : decode cX7_readWord 45 = .ok (.ireturn, 1) := by decide +kernel
def rmX7_readWord (mc ms : Nat) : Room := { frames := 4, cells := mc, slots := ms, locals := 85 }
abbrev cX7_readString : ByteArray := prog_10_method_29_code
def yX7_readString : MethodName := ⟨RX7, "readString", "(I)I"⟩
def wsX7_readString : List Cond := .code yX7_readString cX7_readString 5 (some .int) :: sr_G
theorem dX7_readString_0 : decode cX7_readString 0 = .ok (.iconst 0, 1) := by decide +kernel
theorem dX7_readString_1 : decode cX7_readString 1 = .ok (.istore_n 2, 1) := by decide +kernel
theorem dX7_readString_2 : decode cX7_readString 2 = .ok (.iload_n 1, 1) := by decide +kernel
theorem dX7_readString_3 : decode cX7_readString 3 = .ok (.iconst 1, 1) := by decide +kernel
theorem dX7_readString_4 : decode cX7_readString 4 = .ok (.iadd, 1) := by decide +kernel
theorem dX7_readString_5 : decode cX7_readString 5 = .ok (.istore_n 3, 1) := by decide +kernel
theorem dX7_readString_6 : decode cX7_readString 6 = .ok (.iload_n 3, 1) := by decide +kernel
theorem dX7_readString_7 : decode cX7_readString 7 = .ok (.aload_n 0, 1) := by decide +kernel
theorem dX7_readString_8 : decode cX7_readString 8 = .ok (.getfield 35, 3) := by decide +kernel
theorem dX7_readString_11 : decode cX7_readString 11 = .ok (.if_icmp .ge 110, 3) := by decide +kernel
theorem dX7_readString_14 : decode cX7_readString 14 = .ok (.aload_n 0, 1) := by decide +kernel
theorem dX7_readString_15 : decode cX7_readString 15 = .ok (.iload_n 3, 1) := by decide +kernel
theorem dX7_readString_16 : decode cX7_readString 16 = .ok (.invokevirtual 42, 3) := by decide +kernel
theorem dX7_readString_19 : decode cX7_readString 19 = .ok (.istore 4, 2) := by decide +kernel
theorem dX7_readString_21 : decode cX7_readString 21 = .ok (.iload 4, 2) := by decide +kernel
theorem dX7_readString_23 : decode cX7_readString 23 = .ok (.bipush 34, 2) := by decide +kernel
theorem dX7_readString_25 : decode cX7_readString 25 = .ok (.if_icmp .ne 16, 3) := by decide +kernel
theorem dX7_readString_28 : decode cX7_readString 28 = .ok (.aload_n 0, 1) := by decide +kernel
theorem dX7_readString_29 : decode cX7_readString 29 = .ok (.getfield 25, 3) := by decide +kernel
theorem dX7_readString_32 : decode cX7_readString 32 = .ok (.iload_n 1, 1) := by decide +kernel
theorem dX7_readString_33 : decode cX7_readString 33 = .ok (.iload_n 2, 1) := by decide +kernel
theorem dX7_readString_34 : decode cX7_readString 34 = .ok (.invokestatic 125, 3) := by decide +kernel
theorem dX7_readString_37 : decode cX7_readString 37 = .ok (.iload_n 3, 1) := by decide +kernel
theorem dX7_readString_38 : decode cX7_readString 38 = .ok (.iconst 1, 1) := by decide +kernel
theorem dX7_readString_39 : decode cX7_readString 39 = .ok (.iadd, 1) := by decide +kernel
theorem dX7_readString_40 : decode cX7_readString 40 = .ok (.ireturn, 1) := by decide +kernel
theorem dX7_readString_41 : decode cX7_readString 41 = .ok (.iload 4, 2) := by decide +kernel
theorem dX7_readString_43 : decode cX7_readString 43 = .ok (.bipush 32, 2) := by decide +kernel
theorem dX7_readString_45 : decode cX7_readString 45 = .ok (.if_icmp .lt 10, 3) := by decide +kernel
theorem dX7_readString_48 : decode cX7_readString 48 = .ok (.iload 4, 2) := by decide +kernel
theorem dX7_readString_50 : decode cX7_readString 50 = .ok (.bipush 126, 2) := by decide +kernel
theorem dX7_readString_52 : decode cX7_readString 52 = .ok (.if_icmp .le 9, 3) := by decide +kernel
theorem dX7_readString_55 : decode cX7_readString 55 = .ok (.aload_n 0, 1) := by decide +kernel
theorem dX7_readString_56 : decode cX7_readString 56 = .ok (.iload_n 3, 1) := by decide +kernel
theorem dX7_readString_57 : decode cX7_readString 57 = .ok (.invokevirtual 94, 3) := by decide +kernel
theorem dX7_readString_60 : decode cX7_readString 60 = .ok (.ireturn, 1) := by decide +kernel
theorem dX7_readString_61 : decode cX7_readString 61 = .ok (.iload 4, 2) := by decide +kernel
theorem dX7_readString_63 : decode cX7_readString 63 = .ok (.bipush 92, 2) := by decide +kernel
theorem dX7_readString_65 : decode cX7_readString 65 = .ok (.if_icmp .ne 38, 3) := by decide +kernel
theorem dX7_readString_68 : decode cX7_readString 68 = .ok (.aload_n 0, 1) := by decide +kernel
theorem dX7_readString_69 : decode cX7_readString 69 = .ok (.iload_n 3, 1) := by decide +kernel
theorem dX7_readString_70 : decode cX7_readString 70 = .ok (.invokevirtual 140, 3) := by decide +kernel
theorem dX7_readString_73 : decode cX7_readString 73 = .ok (.istore 4, 2) := by decide +kernel
theorem dX7_readString_75 : decode cX7_readString 75 = .ok (.iload 4, 2) := by decide +kernel
theorem dX7_readString_77 : decode cX7_readString 77 = .ok (.iconst (-1), 1) := by decide +kernel
theorem dX7_readString_78 : decode cX7_readString 78 = .ok (.if_icmp .ne 5, 3) := by decide +kernel
theorem dX7_readString_81 : decode cX7_readString 81 = .ok (.iconst (-1), 1) := by decide +kernel
theorem dX7_readString_82 : decode cX7_readString 82 = .ok (.ireturn, 1) := by decide +kernel
theorem dX7_readString_83 : decode cX7_readString 83 = .ok (.iload_n 3, 1) := by decide +kernel
theorem dX7_readString_84 : decode cX7_readString 84 = .ok (.aload_n 0, 1) := by decide +kernel
theorem dX7_readString_85 : decode cX7_readString 85 = .ok (.iload_n 3, 1) := by decide +kernel
theorem dX7_readString_86 : decode cX7_readString 86 = .ok (.iconst 1, 1) := by decide +kernel
theorem dX7_readString_87 : decode cX7_readString 87 = .ok (.iadd, 1) := by decide +kernel
theorem dX7_readString_88 : decode cX7_readString 88 = .ok (.invokevirtual 42, 3) := by decide +kernel
theorem dX7_readString_91 : decode cX7_readString 91 = .ok (.bipush 117, 2) := by decide +kernel
theorem dX7_readString_93 : decode cX7_readString 93 = .ok (.if_icmp .ne 7, 3) := by decide +kernel
theorem dX7_readString_96 : decode cX7_readString 96 = .ok (.iconst 5, 1) := by decide +kernel
theorem dX7_readString_97 : decode cX7_readString 97 = .ok (.goto 4, 3) := by decide +kernel
theorem dX7_readString_100 : decode cX7_readString 100 = .ok (.iconst 1, 1) := by decide +kernel
theorem dX7_readString_101 : decode cX7_readString 101 = .ok (.iadd, 1) := by decide +kernel
theorem dX7_readString_102 : decode cX7_readString 102 = .ok (.istore_n 3, 1) := by decide +kernel
theorem dX7_readString_103 : decode cX7_readString 103 = .ok (.aload_n 0, 1) := by decide +kernel
theorem dX7_readString_104 : decode cX7_readString 104 = .ok (.iload_n 1, 1) := by decide +kernel
theorem dX7_readString_105 : decode cX7_readString 105 = .ok (.iload_n 2, 1) := by decide +kernel
theorem dX7_readString_106 : decode cX7_readString 106 = .ok (.iadd, 1) := by decide +kernel
theorem dX7_readString_107 : decode cX7_readString 107 = .ok (.iload 4, 2) := by decide +kernel
theorem dX7_readString_109 : decode cX7_readString 109 = .ok (.invokevirtual 143, 3) := by decide +kernel
theorem dX7_readString_112 : decode cX7_readString 112 = .ok (.iinc 2 1, 3) := by decide +kernel
theorem dX7_readString_115 : decode cX7_readString 115 = .ok (.iinc 3 1, 3) := by decide +kernel
theorem dX7_readString_118 : decode cX7_readString 118 = .ok (.goto (-112), 3) := by decide +kernel
theorem dX7_readString_121 : decode cX7_readString 121 = .ok (.aload_n 0, 1) := by decide +kernel
theorem dX7_readString_122 : decode cX7_readString 122 = .ok (.aload_n 0, 1) := by decide +kernel
theorem dX7_readString_123 : decode cX7_readString 123 = .ok (.getfield 35, 3) := by decide +kernel
theorem dX7_readString_126 : decode cX7_readString 126 = .ok (.invokevirtual 94, 3) := by decide +kernel
theorem dX7_readString_129 : decode cX7_readString 129 = .ok (.ireturn, 1) := by decide +kernel
def rmX7_readString (mc ms : Nat) : Room := { frames := 2, cells := mc, slots := ms, locals := 46 }
abbrev cX7_readKey : ByteArray := prog_10_method_28_code
def yX7_readKey : MethodName := ⟨RX7, "readKey", "(II)I"⟩
def wsX7_readKey : List Cond := .code yX7_readKey cX7_readKey 6 (some .int) :: sr_G
theorem dX7_readKey_0 : decode cX7_readKey 0 = .ok (.aload_n 0, 1) := by decide +kernel
theorem dX7_readKey_1 : decode cX7_readKey 1 = .ok (.iload_n 2, 1) := by decide +kernel
theorem dX7_readKey_2 : decode cX7_readKey 2 = .ok (.invokevirtual 68, 3) := by decide +kernel
theorem dX7_readKey_5 : decode cX7_readKey 5 = .ok (.ifCond .ne 9, 3) := by decide +kernel
theorem dX7_readKey_8 : decode cX7_readKey 8 = .ok (.aload_n 0, 1) := by decide +kernel
theorem dX7_readKey_9 : decode cX7_readKey 9 = .ok (.iload_n 2, 1) := by decide +kernel
theorem dX7_readKey_10 : decode cX7_readKey 10 = .ok (.invokevirtual 94, 3) := by decide +kernel
theorem dX7_readKey_13 : decode cX7_readKey 13 = .ok (.ireturn, 1) := by decide +kernel
theorem dX7_readKey_14 : decode cX7_readKey 14 = .ok (.aload_n 0, 1) := by decide +kernel
theorem dX7_readKey_15 : decode cX7_readKey 15 = .ok (.iload_n 2, 1) := by decide +kernel
theorem dX7_readKey_16 : decode cX7_readKey 16 = .ok (.invokevirtual 103, 3) := by decide +kernel
theorem dX7_readKey_19 : decode cX7_readKey 19 = .ok (.istore_n 3, 1) := by decide +kernel
theorem dX7_readKey_20 : decode cX7_readKey 20 = .ok (.iload_n 3, 1) := by decide +kernel
theorem dX7_readKey_21 : decode cX7_readKey 21 = .ok (.iconst (-1), 1) := by decide +kernel
theorem dX7_readKey_22 : decode cX7_readKey 22 = .ok (.if_icmp .ne 5, 3) := by decide +kernel
theorem dX7_readKey_25 : decode cX7_readKey 25 = .ok (.iconst (-1), 1) := by decide +kernel
theorem dX7_readKey_26 : decode cX7_readKey 26 = .ok (.ireturn, 1) := by decide +kernel
theorem dX7_readKey_27 : decode cX7_readKey 27 = .ok (.aload_n 0, 1) := by decide +kernel
theorem dX7_readKey_28 : decode cX7_readKey 28 = .ok (.getfield 31, 3) := by decide +kernel
theorem dX7_readKey_31 : decode cX7_readKey 31 = .ok (.aload_n 0, 1) := by decide +kernel
theorem dX7_readKey_32 : decode cX7_readKey 32 = .ok (.iload_n 1, 1) := by decide +kernel
theorem dX7_readKey_33 : decode cX7_readKey 33 = .ok (.iload_n 2, 1) := by decide +kernel
theorem dX7_readKey_34 : decode cX7_readKey 34 = .ok (.invokevirtual 136, 3) := by decide +kernel
theorem dX7_readKey_37 : decode cX7_readKey 37 = .ok (.ifCond .ne 9, 3) := by decide +kernel
theorem dX7_readKey_40 : decode cX7_readKey 40 = .ok (.aload_n 0, 1) := by decide +kernel
theorem dX7_readKey_41 : decode cX7_readKey 41 = .ok (.iload_n 2, 1) := by decide +kernel
theorem dX7_readKey_42 : decode cX7_readKey 42 = .ok (.invokevirtual 94, 3) := by decide +kernel
theorem dX7_readKey_45 : decode cX7_readKey 45 = .ok (.ireturn, 1) := by decide +kernel
theorem dX7_readKey_46 : decode cX7_readKey 46 = .ok (.aload_n 0, 1) := by decide +kernel
theorem dX7_readKey_47 : decode cX7_readKey 47 = .ok (.iload_n 3, 1) := by decide +kernel
theorem dX7_readKey_48 : decode cX7_readKey 48 = .ok (.invokevirtual 87, 3) := by decide +kernel
theorem dX7_readKey_51 : decode cX7_readKey 51 = .ok (.istore 4, 2) := by decide +kernel
theorem dX7_readKey_53 : decode cX7_readKey 53 = .ok (.aload_n 0, 1) := by decide +kernel
theorem dX7_readKey_54 : decode cX7_readKey 54 = .ok (.iload 4, 2) := by decide +kernel
theorem dX7_readKey_56 : decode cX7_readKey 56 = .ok (.invokevirtual 42, 3) := by decide +kernel
theorem dX7_readKey_59 : decode cX7_readKey 59 = .ok (.bipush 58, 2) := by decide +kernel
theorem dX7_readKey_61 : decode cX7_readKey 61 = .ok (.if_icmp .eq 10, 3) := by decide +kernel
theorem dX7_readKey_64 : decode cX7_readKey 64 = .ok (.aload_n 0, 1) := by decide +kernel
theorem dX7_readKey_65 : decode cX7_readKey 65 = .ok (.iload 4, 2) := by decide +kernel
theorem dX7_readKey_67 : decode cX7_readKey 67 = .ok (.invokevirtual 94, 3) := by decide +kernel
theorem dX7_readKey_70 : decode cX7_readKey 70 = .ok (.ireturn, 1) := by decide +kernel
theorem dX7_readKey_71 : decode cX7_readKey 71 = .ok (.aload_n 0, 1) := by decide +kernel
theorem dX7_readKey_72 : decode cX7_readKey 72 = .ok (.iload 4, 2) := by decide +kernel
theorem dX7_readKey_74 : decode cX7_readKey 74 = .ok (.iconst 1, 1) := by decide +kernel
theorem dX7_readKey_75 : decode cX7_readKey 75 = .ok (.iadd, 1) := by decide +kernel
theorem dX7_readKey_76 : decode cX7_readKey 76 = .ok (.invokevirtual 87, 3) := by decide +kernel
theorem dX7_readKey_79 : decode cX7_readKey 79 = .ok (.istore 5, 2) := by decide +kernel
theorem dX7_readKey_81 : decode cX7_readKey 81 = .ok (.aload_n 0, 1) := by decide +kernel
theorem dX7_readKey_82 : decode cX7_readKey 82 = .ok (.getfield 18, 3) := by decide +kernel
theorem dX7_readKey_85 : decode cX7_readKey 85 = .ok (.iload_n 2, 1) := by decide +kernel
theorem dX7_readKey_86 : decode cX7_readKey 86 = .ok (.iload 5, 2) := by decide +kernel
theorem dX7_readKey_88 : decode cX7_readKey 88 = .ok (.invokestatic 125, 3) := by decide +kernel
theorem dX7_readKey_91 : decode cX7_readKey 91 = .ok (.iload 5, 2) := by decide +kernel
theorem dX7_readKey_93 : decode cX7_readKey 93 = .ok (.ireturn, 1) := by decide +kernel
def rmX7_readKey (mc ms : Nat) : Room := { frames := 3, cells := mc, slots := ms, locals := 71 }
theorem g2_28 (c0 : Cond) : GoodIn (c0 :: sr_G) (va_wsS RX2 28 yX24_fill wsX24_fill) := sr_S c0 (sr_ins (by decide +kernel))
theorem g2_34 (c0 : Cond) : GoodIn (c0 :: sr_G) (wsV RX2 34 RX7 yX7_hash wsX7_hash) := sr_V c0 (sr_ins (by decide +kernel))
theorem g2_40 (c0 : Cond) : GoodIn (c0 :: sr_G) (wsV RX2 40 RX7 yX7_saysSame wsX7_saysSame) := sr_V c0 (sr_ins (by decide +kernel))
theorem g7_94 (c0 : Cond) : GoodIn (c0 :: sr_G) (wsV RX7 94 RX7 yX7_refuse wsX7_refuse) := sr_V c0 (sr_ins (by decide +kernel))
theorem g7_147 (c0 : Cond) : GoodIn (c0 :: sr_G) (va_wsS RX7 147 yX7_hexDigit wsX7_hexDigit) := sr_S c0 (sr_ins (by decide +kernel))
theorem g7_150 (c0 : Cond) : GoodIn (c0 :: sr_G) (wsV RX7 150 RX7 yX7_isWithinLong wsX7_isWithinLong) := sr_V c0 (sr_ins (by decide +kernel))
theorem g7_143 (c0 : Cond) : GoodIn (c0 :: sr_G) (wsV RX7 143 RX7 yX7_say wsX7_say) := sr_V c0 (sr_ins (by decide +kernel))
theorem g7_140 (c0 : Cond) : GoodIn (c0 :: sr_G) (wsV RX7 140 RX7 yX7_readEscape wsX7_readEscape) := sr_V c0 (sr_ins (by decide +kernel))
theorem g7_103 (c0 : Cond) : GoodIn (c0 :: sr_G) (wsV RX7 103 RX7 yX7_readString wsX7_readString) := sr_V c0 (sr_ins (by decide +kernel))
theorem g7_136 (c0 : Cond) : GoodIn (c0 :: sr_G) (wsV RX7 136 RX2 yX2_add wsX2_add) := sr_V c0 (sr_ins (by decide +kernel))
theorem g7_87 (c0 : Cond) : GoodIn (c0 :: sr_G) (wsV RX7 87 RX7 yX7_behindBlanks wsX7_behindBlanks) := sr_V c0 (sr_ins (by decide +kernel))
theorem gn7_125 : (∀ w ∈ ([.static yX8_enter, .initialized yX8_enter.cls, .code yX8_enter cX8_enter 3 none] : List Cond), w ∈ sr_G) ∧ (.methodLinkNest RX7 125 yX8_enter "SchemaReader" : Cond) ∈ sr_N := ⟨sr_ins (by decide +kernel), List.mem_filter.mpr ⟨in_tables_1_2 _ (List.mem_of_getElem? (i := 18) rfl), rfl⟩⟩
