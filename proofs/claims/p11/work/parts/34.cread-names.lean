section
abbrev cX2_clear : ByteArray := prog_5_method_2_code
def yX2_clear : MethodName := ⟨RX2, "clear", "()V"⟩
def wsX2_clear : List Cond := .code yX2_clear cX2_clear 1 none :: sr_G
def nq_cX2_clear : Nat := 0xb11800b5032a1c00b8020b00b42a
theorem kq_cX2_clear : qOk cX2_clear nq_cX2_clear 14 = true := by decide +kernel
theorem dX2_clear_0 : decode cX2_clear 0 = .ok (.aload_n 0, 1) := qd_42 kq_cX2_clear (by decide +kernel)
theorem dX2_clear_1 : decode cX2_clear 1 = .ok (.getfield 11, 3) := qd_180 kq_cX2_clear (by decide +kernel)
theorem dX2_clear_4 : decode cX2_clear 4 = .ok (.iconst (-1), 1) := qd_2 kq_cX2_clear (by decide +kernel)
theorem dX2_clear_5 : decode cX2_clear 5 = .ok (.invokestatic 28, 3) := qd_184 kq_cX2_clear (by decide +kernel)
theorem dX2_clear_8 : decode cX2_clear 8 = .ok (.aload_n 0, 1) := qd_42 kq_cX2_clear (by decide +kernel)
theorem dX2_clear_9 : decode cX2_clear 9 = .ok (.iconst 0, 1) := qd_3 kq_cX2_clear (by decide +kernel)
theorem dX2_clear_10 : decode cX2_clear 10 = .ok (.putfield 24, 3) := qd_181 kq_cX2_clear (by decide +kernel)
theorem dX2_clear_13 : decode cX2_clear 13 = .ok (.return_, 1) := qd_177 kq_cX2_clear (by decide +kernel)
def rmX2_clear (mc ms : Nat) : Room := { frames := 1, cells := mc, slots := ms, locals := 23 }
abbrev cX2_add : ByteArray := prog_5_method_3_code
def yX2_add : MethodName := ⟨RX2, "add", "(LSchemaReader$Text;II)Z"⟩
def wsX2_add : List Cond := .code yX2_add cX2_add 7 (some .boolean) :: sr_G
def nq_cX2_add : Nat := 0xac041800b560041800b4592a4f1800b42a04150b00b42a4f2e04150b00b42a1800b42a1500b42a4f1c1800b42a1200b42a4f1d1800b42a0f00b42a3c00a20004111800b42ac2ffa701068405362e05151500b42aac030500992800b61d2e05150f00b42a2b1400a01c2e05151200b42a2e00a2000411051536009b05153b00a21800b42a061506360305362e04150b00b42a04367eff0011601c2200b61d2b
theorem kq_cX2_add : qOk cX2_add nq_cX2_add 159 = true := by decide +kernel
theorem dX2_add_0 : decode cX2_add 0 = .ok (.aload_n 1, 1) := qd_43 kq_cX2_add (by decide +kernel)
theorem dX2_add_1 : decode cX2_add 1 = .ok (.iload_n 3, 1) := qd_29 kq_cX2_add (by decide +kernel)
theorem dX2_add_2 : decode cX2_add 2 = .ok (.invokevirtual 34, 3) := qd_182 kq_cX2_add (by decide +kernel)
theorem dX2_add_5 : decode cX2_add 5 = .ok (.iload_n 2, 1) := qd_28 kq_cX2_add (by decide +kernel)
theorem dX2_add_6 : decode cX2_add 6 = .ok (.iadd, 1) := qd_96 kq_cX2_add (by decide +kernel)
theorem dX2_add_7 : decode cX2_add 7 = .ok (.sipush 255, 3) := qd_17 kq_cX2_add (by decide +kernel)
theorem dX2_add_10 : decode cX2_add 10 = .ok (.iand, 1) := qd_126 kq_cX2_add (by decide +kernel)
theorem dX2_add_11 : decode cX2_add 11 = .ok (.istore 4, 2) := qd_54 kq_cX2_add (by decide +kernel)
theorem dX2_add_13 : decode cX2_add 13 = .ok (.aload_n 0, 1) := qd_42 kq_cX2_add (by decide +kernel)
theorem dX2_add_14 : decode cX2_add 14 = .ok (.getfield 11, 3) := qd_180 kq_cX2_add (by decide +kernel)
theorem dX2_add_17 : decode cX2_add 17 = .ok (.iload 4, 2) := qd_21 kq_cX2_add (by decide +kernel)
theorem dX2_add_19 : decode cX2_add 19 = .ok (.iaload, 1) := qd_46 kq_cX2_add (by decide +kernel)
theorem dX2_add_20 : decode cX2_add 20 = .ok (.istore 5, 2) := qd_54 kq_cX2_add (by decide +kernel)
theorem dX2_add_22 : decode cX2_add 22 = .ok (.iconst 0, 1) := qd_3 kq_cX2_add (by decide +kernel)
theorem dX2_add_23 : decode cX2_add 23 = .ok (.istore 6, 2) := qd_54 kq_cX2_add (by decide +kernel)
theorem dX2_add_25 : decode cX2_add 25 = .ok (.iload 6, 2) := qd_21 kq_cX2_add (by decide +kernel)
theorem dX2_add_27 : decode cX2_add 27 = .ok (.aload_n 0, 1) := qd_42 kq_cX2_add (by decide +kernel)
theorem dX2_add_28 : decode cX2_add 28 = .ok (.getfield 24, 3) := qd_180 kq_cX2_add (by decide +kernel)
theorem dX2_add_31 : decode cX2_add 31 = .ok (.if_icmp .ge 59, 3) := qd_162 kq_cX2_add (by decide +kernel)
theorem dX2_add_34 : decode cX2_add 34 = .ok (.iload 5, 2) := qd_21 kq_cX2_add (by decide +kernel)
theorem dX2_add_36 : decode cX2_add 36 = .ok (.ifCond .lt 54, 3) := qd_155 kq_cX2_add (by decide +kernel)
theorem dX2_add_39 : decode cX2_add 39 = .ok (.iload 5, 2) := qd_21 kq_cX2_add (by decide +kernel)
theorem dX2_add_41 : decode cX2_add 41 = .ok (.sipush 1024, 3) := qd_17 kq_cX2_add (by decide +kernel)
theorem dX2_add_44 : decode cX2_add 44 = .ok (.if_icmp .ge 46, 3) := qd_162 kq_cX2_add (by decide +kernel)
theorem dX2_add_47 : decode cX2_add 47 = .ok (.aload_n 0, 1) := qd_42 kq_cX2_add (by decide +kernel)
theorem dX2_add_48 : decode cX2_add 48 = .ok (.getfield 18, 3) := qd_180 kq_cX2_add (by decide +kernel)
theorem dX2_add_51 : decode cX2_add 51 = .ok (.iload 5, 2) := qd_21 kq_cX2_add (by decide +kernel)
theorem dX2_add_53 : decode cX2_add 53 = .ok (.iaload, 1) := qd_46 kq_cX2_add (by decide +kernel)
theorem dX2_add_54 : decode cX2_add 54 = .ok (.iload_n 2, 1) := qd_28 kq_cX2_add (by decide +kernel)
theorem dX2_add_55 : decode cX2_add 55 = .ok (.if_icmp .ne 20, 3) := qd_160 kq_cX2_add (by decide +kernel)
theorem dX2_add_58 : decode cX2_add 58 = .ok (.aload_n 1, 1) := qd_43 kq_cX2_add (by decide +kernel)
theorem dX2_add_59 : decode cX2_add 59 = .ok (.aload_n 0, 1) := qd_42 kq_cX2_add (by decide +kernel)
theorem dX2_add_60 : decode cX2_add 60 = .ok (.getfield 15, 3) := qd_180 kq_cX2_add (by decide +kernel)
theorem dX2_add_63 : decode cX2_add 63 = .ok (.iload 5, 2) := qd_21 kq_cX2_add (by decide +kernel)
theorem dX2_add_65 : decode cX2_add 65 = .ok (.iaload, 1) := qd_46 kq_cX2_add (by decide +kernel)
theorem dX2_add_66 : decode cX2_add 66 = .ok (.iload_n 3, 1) := qd_29 kq_cX2_add (by decide +kernel)
theorem dX2_add_67 : decode cX2_add 67 = .ok (.invokevirtual 40, 3) := qd_182 kq_cX2_add (by decide +kernel)
theorem dX2_add_70 : decode cX2_add 70 = .ok (.ifCond .eq 5, 3) := qd_153 kq_cX2_add (by decide +kernel)
theorem dX2_add_73 : decode cX2_add 73 = .ok (.iconst 0, 1) := qd_3 kq_cX2_add (by decide +kernel)
theorem dX2_add_74 : decode cX2_add 74 = .ok (.ireturn, 1) := qd_172 kq_cX2_add (by decide +kernel)
theorem dX2_add_75 : decode cX2_add 75 = .ok (.aload_n 0, 1) := qd_42 kq_cX2_add (by decide +kernel)
theorem dX2_add_76 : decode cX2_add 76 = .ok (.getfield 21, 3) := qd_180 kq_cX2_add (by decide +kernel)
theorem dX2_add_79 : decode cX2_add 79 = .ok (.iload 5, 2) := qd_21 kq_cX2_add (by decide +kernel)
theorem dX2_add_81 : decode cX2_add 81 = .ok (.iaload, 1) := qd_46 kq_cX2_add (by decide +kernel)
theorem dX2_add_82 : decode cX2_add 82 = .ok (.istore 5, 2) := qd_54 kq_cX2_add (by decide +kernel)
theorem dX2_add_84 : decode cX2_add 84 = .ok (.iinc 6 1, 3) := qd_132 kq_cX2_add (by decide +kernel)
theorem dX2_add_87 : decode cX2_add 87 = .ok (.goto (-62), 3) := qd_167 kq_cX2_add (by decide +kernel)
theorem dX2_add_90 : decode cX2_add 90 = .ok (.aload_n 0, 1) := qd_42 kq_cX2_add (by decide +kernel)
theorem dX2_add_91 : decode cX2_add 91 = .ok (.getfield 24, 3) := qd_180 kq_cX2_add (by decide +kernel)
theorem dX2_add_94 : decode cX2_add 94 = .ok (.sipush 1024, 3) := qd_17 kq_cX2_add (by decide +kernel)
theorem dX2_add_97 : decode cX2_add 97 = .ok (.if_icmp .ge 60, 3) := qd_162 kq_cX2_add (by decide +kernel)
theorem dX2_add_100 : decode cX2_add 100 = .ok (.aload_n 0, 1) := qd_42 kq_cX2_add (by decide +kernel)
theorem dX2_add_101 : decode cX2_add 101 = .ok (.getfield 15, 3) := qd_180 kq_cX2_add (by decide +kernel)
theorem dX2_add_104 : decode cX2_add 104 = .ok (.aload_n 0, 1) := qd_42 kq_cX2_add (by decide +kernel)
theorem dX2_add_105 : decode cX2_add 105 = .ok (.getfield 24, 3) := qd_180 kq_cX2_add (by decide +kernel)
theorem dX2_add_108 : decode cX2_add 108 = .ok (.iload_n 3, 1) := qd_29 kq_cX2_add (by decide +kernel)
theorem dX2_add_109 : decode cX2_add 109 = .ok (.iastore, 1) := qd_79 kq_cX2_add (by decide +kernel)
theorem dX2_add_110 : decode cX2_add 110 = .ok (.aload_n 0, 1) := qd_42 kq_cX2_add (by decide +kernel)
theorem dX2_add_111 : decode cX2_add 111 = .ok (.getfield 18, 3) := qd_180 kq_cX2_add (by decide +kernel)
theorem dX2_add_114 : decode cX2_add 114 = .ok (.aload_n 0, 1) := qd_42 kq_cX2_add (by decide +kernel)
theorem dX2_add_115 : decode cX2_add 115 = .ok (.getfield 24, 3) := qd_180 kq_cX2_add (by decide +kernel)
theorem dX2_add_118 : decode cX2_add 118 = .ok (.iload_n 2, 1) := qd_28 kq_cX2_add (by decide +kernel)
theorem dX2_add_119 : decode cX2_add 119 = .ok (.iastore, 1) := qd_79 kq_cX2_add (by decide +kernel)
theorem dX2_add_120 : decode cX2_add 120 = .ok (.aload_n 0, 1) := qd_42 kq_cX2_add (by decide +kernel)
theorem dX2_add_121 : decode cX2_add 121 = .ok (.getfield 21, 3) := qd_180 kq_cX2_add (by decide +kernel)
theorem dX2_add_124 : decode cX2_add 124 = .ok (.aload_n 0, 1) := qd_42 kq_cX2_add (by decide +kernel)
theorem dX2_add_125 : decode cX2_add 125 = .ok (.getfield 24, 3) := qd_180 kq_cX2_add (by decide +kernel)
theorem dX2_add_128 : decode cX2_add 128 = .ok (.aload_n 0, 1) := qd_42 kq_cX2_add (by decide +kernel)
theorem dX2_add_129 : decode cX2_add 129 = .ok (.getfield 11, 3) := qd_180 kq_cX2_add (by decide +kernel)
theorem dX2_add_132 : decode cX2_add 132 = .ok (.iload 4, 2) := qd_21 kq_cX2_add (by decide +kernel)
theorem dX2_add_134 : decode cX2_add 134 = .ok (.iaload, 1) := qd_46 kq_cX2_add (by decide +kernel)
theorem dX2_add_135 : decode cX2_add 135 = .ok (.iastore, 1) := qd_79 kq_cX2_add (by decide +kernel)
theorem dX2_add_136 : decode cX2_add 136 = .ok (.aload_n 0, 1) := qd_42 kq_cX2_add (by decide +kernel)
theorem dX2_add_137 : decode cX2_add 137 = .ok (.getfield 11, 3) := qd_180 kq_cX2_add (by decide +kernel)
theorem dX2_add_140 : decode cX2_add 140 = .ok (.iload 4, 2) := qd_21 kq_cX2_add (by decide +kernel)
theorem dX2_add_142 : decode cX2_add 142 = .ok (.aload_n 0, 1) := qd_42 kq_cX2_add (by decide +kernel)
theorem dX2_add_143 : decode cX2_add 143 = .ok (.getfield 24, 3) := qd_180 kq_cX2_add (by decide +kernel)
theorem dX2_add_146 : decode cX2_add 146 = .ok (.iastore, 1) := qd_79 kq_cX2_add (by decide +kernel)
theorem dX2_add_147 : decode cX2_add 147 = .ok (.aload_n 0, 1) := qd_42 kq_cX2_add (by decide +kernel)
theorem dX2_add_148 : decode cX2_add 148 = .ok (.dup, 1) := qd_89 kq_cX2_add (by decide +kernel)
theorem dX2_add_149 : decode cX2_add 149 = .ok (.getfield 24, 3) := qd_180 kq_cX2_add (by decide +kernel)
theorem dX2_add_152 : decode cX2_add 152 = .ok (.iconst 1, 1) := qd_4 kq_cX2_add (by decide +kernel)
theorem dX2_add_153 : decode cX2_add 153 = .ok (.iadd, 1) := qd_96 kq_cX2_add (by decide +kernel)
theorem dX2_add_154 : decode cX2_add 154 = .ok (.putfield 24, 3) := qd_181 kq_cX2_add (by decide +kernel)
theorem dX2_add_157 : decode cX2_add 157 = .ok (.iconst 1, 1) := qd_4 kq_cX2_add (by decide +kernel)
theorem dX2_add_158 : decode cX2_add 158 = .ok (.ireturn, 1) := qd_172 kq_cX2_add (by decide +kernel)
def rmX2_add (mc ms : Nat) : Room := { frames := 2, cells := mc, slots := ms, locals := 45 }
abbrev cX7_join : ByteArray := prog_10_method_27_code
def yX7_join : MethodName := ⟨RX7, "join", "(III)V"⟩
def wsX7_join : List Cond := .code yX7_join cX7_join 4 none :: sr_G
def nq_cX7_join : Nat := 0xb17d00b8021d1600b42a7d00b81d1c1600b42a0c00a77d00b81d1b1200b42a0f00a0021c
theorem kq_cX7_join : qOk cX7_join nq_cX7_join 36 = true := by decide +kernel
theorem dX7_join_0 : decode cX7_join 0 = .ok (.iload_n 2, 1) := qd_28 kq_cX7_join (by decide +kernel)
theorem dX7_join_1 : decode cX7_join 1 = .ok (.iconst (-1), 1) := qd_2 kq_cX7_join (by decide +kernel)
theorem dX7_join_2 : decode cX7_join 2 = .ok (.if_icmp .ne 15, 3) := qd_160 kq_cX7_join (by decide +kernel)
theorem dX7_join_5 : decode cX7_join 5 = .ok (.aload_n 0, 1) := qd_42 kq_cX7_join (by decide +kernel)
theorem dX7_join_6 : decode cX7_join 6 = .ok (.getfield 18, 3) := qd_180 kq_cX7_join (by decide +kernel)
theorem dX7_join_9 : decode cX7_join 9 = .ok (.iload_n 1, 1) := qd_27 kq_cX7_join (by decide +kernel)
theorem dX7_join_10 : decode cX7_join 10 = .ok (.iload_n 3, 1) := qd_29 kq_cX7_join (by decide +kernel)
theorem dX7_join_11 : decode cX7_join 11 = .ok (.invokestatic 125, 3) := qd_184 kq_cX7_join (by decide +kernel)
theorem dX7_join_14 : decode cX7_join 14 = .ok (.goto 12, 3) := qd_167 kq_cX7_join (by decide +kernel)
theorem dX7_join_17 : decode cX7_join 17 = .ok (.aload_n 0, 1) := qd_42 kq_cX7_join (by decide +kernel)
theorem dX7_join_18 : decode cX7_join 18 = .ok (.getfield 22, 3) := qd_180 kq_cX7_join (by decide +kernel)
theorem dX7_join_21 : decode cX7_join 21 = .ok (.iload_n 2, 1) := qd_28 kq_cX7_join (by decide +kernel)
theorem dX7_join_22 : decode cX7_join 22 = .ok (.iload_n 3, 1) := qd_29 kq_cX7_join (by decide +kernel)
theorem dX7_join_23 : decode cX7_join 23 = .ok (.invokestatic 125, 3) := qd_184 kq_cX7_join (by decide +kernel)
theorem dX7_join_26 : decode cX7_join 26 = .ok (.aload_n 0, 1) := qd_42 kq_cX7_join (by decide +kernel)
theorem dX7_join_27 : decode cX7_join 27 = .ok (.getfield 22, 3) := qd_180 kq_cX7_join (by decide +kernel)
theorem dX7_join_30 : decode cX7_join 30 = .ok (.iload_n 3, 1) := qd_29 kq_cX7_join (by decide +kernel)
theorem dX7_join_31 : decode cX7_join 31 = .ok (.iconst (-1), 1) := qd_2 kq_cX7_join (by decide +kernel)
theorem dX7_join_32 : decode cX7_join 32 = .ok (.invokestatic 125, 3) := qd_184 kq_cX7_join (by decide +kernel)
theorem dX7_join_35 : decode cX7_join 35 = .ok (.return_, 1) := qd_177 kq_cX7_join (by decide +kernel)
def rmX7_join (mc ms : Nat) : Room := { frames := 1, cells := mc, slots := ms, locals := 22 }
abbrev cX7_say : ByteArray := prog_10_method_30_code
def yX7_say : MethodName := ⟨RX7, "say", "(II)V"⟩
def wsX7_say : List Cond := .code yX7_say cX7_say 3 none :: sr_G
def nq_cX7_say : Nat := 0xb154911c1b0f00b42a0b00a2be0f00b42a1b14009b1b
theorem kq_cX7_say : qOk cX7_say nq_cX7_say 22 = true := by decide +kernel
theorem dX7_say_0 : decode cX7_say 0 = .ok (.iload_n 1, 1) := qd_27 kq_cX7_say (by decide +kernel)
theorem dX7_say_1 : decode cX7_say 1 = .ok (.ifCond .lt 20, 3) := qd_155 kq_cX7_say (by decide +kernel)
theorem dX7_say_4 : decode cX7_say 4 = .ok (.iload_n 1, 1) := qd_27 kq_cX7_say (by decide +kernel)
theorem dX7_say_5 : decode cX7_say 5 = .ok (.aload_n 0, 1) := qd_42 kq_cX7_say (by decide +kernel)
theorem dX7_say_6 : decode cX7_say 6 = .ok (.getfield 15, 3) := qd_180 kq_cX7_say (by decide +kernel)
theorem dX7_say_9 : decode cX7_say 9 = .ok (.arraylength, 1) := qd_190 kq_cX7_say (by decide +kernel)
theorem dX7_say_10 : decode cX7_say 10 = .ok (.if_icmp .ge 11, 3) := qd_162 kq_cX7_say (by decide +kernel)
theorem dX7_say_13 : decode cX7_say 13 = .ok (.aload_n 0, 1) := qd_42 kq_cX7_say (by decide +kernel)
theorem dX7_say_14 : decode cX7_say 14 = .ok (.getfield 15, 3) := qd_180 kq_cX7_say (by decide +kernel)
theorem dX7_say_17 : decode cX7_say 17 = .ok (.iload_n 1, 1) := qd_27 kq_cX7_say (by decide +kernel)
theorem dX7_say_18 : decode cX7_say 18 = .ok (.iload_n 2, 1) := qd_28 kq_cX7_say (by decide +kernel)
theorem dX7_say_19 : decode cX7_say 19 = .ok (.i2b, 1) := qd_145 kq_cX7_say (by decide +kernel)
theorem dX7_say_20 : decode cX7_say 20 = .ok (.bastore, 1) := qd_84 kq_cX7_say (by decide +kernel)
theorem dX7_say_21 : decode cX7_say 21 = .ok (.return_, 1) := qd_177 kq_cX7_say (by decide +kernel)
def rmX7_say (mc ms : Nat) : Room := { frames := 0, cells := mc, slots := ms, locals := 0 }
abbrev cX7_hexDigit : ByteArray := prog_10_method_32_code
def yX7_hexDigit : MethodName := ⟨RX7, "hexDigit", "(I)I"⟩
def wsX7_hexDigit : List Cond := .code yX7_hexDigit cX7_hexDigit 1 (some .int) :: sr_G
def nq_cX7_hexDigit : Nat := 0xac020400a7600a106441101a0d00a346101a1300a141101aac600a106461101a0b00a366101a1100a161101aac6430101a0800a339101a0e00a130101a
theorem kq_cX7_hexDigit : qOk cX7_hexDigit nq_cX7_hexDigit 61 = true := by decide +kernel
theorem dX7_hexDigit_0 : decode cX7_hexDigit 0 = .ok (.iload_n 0, 1) := qd_26 kq_cX7_hexDigit (by decide +kernel)
theorem dX7_hexDigit_1 : decode cX7_hexDigit 1 = .ok (.bipush 48, 2) := qd_16 kq_cX7_hexDigit (by decide +kernel)
theorem dX7_hexDigit_3 : decode cX7_hexDigit 3 = .ok (.if_icmp .lt 14, 3) := qd_161 kq_cX7_hexDigit (by decide +kernel)
theorem dX7_hexDigit_6 : decode cX7_hexDigit 6 = .ok (.iload_n 0, 1) := qd_26 kq_cX7_hexDigit (by decide +kernel)
theorem dX7_hexDigit_7 : decode cX7_hexDigit 7 = .ok (.bipush 57, 2) := qd_16 kq_cX7_hexDigit (by decide +kernel)
theorem dX7_hexDigit_9 : decode cX7_hexDigit 9 = .ok (.if_icmp .gt 8, 3) := qd_163 kq_cX7_hexDigit (by decide +kernel)
theorem dX7_hexDigit_12 : decode cX7_hexDigit 12 = .ok (.iload_n 0, 1) := qd_26 kq_cX7_hexDigit (by decide +kernel)
theorem dX7_hexDigit_13 : decode cX7_hexDigit 13 = .ok (.bipush 48, 2) := qd_16 kq_cX7_hexDigit (by decide +kernel)
theorem dX7_hexDigit_15 : decode cX7_hexDigit 15 = .ok (.isub, 1) := qd_100 kq_cX7_hexDigit (by decide +kernel)
theorem dX7_hexDigit_16 : decode cX7_hexDigit 16 = .ok (.ireturn, 1) := qd_172 kq_cX7_hexDigit (by decide +kernel)
theorem dX7_hexDigit_17 : decode cX7_hexDigit 17 = .ok (.iload_n 0, 1) := qd_26 kq_cX7_hexDigit (by decide +kernel)
theorem dX7_hexDigit_18 : decode cX7_hexDigit 18 = .ok (.bipush 97, 2) := qd_16 kq_cX7_hexDigit (by decide +kernel)
theorem dX7_hexDigit_20 : decode cX7_hexDigit 20 = .ok (.if_icmp .lt 17, 3) := qd_161 kq_cX7_hexDigit (by decide +kernel)
theorem dX7_hexDigit_23 : decode cX7_hexDigit 23 = .ok (.iload_n 0, 1) := qd_26 kq_cX7_hexDigit (by decide +kernel)
theorem dX7_hexDigit_24 : decode cX7_hexDigit 24 = .ok (.bipush 102, 2) := qd_16 kq_cX7_hexDigit (by decide +kernel)
theorem dX7_hexDigit_26 : decode cX7_hexDigit 26 = .ok (.if_icmp .gt 11, 3) := qd_163 kq_cX7_hexDigit (by decide +kernel)
theorem dX7_hexDigit_29 : decode cX7_hexDigit 29 = .ok (.iload_n 0, 1) := qd_26 kq_cX7_hexDigit (by decide +kernel)
theorem dX7_hexDigit_30 : decode cX7_hexDigit 30 = .ok (.bipush 97, 2) := qd_16 kq_cX7_hexDigit (by decide +kernel)
theorem dX7_hexDigit_32 : decode cX7_hexDigit 32 = .ok (.isub, 1) := qd_100 kq_cX7_hexDigit (by decide +kernel)
theorem dX7_hexDigit_33 : decode cX7_hexDigit 33 = .ok (.bipush 10, 2) := qd_16 kq_cX7_hexDigit (by decide +kernel)
theorem dX7_hexDigit_35 : decode cX7_hexDigit 35 = .ok (.iadd, 1) := qd_96 kq_cX7_hexDigit (by decide +kernel)
theorem dX7_hexDigit_36 : decode cX7_hexDigit 36 = .ok (.ireturn, 1) := qd_172 kq_cX7_hexDigit (by decide +kernel)
theorem dX7_hexDigit_37 : decode cX7_hexDigit 37 = .ok (.iload_n 0, 1) := qd_26 kq_cX7_hexDigit (by decide +kernel)
theorem dX7_hexDigit_38 : decode cX7_hexDigit 38 = .ok (.bipush 65, 2) := qd_16 kq_cX7_hexDigit (by decide +kernel)
theorem dX7_hexDigit_40 : decode cX7_hexDigit 40 = .ok (.if_icmp .lt 19, 3) := qd_161 kq_cX7_hexDigit (by decide +kernel)
theorem dX7_hexDigit_43 : decode cX7_hexDigit 43 = .ok (.iload_n 0, 1) := qd_26 kq_cX7_hexDigit (by decide +kernel)
theorem dX7_hexDigit_44 : decode cX7_hexDigit 44 = .ok (.bipush 70, 2) := qd_16 kq_cX7_hexDigit (by decide +kernel)
theorem dX7_hexDigit_46 : decode cX7_hexDigit 46 = .ok (.if_icmp .gt 13, 3) := qd_163 kq_cX7_hexDigit (by decide +kernel)
theorem dX7_hexDigit_49 : decode cX7_hexDigit 49 = .ok (.iload_n 0, 1) := qd_26 kq_cX7_hexDigit (by decide +kernel)
theorem dX7_hexDigit_50 : decode cX7_hexDigit 50 = .ok (.bipush 65, 2) := qd_16 kq_cX7_hexDigit (by decide +kernel)
theorem dX7_hexDigit_52 : decode cX7_hexDigit 52 = .ok (.isub, 1) := qd_100 kq_cX7_hexDigit (by decide +kernel)
theorem dX7_hexDigit_53 : decode cX7_hexDigit 53 = .ok (.bipush 10, 2) := qd_16 kq_cX7_hexDigit (by decide +kernel)
theorem dX7_hexDigit_55 : decode cX7_hexDigit 55 = .ok (.iadd, 1) := qd_96 kq_cX7_hexDigit (by decide +kernel)
theorem dX7_hexDigit_56 : decode cX7_hexDigit 56 = .ok (.goto 4, 3) := qd_167 kq_cX7_hexDigit (by decide +kernel)
theorem dX7_hexDigit_59 : decode cX7_hexDigit 59 = .ok (.iconst (-1), 1) := qd_2 kq_cX7_hexDigit (by decide +kernel)
theorem dX7_hexDigit_60 : decode cX7_hexDigit 60 = .ok (.ireturn, 1) := qd_172 kq_cX7_hexDigit (by decide +kernel)
def rmX7_hexDigit (mc ms : Nat) : Room := { frames := 0, cells := mc, slots := ms, locals := 0 }
abbrev cX7_readEscape : ByteArray := prog_10_method_31_code
def yX7_readEscape : MethodName := ⟨RX7, "readEscape", "(I)I"⟩
def wsX7_readEscape : List Cond := .code yX7_readEscape cX7_readEscape 6 (some .int) :: sr_G
def nq_cX7_readEscape : Nat := 0xac1d0400a75e00b61b2a0b00a4ff00111dd4ffa70104843e6005156810101dac5e00b604152a0a00a002051505369300b82a00b604152a2900a26006101b0415043660051b3e03ac5e00b660041b2a0b00a7ac0910ac0d10ac0a10ac0c10ac0810ac1c640000007500000061000000740000005e000000720000005b0000006e00000058000000660000005500000062000000530000005c000000530000002f000000530000002200000009000000670000000000ab1c3d2a00b660041b2a
theorem kq_cX7_readEscape : qOk cX7_readEscape nq_cX7_readEscape 191 = true := by decide +kernel
theorem dX7_readEscape_0 : decode cX7_readEscape 0 = .ok (.aload_n 0, 1) := qd_42 kq_cX7_readEscape (by decide +kernel)
theorem dX7_readEscape_1 : decode cX7_readEscape 1 = .ok (.iload_n 1, 1) := qd_27 kq_cX7_readEscape (by decide +kernel)
theorem dX7_readEscape_2 : decode cX7_readEscape 2 = .ok (.iconst 1, 1) := qd_4 kq_cX7_readEscape (by decide +kernel)
theorem dX7_readEscape_3 : decode cX7_readEscape 3 = .ok (.iadd, 1) := qd_96 kq_cX7_readEscape (by decide +kernel)
theorem dX7_readEscape_4 : decode cX7_readEscape 4 = .ok (.invokevirtual 42, 3) := qd_182 kq_cX7_readEscape (by decide +kernel)
theorem dX7_readEscape_7 : decode cX7_readEscape 7 = .ok (.istore_n 2, 1) := qd_61 kq_cX7_readEscape (by decide +kernel)
theorem dX7_readEscape_8 : decode cX7_readEscape 8 = .ok (.iload_n 2, 1) := qd_28 kq_cX7_readEscape (by decide +kernel)
theorem dX7_readEscape_9 : decode cX7_readEscape 9 = .ok (.lookupswitch 103 #[(34, 83), (47, 83), (92, 83), (98, 85), (102, 88), (110, 91), (114, 94), (116, 97), (117, 100)], 83) := by decide +kernel
theorem dX7_readEscape_92 : decode cX7_readEscape 92 = .ok (.iload_n 2, 1) := qd_28 kq_cX7_readEscape (by decide +kernel)
theorem dX7_readEscape_93 : decode cX7_readEscape 93 = .ok (.ireturn, 1) := qd_172 kq_cX7_readEscape (by decide +kernel)
theorem dX7_readEscape_94 : decode cX7_readEscape 94 = .ok (.bipush 8, 2) := qd_16 kq_cX7_readEscape (by decide +kernel)
theorem dX7_readEscape_96 : decode cX7_readEscape 96 = .ok (.ireturn, 1) := qd_172 kq_cX7_readEscape (by decide +kernel)
theorem dX7_readEscape_97 : decode cX7_readEscape 97 = .ok (.bipush 12, 2) := qd_16 kq_cX7_readEscape (by decide +kernel)
theorem dX7_readEscape_99 : decode cX7_readEscape 99 = .ok (.ireturn, 1) := qd_172 kq_cX7_readEscape (by decide +kernel)
theorem dX7_readEscape_100 : decode cX7_readEscape 100 = .ok (.bipush 10, 2) := qd_16 kq_cX7_readEscape (by decide +kernel)
theorem dX7_readEscape_102 : decode cX7_readEscape 102 = .ok (.ireturn, 1) := qd_172 kq_cX7_readEscape (by decide +kernel)
theorem dX7_readEscape_103 : decode cX7_readEscape 103 = .ok (.bipush 13, 2) := qd_16 kq_cX7_readEscape (by decide +kernel)
theorem dX7_readEscape_105 : decode cX7_readEscape 105 = .ok (.ireturn, 1) := qd_172 kq_cX7_readEscape (by decide +kernel)
theorem dX7_readEscape_106 : decode cX7_readEscape 106 = .ok (.bipush 9, 2) := qd_16 kq_cX7_readEscape (by decide +kernel)
theorem dX7_readEscape_108 : decode cX7_readEscape 108 = .ok (.ireturn, 1) := qd_172 kq_cX7_readEscape (by decide +kernel)
theorem dX7_readEscape_109 : decode cX7_readEscape 109 = .ok (.goto 11, 3) := qd_167 kq_cX7_readEscape (by decide +kernel)
theorem dX7_readEscape_112 : decode cX7_readEscape 112 = .ok (.aload_n 0, 1) := qd_42 kq_cX7_readEscape (by decide +kernel)
theorem dX7_readEscape_113 : decode cX7_readEscape 113 = .ok (.iload_n 1, 1) := qd_27 kq_cX7_readEscape (by decide +kernel)
theorem dX7_readEscape_114 : decode cX7_readEscape 114 = .ok (.iconst 1, 1) := qd_4 kq_cX7_readEscape (by decide +kernel)
theorem dX7_readEscape_115 : decode cX7_readEscape 115 = .ok (.iadd, 1) := qd_96 kq_cX7_readEscape (by decide +kernel)
theorem dX7_readEscape_116 : decode cX7_readEscape 116 = .ok (.invokevirtual 94, 3) := qd_182 kq_cX7_readEscape (by decide +kernel)
theorem dX7_readEscape_119 : decode cX7_readEscape 119 = .ok (.ireturn, 1) := qd_172 kq_cX7_readEscape (by decide +kernel)
theorem dX7_readEscape_120 : decode cX7_readEscape 120 = .ok (.iconst 0, 1) := qd_3 kq_cX7_readEscape (by decide +kernel)
theorem dX7_readEscape_121 : decode cX7_readEscape 121 = .ok (.istore_n 3, 1) := qd_62 kq_cX7_readEscape (by decide +kernel)
theorem dX7_readEscape_122 : decode cX7_readEscape 122 = .ok (.iload_n 1, 1) := qd_27 kq_cX7_readEscape (by decide +kernel)
theorem dX7_readEscape_123 : decode cX7_readEscape 123 = .ok (.iconst 2, 1) := qd_5 kq_cX7_readEscape (by decide +kernel)
theorem dX7_readEscape_124 : decode cX7_readEscape 124 = .ok (.iadd, 1) := qd_96 kq_cX7_readEscape (by decide +kernel)
theorem dX7_readEscape_125 : decode cX7_readEscape 125 = .ok (.istore 4, 2) := qd_54 kq_cX7_readEscape (by decide +kernel)
theorem dX7_readEscape_127 : decode cX7_readEscape 127 = .ok (.iload 4, 2) := qd_21 kq_cX7_readEscape (by decide +kernel)
theorem dX7_readEscape_129 : decode cX7_readEscape 129 = .ok (.iload_n 1, 1) := qd_27 kq_cX7_readEscape (by decide +kernel)
theorem dX7_readEscape_130 : decode cX7_readEscape 130 = .ok (.bipush 6, 2) := qd_16 kq_cX7_readEscape (by decide +kernel)
theorem dX7_readEscape_132 : decode cX7_readEscape 132 = .ok (.iadd, 1) := qd_96 kq_cX7_readEscape (by decide +kernel)
theorem dX7_readEscape_133 : decode cX7_readEscape 133 = .ok (.if_icmp .ge 41, 3) := qd_162 kq_cX7_readEscape (by decide +kernel)
theorem dX7_readEscape_136 : decode cX7_readEscape 136 = .ok (.aload_n 0, 1) := qd_42 kq_cX7_readEscape (by decide +kernel)
theorem dX7_readEscape_137 : decode cX7_readEscape 137 = .ok (.iload 4, 2) := qd_21 kq_cX7_readEscape (by decide +kernel)
theorem dX7_readEscape_139 : decode cX7_readEscape 139 = .ok (.invokevirtual 42, 3) := qd_182 kq_cX7_readEscape (by decide +kernel)
theorem dX7_readEscape_142 : decode cX7_readEscape 142 = .ok (.invokestatic 147, 3) := qd_184 kq_cX7_readEscape (by decide +kernel)
theorem dX7_readEscape_145 : decode cX7_readEscape 145 = .ok (.istore 5, 2) := qd_54 kq_cX7_readEscape (by decide +kernel)
theorem dX7_readEscape_147 : decode cX7_readEscape 147 = .ok (.iload 5, 2) := qd_21 kq_cX7_readEscape (by decide +kernel)
theorem dX7_readEscape_149 : decode cX7_readEscape 149 = .ok (.iconst (-1), 1) := qd_2 kq_cX7_readEscape (by decide +kernel)
theorem dX7_readEscape_150 : decode cX7_readEscape 150 = .ok (.if_icmp .ne 10, 3) := qd_160 kq_cX7_readEscape (by decide +kernel)
theorem dX7_readEscape_153 : decode cX7_readEscape 153 = .ok (.aload_n 0, 1) := qd_42 kq_cX7_readEscape (by decide +kernel)
theorem dX7_readEscape_154 : decode cX7_readEscape 154 = .ok (.iload 4, 2) := qd_21 kq_cX7_readEscape (by decide +kernel)
theorem dX7_readEscape_156 : decode cX7_readEscape 156 = .ok (.invokevirtual 94, 3) := qd_182 kq_cX7_readEscape (by decide +kernel)
theorem dX7_readEscape_159 : decode cX7_readEscape 159 = .ok (.ireturn, 1) := qd_172 kq_cX7_readEscape (by decide +kernel)
theorem dX7_readEscape_160 : decode cX7_readEscape 160 = .ok (.iload_n 3, 1) := qd_29 kq_cX7_readEscape (by decide +kernel)
theorem dX7_readEscape_161 : decode cX7_readEscape 161 = .ok (.bipush 16, 2) := qd_16 kq_cX7_readEscape (by decide +kernel)
theorem dX7_readEscape_163 : decode cX7_readEscape 163 = .ok (.imul, 1) := qd_104 kq_cX7_readEscape (by decide +kernel)
theorem dX7_readEscape_164 : decode cX7_readEscape 164 = .ok (.iload 5, 2) := qd_21 kq_cX7_readEscape (by decide +kernel)
theorem dX7_readEscape_166 : decode cX7_readEscape 166 = .ok (.iadd, 1) := qd_96 kq_cX7_readEscape (by decide +kernel)
theorem dX7_readEscape_167 : decode cX7_readEscape 167 = .ok (.istore_n 3, 1) := qd_62 kq_cX7_readEscape (by decide +kernel)
theorem dX7_readEscape_168 : decode cX7_readEscape 168 = .ok (.iinc 4 1, 3) := qd_132 kq_cX7_readEscape (by decide +kernel)
theorem dX7_readEscape_171 : decode cX7_readEscape 171 = .ok (.goto (-44), 3) := qd_167 kq_cX7_readEscape (by decide +kernel)
theorem dX7_readEscape_174 : decode cX7_readEscape 174 = .ok (.iload_n 3, 1) := qd_29 kq_cX7_readEscape (by decide +kernel)
theorem dX7_readEscape_175 : decode cX7_readEscape 175 = .ok (.sipush 255, 3) := qd_17 kq_cX7_readEscape (by decide +kernel)
theorem dX7_readEscape_178 : decode cX7_readEscape 178 = .ok (.if_icmp .le 11, 3) := qd_164 kq_cX7_readEscape (by decide +kernel)
theorem dX7_readEscape_181 : decode cX7_readEscape 181 = .ok (.aload_n 0, 1) := qd_42 kq_cX7_readEscape (by decide +kernel)
theorem dX7_readEscape_182 : decode cX7_readEscape 182 = .ok (.iload_n 1, 1) := qd_27 kq_cX7_readEscape (by decide +kernel)
theorem dX7_readEscape_183 : decode cX7_readEscape 183 = .ok (.invokevirtual 94, 3) := qd_182 kq_cX7_readEscape (by decide +kernel)
theorem dX7_readEscape_186 : decode cX7_readEscape 186 = .ok (.goto 4, 3) := qd_167 kq_cX7_readEscape (by decide +kernel)
theorem dX7_readEscape_189 : decode cX7_readEscape 189 = .ok (.iload_n 3, 1) := qd_29 kq_cX7_readEscape (by decide +kernel)
theorem dX7_readEscape_190 : decode cX7_readEscape 190 = .ok (.ireturn, 1) := qd_172 kq_cX7_readEscape (by decide +kernel)
def rmX7_readEscape (mc ms : Nat) : Room := { frames := 1, cells := mc, slots := ms, locals := 21 }
abbrev cX7_isWithinLong : ByteArray := prog_10_method_34_code
def yX7_isWithinLong : MethodName := ⟨RX7, "isWithinLong", "(IIZ)Z"⟩
def wsX7_isWithinLong : List Cond := .code yX7_isWithinLong cX7_isWithinLong 9 (some .boolean) :: sr_G
def nq_cX7_isWithinLong : Nat := 0xac04c5ffa7010784053765850815695200140516ac030500a4041508150c009a949a0014051613009b949a0014051608366430102a00b607152a3b00a21c071507361b053709043607100500a708100800991d
theorem kq_cX7_isWithinLong : qOk cX7_isWithinLong nq_cX7_isWithinLong 83 = true := by decide +kernel
theorem dX7_isWithinLong_0 : decode cX7_isWithinLong 0 = .ok (.iload_n 3, 1) := qd_29 kq_cX7_isWithinLong (by decide +kernel)
theorem dX7_isWithinLong_1 : decode cX7_isWithinLong 1 = .ok (.ifCond .eq 8, 3) := qd_153 kq_cX7_isWithinLong (by decide +kernel)
theorem dX7_isWithinLong_4 : decode cX7_isWithinLong 4 = .ok (.bipush 8, 2) := qd_16 kq_cX7_isWithinLong (by decide +kernel)
theorem dX7_isWithinLong_6 : decode cX7_isWithinLong 6 = .ok (.goto 5, 3) := qd_167 kq_cX7_isWithinLong (by decide +kernel)
theorem dX7_isWithinLong_9 : decode cX7_isWithinLong 9 = .ok (.bipush 7, 2) := qd_16 kq_cX7_isWithinLong (by decide +kernel)
theorem dX7_isWithinLong_11 : decode cX7_isWithinLong 11 = .ok (.istore 4, 2) := qd_54 kq_cX7_isWithinLong (by decide +kernel)
theorem dX7_isWithinLong_13 : decode cX7_isWithinLong 13 = .ok (.lconst 0, 1) := qd_9 kq_cX7_isWithinLong (by decide +kernel)
theorem dX7_isWithinLong_14 : decode cX7_isWithinLong 14 = .ok (.lstore 5, 2) := qd_55 kq_cX7_isWithinLong (by decide +kernel)
theorem dX7_isWithinLong_16 : decode cX7_isWithinLong 16 = .ok (.iload_n 1, 1) := qd_27 kq_cX7_isWithinLong (by decide +kernel)
theorem dX7_isWithinLong_17 : decode cX7_isWithinLong 17 = .ok (.istore 7, 2) := qd_54 kq_cX7_isWithinLong (by decide +kernel)
theorem dX7_isWithinLong_19 : decode cX7_isWithinLong 19 = .ok (.iload 7, 2) := qd_21 kq_cX7_isWithinLong (by decide +kernel)
theorem dX7_isWithinLong_21 : decode cX7_isWithinLong 21 = .ok (.iload_n 2, 1) := qd_28 kq_cX7_isWithinLong (by decide +kernel)
theorem dX7_isWithinLong_22 : decode cX7_isWithinLong 22 = .ok (.if_icmp .ge 59, 3) := qd_162 kq_cX7_isWithinLong (by decide +kernel)
theorem dX7_isWithinLong_25 : decode cX7_isWithinLong 25 = .ok (.aload_n 0, 1) := qd_42 kq_cX7_isWithinLong (by decide +kernel)
theorem dX7_isWithinLong_26 : decode cX7_isWithinLong 26 = .ok (.iload 7, 2) := qd_21 kq_cX7_isWithinLong (by decide +kernel)
theorem dX7_isWithinLong_28 : decode cX7_isWithinLong 28 = .ok (.invokevirtual 42, 3) := qd_182 kq_cX7_isWithinLong (by decide +kernel)
theorem dX7_isWithinLong_31 : decode cX7_isWithinLong 31 = .ok (.bipush 48, 2) := qd_16 kq_cX7_isWithinLong (by decide +kernel)
theorem dX7_isWithinLong_33 : decode cX7_isWithinLong 33 = .ok (.isub, 1) := qd_100 kq_cX7_isWithinLong (by decide +kernel)
theorem dX7_isWithinLong_34 : decode cX7_isWithinLong 34 = .ok (.istore 8, 2) := qd_54 kq_cX7_isWithinLong (by decide +kernel)
theorem dX7_isWithinLong_36 : decode cX7_isWithinLong 36 = .ok (.lload 5, 2) := qd_22 kq_cX7_isWithinLong (by decide +kernel)
theorem dX7_isWithinLong_38 : decode cX7_isWithinLong 38 = .ok (.ldc2_w 154, 3) := qd_20 kq_cX7_isWithinLong (by decide +kernel)
theorem dX7_isWithinLong_41 : decode cX7_isWithinLong 41 = .ok (.lcmp, 1) := qd_148 kq_cX7_isWithinLong (by decide +kernel)
theorem dX7_isWithinLong_42 : decode cX7_isWithinLong 42 = .ok (.ifCond .lt 19, 3) := qd_155 kq_cX7_isWithinLong (by decide +kernel)
theorem dX7_isWithinLong_45 : decode cX7_isWithinLong 45 = .ok (.lload 5, 2) := qd_22 kq_cX7_isWithinLong (by decide +kernel)
theorem dX7_isWithinLong_47 : decode cX7_isWithinLong 47 = .ok (.ldc2_w 154, 3) := qd_20 kq_cX7_isWithinLong (by decide +kernel)
theorem dX7_isWithinLong_50 : decode cX7_isWithinLong 50 = .ok (.lcmp, 1) := qd_148 kq_cX7_isWithinLong (by decide +kernel)
theorem dX7_isWithinLong_51 : decode cX7_isWithinLong 51 = .ok (.ifCond .ne 12, 3) := qd_154 kq_cX7_isWithinLong (by decide +kernel)
theorem dX7_isWithinLong_54 : decode cX7_isWithinLong 54 = .ok (.iload 8, 2) := qd_21 kq_cX7_isWithinLong (by decide +kernel)
theorem dX7_isWithinLong_56 : decode cX7_isWithinLong 56 = .ok (.iload 4, 2) := qd_21 kq_cX7_isWithinLong (by decide +kernel)
theorem dX7_isWithinLong_58 : decode cX7_isWithinLong 58 = .ok (.if_icmp .le 5, 3) := qd_164 kq_cX7_isWithinLong (by decide +kernel)
theorem dX7_isWithinLong_61 : decode cX7_isWithinLong 61 = .ok (.iconst 0, 1) := qd_3 kq_cX7_isWithinLong (by decide +kernel)
theorem dX7_isWithinLong_62 : decode cX7_isWithinLong 62 = .ok (.ireturn, 1) := qd_172 kq_cX7_isWithinLong (by decide +kernel)
theorem dX7_isWithinLong_63 : decode cX7_isWithinLong 63 = .ok (.lload 5, 2) := qd_22 kq_cX7_isWithinLong (by decide +kernel)
theorem dX7_isWithinLong_65 : decode cX7_isWithinLong 65 = .ok (.ldc2_w 82, 3) := qd_20 kq_cX7_isWithinLong (by decide +kernel)
theorem dX7_isWithinLong_68 : decode cX7_isWithinLong 68 = .ok (.lmul, 1) := qd_105 kq_cX7_isWithinLong (by decide +kernel)
theorem dX7_isWithinLong_69 : decode cX7_isWithinLong 69 = .ok (.iload 8, 2) := qd_21 kq_cX7_isWithinLong (by decide +kernel)
theorem dX7_isWithinLong_71 : decode cX7_isWithinLong 71 = .ok (.i2l, 1) := qd_133 kq_cX7_isWithinLong (by decide +kernel)
theorem dX7_isWithinLong_72 : decode cX7_isWithinLong 72 = .ok (.lsub, 1) := qd_101 kq_cX7_isWithinLong (by decide +kernel)
theorem dX7_isWithinLong_73 : decode cX7_isWithinLong 73 = .ok (.lstore 5, 2) := qd_55 kq_cX7_isWithinLong (by decide +kernel)
theorem dX7_isWithinLong_75 : decode cX7_isWithinLong 75 = .ok (.iinc 7 1, 3) := qd_132 kq_cX7_isWithinLong (by decide +kernel)
theorem dX7_isWithinLong_78 : decode cX7_isWithinLong 78 = .ok (.goto (-59), 3) := qd_167 kq_cX7_isWithinLong (by decide +kernel)
theorem dX7_isWithinLong_81 : decode cX7_isWithinLong 81 = .ok (.iconst 1, 1) := qd_4 kq_cX7_isWithinLong (by decide +kernel)
theorem dX7_isWithinLong_82 : decode cX7_isWithinLong 82 = .ok (.ireturn, 1) := qd_172 kq_cX7_isWithinLong (by decide +kernel)
def rmX7_isWithinLong (mc ms : Nat) : Room := { frames := 1, cells := mc, slots := ms, locals := 21 }
abbrev cX7_readNumber : ByteArray := prog_10_method_33_code
def yX7_readNumber : MethodName := ⟨RX7, "readNumber", "(I)I"⟩
def wsX7_readNumber : List Cond := .code yX7_readNumber cX7_readNumber 5 (some .int) :: sr_G
def nq_cX7_readNumber : Nat := 0xac5e00b61b2a0800a704150800999600b61c04151d2ae8ffa70104840900992e00b82a00b604152a1500a22300b42a04151e009f30102a00b61d2a043660041dac5e00b61d2a09009a2e00b82a00b61d2a3e1b0400a760041b0900991c3d030400a7040700a02d102a00b61b2a
theorem kq_cX7_readNumber : qOk cX7_readNumber nq_cX7_readNumber 109 = true := by decide +kernel
theorem dX7_readNumber_0 : decode cX7_readNumber 0 = .ok (.aload_n 0, 1) := qd_42 kq_cX7_readNumber (by decide +kernel)
theorem dX7_readNumber_1 : decode cX7_readNumber 1 = .ok (.iload_n 1, 1) := qd_27 kq_cX7_readNumber (by decide +kernel)
theorem dX7_readNumber_2 : decode cX7_readNumber 2 = .ok (.invokevirtual 42, 3) := qd_182 kq_cX7_readNumber (by decide +kernel)
theorem dX7_readNumber_5 : decode cX7_readNumber 5 = .ok (.bipush 45, 2) := qd_16 kq_cX7_readNumber (by decide +kernel)
theorem dX7_readNumber_7 : decode cX7_readNumber 7 = .ok (.if_icmp .ne 7, 3) := qd_160 kq_cX7_readNumber (by decide +kernel)
theorem dX7_readNumber_10 : decode cX7_readNumber 10 = .ok (.iconst 1, 1) := qd_4 kq_cX7_readNumber (by decide +kernel)
theorem dX7_readNumber_11 : decode cX7_readNumber 11 = .ok (.goto 4, 3) := qd_167 kq_cX7_readNumber (by decide +kernel)
theorem dX7_readNumber_14 : decode cX7_readNumber 14 = .ok (.iconst 0, 1) := qd_3 kq_cX7_readNumber (by decide +kernel)
theorem dX7_readNumber_15 : decode cX7_readNumber 15 = .ok (.istore_n 2, 1) := qd_61 kq_cX7_readNumber (by decide +kernel)
theorem dX7_readNumber_16 : decode cX7_readNumber 16 = .ok (.iload_n 2, 1) := qd_28 kq_cX7_readNumber (by decide +kernel)
theorem dX7_readNumber_17 : decode cX7_readNumber 17 = .ok (.ifCond .eq 9, 3) := qd_153 kq_cX7_readNumber (by decide +kernel)
theorem dX7_readNumber_20 : decode cX7_readNumber 20 = .ok (.iload_n 1, 1) := qd_27 kq_cX7_readNumber (by decide +kernel)
theorem dX7_readNumber_21 : decode cX7_readNumber 21 = .ok (.iconst 1, 1) := qd_4 kq_cX7_readNumber (by decide +kernel)
theorem dX7_readNumber_22 : decode cX7_readNumber 22 = .ok (.iadd, 1) := qd_96 kq_cX7_readNumber (by decide +kernel)
theorem dX7_readNumber_23 : decode cX7_readNumber 23 = .ok (.goto 4, 3) := qd_167 kq_cX7_readNumber (by decide +kernel)
theorem dX7_readNumber_26 : decode cX7_readNumber 26 = .ok (.iload_n 1, 1) := qd_27 kq_cX7_readNumber (by decide +kernel)
theorem dX7_readNumber_27 : decode cX7_readNumber 27 = .ok (.istore_n 3, 1) := qd_62 kq_cX7_readNumber (by decide +kernel)
theorem dX7_readNumber_28 : decode cX7_readNumber 28 = .ok (.aload_n 0, 1) := qd_42 kq_cX7_readNumber (by decide +kernel)
theorem dX7_readNumber_29 : decode cX7_readNumber 29 = .ok (.iload_n 3, 1) := qd_29 kq_cX7_readNumber (by decide +kernel)
theorem dX7_readNumber_30 : decode cX7_readNumber 30 = .ok (.invokevirtual 42, 3) := qd_182 kq_cX7_readNumber (by decide +kernel)
theorem dX7_readNumber_33 : decode cX7_readNumber 33 = .ok (.invokestatic 46, 3) := qd_184 kq_cX7_readNumber (by decide +kernel)
theorem dX7_readNumber_36 : decode cX7_readNumber 36 = .ok (.ifCond .ne 9, 3) := qd_154 kq_cX7_readNumber (by decide +kernel)
theorem dX7_readNumber_39 : decode cX7_readNumber 39 = .ok (.aload_n 0, 1) := qd_42 kq_cX7_readNumber (by decide +kernel)
theorem dX7_readNumber_40 : decode cX7_readNumber 40 = .ok (.iload_n 3, 1) := qd_29 kq_cX7_readNumber (by decide +kernel)
theorem dX7_readNumber_41 : decode cX7_readNumber 41 = .ok (.invokevirtual 94, 3) := qd_182 kq_cX7_readNumber (by decide +kernel)
theorem dX7_readNumber_44 : decode cX7_readNumber 44 = .ok (.ireturn, 1) := qd_172 kq_cX7_readNumber (by decide +kernel)
theorem dX7_readNumber_45 : decode cX7_readNumber 45 = .ok (.iload_n 3, 1) := qd_29 kq_cX7_readNumber (by decide +kernel)
theorem dX7_readNumber_46 : decode cX7_readNumber 46 = .ok (.iconst 1, 1) := qd_4 kq_cX7_readNumber (by decide +kernel)
theorem dX7_readNumber_47 : decode cX7_readNumber 47 = .ok (.iadd, 1) := qd_96 kq_cX7_readNumber (by decide +kernel)
theorem dX7_readNumber_48 : decode cX7_readNumber 48 = .ok (.istore 4, 2) := qd_54 kq_cX7_readNumber (by decide +kernel)
theorem dX7_readNumber_50 : decode cX7_readNumber 50 = .ok (.aload_n 0, 1) := qd_42 kq_cX7_readNumber (by decide +kernel)
theorem dX7_readNumber_51 : decode cX7_readNumber 51 = .ok (.iload_n 3, 1) := qd_29 kq_cX7_readNumber (by decide +kernel)
theorem dX7_readNumber_52 : decode cX7_readNumber 52 = .ok (.invokevirtual 42, 3) := qd_182 kq_cX7_readNumber (by decide +kernel)
theorem dX7_readNumber_55 : decode cX7_readNumber 55 = .ok (.bipush 48, 2) := qd_16 kq_cX7_readNumber (by decide +kernel)
theorem dX7_readNumber_57 : decode cX7_readNumber 57 = .ok (.if_icmp .eq 30, 3) := qd_159 kq_cX7_readNumber (by decide +kernel)
theorem dX7_readNumber_60 : decode cX7_readNumber 60 = .ok (.iload 4, 2) := qd_21 kq_cX7_readNumber (by decide +kernel)
theorem dX7_readNumber_62 : decode cX7_readNumber 62 = .ok (.aload_n 0, 1) := qd_42 kq_cX7_readNumber (by decide +kernel)
theorem dX7_readNumber_63 : decode cX7_readNumber 63 = .ok (.getfield 35, 3) := qd_180 kq_cX7_readNumber (by decide +kernel)
theorem dX7_readNumber_66 : decode cX7_readNumber 66 = .ok (.if_icmp .ge 21, 3) := qd_162 kq_cX7_readNumber (by decide +kernel)
theorem dX7_readNumber_69 : decode cX7_readNumber 69 = .ok (.aload_n 0, 1) := qd_42 kq_cX7_readNumber (by decide +kernel)
theorem dX7_readNumber_70 : decode cX7_readNumber 70 = .ok (.iload 4, 2) := qd_21 kq_cX7_readNumber (by decide +kernel)
theorem dX7_readNumber_72 : decode cX7_readNumber 72 = .ok (.invokevirtual 42, 3) := qd_182 kq_cX7_readNumber (by decide +kernel)
theorem dX7_readNumber_75 : decode cX7_readNumber 75 = .ok (.invokestatic 46, 3) := qd_184 kq_cX7_readNumber (by decide +kernel)
theorem dX7_readNumber_78 : decode cX7_readNumber 78 = .ok (.ifCond .eq 9, 3) := qd_153 kq_cX7_readNumber (by decide +kernel)
theorem dX7_readNumber_81 : decode cX7_readNumber 81 = .ok (.iinc 4 1, 3) := qd_132 kq_cX7_readNumber (by decide +kernel)
theorem dX7_readNumber_84 : decode cX7_readNumber 84 = .ok (.goto (-24), 3) := qd_167 kq_cX7_readNumber (by decide +kernel)
theorem dX7_readNumber_87 : decode cX7_readNumber 87 = .ok (.aload_n 0, 1) := qd_42 kq_cX7_readNumber (by decide +kernel)
theorem dX7_readNumber_88 : decode cX7_readNumber 88 = .ok (.iload_n 3, 1) := qd_29 kq_cX7_readNumber (by decide +kernel)
theorem dX7_readNumber_89 : decode cX7_readNumber 89 = .ok (.iload 4, 2) := qd_21 kq_cX7_readNumber (by decide +kernel)
theorem dX7_readNumber_91 : decode cX7_readNumber 91 = .ok (.iload_n 2, 1) := qd_28 kq_cX7_readNumber (by decide +kernel)
theorem dX7_readNumber_92 : decode cX7_readNumber 92 = .ok (.invokevirtual 150, 3) := qd_182 kq_cX7_readNumber (by decide +kernel)
theorem dX7_readNumber_95 : decode cX7_readNumber 95 = .ok (.ifCond .eq 8, 3) := qd_153 kq_cX7_readNumber (by decide +kernel)
theorem dX7_readNumber_98 : decode cX7_readNumber 98 = .ok (.iload 4, 2) := qd_21 kq_cX7_readNumber (by decide +kernel)
theorem dX7_readNumber_100 : decode cX7_readNumber 100 = .ok (.goto 8, 3) := qd_167 kq_cX7_readNumber (by decide +kernel)
theorem dX7_readNumber_103 : decode cX7_readNumber 103 = .ok (.aload_n 0, 1) := qd_42 kq_cX7_readNumber (by decide +kernel)
theorem dX7_readNumber_104 : decode cX7_readNumber 104 = .ok (.iload_n 1, 1) := qd_27 kq_cX7_readNumber (by decide +kernel)
theorem dX7_readNumber_105 : decode cX7_readNumber 105 = .ok (.invokevirtual 94, 3) := qd_182 kq_cX7_readNumber (by decide +kernel)
theorem dX7_readNumber_108 : decode cX7_readNumber 108 = .ok (.ireturn, 1) := qd_172 kq_cX7_readNumber (by decide +kernel)
def rmX7_readNumber (mc ms : Nat) : Room := { frames := 2, cells := mc, slots := ms, locals := 49 }
abbrev cX7_readWord : ByteArray := prog_10_method_35_code
def yX7_readWord : MethodName := ⟨RX7, "readWord", "(ILjava/lang/String;)I"⟩
def wsX7_readWord : List Cond := .code yX7_readWord cX7_readWord 4 (some .int) :: sr_G
def nq_cX7_readWord : Nat := 0xac603600b62c1bdeffa7010384ac5e00b6601d1b2a0b009f3e00b61d2c2a00b6601d1b2a2000a23600b62c1d3e03
theorem kq_cX7_readWord : qOk cX7_readWord nq_cX7_readWord 46 = true := by decide +kernel
theorem dX7_readWord_0 : decode cX7_readWord 0 = .ok (.iconst 0, 1) := qd_3 kq_cX7_readWord (by decide +kernel)
theorem dX7_readWord_1 : decode cX7_readWord 1 = .ok (.istore_n 3, 1) := qd_62 kq_cX7_readWord (by decide +kernel)
theorem dX7_readWord_2 : decode cX7_readWord 2 = .ok (.iload_n 3, 1) := qd_29 kq_cX7_readWord (by decide +kernel)
theorem dX7_readWord_3 : decode cX7_readWord 3 = .ok (.aload_n 2, 1) := qd_44 kq_cX7_readWord (by decide +kernel)
theorem dX7_readWord_4 : decode cX7_readWord 4 = .ok (.invokevirtual 54, 3) := qd_182 kq_cX7_readWord (by decide +kernel)
theorem dX7_readWord_7 : decode cX7_readWord 7 = .ok (.if_icmp .ge 32, 3) := qd_162 kq_cX7_readWord (by decide +kernel)
theorem dX7_readWord_10 : decode cX7_readWord 10 = .ok (.aload_n 0, 1) := qd_42 kq_cX7_readWord (by decide +kernel)
theorem dX7_readWord_11 : decode cX7_readWord 11 = .ok (.iload_n 1, 1) := qd_27 kq_cX7_readWord (by decide +kernel)
theorem dX7_readWord_12 : decode cX7_readWord 12 = .ok (.iload_n 3, 1) := qd_29 kq_cX7_readWord (by decide +kernel)
theorem dX7_readWord_13 : decode cX7_readWord 13 = .ok (.iadd, 1) := qd_96 kq_cX7_readWord (by decide +kernel)
theorem dX7_readWord_14 : decode cX7_readWord 14 = .ok (.invokevirtual 42, 3) := qd_182 kq_cX7_readWord (by decide +kernel)
theorem dX7_readWord_17 : decode cX7_readWord 17 = .ok (.aload_n 2, 1) := qd_44 kq_cX7_readWord (by decide +kernel)
theorem dX7_readWord_18 : decode cX7_readWord 18 = .ok (.iload_n 3, 1) := qd_29 kq_cX7_readWord (by decide +kernel)
theorem dX7_readWord_19 : decode cX7_readWord 19 = .ok (.invokevirtual 62, 3) := qd_182 kq_cX7_readWord (by decide +kernel)
theorem dX7_readWord_22 : decode cX7_readWord 22 = .ok (.if_icmp .eq 11, 3) := qd_159 kq_cX7_readWord (by decide +kernel)
theorem dX7_readWord_25 : decode cX7_readWord 25 = .ok (.aload_n 0, 1) := qd_42 kq_cX7_readWord (by decide +kernel)
theorem dX7_readWord_26 : decode cX7_readWord 26 = .ok (.iload_n 1, 1) := qd_27 kq_cX7_readWord (by decide +kernel)
theorem dX7_readWord_27 : decode cX7_readWord 27 = .ok (.iload_n 3, 1) := qd_29 kq_cX7_readWord (by decide +kernel)
theorem dX7_readWord_28 : decode cX7_readWord 28 = .ok (.iadd, 1) := qd_96 kq_cX7_readWord (by decide +kernel)
theorem dX7_readWord_29 : decode cX7_readWord 29 = .ok (.invokevirtual 94, 3) := qd_182 kq_cX7_readWord (by decide +kernel)
theorem dX7_readWord_32 : decode cX7_readWord 32 = .ok (.ireturn, 1) := qd_172 kq_cX7_readWord (by decide +kernel)
theorem dX7_readWord_33 : decode cX7_readWord 33 = .ok (.iinc 3 1, 3) := qd_132 kq_cX7_readWord (by decide +kernel)
theorem dX7_readWord_36 : decode cX7_readWord 36 = .ok (.goto (-34), 3) := qd_167 kq_cX7_readWord (by decide +kernel)
theorem dX7_readWord_39 : decode cX7_readWord 39 = .ok (.iload_n 1, 1) := qd_27 kq_cX7_readWord (by decide +kernel)
theorem dX7_readWord_40 : decode cX7_readWord 40 = .ok (.aload_n 2, 1) := qd_44 kq_cX7_readWord (by decide +kernel)
theorem dX7_readWord_41 : decode cX7_readWord 41 = .ok (.invokevirtual 54, 3) := qd_182 kq_cX7_readWord (by decide +kernel)
theorem dX7_readWord_44 : decode cX7_readWord 44 = .ok (.iadd, 1) := qd_96 kq_cX7_readWord (by decide +kernel)
theorem dX7_readWord_45 : decode cX7_readWord 45 = .ok (.ireturn, 1) := qd_172 kq_cX7_readWord (by decide +kernel)
def rmX7_readWord (mc ms : Nat) : Room := { frames := 4, cells := mc, slots := ms, locals := 85 }
abbrev cX7_readString : ByteArray := prog_10_method_29_code
def yX7_readString : MethodName := ⟨RX7, "readString", "(I)I"⟩
def wsX7_readString : List Cond := .code yX7_readString cX7_readString 5 (some .int) :: sr_G
def nq_cX7_readString : Nat := 0xac5e00b62300b42a2a90ffa70103840102848f00b60415601c1b2a3e60040400a7080700a075102a00b660041d2a1dac020500a002041504368c00b61d2a2600a05c100415ac5e00b61d2a0900a47e1004150a00a120100415ac60041d7d00b81c1b1900b42a1000a02210041504362a00b61d2a6e00a22300b42a1d3e60041b3d03
theorem kq_cX7_readString : qOk cX7_readString nq_cX7_readString 130 = true := by decide +kernel
theorem dX7_readString_0 : decode cX7_readString 0 = .ok (.iconst 0, 1) := qd_3 kq_cX7_readString (by decide +kernel)
theorem dX7_readString_1 : decode cX7_readString 1 = .ok (.istore_n 2, 1) := qd_61 kq_cX7_readString (by decide +kernel)
theorem dX7_readString_2 : decode cX7_readString 2 = .ok (.iload_n 1, 1) := qd_27 kq_cX7_readString (by decide +kernel)
theorem dX7_readString_3 : decode cX7_readString 3 = .ok (.iconst 1, 1) := qd_4 kq_cX7_readString (by decide +kernel)
theorem dX7_readString_4 : decode cX7_readString 4 = .ok (.iadd, 1) := qd_96 kq_cX7_readString (by decide +kernel)
theorem dX7_readString_5 : decode cX7_readString 5 = .ok (.istore_n 3, 1) := qd_62 kq_cX7_readString (by decide +kernel)
theorem dX7_readString_6 : decode cX7_readString 6 = .ok (.iload_n 3, 1) := qd_29 kq_cX7_readString (by decide +kernel)
theorem dX7_readString_7 : decode cX7_readString 7 = .ok (.aload_n 0, 1) := qd_42 kq_cX7_readString (by decide +kernel)
theorem dX7_readString_8 : decode cX7_readString 8 = .ok (.getfield 35, 3) := qd_180 kq_cX7_readString (by decide +kernel)
theorem dX7_readString_11 : decode cX7_readString 11 = .ok (.if_icmp .ge 110, 3) := qd_162 kq_cX7_readString (by decide +kernel)
theorem dX7_readString_14 : decode cX7_readString 14 = .ok (.aload_n 0, 1) := qd_42 kq_cX7_readString (by decide +kernel)
theorem dX7_readString_15 : decode cX7_readString 15 = .ok (.iload_n 3, 1) := qd_29 kq_cX7_readString (by decide +kernel)
theorem dX7_readString_16 : decode cX7_readString 16 = .ok (.invokevirtual 42, 3) := qd_182 kq_cX7_readString (by decide +kernel)
theorem dX7_readString_19 : decode cX7_readString 19 = .ok (.istore 4, 2) := qd_54 kq_cX7_readString (by decide +kernel)
theorem dX7_readString_21 : decode cX7_readString 21 = .ok (.iload 4, 2) := qd_21 kq_cX7_readString (by decide +kernel)
theorem dX7_readString_23 : decode cX7_readString 23 = .ok (.bipush 34, 2) := qd_16 kq_cX7_readString (by decide +kernel)
theorem dX7_readString_25 : decode cX7_readString 25 = .ok (.if_icmp .ne 16, 3) := qd_160 kq_cX7_readString (by decide +kernel)
theorem dX7_readString_28 : decode cX7_readString 28 = .ok (.aload_n 0, 1) := qd_42 kq_cX7_readString (by decide +kernel)
theorem dX7_readString_29 : decode cX7_readString 29 = .ok (.getfield 25, 3) := qd_180 kq_cX7_readString (by decide +kernel)
theorem dX7_readString_32 : decode cX7_readString 32 = .ok (.iload_n 1, 1) := qd_27 kq_cX7_readString (by decide +kernel)
theorem dX7_readString_33 : decode cX7_readString 33 = .ok (.iload_n 2, 1) := qd_28 kq_cX7_readString (by decide +kernel)
theorem dX7_readString_34 : decode cX7_readString 34 = .ok (.invokestatic 125, 3) := qd_184 kq_cX7_readString (by decide +kernel)
theorem dX7_readString_37 : decode cX7_readString 37 = .ok (.iload_n 3, 1) := qd_29 kq_cX7_readString (by decide +kernel)
theorem dX7_readString_38 : decode cX7_readString 38 = .ok (.iconst 1, 1) := qd_4 kq_cX7_readString (by decide +kernel)
theorem dX7_readString_39 : decode cX7_readString 39 = .ok (.iadd, 1) := qd_96 kq_cX7_readString (by decide +kernel)
theorem dX7_readString_40 : decode cX7_readString 40 = .ok (.ireturn, 1) := qd_172 kq_cX7_readString (by decide +kernel)
theorem dX7_readString_41 : decode cX7_readString 41 = .ok (.iload 4, 2) := qd_21 kq_cX7_readString (by decide +kernel)
theorem dX7_readString_43 : decode cX7_readString 43 = .ok (.bipush 32, 2) := qd_16 kq_cX7_readString (by decide +kernel)
theorem dX7_readString_45 : decode cX7_readString 45 = .ok (.if_icmp .lt 10, 3) := qd_161 kq_cX7_readString (by decide +kernel)
theorem dX7_readString_48 : decode cX7_readString 48 = .ok (.iload 4, 2) := qd_21 kq_cX7_readString (by decide +kernel)
theorem dX7_readString_50 : decode cX7_readString 50 = .ok (.bipush 126, 2) := qd_16 kq_cX7_readString (by decide +kernel)
theorem dX7_readString_52 : decode cX7_readString 52 = .ok (.if_icmp .le 9, 3) := qd_164 kq_cX7_readString (by decide +kernel)
theorem dX7_readString_55 : decode cX7_readString 55 = .ok (.aload_n 0, 1) := qd_42 kq_cX7_readString (by decide +kernel)
theorem dX7_readString_56 : decode cX7_readString 56 = .ok (.iload_n 3, 1) := qd_29 kq_cX7_readString (by decide +kernel)
theorem dX7_readString_57 : decode cX7_readString 57 = .ok (.invokevirtual 94, 3) := qd_182 kq_cX7_readString (by decide +kernel)
theorem dX7_readString_60 : decode cX7_readString 60 = .ok (.ireturn, 1) := qd_172 kq_cX7_readString (by decide +kernel)
theorem dX7_readString_61 : decode cX7_readString 61 = .ok (.iload 4, 2) := qd_21 kq_cX7_readString (by decide +kernel)
theorem dX7_readString_63 : decode cX7_readString 63 = .ok (.bipush 92, 2) := qd_16 kq_cX7_readString (by decide +kernel)
theorem dX7_readString_65 : decode cX7_readString 65 = .ok (.if_icmp .ne 38, 3) := qd_160 kq_cX7_readString (by decide +kernel)
theorem dX7_readString_68 : decode cX7_readString 68 = .ok (.aload_n 0, 1) := qd_42 kq_cX7_readString (by decide +kernel)
theorem dX7_readString_69 : decode cX7_readString 69 = .ok (.iload_n 3, 1) := qd_29 kq_cX7_readString (by decide +kernel)
theorem dX7_readString_70 : decode cX7_readString 70 = .ok (.invokevirtual 140, 3) := qd_182 kq_cX7_readString (by decide +kernel)
theorem dX7_readString_73 : decode cX7_readString 73 = .ok (.istore 4, 2) := qd_54 kq_cX7_readString (by decide +kernel)
theorem dX7_readString_75 : decode cX7_readString 75 = .ok (.iload 4, 2) := qd_21 kq_cX7_readString (by decide +kernel)
theorem dX7_readString_77 : decode cX7_readString 77 = .ok (.iconst (-1), 1) := qd_2 kq_cX7_readString (by decide +kernel)
theorem dX7_readString_78 : decode cX7_readString 78 = .ok (.if_icmp .ne 5, 3) := qd_160 kq_cX7_readString (by decide +kernel)
theorem dX7_readString_81 : decode cX7_readString 81 = .ok (.iconst (-1), 1) := qd_2 kq_cX7_readString (by decide +kernel)
theorem dX7_readString_82 : decode cX7_readString 82 = .ok (.ireturn, 1) := qd_172 kq_cX7_readString (by decide +kernel)
theorem dX7_readString_83 : decode cX7_readString 83 = .ok (.iload_n 3, 1) := qd_29 kq_cX7_readString (by decide +kernel)
theorem dX7_readString_84 : decode cX7_readString 84 = .ok (.aload_n 0, 1) := qd_42 kq_cX7_readString (by decide +kernel)
theorem dX7_readString_85 : decode cX7_readString 85 = .ok (.iload_n 3, 1) := qd_29 kq_cX7_readString (by decide +kernel)
theorem dX7_readString_86 : decode cX7_readString 86 = .ok (.iconst 1, 1) := qd_4 kq_cX7_readString (by decide +kernel)
theorem dX7_readString_87 : decode cX7_readString 87 = .ok (.iadd, 1) := qd_96 kq_cX7_readString (by decide +kernel)
theorem dX7_readString_88 : decode cX7_readString 88 = .ok (.invokevirtual 42, 3) := qd_182 kq_cX7_readString (by decide +kernel)
theorem dX7_readString_91 : decode cX7_readString 91 = .ok (.bipush 117, 2) := qd_16 kq_cX7_readString (by decide +kernel)
theorem dX7_readString_93 : decode cX7_readString 93 = .ok (.if_icmp .ne 7, 3) := qd_160 kq_cX7_readString (by decide +kernel)
theorem dX7_readString_96 : decode cX7_readString 96 = .ok (.iconst 5, 1) := qd_8 kq_cX7_readString (by decide +kernel)
theorem dX7_readString_97 : decode cX7_readString 97 = .ok (.goto 4, 3) := qd_167 kq_cX7_readString (by decide +kernel)
theorem dX7_readString_100 : decode cX7_readString 100 = .ok (.iconst 1, 1) := qd_4 kq_cX7_readString (by decide +kernel)
theorem dX7_readString_101 : decode cX7_readString 101 = .ok (.iadd, 1) := qd_96 kq_cX7_readString (by decide +kernel)
theorem dX7_readString_102 : decode cX7_readString 102 = .ok (.istore_n 3, 1) := qd_62 kq_cX7_readString (by decide +kernel)
theorem dX7_readString_103 : decode cX7_readString 103 = .ok (.aload_n 0, 1) := qd_42 kq_cX7_readString (by decide +kernel)
theorem dX7_readString_104 : decode cX7_readString 104 = .ok (.iload_n 1, 1) := qd_27 kq_cX7_readString (by decide +kernel)
theorem dX7_readString_105 : decode cX7_readString 105 = .ok (.iload_n 2, 1) := qd_28 kq_cX7_readString (by decide +kernel)
theorem dX7_readString_106 : decode cX7_readString 106 = .ok (.iadd, 1) := qd_96 kq_cX7_readString (by decide +kernel)
theorem dX7_readString_107 : decode cX7_readString 107 = .ok (.iload 4, 2) := qd_21 kq_cX7_readString (by decide +kernel)
theorem dX7_readString_109 : decode cX7_readString 109 = .ok (.invokevirtual 143, 3) := qd_182 kq_cX7_readString (by decide +kernel)
theorem dX7_readString_112 : decode cX7_readString 112 = .ok (.iinc 2 1, 3) := qd_132 kq_cX7_readString (by decide +kernel)
theorem dX7_readString_115 : decode cX7_readString 115 = .ok (.iinc 3 1, 3) := qd_132 kq_cX7_readString (by decide +kernel)
theorem dX7_readString_118 : decode cX7_readString 118 = .ok (.goto (-112), 3) := qd_167 kq_cX7_readString (by decide +kernel)
theorem dX7_readString_121 : decode cX7_readString 121 = .ok (.aload_n 0, 1) := qd_42 kq_cX7_readString (by decide +kernel)
theorem dX7_readString_122 : decode cX7_readString 122 = .ok (.aload_n 0, 1) := qd_42 kq_cX7_readString (by decide +kernel)
theorem dX7_readString_123 : decode cX7_readString 123 = .ok (.getfield 35, 3) := qd_180 kq_cX7_readString (by decide +kernel)
theorem dX7_readString_126 : decode cX7_readString 126 = .ok (.invokevirtual 94, 3) := qd_182 kq_cX7_readString (by decide +kernel)
theorem dX7_readString_129 : decode cX7_readString 129 = .ok (.ireturn, 1) := qd_172 kq_cX7_readString (by decide +kernel)
def rmX7_readString (mc ms : Nat) : Room := { frames := 2, cells := mc, slots := ms, locals := 46 }
abbrev cX7_readKey : ByteArray := prog_10_method_28_code
def yX7_readKey : MethodName := ⟨RX7, "readKey", "(II)I"⟩
def wsX7_readKey : List Cond := .code yX7_readKey cX7_readKey 6 (some .int) :: sr_G
def nq_cX7_readKey : Nat := 0xac05157d00b805151c1200b42a05365700b6600404152aac5e00b604152a0a009f3a102a00b604152a04365700b61d2aac5e00b61c2a09009a8800b61c1b2a1f00b42aac020500a0021d3e6700b61c2aac5e00b61c2a09009a4400b61c2a
theorem kq_cX7_readKey : qOk cX7_readKey nq_cX7_readKey 94 = true := by decide +kernel
theorem dX7_readKey_0 : decode cX7_readKey 0 = .ok (.aload_n 0, 1) := qd_42 kq_cX7_readKey (by decide +kernel)
theorem dX7_readKey_1 : decode cX7_readKey 1 = .ok (.iload_n 2, 1) := qd_28 kq_cX7_readKey (by decide +kernel)
theorem dX7_readKey_2 : decode cX7_readKey 2 = .ok (.invokevirtual 68, 3) := qd_182 kq_cX7_readKey (by decide +kernel)
theorem dX7_readKey_5 : decode cX7_readKey 5 = .ok (.ifCond .ne 9, 3) := qd_154 kq_cX7_readKey (by decide +kernel)
theorem dX7_readKey_8 : decode cX7_readKey 8 = .ok (.aload_n 0, 1) := qd_42 kq_cX7_readKey (by decide +kernel)
theorem dX7_readKey_9 : decode cX7_readKey 9 = .ok (.iload_n 2, 1) := qd_28 kq_cX7_readKey (by decide +kernel)
theorem dX7_readKey_10 : decode cX7_readKey 10 = .ok (.invokevirtual 94, 3) := qd_182 kq_cX7_readKey (by decide +kernel)
theorem dX7_readKey_13 : decode cX7_readKey 13 = .ok (.ireturn, 1) := qd_172 kq_cX7_readKey (by decide +kernel)
theorem dX7_readKey_14 : decode cX7_readKey 14 = .ok (.aload_n 0, 1) := qd_42 kq_cX7_readKey (by decide +kernel)
theorem dX7_readKey_15 : decode cX7_readKey 15 = .ok (.iload_n 2, 1) := qd_28 kq_cX7_readKey (by decide +kernel)
theorem dX7_readKey_16 : decode cX7_readKey 16 = .ok (.invokevirtual 103, 3) := qd_182 kq_cX7_readKey (by decide +kernel)
theorem dX7_readKey_19 : decode cX7_readKey 19 = .ok (.istore_n 3, 1) := qd_62 kq_cX7_readKey (by decide +kernel)
theorem dX7_readKey_20 : decode cX7_readKey 20 = .ok (.iload_n 3, 1) := qd_29 kq_cX7_readKey (by decide +kernel)
theorem dX7_readKey_21 : decode cX7_readKey 21 = .ok (.iconst (-1), 1) := qd_2 kq_cX7_readKey (by decide +kernel)
theorem dX7_readKey_22 : decode cX7_readKey 22 = .ok (.if_icmp .ne 5, 3) := qd_160 kq_cX7_readKey (by decide +kernel)
theorem dX7_readKey_25 : decode cX7_readKey 25 = .ok (.iconst (-1), 1) := qd_2 kq_cX7_readKey (by decide +kernel)
theorem dX7_readKey_26 : decode cX7_readKey 26 = .ok (.ireturn, 1) := qd_172 kq_cX7_readKey (by decide +kernel)
theorem dX7_readKey_27 : decode cX7_readKey 27 = .ok (.aload_n 0, 1) := qd_42 kq_cX7_readKey (by decide +kernel)
theorem dX7_readKey_28 : decode cX7_readKey 28 = .ok (.getfield 31, 3) := qd_180 kq_cX7_readKey (by decide +kernel)
theorem dX7_readKey_31 : decode cX7_readKey 31 = .ok (.aload_n 0, 1) := qd_42 kq_cX7_readKey (by decide +kernel)
theorem dX7_readKey_32 : decode cX7_readKey 32 = .ok (.iload_n 1, 1) := qd_27 kq_cX7_readKey (by decide +kernel)
theorem dX7_readKey_33 : decode cX7_readKey 33 = .ok (.iload_n 2, 1) := qd_28 kq_cX7_readKey (by decide +kernel)
theorem dX7_readKey_34 : decode cX7_readKey 34 = .ok (.invokevirtual 136, 3) := qd_182 kq_cX7_readKey (by decide +kernel)
theorem dX7_readKey_37 : decode cX7_readKey 37 = .ok (.ifCond .ne 9, 3) := qd_154 kq_cX7_readKey (by decide +kernel)
theorem dX7_readKey_40 : decode cX7_readKey 40 = .ok (.aload_n 0, 1) := qd_42 kq_cX7_readKey (by decide +kernel)
theorem dX7_readKey_41 : decode cX7_readKey 41 = .ok (.iload_n 2, 1) := qd_28 kq_cX7_readKey (by decide +kernel)
theorem dX7_readKey_42 : decode cX7_readKey 42 = .ok (.invokevirtual 94, 3) := qd_182 kq_cX7_readKey (by decide +kernel)
theorem dX7_readKey_45 : decode cX7_readKey 45 = .ok (.ireturn, 1) := qd_172 kq_cX7_readKey (by decide +kernel)
theorem dX7_readKey_46 : decode cX7_readKey 46 = .ok (.aload_n 0, 1) := qd_42 kq_cX7_readKey (by decide +kernel)
theorem dX7_readKey_47 : decode cX7_readKey 47 = .ok (.iload_n 3, 1) := qd_29 kq_cX7_readKey (by decide +kernel)
theorem dX7_readKey_48 : decode cX7_readKey 48 = .ok (.invokevirtual 87, 3) := qd_182 kq_cX7_readKey (by decide +kernel)
theorem dX7_readKey_51 : decode cX7_readKey 51 = .ok (.istore 4, 2) := qd_54 kq_cX7_readKey (by decide +kernel)
theorem dX7_readKey_53 : decode cX7_readKey 53 = .ok (.aload_n 0, 1) := qd_42 kq_cX7_readKey (by decide +kernel)
theorem dX7_readKey_54 : decode cX7_readKey 54 = .ok (.iload 4, 2) := qd_21 kq_cX7_readKey (by decide +kernel)
theorem dX7_readKey_56 : decode cX7_readKey 56 = .ok (.invokevirtual 42, 3) := qd_182 kq_cX7_readKey (by decide +kernel)
theorem dX7_readKey_59 : decode cX7_readKey 59 = .ok (.bipush 58, 2) := qd_16 kq_cX7_readKey (by decide +kernel)
theorem dX7_readKey_61 : decode cX7_readKey 61 = .ok (.if_icmp .eq 10, 3) := qd_159 kq_cX7_readKey (by decide +kernel)
theorem dX7_readKey_64 : decode cX7_readKey 64 = .ok (.aload_n 0, 1) := qd_42 kq_cX7_readKey (by decide +kernel)
theorem dX7_readKey_65 : decode cX7_readKey 65 = .ok (.iload 4, 2) := qd_21 kq_cX7_readKey (by decide +kernel)
theorem dX7_readKey_67 : decode cX7_readKey 67 = .ok (.invokevirtual 94, 3) := qd_182 kq_cX7_readKey (by decide +kernel)
theorem dX7_readKey_70 : decode cX7_readKey 70 = .ok (.ireturn, 1) := qd_172 kq_cX7_readKey (by decide +kernel)
theorem dX7_readKey_71 : decode cX7_readKey 71 = .ok (.aload_n 0, 1) := qd_42 kq_cX7_readKey (by decide +kernel)
theorem dX7_readKey_72 : decode cX7_readKey 72 = .ok (.iload 4, 2) := qd_21 kq_cX7_readKey (by decide +kernel)
theorem dX7_readKey_74 : decode cX7_readKey 74 = .ok (.iconst 1, 1) := qd_4 kq_cX7_readKey (by decide +kernel)
theorem dX7_readKey_75 : decode cX7_readKey 75 = .ok (.iadd, 1) := qd_96 kq_cX7_readKey (by decide +kernel)
theorem dX7_readKey_76 : decode cX7_readKey 76 = .ok (.invokevirtual 87, 3) := qd_182 kq_cX7_readKey (by decide +kernel)
theorem dX7_readKey_79 : decode cX7_readKey 79 = .ok (.istore 5, 2) := qd_54 kq_cX7_readKey (by decide +kernel)
theorem dX7_readKey_81 : decode cX7_readKey 81 = .ok (.aload_n 0, 1) := qd_42 kq_cX7_readKey (by decide +kernel)
theorem dX7_readKey_82 : decode cX7_readKey 82 = .ok (.getfield 18, 3) := qd_180 kq_cX7_readKey (by decide +kernel)
theorem dX7_readKey_85 : decode cX7_readKey 85 = .ok (.iload_n 2, 1) := qd_28 kq_cX7_readKey (by decide +kernel)
theorem dX7_readKey_86 : decode cX7_readKey 86 = .ok (.iload 5, 2) := qd_21 kq_cX7_readKey (by decide +kernel)
theorem dX7_readKey_88 : decode cX7_readKey 88 = .ok (.invokestatic 125, 3) := qd_184 kq_cX7_readKey (by decide +kernel)
theorem dX7_readKey_91 : decode cX7_readKey 91 = .ok (.iload 5, 2) := qd_21 kq_cX7_readKey (by decide +kernel)
theorem dX7_readKey_93 : decode cX7_readKey 93 = .ok (.ireturn, 1) := qd_172 kq_cX7_readKey (by decide +kernel)
def rmX7_readKey (mc ms : Nat) : Room := { frames := 3, cells := mc, slots := ms, locals := 71 }
theorem g2_28 (c0 : Cond) : GoodIn (c0 :: sr_G) (va_wsS RX2 28 yX24_fill wsX24_fill) := sr_S c0 (sr_insI [(1, 228), (1, 229), (1, 14), (1, 230)] (by decide +kernel))
theorem g2_34 (c0 : Cond) : GoodIn (c0 :: sr_G) (wsV RX2 34 RX7 yX7_hash wsX7_hash) := sr_V c0 (sr_insI [(2, 48), (2, 49), (2, 50), (1, 2), (2, 51)] (by decide +kernel))
theorem g2_40 (c0 : Cond) : GoodIn (c0 :: sr_G) (wsV RX2 40 RX7 yX7_saysSame wsX7_saysSame) := sr_V c0 (sr_insI [(2, 59), (2, 60), (2, 61), (1, 2), (2, 62)] (by decide +kernel))
theorem g7_94 (c0 : Cond) : GoodIn (c0 :: sr_G) (wsV RX7 94 RX7 yX7_refuse wsX7_refuse) := sr_V c0 (sr_insI [(2, 10), (2, 12), (0, 3), (1, 2), (2, 13)] (by decide +kernel))
theorem g7_147 (c0 : Cond) : GoodIn (c0 :: sr_G) (va_wsS RX7 147 yX7_hexDigit wsX7_hexDigit) := sr_S c0 (sr_insI [(2, 37), (2, 38), (1, 2), (2, 39)] (by decide +kernel))
theorem g7_150 (c0 : Cond) : GoodIn (c0 :: sr_G) (wsV RX7 150 RX7 yX7_isWithinLong wsX7_isWithinLong) := sr_V c0 (sr_insI [(2, 133), (2, 135), (0, 11), (1, 2), (2, 136)] (by decide +kernel))
theorem g7_143 (c0 : Cond) : GoodIn (c0 :: sr_G) (wsV RX7 143 RX7 yX7_say wsX7_say) := sr_V c0 (sr_insI [(2, 40), (2, 42), (0, 7), (1, 2), (2, 43)] (by decide +kernel))
theorem g7_140 (c0 : Cond) : GoodIn (c0 :: sr_G) (wsV RX7 140 RX7 yX7_readEscape wsX7_readEscape) := sr_V c0 (sr_insI [(2, 33), (2, 35), (0, 6), (1, 2), (2, 36)] (by decide +kernel))
theorem g7_103 (c0 : Cond) : GoodIn (c0 :: sr_G) (wsV RX7 103 RX7 yX7_readString wsX7_readString) := sr_V c0 (sr_insI [(2, 29), (2, 31), (0, 5), (1, 2), (2, 32)] (by decide +kernel))
theorem g7_136 (c0 : Cond) : GoodIn (c0 :: sr_G) (wsV RX7 136 RX2 yX2_add wsX2_add) := sr_V c0 (sr_insI [(2, 44), (2, 45), (2, 46), (1, 3), (2, 47)] (by decide +kernel))
theorem g7_87 (c0 : Cond) : GoodIn (c0 :: sr_G) (wsV RX7 87 RX7 yX7_behindBlanks wsX7_behindBlanks) := sr_V c0 (sr_insI [(1, 231), (1, 233), (0, 0), (1, 2), (1, 234)] (by decide +kernel))
theorem gn7_125 : (∀ w ∈ ([.static yX8_enter, .initialized yX8_enter.cls, .code yX8_enter cX8_enter 3 none] : List Cond), w ∈ sr_G) ∧ (.methodLinkNest RX7 125 yX8_enter "SchemaReader" : Cond) ∈ sr_N := ⟨sr_ins (by decide +kernel), List.mem_filter.mpr ⟨in_tables_1_2 _ (List.mem_of_getElem? (i := 18) rfl), rfl⟩⟩
end
section
set_option maxHeartbeats 4000000 in
set_option maxRecDepth 100000 in
theorem kX2_clear (l : Launch) (htr : l.stackTraces = false) (dC : Nat → ClassId) (dI : Nat → Nat → Nat) (adK adV : Nat → Nat) (cI cB cJ cZ cQ : ClassId) (obK kq_heads kq_places kq_owners kq_nexts : Nat) (k_count : Int32) (k_heads : Nat → Int32) (sz : Nat) (res : (Nat → Int32) × Int32) (hm : m_X2_clear k_heads k_count = some res) : Met l yX2_clear wsX2_clear (rmX2_clear 0 0) (pcW (sr_Z adK adV) (dC, dI) srCl [(cI, .int), (cB, .byte), (cJ, .long), (cZ, .boolean), (cQ, .object "SchemaReader$Schema")] [.ref obK] [(obK, .inr (5, [.ref kq_heads, .ref kq_places, .ref kq_owners, .ref kq_nexts, .int k_count])), (kq_heads, .inl (cI, 256, .inl k_heads))] sz) (va_Qv (fun u' => u' = res) (pcB (dC, dI) srCl [(cI, .int), (cB, .byte), (cJ, .long), (cZ, .boolean), (cQ, .object "SchemaReader$Schema")] (fun u : (Nat → Int32) × Int32 => [(obK, .inr (5, [.ref kq_heads, .ref kq_places, .ref kq_owners, .ref kq_nexts, .int u.2])), (kq_heads, .inl (cI, 256, .inl u.1))]) (va_A [(obK, .inr (5, [.ref kq_heads, .ref kq_places, .ref kq_owners, .ref kq_nexts, .int k_count])), (kq_heads, .inl (cI, 256, .inl k_heads))] sz)) (va_A [(obK, .inr (5, [.ref kq_heads, .ref kq_places, .ref kq_owners, .ref kq_nexts, .int k_count])), (kq_heads, .inl (cI, 256, .inl k_heads))] sz)) 0 0 (va_A [(obK, .inr (5, [.ref kq_heads, .ref kq_places, .ref kq_owners, .ref kq_nexts, .int k_count])), (kq_heads, .inl (cI, 256, .inl k_heads))] sz) := by
  refine Met.ofW (cc := cX2_clear) (maxL := 1) (ret := none) (by decide) rfl ?_
  intro p e s m args below meth c s₁ B hml hv
  obtain ⟨rfl, hsz, hP, hK, hD0, hz0⟩ := hv
  have hx := B.exec
  have hb := B.bytes
  have hr := B.returns
  have hts := atoms_spec (ws := wsX2_clear) B.pre
  have hown : s.vm.findClass RX2 = some m.cls := findClass_of_methodNamed B.named
  have hlocks := B.notSynchronized
  subst hsz
  have hD := hD0.self (sz := s.heap.size)
  generalize hAe : va_A [(obK, .inr (5, [.ref kq_heads, .ref kq_places, .ref kq_owners, .ref kq_nexts, .int k_count])), (kq_heads, .inl (cI, 256, .inl k_heads))] s.heap.size = A at hD hz0 ⊢
  have hA : ∀ q : Nat, s.heap.size ≤ q → A q := fun q h => by rw [← hAe]; exact Or.inr h
  have hS : va_S A s.heap s.heap [] := va_S.rf
  generalize hQ0 : MQ below (va_Qv (fun u' => u' = res) (pcB (dC, dI) srCl [(cI, .int), (cB, .byte), (cJ, .long), (cZ, .boolean), (cQ, .object "SchemaReader$Schema")] (fun u : (Nat → Int32) × Int32 => [(obK, .inr (5, [.ref kq_heads, .ref kq_places, .ref kq_owners, .ref kq_nexts, .int u.2])), (kq_heads, .inl (cI, 256, .inl u.1))]) A) A) [.ref obK].toArray s 0 0 A = Q0
  have hl := lv_entry [.ref obK] (n := 1) (Nat.le_of_ble_eq_true rfl)
  rw [lg_entry_eq]
  generalize (lg_sl [.ref obK] ++ List.replicate (1 - (lg_sl [.ref obK]).length) Slot.unset).toArray = ls at hl ⊢
  have hl : lv_has ls 1 [(0, .ref obK)] := hl
  unfold m_X2_clear at hm
  refine lv_aload_n hx hb dX2_clear_0 rfl (lv_at hl 0 rfl) ?_
  refine va_get (D := (dC, dI)) (ci := 5) (v := .ref kq_heads) (C := RX2) (T := TX2) (N := 5) hx hb hts (inX2 _) hown hK hP 0 rfl rfl 0 (by decide) (hts _ (List.mem_cons_of_mem _ wf2_11)) (fun _ h9 => h9) rfl dX2_clear_1 ?_
  refine lv_iconst (v := -1) hx hb dX2_clear_4 (by decide) ?_
  obtain ⟨k_heads_1, hz1, hm⟩ := mr_bind hm
  try dsimp only at hm
  refine mr_wSv (As := [.ref kq_heads, .int (-1)]) (rest := []) (sr_okZ adK adV) ⟨hx, hb, hml, hown, hts⟩ (kX24_fill l htr dC dI adK adV cI cB cJ cZ cQ kq_heads k_heads _ 256 (-1) _ hz1) (va_cwS 2 hts (g2_28 _) rfl rfl rfl (by decide +kernel) ⟨(by show 0 + 1 ≤ 1; omega), (by show 8 + (4 + 11) + (0) ≤ 23; omega)⟩) hS hA hP hD hK hz0 (wr := [(obK, .inr (5, [.ref kq_heads, .ref kq_places, .ref kq_owners, .ref kq_nexts, .int k_count]))]) (w1 := [(obK, .inr (5, [.ref kq_heads, .ref kq_places, .ref kq_owners, .ref kq_nexts, .int k_count])), (kq_heads, .inl (cI, 256, .inl k_heads_1))]) [1] [0] [0, 1] rfl rfl rfl rfl rfl (by decide) rfl rfl rfl rfl rfl hl.1 (Nat.le_of_ble_eq_true rfl) dX2_clear_5 ⟨Nat.zero_le _, Nat.zero_le _⟩ (fun H locs hP hD hS => ?_)
  refine lv_aload_n hx hb dX2_clear_8 rfl (lv_at hl 0 rfl) ?_
  refine lv_iconst (v := 0) hx hb dX2_clear_9 (by decide) ?_
  refine va_put (D := (dC, dI)) (ci := 5) (v := .int 0) (ty := .int) (C := RX2) (T := TX2) (N := 5) hx hb hts (inX2 _) tyX2 tyX2_ok nmX2 hown hK hP hD hS 0 rfl rfl 4 (by decide) (hts _ (List.mem_cons_of_mem _ wf2_24)) (fun _ h9 => h9) rfl (by decide +kernel) rfl rfl (Nat.le_of_ble_eq_true rfl) dX2_clear_10 (fun H locs hP hD hS => ?_)
  have hP : va_P (dC, dI) srCl [(obK, .inr (5, [.ref kq_heads, .ref kq_places, .ref kq_owners, .ref kq_nexts, .int 0])), (kq_heads, .inl (cI, 256, .inl k_heads_1))] H := hP
  have hD : va_D A [(obK, .inr (5, [.ref kq_heads, .ref kq_places, .ref kq_owners, .ref kq_nexts, .int 0])), (kq_heads, .inl (cI, 256, .inl k_heads_1))] := hD
  obtain rfl := Option.some.inj hm
  subst hQ0
  exact W.vret hx hb hr (fun t ht hW => ⟨⟨(k_heads_1, 0), rfl, rfl, by rw [ht]; exact hP, va_K.moved hW.alike hK, hD⟩, hS.F ht⟩) hS.2.2 dX2_clear_13
set_option maxHeartbeats 4000000 in
set_option maxRecDepth 100000 in
theorem kX2_add (l : Launch) (htr : l.stackTraces = false) (dC : Nat → ClassId) (dI : Nat → Nat → Nat) (adK adV : Nat → Nat) (cI cB cJ cZ cQ : ClassId) (obK kq_heads kq_places kq_owners kq_nexts obT tq_tape tq_said tq_inner tq_next tq_amount : Nat) (k_count : Int32) (t_length : Int32) (t_wrongPlace : Int32) (k_heads : Nat → Int32) (k_places : Nat → Int32) (k_owners : Nat → Int32) (k_nexts : Nat → Int32) (t_said : Nat → Int32) (t_amount : Nat → Int32) (sz : Nat) (a1 : Int32) (a2 : Int32) (res : Int32 × (Nat → Int32) × (Nat → Int32) × (Nat → Int32) × (Nat → Int32) × Int32) (hm : m_X2_add k_heads k_places k_owners k_nexts k_count t_said t_amount a1 a2 = some res) : Met l yX2_add wsX2_add (rmX2_add 0 0) (pcW (sr_Z adK adV) (dC, dI) srCl [(cI, .int), (cB, .byte), (cJ, .long), (cZ, .boolean), (cQ, .object "SchemaReader$Schema")] [.ref obK, .ref obT, .int a1, .int a2] [(obK, .inr (5, [.ref kq_heads, .ref kq_places, .ref kq_owners, .ref kq_nexts, .int k_count])), (kq_heads, .inl (cI, 256, .inl k_heads)), (kq_places, .inl (cI, 1024, .inl k_places)), (kq_owners, .inl (cI, 1024, .inl k_owners)), (kq_nexts, .inl (cI, 1024, .inl k_nexts)), (obT, .inr (9, [.ref tq_tape, .ref tq_said, .ref tq_inner, .ref tq_next, .ref tq_amount, .ref obK, .int t_length, .int t_wrongPlace])), (tq_said, .inl (cB, 4096, .inl t_said)), (tq_amount, .inl (cI, 4096, .inl t_amount))] sz) (va_Qi (fun r' u' => r' = res.1 ∧ u' = res.2) (pcB (dC, dI) srCl [(cI, .int), (cB, .byte), (cJ, .long), (cZ, .boolean), (cQ, .object "SchemaReader$Schema")] (fun u : (Nat → Int32) × (Nat → Int32) × (Nat → Int32) × (Nat → Int32) × Int32 => [(obK, .inr (5, [.ref kq_heads, .ref kq_places, .ref kq_owners, .ref kq_nexts, .int u.2.2.2.2])), (kq_heads, .inl (cI, 256, .inl u.1)), (kq_places, .inl (cI, 1024, .inl u.2.1)), (kq_owners, .inl (cI, 1024, .inl u.2.2.1)), (kq_nexts, .inl (cI, 1024, .inl u.2.2.2.1)), (obT, .inr (9, [.ref tq_tape, .ref tq_said, .ref tq_inner, .ref tq_next, .ref tq_amount, .ref obK, .int t_length, .int t_wrongPlace])), (tq_said, .inl (cB, 4096, .inl t_said)), (tq_amount, .inl (cI, 4096, .inl t_amount))]) (va_A [(obK, .inr (5, [.ref kq_heads, .ref kq_places, .ref kq_owners, .ref kq_nexts, .int k_count])), (kq_heads, .inl (cI, 256, .inl k_heads)), (kq_places, .inl (cI, 1024, .inl k_places)), (kq_owners, .inl (cI, 1024, .inl k_owners)), (kq_nexts, .inl (cI, 1024, .inl k_nexts)), (obT, .inr (9, [.ref tq_tape, .ref tq_said, .ref tq_inner, .ref tq_next, .ref tq_amount, .ref obK, .int t_length, .int t_wrongPlace])), (tq_said, .inl (cB, 4096, .inl t_said)), (tq_amount, .inl (cI, 4096, .inl t_amount))] sz)) (va_A [(obK, .inr (5, [.ref kq_heads, .ref kq_places, .ref kq_owners, .ref kq_nexts, .int k_count])), (kq_heads, .inl (cI, 256, .inl k_heads)), (kq_places, .inl (cI, 1024, .inl k_places)), (kq_owners, .inl (cI, 1024, .inl k_owners)), (kq_nexts, .inl (cI, 1024, .inl k_nexts)), (obT, .inr (9, [.ref tq_tape, .ref tq_said, .ref tq_inner, .ref tq_next, .ref tq_amount, .ref obK, .int t_length, .int t_wrongPlace])), (tq_said, .inl (cB, 4096, .inl t_said)), (tq_amount, .inl (cI, 4096, .inl t_amount))] sz)) 0 0 (va_A [(obK, .inr (5, [.ref kq_heads, .ref kq_places, .ref kq_owners, .ref kq_nexts, .int k_count])), (kq_heads, .inl (cI, 256, .inl k_heads)), (kq_places, .inl (cI, 1024, .inl k_places)), (kq_owners, .inl (cI, 1024, .inl k_owners)), (kq_nexts, .inl (cI, 1024, .inl k_nexts)), (obT, .inr (9, [.ref tq_tape, .ref tq_said, .ref tq_inner, .ref tq_next, .ref tq_amount, .ref obK, .int t_length, .int t_wrongPlace])), (tq_said, .inl (cB, 4096, .inl t_said)), (tq_amount, .inl (cI, 4096, .inl t_amount))] sz) := by
  refine Met.ofW (cc := cX2_add) (maxL := 7) (ret := (some .boolean)) (by decide) rfl ?_
  intro p e s m args below meth c s₁ B hml hv
  obtain ⟨rfl, hsz, hP, hK, hD0, hz0⟩ := hv
  have hx := B.exec
  have hb := B.bytes
  have hr := B.returns
  have hts := atoms_spec (ws := wsX2_add) B.pre
  have hown : s.vm.findClass RX2 = some m.cls := findClass_of_methodNamed B.named
  have hlocks := B.notSynchronized
  subst hsz
  have hD := hD0.self (sz := s.heap.size)
  generalize hAe : va_A [(obK, .inr (5, [.ref kq_heads, .ref kq_places, .ref kq_owners, .ref kq_nexts, .int k_count])), (kq_heads, .inl (cI, 256, .inl k_heads)), (kq_places, .inl (cI, 1024, .inl k_places)), (kq_owners, .inl (cI, 1024, .inl k_owners)), (kq_nexts, .inl (cI, 1024, .inl k_nexts)), (obT, .inr (9, [.ref tq_tape, .ref tq_said, .ref tq_inner, .ref tq_next, .ref tq_amount, .ref obK, .int t_length, .int t_wrongPlace])), (tq_said, .inl (cB, 4096, .inl t_said)), (tq_amount, .inl (cI, 4096, .inl t_amount))] s.heap.size = A at hD hz0 ⊢
  have hA : ∀ q : Nat, s.heap.size ≤ q → A q := fun q h => by rw [← hAe]; exact Or.inr h
  have hS : va_S A s.heap s.heap [] := va_S.rf
  generalize hQ0 : MQ below (va_Qi (fun r' u' => r' = res.1 ∧ u' = res.2) (pcB (dC, dI) srCl [(cI, .int), (cB, .byte), (cJ, .long), (cZ, .boolean), (cQ, .object "SchemaReader$Schema")] (fun u : (Nat → Int32) × (Nat → Int32) × (Nat → Int32) × (Nat → Int32) × Int32 => [(obK, .inr (5, [.ref kq_heads, .ref kq_places, .ref kq_owners, .ref kq_nexts, .int u.2.2.2.2])), (kq_heads, .inl (cI, 256, .inl u.1)), (kq_places, .inl (cI, 1024, .inl u.2.1)), (kq_owners, .inl (cI, 1024, .inl u.2.2.1)), (kq_nexts, .inl (cI, 1024, .inl u.2.2.2.1)), (obT, .inr (9, [.ref tq_tape, .ref tq_said, .ref tq_inner, .ref tq_next, .ref tq_amount, .ref obK, .int t_length, .int t_wrongPlace])), (tq_said, .inl (cB, 4096, .inl t_said)), (tq_amount, .inl (cI, 4096, .inl t_amount))]) A) A) [.ref obK, .ref obT, .int a1, .int a2].toArray s 0 0 A = Q0
  have hl := lv_entry [.ref obK, .ref obT, .int a1, .int a2] (n := 7) (Nat.le_of_ble_eq_true rfl)
  rw [lg_entry_eq]
  generalize (lg_sl [.ref obK, .ref obT, .int a1, .int a2] ++ List.replicate (7 - (lg_sl [.ref obK, .ref obT, .int a1, .int a2]).length) Slot.unset).toArray = ls at hl ⊢
  have hl : lv_has ls 7 [(0, .ref obK), (1, .ref obT), (2, .int a1), (3, .int a2)] := hl
  unfold m_X2_add at hm
  refine lv_aload_n hx hb dX2_add_0 rfl (lv_at hl 1 rfl) ?_
  refine lv_iload_n hx hb dX2_add_1 rfl (lv_at hl 3 rfl) ?_
  obtain ⟨r1, hz1, hm⟩ := mr_bind hm
  refine mr_pV (As := [.int a2]) (rest := []) (sr_okZ adK adV) ⟨hx, hb, hml, hown, hts⟩ (kX7_hash l htr dC dI adK adV cI cB cJ cZ cQ obT tq_tape tq_said tq_inner tq_next tq_amount obK t_length t_wrongPlace t_said t_amount a2 r1 hz1) (cwV 1 hts (g2_34 _) rfl rfl rfl (by decide +kernel) ⟨(by show 1 + 1 ≤ 2; omega), (by show 8 + (5 + 11) + (21) ≤ 45; omega)⟩) hS hP hK hz0 [5, 6, 7] rfl (va_recv hK hP (ci := 9) (q0 := 5) rfl rfl) rfl rfl hl.1 (Nat.le_of_ble_eq_true rfl) dX2_add_2 ⟨Nat.zero_le _, Nat.zero_le _⟩ ?_
  refine lv_iload_n hx hb dX2_add_5 rfl (lv_at hl 2 rfl) ?_
  refine lv_iadd hx hb dX2_add_6 ?_
  refine lv_sipush (v := 255) hx hb dX2_add_7 (by decide) ?_
  refine lv_iand hx hb dX2_add_10 ?_
  refine lv_istore (lv' := [(4, .int ((r1 + a1) &&& 255)), (0, .ref obK), (1, .ref obT), (2, .int a1), (3, .int a2)]) hx hb dX2_add_11 hl (by decide) rfl (fun ls hl => ?_)
  refine lv_aload_n hx hb dX2_add_13 rfl (lv_at hl 1 rfl) ?_
  refine va_get (D := (dC, dI)) (ci := 5) (v := .ref kq_heads) (C := RX2) (T := TX2) (N := 5) hx hb hts (inX2 _) hown hK hP 0 rfl rfl 0 (by decide) (hts _ (List.mem_cons_of_mem _ wf2_11)) (fun _ h9 => h9) rfl dX2_add_14 ?_
  refine lv_iload hx hb dX2_add_17 (lv_at hl 0 rfl) ?_
  obtain ⟨h2, hm⟩ := mr_bd hm
  refine va_iald hx hb hK hP 1 0 rfl rfl h2 dX2_add_19 ?_
  refine lv_istore (lv' := [(5, .int (k_heads (((r1 + a1) &&& 255) : Int32).toNatClampNeg)), (4, .int ((r1 + a1) &&& 255)), (0, .ref obK), (1, .ref obT), (2, .int a1), (3, .int a2)]) hx hb dX2_add_20 hl (by decide) rfl (fun ls hl => ?_)
  refine lv_iconst (v := 0) hx hb dX2_add_22 (by decide) ?_
  have j25 : ∀ (n25 : Nat) (k_heads : Nat → Int32) (k_places : Nat → Int32) (k_owners : Nat → Int32) (k_nexts : Nat → Int32) (k_count : Int32) (x2 : Int32) (x3 : Int32) (x4 : Int32) (x5 : Int32) (x6 : Int32) (H : Heap) (locs : List Loc) (ls : Array Slot), va_P (dC, dI) srCl [(obK, .inr (5, [.ref kq_heads, .ref kq_places, .ref kq_owners, .ref kq_nexts, .int k_count])), (kq_heads, .inl (cI, 256, .inl k_heads)), (kq_places, .inl (cI, 1024, .inl k_places)), (kq_owners, .inl (cI, 1024, .inl k_owners)), (kq_nexts, .inl (cI, 1024, .inl k_nexts)), (obT, .inr (9, [.ref tq_tape, .ref tq_said, .ref tq_inner, .ref tq_next, .ref tq_amount, .ref obK, .int t_length, .int t_wrongPlace])), (tq_said, .inl (cB, 4096, .inl t_said)), (tq_amount, .inl (cI, 4096, .inl t_amount))] H → va_D A [(obK, .inr (5, [.ref kq_heads, .ref kq_places, .ref kq_owners, .ref kq_nexts, .int k_count])), (kq_heads, .inl (cI, 256, .inl k_heads)), (kq_places, .inl (cI, 1024, .inl k_places)), (kq_owners, .inl (cI, 1024, .inl k_owners)), (kq_nexts, .inl (cI, 1024, .inl k_nexts)), (obT, .inr (9, [.ref tq_tape, .ref tq_said, .ref tq_inner, .ref tq_next, .ref tq_amount, .ref obK, .int t_length, .int t_wrongPlace])), (tq_said, .inl (cB, 4096, .inl t_said)), (tq_amount, .inl (cI, 4096, .inl t_amount))] → va_S A s.heap H locs → lv_has ls 7 [(0, .ref obK), (1, .ref obT), (2, .int x2), (3, .int x3), (4, .int x4), (5, .int x5), (6, .int x6)] → m_X2_add_25 t_said t_amount n25 k_heads k_places k_owners k_nexts k_count x2 x3 x4 x5 x6 = some res → W p l e (headSpec wsX2_add (rmX2_add 0 0)).room s m [.ref obK, .ref obT, .int a1, .int a2].toArray below meth c H locs 0 0 Q0 (F0 m 25 ls []) := by
    intro n25
    induction n25 with
    | zero => intro k_heads k_places k_owners k_nexts k_count x2 x3 x4 x5 x6 H locs ls hP hD hS hl hm; exact nomatch (show (none : Option _) = some res from hm)
    | succ n25 ih25 =>
      intro k_heads k_places k_owners k_nexts k_count x2 x3 x4 x5 x6 H locs ls hP hD hS hl hm
      rw [m_X2_add_25] at hm
      refine lv_iload hx hb dX2_add_25 (lv_at hl 6 rfl) ?_
      refine lv_aload_n hx hb dX2_add_27 rfl (lv_at hl 0 rfl) ?_
      refine va_get (D := (dC, dI)) (ci := 5) (v := .int k_count) (C := RX2) (T := TX2) (N := 5) hx hb hts (inX2 _) hown hK hP 0 rfl rfl 4 (by decide) (hts _ (List.mem_cons_of_mem _ wf2_24)) (fun _ h9 => h9) rfl dX2_add_28 ?_
      have j90 : ∀ (k_heads : Nat → Int32) (k_places : Nat → Int32) (k_owners : Nat → Int32) (k_nexts : Nat → Int32) (k_count : Int32) (x2 : Int32) (x3 : Int32) (x4 : Int32) (H : Heap) (locs : List Loc) (ls : Array Slot), va_P (dC, dI) srCl [(obK, .inr (5, [.ref kq_heads, .ref kq_places, .ref kq_owners, .ref kq_nexts, .int k_count])), (kq_heads, .inl (cI, 256, .inl k_heads)), (kq_places, .inl (cI, 1024, .inl k_places)), (kq_owners, .inl (cI, 1024, .inl k_owners)), (kq_nexts, .inl (cI, 1024, .inl k_nexts)), (obT, .inr (9, [.ref tq_tape, .ref tq_said, .ref tq_inner, .ref tq_next, .ref tq_amount, .ref obK, .int t_length, .int t_wrongPlace])), (tq_said, .inl (cB, 4096, .inl t_said)), (tq_amount, .inl (cI, 4096, .inl t_amount))] H → va_D A [(obK, .inr (5, [.ref kq_heads, .ref kq_places, .ref kq_owners, .ref kq_nexts, .int k_count])), (kq_heads, .inl (cI, 256, .inl k_heads)), (kq_places, .inl (cI, 1024, .inl k_places)), (kq_owners, .inl (cI, 1024, .inl k_owners)), (kq_nexts, .inl (cI, 1024, .inl k_nexts)), (obT, .inr (9, [.ref tq_tape, .ref tq_said, .ref tq_inner, .ref tq_next, .ref tq_amount, .ref obK, .int t_length, .int t_wrongPlace])), (tq_said, .inl (cB, 4096, .inl t_said)), (tq_amount, .inl (cI, 4096, .inl t_amount))] → va_S A s.heap H locs → lv_has ls 7 [(0, .ref obK), (2, .int x2), (3, .int x3), (4, .int x4)] → m_X2_add_90 t_said t_amount k_heads k_places k_owners k_nexts k_count x2 x3 x4 = some res → W p l e (headSpec wsX2_add (rmX2_add 0 0)).room s m [.ref obK, .ref obT, .int a1, .int a2].toArray below meth c H locs 0 0 Q0 (F0 m 90 ls []) := by
        intro k_heads k_places k_owners k_nexts k_count x2 x3 x4 H locs ls hP hD hS hl hm
        unfold m_X2_add_90 at hm
        refine lv_aload_n hx hb dX2_add_90 rfl (lv_at hl 0 rfl) ?_
        refine va_get (D := (dC, dI)) (ci := 5) (v := .int k_count) (C := RX2) (T := TX2) (N := 5) hx hb hts (inX2 _) hown hK hP 0 rfl rfl 4 (by decide) (hts _ (List.mem_cons_of_mem _ wf2_24)) (fun _ h9 => h9) rfl dX2_add_91 ?_
        refine lv_sipush (v := 1024) hx hb dX2_add_94 (by decide) ?_
        refine lv_icmp_ge (tgt := 157) hx hb dX2_add_97 (by decide) (fun c3 => ?_) (fun c3 => ?_)
        · have hm := mr_if c3 hm
          refine lv_iconst (v := 1) hx hb dX2_add_157 (by decide) ?_
          obtain rfl := Option.some.inj hm
          subst hQ0
          exact W.zret (v := 1) hx hb hr rfl (fun t ht hW => ⟨⟨1, (k_heads, k_places, k_owners, k_nexts, k_count), rfl, ⟨rfl, rfl⟩, by rw [ht]; exact hP, va_K.moved hW.alike hK, hD⟩, hS.F ht⟩) hS.2.2 dX2_add_158
        · have hm := mr_un c3 hm
          refine lv_aload_n hx hb dX2_add_100 rfl (lv_at hl 0 rfl) ?_
          refine va_get (D := (dC, dI)) (ci := 5) (v := .ref kq_places) (C := RX2) (T := TX2) (N := 5) hx hb hts (inX2 _) hown hK hP 0 rfl rfl 1 (by decide) (hts _ (List.mem_cons_of_mem _ wf2_15)) (fun _ h9 => h9) rfl dX2_add_101 ?_
          refine lv_aload_n hx hb dX2_add_104 rfl (lv_at hl 0 rfl) ?_
          refine va_get (D := (dC, dI)) (ci := 5) (v := .int k_count) (C := RX2) (T := TX2) (N := 5) hx hb hts (inX2 _) hown hK hP 0 rfl rfl 4 (by decide) (hts _ (List.mem_cons_of_mem _ wf2_24)) (fun _ h9 => h9) rfl dX2_add_105 ?_
          refine lv_iload_n hx hb dX2_add_108 rfl (lv_at hl 2 rfl) ?_
          obtain ⟨h4, hm⟩ := mr_bd hm
          refine va_iast hx hb hK hP hD hS 2 0 rfl rfl h4 dX2_add_109 (fun H locs hP hD hS => ?_)
          have hP : va_P (dC, dI) srCl [(obK, .inr (5, [.ref kq_heads, .ref kq_places, .ref kq_owners, .ref kq_nexts, .int k_count])), (kq_heads, .inl (cI, 256, .inl k_heads)), (kq_places, .inl (cI, 1024, .inl (upd k_places (k_count : Int32).toNatClampNeg x3))), (kq_owners, .inl (cI, 1024, .inl k_owners)), (kq_nexts, .inl (cI, 1024, .inl k_nexts)), (obT, .inr (9, [.ref tq_tape, .ref tq_said, .ref tq_inner, .ref tq_next, .ref tq_amount, .ref obK, .int t_length, .int t_wrongPlace])), (tq_said, .inl (cB, 4096, .inl t_said)), (tq_amount, .inl (cI, 4096, .inl t_amount))] H := hP
          have hD : va_D A [(obK, .inr (5, [.ref kq_heads, .ref kq_places, .ref kq_owners, .ref kq_nexts, .int k_count])), (kq_heads, .inl (cI, 256, .inl k_heads)), (kq_places, .inl (cI, 1024, .inl (upd k_places (k_count : Int32).toNatClampNeg x3))), (kq_owners, .inl (cI, 1024, .inl k_owners)), (kq_nexts, .inl (cI, 1024, .inl k_nexts)), (obT, .inr (9, [.ref tq_tape, .ref tq_said, .ref tq_inner, .ref tq_next, .ref tq_amount, .ref obK, .int t_length, .int t_wrongPlace])), (tq_said, .inl (cB, 4096, .inl t_said)), (tq_amount, .inl (cI, 4096, .inl t_amount))] := hD
          refine lv_aload_n hx hb dX2_add_110 rfl (lv_at hl 0 rfl) ?_
          refine va_get (D := (dC, dI)) (ci := 5) (v := .ref kq_owners) (C := RX2) (T := TX2) (N := 5) hx hb hts (inX2 _) hown hK hP 0 rfl rfl 2 (by decide) (hts _ (List.mem_cons_of_mem _ wf2_18)) (fun _ h9 => h9) rfl dX2_add_111 ?_
          refine lv_aload_n hx hb dX2_add_114 rfl (lv_at hl 0 rfl) ?_
          refine va_get (D := (dC, dI)) (ci := 5) (v := .int k_count) (C := RX2) (T := TX2) (N := 5) hx hb hts (inX2 _) hown hK hP 0 rfl rfl 4 (by decide) (hts _ (List.mem_cons_of_mem _ wf2_24)) (fun _ h9 => h9) rfl dX2_add_115 ?_
          refine lv_iload_n hx hb dX2_add_118 rfl (lv_at hl 1 rfl) ?_
          obtain ⟨h5, hm⟩ := mr_bd hm
          refine va_iast hx hb hK hP hD hS 3 0 rfl rfl h5 dX2_add_119 (fun H locs hP hD hS => ?_)
          have hP : va_P (dC, dI) srCl [(obK, .inr (5, [.ref kq_heads, .ref kq_places, .ref kq_owners, .ref kq_nexts, .int k_count])), (kq_heads, .inl (cI, 256, .inl k_heads)), (kq_places, .inl (cI, 1024, .inl (upd k_places (k_count : Int32).toNatClampNeg x3))), (kq_owners, .inl (cI, 1024, .inl (upd k_owners (k_count : Int32).toNatClampNeg x2))), (kq_nexts, .inl (cI, 1024, .inl k_nexts)), (obT, .inr (9, [.ref tq_tape, .ref tq_said, .ref tq_inner, .ref tq_next, .ref tq_amount, .ref obK, .int t_length, .int t_wrongPlace])), (tq_said, .inl (cB, 4096, .inl t_said)), (tq_amount, .inl (cI, 4096, .inl t_amount))] H := hP
          have hD : va_D A [(obK, .inr (5, [.ref kq_heads, .ref kq_places, .ref kq_owners, .ref kq_nexts, .int k_count])), (kq_heads, .inl (cI, 256, .inl k_heads)), (kq_places, .inl (cI, 1024, .inl (upd k_places (k_count : Int32).toNatClampNeg x3))), (kq_owners, .inl (cI, 1024, .inl (upd k_owners (k_count : Int32).toNatClampNeg x2))), (kq_nexts, .inl (cI, 1024, .inl k_nexts)), (obT, .inr (9, [.ref tq_tape, .ref tq_said, .ref tq_inner, .ref tq_next, .ref tq_amount, .ref obK, .int t_length, .int t_wrongPlace])), (tq_said, .inl (cB, 4096, .inl t_said)), (tq_amount, .inl (cI, 4096, .inl t_amount))] := hD
          refine lv_aload_n hx hb dX2_add_120 rfl (lv_at hl 0 rfl) ?_
          refine va_get (D := (dC, dI)) (ci := 5) (v := .ref kq_nexts) (C := RX2) (T := TX2) (N := 5) hx hb hts (inX2 _) hown hK hP 0 rfl rfl 3 (by decide) (hts _ (List.mem_cons_of_mem _ wf2_21)) (fun _ h9 => h9) rfl dX2_add_121 ?_
          refine lv_aload_n hx hb dX2_add_124 rfl (lv_at hl 0 rfl) ?_
          refine va_get (D := (dC, dI)) (ci := 5) (v := .int k_count) (C := RX2) (T := TX2) (N := 5) hx hb hts (inX2 _) hown hK hP 0 rfl rfl 4 (by decide) (hts _ (List.mem_cons_of_mem _ wf2_24)) (fun _ h9 => h9) rfl dX2_add_125 ?_
          refine lv_aload_n hx hb dX2_add_128 rfl (lv_at hl 0 rfl) ?_
          refine va_get (D := (dC, dI)) (ci := 5) (v := .ref kq_heads) (C := RX2) (T := TX2) (N := 5) hx hb hts (inX2 _) hown hK hP 0 rfl rfl 0 (by decide) (hts _ (List.mem_cons_of_mem _ wf2_11)) (fun _ h9 => h9) rfl dX2_add_129 ?_
          refine lv_iload hx hb dX2_add_132 (lv_at hl 3 rfl) ?_
          obtain ⟨h6, hm⟩ := mr_bd hm
          refine va_iald hx hb hK hP 1 0 rfl rfl h6 dX2_add_134 ?_
          obtain ⟨h7, hm⟩ := mr_bd hm
          refine va_iast hx hb hK hP hD hS 4 0 rfl rfl h7 dX2_add_135 (fun H locs hP hD hS => ?_)
          have hP : va_P (dC, dI) srCl [(obK, .inr (5, [.ref kq_heads, .ref kq_places, .ref kq_owners, .ref kq_nexts, .int k_count])), (kq_heads, .inl (cI, 256, .inl k_heads)), (kq_places, .inl (cI, 1024, .inl (upd k_places (k_count : Int32).toNatClampNeg x3))), (kq_owners, .inl (cI, 1024, .inl (upd k_owners (k_count : Int32).toNatClampNeg x2))), (kq_nexts, .inl (cI, 1024, .inl (upd k_nexts (k_count : Int32).toNatClampNeg (k_heads (x4 : Int32).toNatClampNeg)))), (obT, .inr (9, [.ref tq_tape, .ref tq_said, .ref tq_inner, .ref tq_next, .ref tq_amount, .ref obK, .int t_length, .int t_wrongPlace])), (tq_said, .inl (cB, 4096, .inl t_said)), (tq_amount, .inl (cI, 4096, .inl t_amount))] H := hP
          have hD : va_D A [(obK, .inr (5, [.ref kq_heads, .ref kq_places, .ref kq_owners, .ref kq_nexts, .int k_count])), (kq_heads, .inl (cI, 256, .inl k_heads)), (kq_places, .inl (cI, 1024, .inl (upd k_places (k_count : Int32).toNatClampNeg x3))), (kq_owners, .inl (cI, 1024, .inl (upd k_owners (k_count : Int32).toNatClampNeg x2))), (kq_nexts, .inl (cI, 1024, .inl (upd k_nexts (k_count : Int32).toNatClampNeg (k_heads (x4 : Int32).toNatClampNeg)))), (obT, .inr (9, [.ref tq_tape, .ref tq_said, .ref tq_inner, .ref tq_next, .ref tq_amount, .ref obK, .int t_length, .int t_wrongPlace])), (tq_said, .inl (cB, 4096, .inl t_said)), (tq_amount, .inl (cI, 4096, .inl t_amount))] := hD
          refine lv_aload_n hx hb dX2_add_136 rfl (lv_at hl 0 rfl) ?_
          refine va_get (D := (dC, dI)) (ci := 5) (v := .ref kq_heads) (C := RX2) (T := TX2) (N := 5) hx hb hts (inX2 _) hown hK hP 0 rfl rfl 0 (by decide) (hts _ (List.mem_cons_of_mem _ wf2_11)) (fun _ h9 => h9) rfl dX2_add_137 ?_
          refine lv_iload hx hb dX2_add_140 (lv_at hl 3 rfl) ?_
          refine lv_aload_n hx hb dX2_add_142 rfl (lv_at hl 0 rfl) ?_
          refine va_get (D := (dC, dI)) (ci := 5) (v := .int k_count) (C := RX2) (T := TX2) (N := 5) hx hb hts (inX2 _) hown hK hP 0 rfl rfl 4 (by decide) (hts _ (List.mem_cons_of_mem _ wf2_24)) (fun _ h9 => h9) rfl dX2_add_143 ?_
          obtain ⟨h8, hm⟩ := mr_bd hm
          refine va_iast hx hb hK hP hD hS 1 0 rfl rfl h8 dX2_add_146 (fun H locs hP hD hS => ?_)
          have hP : va_P (dC, dI) srCl [(obK, .inr (5, [.ref kq_heads, .ref kq_places, .ref kq_owners, .ref kq_nexts, .int k_count])), (kq_heads, .inl (cI, 256, .inl (upd k_heads (x4 : Int32).toNatClampNeg k_count))), (kq_places, .inl (cI, 1024, .inl (upd k_places (k_count : Int32).toNatClampNeg x3))), (kq_owners, .inl (cI, 1024, .inl (upd k_owners (k_count : Int32).toNatClampNeg x2))), (kq_nexts, .inl (cI, 1024, .inl (upd k_nexts (k_count : Int32).toNatClampNeg (k_heads (x4 : Int32).toNatClampNeg)))), (obT, .inr (9, [.ref tq_tape, .ref tq_said, .ref tq_inner, .ref tq_next, .ref tq_amount, .ref obK, .int t_length, .int t_wrongPlace])), (tq_said, .inl (cB, 4096, .inl t_said)), (tq_amount, .inl (cI, 4096, .inl t_amount))] H := hP
          have hD : va_D A [(obK, .inr (5, [.ref kq_heads, .ref kq_places, .ref kq_owners, .ref kq_nexts, .int k_count])), (kq_heads, .inl (cI, 256, .inl (upd k_heads (x4 : Int32).toNatClampNeg k_count))), (kq_places, .inl (cI, 1024, .inl (upd k_places (k_count : Int32).toNatClampNeg x3))), (kq_owners, .inl (cI, 1024, .inl (upd k_owners (k_count : Int32).toNatClampNeg x2))), (kq_nexts, .inl (cI, 1024, .inl (upd k_nexts (k_count : Int32).toNatClampNeg (k_heads (x4 : Int32).toNatClampNeg)))), (obT, .inr (9, [.ref tq_tape, .ref tq_said, .ref tq_inner, .ref tq_next, .ref tq_amount, .ref obK, .int t_length, .int t_wrongPlace])), (tq_said, .inl (cB, 4096, .inl t_said)), (tq_amount, .inl (cI, 4096, .inl t_amount))] := hD
          refine lv_aload_n hx hb dX2_add_147 rfl (lv_at hl 0 rfl) ?_
          refine lv_dup hx hb dX2_add_148 rfl ?_
          refine va_get (D := (dC, dI)) (ci := 5) (v := .int k_count) (C := RX2) (T := TX2) (N := 5) hx hb hts (inX2 _) hown hK hP 0 rfl rfl 4 (by decide) (hts _ (List.mem_cons_of_mem _ wf2_24)) (fun _ h9 => h9) rfl dX2_add_149 ?_
          refine lv_iconst (v := 1) hx hb dX2_add_152 (by decide) ?_
          refine lv_iadd hx hb dX2_add_153 ?_
          refine va_put (D := (dC, dI)) (ci := 5) (v := .int (k_count + 1)) (ty := .int) (C := RX2) (T := TX2) (N := 5) hx hb hts (inX2 _) tyX2 tyX2_ok nmX2 hown hK hP hD hS 0 rfl rfl 4 (by decide) (hts _ (List.mem_cons_of_mem _ wf2_24)) (fun _ h9 => h9) rfl (by decide +kernel) rfl rfl (Nat.le_of_ble_eq_true rfl) dX2_add_154 (fun H locs hP hD hS => ?_)
          have hP : va_P (dC, dI) srCl [(obK, .inr (5, [.ref kq_heads, .ref kq_places, .ref kq_owners, .ref kq_nexts, .int (k_count + 1)])), (kq_heads, .inl (cI, 256, .inl (upd k_heads (x4 : Int32).toNatClampNeg k_count))), (kq_places, .inl (cI, 1024, .inl (upd k_places (k_count : Int32).toNatClampNeg x3))), (kq_owners, .inl (cI, 1024, .inl (upd k_owners (k_count : Int32).toNatClampNeg x2))), (kq_nexts, .inl (cI, 1024, .inl (upd k_nexts (k_count : Int32).toNatClampNeg (k_heads (x4 : Int32).toNatClampNeg)))), (obT, .inr (9, [.ref tq_tape, .ref tq_said, .ref tq_inner, .ref tq_next, .ref tq_amount, .ref obK, .int t_length, .int t_wrongPlace])), (tq_said, .inl (cB, 4096, .inl t_said)), (tq_amount, .inl (cI, 4096, .inl t_amount))] H := hP
          have hD : va_D A [(obK, .inr (5, [.ref kq_heads, .ref kq_places, .ref kq_owners, .ref kq_nexts, .int (k_count + 1)])), (kq_heads, .inl (cI, 256, .inl (upd k_heads (x4 : Int32).toNatClampNeg k_count))), (kq_places, .inl (cI, 1024, .inl (upd k_places (k_count : Int32).toNatClampNeg x3))), (kq_owners, .inl (cI, 1024, .inl (upd k_owners (k_count : Int32).toNatClampNeg x2))), (kq_nexts, .inl (cI, 1024, .inl (upd k_nexts (k_count : Int32).toNatClampNeg (k_heads (x4 : Int32).toNatClampNeg)))), (obT, .inr (9, [.ref tq_tape, .ref tq_said, .ref tq_inner, .ref tq_next, .ref tq_amount, .ref obK, .int t_length, .int t_wrongPlace])), (tq_said, .inl (cB, 4096, .inl t_said)), (tq_amount, .inl (cI, 4096, .inl t_amount))] := hD
          refine lv_iconst (v := 1) hx hb dX2_add_157 (by decide) ?_
          obtain rfl := Option.some.inj hm
          subst hQ0
          exact W.zret (v := 1) hx hb hr rfl (fun t ht hW => ⟨⟨1, ((upd k_heads (x4 : Int32).toNatClampNeg k_count), (upd k_places (k_count : Int32).toNatClampNeg x3), (upd k_owners (k_count : Int32).toNatClampNeg x2), (upd k_nexts (k_count : Int32).toNatClampNeg (k_heads (x4 : Int32).toNatClampNeg)), (k_count + 1)), rfl, ⟨rfl, rfl⟩, by rw [ht]; exact hP, va_K.moved hW.alike hK, hD⟩, hS.F ht⟩) hS.2.2 dX2_add_158
      refine lv_icmp_ge (tgt := 90) hx hb dX2_add_31 (by decide) (fun c9 => ?_) (fun c9 => ?_)
      · have hm := mr_if c9 hm
        exact j90 k_heads k_places k_owners k_nexts k_count x2 x3 x4 _ _ ls hP hD hS (lv_sub hl [0, 2, 3, 4] rfl) hm
      · have hm := mr_un c9 hm
        refine lv_iload hx hb dX2_add_34 (lv_at hl 5 rfl) ?_
        refine lv_if_lt (tgt := 90) hx hb dX2_add_36 (by decide) (fun c10 => ?_) (fun c10 => ?_)
        · have hm := mr_if c10 hm
          exact j90 k_heads k_places k_owners k_nexts k_count x2 x3 x4 _ _ ls hP hD hS (lv_sub hl [0, 2, 3, 4] rfl) hm
        · have hm := mr_un c10 hm
          refine lv_iload hx hb dX2_add_39 (lv_at hl 5 rfl) ?_
          refine lv_sipush (v := 1024) hx hb dX2_add_41 (by decide) ?_
          refine lv_icmp_ge (tgt := 90) hx hb dX2_add_44 (by decide) (fun c11 => ?_) (fun c11 => ?_)
          · have hm := mr_if c11 hm
            exact j90 k_heads k_places k_owners k_nexts k_count x2 x3 x4 _ _ ls hP hD hS (lv_sub hl [0, 2, 3, 4] rfl) hm
          · have hm := mr_un c11 hm
            refine lv_aload_n hx hb dX2_add_47 rfl (lv_at hl 0 rfl) ?_
            refine va_get (D := (dC, dI)) (ci := 5) (v := .ref kq_owners) (C := RX2) (T := TX2) (N := 5) hx hb hts (inX2 _) hown hK hP 0 rfl rfl 2 (by decide) (hts _ (List.mem_cons_of_mem _ wf2_18)) (fun _ h9 => h9) rfl dX2_add_48 ?_
            refine lv_iload hx hb dX2_add_51 (lv_at hl 5 rfl) ?_
            obtain ⟨h12, hm⟩ := mr_bd hm
            refine va_iald hx hb hK hP 3 0 rfl rfl h12 dX2_add_53 ?_
            refine lv_iload_n hx hb dX2_add_54 rfl (lv_at hl 2 rfl) ?_
            have j75 : ∀ (k_heads : Nat → Int32) (k_places : Nat → Int32) (k_owners : Nat → Int32) (k_nexts : Nat → Int32) (k_count : Int32) (x2 : Int32) (x3 : Int32) (x4 : Int32) (x5 : Int32) (x6 : Int32) (H : Heap) (locs : List Loc) (ls : Array Slot), va_P (dC, dI) srCl [(obK, .inr (5, [.ref kq_heads, .ref kq_places, .ref kq_owners, .ref kq_nexts, .int k_count])), (kq_heads, .inl (cI, 256, .inl k_heads)), (kq_places, .inl (cI, 1024, .inl k_places)), (kq_owners, .inl (cI, 1024, .inl k_owners)), (kq_nexts, .inl (cI, 1024, .inl k_nexts)), (obT, .inr (9, [.ref tq_tape, .ref tq_said, .ref tq_inner, .ref tq_next, .ref tq_amount, .ref obK, .int t_length, .int t_wrongPlace])), (tq_said, .inl (cB, 4096, .inl t_said)), (tq_amount, .inl (cI, 4096, .inl t_amount))] H → va_D A [(obK, .inr (5, [.ref kq_heads, .ref kq_places, .ref kq_owners, .ref kq_nexts, .int k_count])), (kq_heads, .inl (cI, 256, .inl k_heads)), (kq_places, .inl (cI, 1024, .inl k_places)), (kq_owners, .inl (cI, 1024, .inl k_owners)), (kq_nexts, .inl (cI, 1024, .inl k_nexts)), (obT, .inr (9, [.ref tq_tape, .ref tq_said, .ref tq_inner, .ref tq_next, .ref tq_amount, .ref obK, .int t_length, .int t_wrongPlace])), (tq_said, .inl (cB, 4096, .inl t_said)), (tq_amount, .inl (cI, 4096, .inl t_amount))] → va_S A s.heap H locs → lv_has ls 7 [(0, .ref obK), (1, .ref obT), (2, .int x2), (3, .int x3), (4, .int x4), (5, .int x5), (6, .int x6)] → m_X2_add_75 t_said t_amount (m_X2_add_25 t_said t_amount n25) k_heads k_places k_owners k_nexts k_count x2 x3 x4 x5 x6 = some res → W p l e (headSpec wsX2_add (rmX2_add 0 0)).room s m [.ref obK, .ref obT, .int a1, .int a2].toArray below meth c H locs 0 0 Q0 (F0 m 75 ls []) := by
              intro k_heads k_places k_owners k_nexts k_count x2 x3 x4 x5 x6 H locs ls hP hD hS hl hm
              unfold m_X2_add_75 at hm
              refine lv_aload_n hx hb dX2_add_75 rfl (lv_at hl 0 rfl) ?_
              refine va_get (D := (dC, dI)) (ci := 5) (v := .ref kq_nexts) (C := RX2) (T := TX2) (N := 5) hx hb hts (inX2 _) hown hK hP 0 rfl rfl 3 (by decide) (hts _ (List.mem_cons_of_mem _ wf2_21)) (fun _ h9 => h9) rfl dX2_add_76 ?_
              refine lv_iload hx hb dX2_add_79 (lv_at hl 5 rfl) ?_
              obtain ⟨h13, hm⟩ := mr_bd hm
              refine va_iald hx hb hK hP 4 0 rfl rfl h13 dX2_add_81 ?_
              refine lv_istore (lv' := [(5, .int (k_nexts (x5 : Int32).toNatClampNeg)), (0, .ref obK), (1, .ref obT), (2, .int x2), (3, .int x3), (4, .int x4), (6, .int x6)]) hx hb dX2_add_82 hl (by decide) rfl (fun ls hl => ?_)
              refine lv_iinc (v := x6 + 1) (lv' := [(6, .int (x6 + 1)), (5, .int (k_nexts (x5 : Int32).toNatClampNeg)), (0, .ref obK), (1, .ref obT), (2, .int x2), (3, .int x3), (4, .int x4)]) hx hb dX2_add_84 hl (k := 6) rfl rfl (by decide) rfl (fun ls hl => ?_)
              refine lv_goto (tgt := 25) hx hb dX2_add_87 (by decide) ?_
              exact ih25 k_heads k_places k_owners k_nexts k_count x2 x3 x4 (k_nexts (x5 : Int32).toNatClampNeg) (x6 + 1) _ _ ls hP hD hS (lv_sub hl [2, 3, 4, 5, 6, 1, 0] rfl) hm
            refine lv_icmp_ne (tgt := 75) hx hb dX2_add_55 (by decide) (fun c14 => ?_) (fun c14 => ?_)
            · have hm := mr_un c14 hm
              exact j75 k_heads k_places k_owners k_nexts k_count x2 x3 x4 x5 x6 _ _ ls hP hD hS (lv_sub hl [0, 1, 2, 3, 4, 5, 6] rfl) hm
            · have hm := mr_if c14 hm
              refine lv_aload_n hx hb dX2_add_58 rfl (lv_at hl 1 rfl) ?_
              refine lv_aload_n hx hb dX2_add_59 rfl (lv_at hl 0 rfl) ?_
              refine va_get (D := (dC, dI)) (ci := 5) (v := .ref kq_places) (C := RX2) (T := TX2) (N := 5) hx hb hts (inX2 _) hown hK hP 0 rfl rfl 1 (by decide) (hts _ (List.mem_cons_of_mem _ wf2_15)) (fun _ h9 => h9) rfl dX2_add_60 ?_
              refine lv_iload hx hb dX2_add_63 (lv_at hl 5 rfl) ?_
              obtain ⟨h15, hm⟩ := mr_bd hm
              refine va_iald hx hb hK hP 2 0 rfl rfl h15 dX2_add_65 ?_
              refine lv_iload_n hx hb dX2_add_66 rfl (lv_at hl 3 rfl) ?_
              obtain ⟨r16, hz16, hm⟩ := mr_bind hm
              refine mr_pV (As := [.int (k_places (x5 : Int32).toNatClampNeg), .int x3]) (rest := []) (sr_okZ adK adV) ⟨hx, hb, hml, hown, hts⟩ (kX7_saysSame l htr dC dI adK adV cI cB cJ cZ cQ obT tq_tape tq_said tq_inner tq_next tq_amount obK t_length t_wrongPlace t_said t_amount (k_places (x5 : Int32).toNatClampNeg) x3 r16 hz16) (cwV 2 hts (g2_40 _) rfl rfl rfl (by decide +kernel) ⟨(by show 1 + 1 ≤ 2; omega), (by show 8 + (5 + 11) + (21) ≤ 45; omega)⟩) hS hP hK hz0 [5, 6, 7] rfl (va_recv hK hP (ci := 9) (q0 := 5) rfl rfl) rfl rfl hl.1 (Nat.le_of_ble_eq_true rfl) dX2_add_67 ⟨Nat.zero_le _, Nat.zero_le _⟩ ?_
              refine lv_if_eq (tgt := 75) hx hb dX2_add_70 (by decide) (fun c17 => ?_) (fun c17 => ?_)
              · have hm := mr_if c17 hm
                exact j75 k_heads k_places k_owners k_nexts k_count x2 x3 x4 x5 x6 _ _ ls hP hD hS (lv_sub hl [0, 1, 2, 3, 4, 5, 6] rfl) hm
              · have hm := mr_un c17 hm
                refine lv_iconst (v := 0) hx hb dX2_add_73 (by decide) ?_
                obtain rfl := Option.some.inj hm
                subst hQ0
                exact W.zret (v := 0) hx hb hr rfl (fun t ht hW => ⟨⟨0, (k_heads, k_places, k_owners, k_nexts, k_count), rfl, ⟨rfl, rfl⟩, by rw [ht]; exact hP, va_K.moved hW.alike hK, hD⟩, hS.F ht⟩) hS.2.2 dX2_add_74
  refine lv_istore (lv' := [(6, .int 0), (5, .int (k_heads (((r1 + a1) &&& 255) : Int32).toNatClampNeg)), (4, .int ((r1 + a1) &&& 255)), (0, .ref obK), (1, .ref obT), (2, .int a1), (3, .int a2)]) hx hb dX2_add_23 hl (by decide) rfl (fun ls hl => ?_)
  exact j25 sr_fuel k_heads k_places k_owners k_nexts k_count a1 a2 ((r1 + a1) &&& 255) (k_heads (((r1 + a1) &&& 255) : Int32).toNatClampNeg) 0 _ _ ls hP hD hS (lv_sub hl [3, 4, 5, 6, 2, 1, 0] rfl) hm
set_option maxHeartbeats 4000000 in
set_option maxRecDepth 100000 in
theorem kX7_join (l : Launch) (htr : l.stackTraces = false) (dC : Nat → ClassId) (dI : Nat → Nat → Nat) (adK adV : Nat → Nat) (cI cB cJ cZ cQ : ClassId) (obT tq_tape tq_said tq_inner tq_next tq_amount obK : Nat) (t_length : Int32) (t_wrongPlace : Int32) (t_inner : Nat → Int32) (t_next : Nat → Int32) (sz : Nat) (a0 : Int32) (a1 : Int32) (a2 : Int32) (res : (Nat → Int32) × (Nat → Int32)) (hm : m_X7_join t_inner t_next a0 a1 a2 = some res) : Met l yX7_join wsX7_join (rmX7_join 0 0) (pcW (sr_Z adK adV) (dC, dI) srCl [(cI, .int), (cB, .byte), (cJ, .long), (cZ, .boolean), (cQ, .object "SchemaReader$Schema")] [.ref obT, .int a0, .int a1, .int a2] [(obT, .inr (9, [.ref tq_tape, .ref tq_said, .ref tq_inner, .ref tq_next, .ref tq_amount, .ref obK, .int t_length, .int t_wrongPlace])), (tq_inner, .inl (cI, 4096, .inl t_inner)), (tq_next, .inl (cI, 4096, .inl t_next))] sz) (va_Qv (fun u' => u' = res) (pcB (dC, dI) srCl [(cI, .int), (cB, .byte), (cJ, .long), (cZ, .boolean), (cQ, .object "SchemaReader$Schema")] (fun u : (Nat → Int32) × (Nat → Int32) => [(obT, .inr (9, [.ref tq_tape, .ref tq_said, .ref tq_inner, .ref tq_next, .ref tq_amount, .ref obK, .int t_length, .int t_wrongPlace])), (tq_inner, .inl (cI, 4096, .inl u.1)), (tq_next, .inl (cI, 4096, .inl u.2))]) (va_A [(obT, .inr (9, [.ref tq_tape, .ref tq_said, .ref tq_inner, .ref tq_next, .ref tq_amount, .ref obK, .int t_length, .int t_wrongPlace])), (tq_inner, .inl (cI, 4096, .inl t_inner)), (tq_next, .inl (cI, 4096, .inl t_next))] sz)) (va_A [(obT, .inr (9, [.ref tq_tape, .ref tq_said, .ref tq_inner, .ref tq_next, .ref tq_amount, .ref obK, .int t_length, .int t_wrongPlace])), (tq_inner, .inl (cI, 4096, .inl t_inner)), (tq_next, .inl (cI, 4096, .inl t_next))] sz)) 0 0 (va_A [(obT, .inr (9, [.ref tq_tape, .ref tq_said, .ref tq_inner, .ref tq_next, .ref tq_amount, .ref obK, .int t_length, .int t_wrongPlace])), (tq_inner, .inl (cI, 4096, .inl t_inner)), (tq_next, .inl (cI, 4096, .inl t_next))] sz) := by
  refine Met.ofW (cc := cX7_join) (maxL := 4) (ret := none) (by decide) rfl ?_
  intro p e s m args below meth c s₁ B hml hv
  obtain ⟨rfl, hsz, hP, hK, hD0, hz0⟩ := hv
  have hx := B.exec
  have hb := B.bytes
  have hr := B.returns
  have hts := atoms_spec (ws := wsX7_join) B.pre
  have hown : s.vm.findClass RX7 = some m.cls := findClass_of_methodNamed B.named
  have hlocks := B.notSynchronized
  subst hsz
  have hD := hD0.self (sz := s.heap.size)
  generalize hAe : va_A [(obT, .inr (9, [.ref tq_tape, .ref tq_said, .ref tq_inner, .ref tq_next, .ref tq_amount, .ref obK, .int t_length, .int t_wrongPlace])), (tq_inner, .inl (cI, 4096, .inl t_inner)), (tq_next, .inl (cI, 4096, .inl t_next))] s.heap.size = A at hD hz0 ⊢
  have hA : ∀ q : Nat, s.heap.size ≤ q → A q := fun q h => by rw [← hAe]; exact Or.inr h
  have hS : va_S A s.heap s.heap [] := va_S.rf
  generalize hQ0 : MQ below (va_Qv (fun u' => u' = res) (pcB (dC, dI) srCl [(cI, .int), (cB, .byte), (cJ, .long), (cZ, .boolean), (cQ, .object "SchemaReader$Schema")] (fun u : (Nat → Int32) × (Nat → Int32) => [(obT, .inr (9, [.ref tq_tape, .ref tq_said, .ref tq_inner, .ref tq_next, .ref tq_amount, .ref obK, .int t_length, .int t_wrongPlace])), (tq_inner, .inl (cI, 4096, .inl u.1)), (tq_next, .inl (cI, 4096, .inl u.2))]) A) A) [.ref obT, .int a0, .int a1, .int a2].toArray s 0 0 A = Q0
  have hl := lv_entry [.ref obT, .int a0, .int a1, .int a2] (n := 4) (Nat.le_of_ble_eq_true rfl)
  rw [lg_entry_eq]
  generalize (lg_sl [.ref obT, .int a0, .int a1, .int a2] ++ List.replicate (4 - (lg_sl [.ref obT, .int a0, .int a1, .int a2]).length) Slot.unset).toArray = ls at hl ⊢
  have hl : lv_has ls 4 [(0, .ref obT), (1, .int a0), (2, .int a1), (3, .int a2)] := hl
  unfold m_X7_join at hm
  refine lv_iload_n hx hb dX7_join_0 rfl (lv_at hl 2 rfl) ?_
  refine lv_iconst (v := -1) hx hb dX7_join_1 (by decide) ?_
  have j26 : ∀ (t_inner : Nat → Int32) (t_next : Nat → Int32) (x3 : Int32) (H : Heap) (locs : List Loc) (ls : Array Slot), va_P (dC, dI) srCl [(obT, .inr (9, [.ref tq_tape, .ref tq_said, .ref tq_inner, .ref tq_next, .ref tq_amount, .ref obK, .int t_length, .int t_wrongPlace])), (tq_inner, .inl (cI, 4096, .inl t_inner)), (tq_next, .inl (cI, 4096, .inl t_next))] H → va_D A [(obT, .inr (9, [.ref tq_tape, .ref tq_said, .ref tq_inner, .ref tq_next, .ref tq_amount, .ref obK, .int t_length, .int t_wrongPlace])), (tq_inner, .inl (cI, 4096, .inl t_inner)), (tq_next, .inl (cI, 4096, .inl t_next))] → va_S A s.heap H locs → lv_has ls 4 [(0, .ref obT), (3, .int x3)] → m_X7_join_26 t_inner t_next x3 = some res → W p l e (headSpec wsX7_join (rmX7_join 0 0)).room s m [.ref obT, .int a0, .int a1, .int a2].toArray below meth c H locs 0 0 Q0 (F0 m 26 ls []) := by
    intro t_inner t_next x3 H locs ls hP hD hS hl hm
    unfold m_X7_join_26 at hm
    refine lv_aload_n hx hb dX7_join_26 rfl (lv_at hl 0 rfl) ?_
    refine va_get (D := (dC, dI)) (ci := 9) (v := .ref tq_next) (C := RX7) (T := TX7) (N := 8) hx hb hts (inX7 _) hown hK hP 0 rfl rfl 3 (by decide) (hts _ (List.mem_cons_of_mem _ wf7_22)) (fun _ h9 => h9) rfl dX7_join_27 ?_
    refine lv_iload_n hx hb dX7_join_30 rfl (lv_at hl 1 rfl) ?_
    refine lv_iconst (v := -1) hx hb dX7_join_31 (by decide) ?_
    obtain ⟨t_next_1, hz1, hm⟩ := mr_bind hm
    try dsimp only at hm
    refine mr_wSNv (As := [.ref tq_next, .int x3, .int (-1)]) (rest := []) (sr_okZ adK adV) ⟨hx, hb, hml, hown, hts⟩ (kX8_enter l htr dC dI adK adV cI cB cJ cZ cQ tq_next t_next _ 4096 x3 (-1) _ hz1) (sr_cnS 3 hts rfl gn7_125.1 (hz0.2.2.2.2.2.2.1 _ gn7_125.2) rfl rfl (by decide +kernel) ⟨(by show 0 + 1 ≤ 1; omega), (by show 8 + (3 + 11) + (0) ≤ 22; omega)⟩) hS hA hP hD hK hz0 (wr := [(obT, .inr (9, [.ref tq_tape, .ref tq_said, .ref tq_inner, .ref tq_next, .ref tq_amount, .ref obK, .int t_length, .int t_wrongPlace])), (tq_inner, .inl (cI, 4096, .inl t_inner))]) (w1 := [(obT, .inr (9, [.ref tq_tape, .ref tq_said, .ref tq_inner, .ref tq_next, .ref tq_amount, .ref obK, .int t_length, .int t_wrongPlace])), (tq_inner, .inl (cI, 4096, .inl t_inner)), (tq_next, .inl (cI, 4096, .inl t_next_1))]) [2] [0, 1] [0, 1, 2] rfl rfl rfl rfl rfl (by decide) rfl rfl rfl rfl rfl hl.1 (Nat.le_of_ble_eq_true rfl) dX7_join_32 ⟨Nat.zero_le _, Nat.zero_le _⟩ (fun H locs hP hD hS => ?_)
    obtain rfl := Option.some.inj hm
    subst hQ0
    exact W.vret hx hb hr (fun t ht hW => ⟨⟨(t_inner, t_next_1), rfl, rfl, by rw [ht]; exact hP, va_K.moved hW.alike hK, hD⟩, hS.F ht⟩) hS.2.2 dX7_join_35
  refine lv_icmp_ne (tgt := 17) hx hb dX7_join_2 (by decide) (fun c2 => ?_) (fun c2 => ?_)
  · have hm := mr_un c2 hm
    refine lv_aload_n hx hb dX7_join_17 rfl (lv_at hl 0 rfl) ?_
    refine va_get (D := (dC, dI)) (ci := 9) (v := .ref tq_next) (C := RX7) (T := TX7) (N := 8) hx hb hts (inX7 _) hown hK hP 0 rfl rfl 3 (by decide) (hts _ (List.mem_cons_of_mem _ wf7_22)) (fun _ h9 => h9) rfl dX7_join_18 ?_
    refine lv_iload_n hx hb dX7_join_21 rfl (lv_at hl 2 rfl) ?_
    refine lv_iload_n hx hb dX7_join_22 rfl (lv_at hl 3 rfl) ?_
    obtain ⟨t_next_3, hz3, hm⟩ := mr_bind hm
    try dsimp only at hm
    refine mr_wSNv (As := [.ref tq_next, .int a1, .int a2]) (rest := []) (sr_okZ adK adV) ⟨hx, hb, hml, hown, hts⟩ (kX8_enter l htr dC dI adK adV cI cB cJ cZ cQ tq_next t_next _ 4096 a1 a2 _ hz3) (sr_cnS 3 hts rfl gn7_125.1 (hz0.2.2.2.2.2.2.1 _ gn7_125.2) rfl rfl (by decide +kernel) ⟨(by show 0 + 1 ≤ 1; omega), (by show 8 + (3 + 11) + (0) ≤ 22; omega)⟩) hS hA hP hD hK hz0 (wr := [(obT, .inr (9, [.ref tq_tape, .ref tq_said, .ref tq_inner, .ref tq_next, .ref tq_amount, .ref obK, .int t_length, .int t_wrongPlace])), (tq_inner, .inl (cI, 4096, .inl t_inner))]) (w1 := [(obT, .inr (9, [.ref tq_tape, .ref tq_said, .ref tq_inner, .ref tq_next, .ref tq_amount, .ref obK, .int t_length, .int t_wrongPlace])), (tq_inner, .inl (cI, 4096, .inl t_inner)), (tq_next, .inl (cI, 4096, .inl t_next_3))]) [2] [0, 1] [0, 1, 2] rfl rfl rfl rfl rfl (by decide) rfl rfl rfl rfl rfl hl.1 (Nat.le_of_ble_eq_true rfl) dX7_join_23 ⟨Nat.zero_le _, Nat.zero_le _⟩ (fun H locs hP hD hS => ?_)
    exact j26 t_inner t_next_3 a2 _ _ ls hP hD hS (lv_sub hl [0, 3] rfl) hm
  · have hm := mr_if c2 hm
    refine lv_aload_n hx hb dX7_join_5 rfl (lv_at hl 0 rfl) ?_
    refine va_get (D := (dC, dI)) (ci := 9) (v := .ref tq_inner) (C := RX7) (T := TX7) (N := 8) hx hb hts (inX7 _) hown hK hP 0 rfl rfl 2 (by decide) (hts _ (List.mem_cons_of_mem _ wf7_18)) (fun _ h9 => h9) rfl dX7_join_6 ?_
    refine lv_iload_n hx hb dX7_join_9 rfl (lv_at hl 1 rfl) ?_
    refine lv_iload_n hx hb dX7_join_10 rfl (lv_at hl 3 rfl) ?_
    obtain ⟨t_inner_4, hz4, hm⟩ := mr_bind hm
    try dsimp only at hm
    refine mr_wSNv (As := [.ref tq_inner, .int a0, .int a2]) (rest := []) (sr_okZ adK adV) ⟨hx, hb, hml, hown, hts⟩ (kX8_enter l htr dC dI adK adV cI cB cJ cZ cQ tq_inner t_inner _ 4096 a0 a2 _ hz4) (sr_cnS 3 hts rfl gn7_125.1 (hz0.2.2.2.2.2.2.1 _ gn7_125.2) rfl rfl (by decide +kernel) ⟨(by show 0 + 1 ≤ 1; omega), (by show 8 + (3 + 11) + (0) ≤ 22; omega)⟩) hS hA hP hD hK hz0 (wr := [(obT, .inr (9, [.ref tq_tape, .ref tq_said, .ref tq_inner, .ref tq_next, .ref tq_amount, .ref obK, .int t_length, .int t_wrongPlace])), (tq_next, .inl (cI, 4096, .inl t_next))]) (w1 := [(obT, .inr (9, [.ref tq_tape, .ref tq_said, .ref tq_inner, .ref tq_next, .ref tq_amount, .ref obK, .int t_length, .int t_wrongPlace])), (tq_inner, .inl (cI, 4096, .inl t_inner_4)), (tq_next, .inl (cI, 4096, .inl t_next))]) [1] [0, 2] [0, 2, 1] rfl rfl rfl rfl rfl (by decide) rfl rfl rfl rfl rfl hl.1 (Nat.le_of_ble_eq_true rfl) dX7_join_11 ⟨Nat.zero_le _, Nat.zero_le _⟩ (fun H locs hP hD hS => ?_)
    refine lv_goto (tgt := 26) hx hb dX7_join_14 (by decide) ?_
    exact j26 t_inner_4 t_next a2 _ _ ls hP hD hS (lv_sub hl [0, 3] rfl) hm
set_option maxHeartbeats 4000000 in
set_option maxRecDepth 100000 in
theorem kX7_say (l : Launch) (htr : l.stackTraces = false) (dC : Nat → ClassId) (dI : Nat → Nat → Nat) (adK adV : Nat → Nat) (cI cB cJ cZ cQ : ClassId) (obT tq_tape tq_said tq_inner tq_next tq_amount obK : Nat) (t_length : Int32) (t_wrongPlace : Int32) (t_said : Nat → Int32) (sz : Nat) (a0 : Int32) (a1 : Int32) (res : (Nat → Int32)) (hm : m_X7_say t_said a0 a1 = some res) : Met l yX7_say wsX7_say (rmX7_say 0 0) (pcW (sr_Z adK adV) (dC, dI) srCl [(cI, .int), (cB, .byte), (cJ, .long), (cZ, .boolean), (cQ, .object "SchemaReader$Schema")] [.ref obT, .int a0, .int a1] [(obT, .inr (9, [.ref tq_tape, .ref tq_said, .ref tq_inner, .ref tq_next, .ref tq_amount, .ref obK, .int t_length, .int t_wrongPlace])), (tq_said, .inl (cB, 4096, .inl t_said))] sz) (va_Qv (fun u' => u' = res) (pcB (dC, dI) srCl [(cI, .int), (cB, .byte), (cJ, .long), (cZ, .boolean), (cQ, .object "SchemaReader$Schema")] (fun u : (Nat → Int32) => [(obT, .inr (9, [.ref tq_tape, .ref tq_said, .ref tq_inner, .ref tq_next, .ref tq_amount, .ref obK, .int t_length, .int t_wrongPlace])), (tq_said, .inl (cB, 4096, .inl u))]) (va_A [(obT, .inr (9, [.ref tq_tape, .ref tq_said, .ref tq_inner, .ref tq_next, .ref tq_amount, .ref obK, .int t_length, .int t_wrongPlace])), (tq_said, .inl (cB, 4096, .inl t_said))] sz)) (va_A [(obT, .inr (9, [.ref tq_tape, .ref tq_said, .ref tq_inner, .ref tq_next, .ref tq_amount, .ref obK, .int t_length, .int t_wrongPlace])), (tq_said, .inl (cB, 4096, .inl t_said))] sz)) 0 0 (va_A [(obT, .inr (9, [.ref tq_tape, .ref tq_said, .ref tq_inner, .ref tq_next, .ref tq_amount, .ref obK, .int t_length, .int t_wrongPlace])), (tq_said, .inl (cB, 4096, .inl t_said))] sz) := by
  refine Met.ofW (cc := cX7_say) (maxL := 3) (ret := none) (by decide) rfl ?_
  intro p e s m args below meth c s₁ B hml hv
  obtain ⟨rfl, hsz, hP, hK, hD0, hz0⟩ := hv
  have hx := B.exec
  have hb := B.bytes
  have hr := B.returns
  have hts := atoms_spec (ws := wsX7_say) B.pre
  have hown : s.vm.findClass RX7 = some m.cls := findClass_of_methodNamed B.named
  have hlocks := B.notSynchronized
  subst hsz
  have hD := hD0.self (sz := s.heap.size)
  generalize hAe : va_A [(obT, .inr (9, [.ref tq_tape, .ref tq_said, .ref tq_inner, .ref tq_next, .ref tq_amount, .ref obK, .int t_length, .int t_wrongPlace])), (tq_said, .inl (cB, 4096, .inl t_said))] s.heap.size = A at hD hz0 ⊢
  have hA : ∀ q : Nat, s.heap.size ≤ q → A q := fun q h => by rw [← hAe]; exact Or.inr h
  have hS : va_S A s.heap s.heap [] := va_S.rf
  generalize hQ0 : MQ below (va_Qv (fun u' => u' = res) (pcB (dC, dI) srCl [(cI, .int), (cB, .byte), (cJ, .long), (cZ, .boolean), (cQ, .object "SchemaReader$Schema")] (fun u : (Nat → Int32) => [(obT, .inr (9, [.ref tq_tape, .ref tq_said, .ref tq_inner, .ref tq_next, .ref tq_amount, .ref obK, .int t_length, .int t_wrongPlace])), (tq_said, .inl (cB, 4096, .inl u))]) A) A) [.ref obT, .int a0, .int a1].toArray s 0 0 A = Q0
  have hl := lv_entry [.ref obT, .int a0, .int a1] (n := 3) (Nat.le_of_ble_eq_true rfl)
  rw [lg_entry_eq]
  generalize (lg_sl [.ref obT, .int a0, .int a1] ++ List.replicate (3 - (lg_sl [.ref obT, .int a0, .int a1]).length) Slot.unset).toArray = ls at hl ⊢
  have hl : lv_has ls 3 [(0, .ref obT), (1, .int a0), (2, .int a1)] := hl
  unfold m_X7_say at hm
  refine lv_iload_n hx hb dX7_say_0 rfl (lv_at hl 1 rfl) ?_
  refine lv_if_lt (tgt := 21) hx hb dX7_say_1 (by decide) (fun c1 => ?_) (fun c1 => ?_)
  · have hm := mr_if c1 hm
    obtain rfl := Option.some.inj hm
    subst hQ0
    exact W.vret hx hb hr (fun t ht hW => ⟨⟨t_said, rfl, rfl, by rw [ht]; exact hP, va_K.moved hW.alike hK, hD⟩, hS.F ht⟩) hS.2.2 dX7_say_21
  · have hm := mr_un c1 hm
    refine lv_iload_n hx hb dX7_say_4 rfl (lv_at hl 1 rfl) ?_
    refine lv_aload_n hx hb dX7_say_5 rfl (lv_at hl 0 rfl) ?_
    refine va_get (D := (dC, dI)) (ci := 9) (v := .ref tq_said) (C := RX7) (T := TX7) (N := 8) hx hb hts (inX7 _) hown hK hP 0 rfl rfl 1 (by decide) (hts _ (List.mem_cons_of_mem _ wf7_15)) (fun _ h9 => h9) rfl dX7_say_6 ?_
    refine va_alen hx hb hK hP 1 1 rfl rfl rfl dX7_say_9 ?_
    refine lv_icmp_ge (tgt := 21) hx hb dX7_say_10 (by decide) (fun c2 => ?_) (fun c2 => ?_)
    · have hm := mr_if c2 hm
      obtain rfl := Option.some.inj hm
      subst hQ0
      exact W.vret hx hb hr (fun t ht hW => ⟨⟨t_said, rfl, rfl, by rw [ht]; exact hP, va_K.moved hW.alike hK, hD⟩, hS.F ht⟩) hS.2.2 dX7_say_21
    · have hm := mr_un c2 hm
      refine lv_aload_n hx hb dX7_say_13 rfl (lv_at hl 0 rfl) ?_
      refine va_get (D := (dC, dI)) (ci := 9) (v := .ref tq_said) (C := RX7) (T := TX7) (N := 8) hx hb hts (inX7 _) hown hK hP 0 rfl rfl 1 (by decide) (hts _ (List.mem_cons_of_mem _ wf7_15)) (fun _ h9 => h9) rfl dX7_say_14 ?_
      refine lv_iload_n hx hb dX7_say_17 rfl (lv_at hl 1 rfl) ?_
      refine lv_iload_n hx hb dX7_say_18 rfl (lv_at hl 2 rfl) ?_
      refine lv_i2b hx hb dX7_say_19 rfl ?_
      obtain ⟨h3, hm⟩ := mr_bd hm
      refine va_bast hx hb hK hP hD hS 1 1 rfl rfl h3 dX7_say_20 (fun H locs hP hD hS => ?_)
      have hP : va_P (dC, dI) srCl [(obT, .inr (9, [.ref tq_tape, .ref tq_said, .ref tq_inner, .ref tq_next, .ref tq_amount, .ref obK, .int t_length, .int t_wrongPlace])), (tq_said, .inl (cB, 4096, .inl (upd t_said (a0 : Int32).toNatClampNeg (vp_nar .byte ((a1 : Int32).toInt8.toInt32)))))] H := hP
      have hD : va_D A [(obT, .inr (9, [.ref tq_tape, .ref tq_said, .ref tq_inner, .ref tq_next, .ref tq_amount, .ref obK, .int t_length, .int t_wrongPlace])), (tq_said, .inl (cB, 4096, .inl (upd t_said (a0 : Int32).toNatClampNeg (vp_nar .byte ((a1 : Int32).toInt8.toInt32)))))] := hD
      obtain rfl := Option.some.inj hm
      subst hQ0
      exact W.vret hx hb hr (fun t ht hW => ⟨⟨(upd t_said (a0 : Int32).toNatClampNeg (vp_nar .byte ((a1 : Int32).toInt8.toInt32))), rfl, rfl, by rw [ht]; exact hP, va_K.moved hW.alike hK, hD⟩, hS.F ht⟩) hS.2.2 dX7_say_21
set_option maxHeartbeats 4000000 in
set_option maxRecDepth 100000 in
theorem kX7_hexDigit (l : Launch) (htr : l.stackTraces = false) (dC : Nat → ClassId) (dI : Nat → Nat → Nat) (adK adV : Nat → Nat) (cI cB cJ cZ cQ : ClassId) (a0 : Int32) (res : Int32) (hm : m_X7_hexDigit a0 = some res) : Met l yX7_hexDigit wsX7_hexDigit (rmX7_hexDigit 0 0) (pcR (sr_Z adK adV) (dC, dI) srCl [(cI, .int), (cB, .byte), (cJ, .long), (cZ, .boolean), (cQ, .object "SchemaReader$Schema")] [.int a0] []) (k2_QcV (.int res)) 0 0 (fun _ => False) := by
  refine Met.ofW (cc := cX7_hexDigit) (maxL := 1) (ret := (some .int)) (by decide) rfl ?_
  intro p e s m args below meth c s₁ B hml hv
  obtain ⟨rfl, hP, hK, hz0⟩ := hv
  have hx := B.exec
  have hb := B.bytes
  have hr := B.returns
  have hts := atoms_spec (ws := wsX7_hexDigit) B.pre
  have hown : s.vm.findClass RX7 = some m.cls := findClass_of_methodNamed B.named
  have hlocks := B.notSynchronized
  have hS : va_S (fun _ => False) s.heap s.heap [] := va_S.rf
  generalize hQ0 : MQ below (k2_QcV (.int res)) [.int a0].toArray s 0 0 (fun _ => False) = Q0
  have hl := lv_entry [.int a0] (n := 1) (Nat.le_of_ble_eq_true rfl)
  rw [lg_entry_eq]
  generalize (lg_sl [.int a0] ++ List.replicate (1 - (lg_sl [.int a0]).length) Slot.unset).toArray = ls at hl ⊢
  have hl : lv_has ls 1 [(0, .int a0)] := hl
  unfold m_X7_hexDigit at hm
  refine lv_iload_n hx hb dX7_hexDigit_0 rfl (lv_at hl 0 rfl) ?_
  refine lv_bipush (v := 48) hx hb dX7_hexDigit_1 (by decide) ?_
  have j17 : ∀ (x0 : Int32) (ls : Array Slot), lv_has ls 1 [(0, .int x0)] → m_X7_hexDigit_17 x0 = some res → W p l e (headSpec wsX7_hexDigit (rmX7_hexDigit 0 0)).room s m [.int a0].toArray below meth c s.heap [] 0 0 Q0 (F0 m 17 ls []) := by
    intro x0 ls hl hm
    unfold m_X7_hexDigit_17 at hm
    refine lv_iload_n hx hb dX7_hexDigit_17 rfl (lv_at hl 0 rfl) ?_
    refine lv_bipush (v := 97) hx hb dX7_hexDigit_18 (by decide) ?_
    have j37 : ∀ (x0 : Int32) (ls : Array Slot), lv_has ls 1 [(0, .int x0)] → m_X7_hexDigit_37 x0 = some res → W p l e (headSpec wsX7_hexDigit (rmX7_hexDigit 0 0)).room s m [.int a0].toArray below meth c s.heap [] 0 0 Q0 (F0 m 37 ls []) := by
      intro x0 ls hl hm
      unfold m_X7_hexDigit_37 at hm
      refine lv_iload_n hx hb dX7_hexDigit_37 rfl (lv_at hl 0 rfl) ?_
      refine lv_bipush (v := 65) hx hb dX7_hexDigit_38 (by decide) ?_
      refine lv_icmp_lt (tgt := 59) hx hb dX7_hexDigit_40 (by decide) (fun c1 => ?_) (fun c1 => ?_)
      · have hm := mr_if c1 hm
        refine lv_iconst (v := -1) hx hb dX7_hexDigit_59 (by decide) ?_
        obtain rfl := Option.some.inj hm
        subst hQ0
        exact W.iret (v := (-1)) hx hb hr (fun t ht hW => ⟨rfl, ht⟩) (fun q h => by cases h) dX7_hexDigit_60
      · have hm := mr_un c1 hm
        refine lv_iload_n hx hb dX7_hexDigit_43 rfl (lv_at hl 0 rfl) ?_
        refine lv_bipush (v := 70) hx hb dX7_hexDigit_44 (by decide) ?_
        refine lv_icmp_gt (tgt := 59) hx hb dX7_hexDigit_46 (by decide) (fun c2 => ?_) (fun c2 => ?_)
        · have hm := mr_if c2 hm
          refine lv_iconst (v := -1) hx hb dX7_hexDigit_59 (by decide) ?_
          obtain rfl := Option.some.inj hm
          subst hQ0
          exact W.iret (v := (-1)) hx hb hr (fun t ht hW => ⟨rfl, ht⟩) (fun q h => by cases h) dX7_hexDigit_60
        · have hm := mr_un c2 hm
          refine lv_iload_n hx hb dX7_hexDigit_49 rfl (lv_at hl 0 rfl) ?_
          refine lv_bipush (v := 65) hx hb dX7_hexDigit_50 (by decide) ?_
          refine lv_isub hx hb dX7_hexDigit_52 ?_
          refine lv_bipush (v := 10) hx hb dX7_hexDigit_53 (by decide) ?_
          refine lv_iadd hx hb dX7_hexDigit_55 ?_
          refine lv_goto (tgt := 60) hx hb dX7_hexDigit_56 (by decide) ?_
          obtain rfl := Option.some.inj hm
          subst hQ0
          exact W.iret (v := ((x0 - 65) + 10)) hx hb hr (fun t ht hW => ⟨rfl, ht⟩) (fun q h => by cases h) dX7_hexDigit_60
    refine lv_icmp_lt (tgt := 37) hx hb dX7_hexDigit_20 (by decide) (fun c3 => ?_) (fun c3 => ?_)
    · have hm := mr_if c3 hm
      exact j37 x0 ls (lv_sub hl [0] rfl) hm
    · have hm := mr_un c3 hm
      refine lv_iload_n hx hb dX7_hexDigit_23 rfl (lv_at hl 0 rfl) ?_
      refine lv_bipush (v := 102) hx hb dX7_hexDigit_24 (by decide) ?_
      refine lv_icmp_gt (tgt := 37) hx hb dX7_hexDigit_26 (by decide) (fun c4 => ?_) (fun c4 => ?_)
      · have hm := mr_if c4 hm
        exact j37 x0 ls (lv_sub hl [0] rfl) hm
      · have hm := mr_un c4 hm
        refine lv_iload_n hx hb dX7_hexDigit_29 rfl (lv_at hl 0 rfl) ?_
        refine lv_bipush (v := 97) hx hb dX7_hexDigit_30 (by decide) ?_
        refine lv_isub hx hb dX7_hexDigit_32 ?_
        refine lv_bipush (v := 10) hx hb dX7_hexDigit_33 (by decide) ?_
        refine lv_iadd hx hb dX7_hexDigit_35 ?_
        obtain rfl := Option.some.inj hm
        subst hQ0
        exact W.iret (v := ((x0 - 97) + 10)) hx hb hr (fun t ht hW => ⟨rfl, ht⟩) (fun q h => by cases h) dX7_hexDigit_36
  refine lv_icmp_lt (tgt := 17) hx hb dX7_hexDigit_3 (by decide) (fun c5 => ?_) (fun c5 => ?_)
  · have hm := mr_if c5 hm
    exact j17 a0 ls (lv_sub hl [0] rfl) hm
  · have hm := mr_un c5 hm
    refine lv_iload_n hx hb dX7_hexDigit_6 rfl (lv_at hl 0 rfl) ?_
    refine lv_bipush (v := 57) hx hb dX7_hexDigit_7 (by decide) ?_
    refine lv_icmp_gt (tgt := 17) hx hb dX7_hexDigit_9 (by decide) (fun c6 => ?_) (fun c6 => ?_)
    · have hm := mr_if c6 hm
      exact j17 a0 ls (lv_sub hl [0] rfl) hm
    · have hm := mr_un c6 hm
      refine lv_iload_n hx hb dX7_hexDigit_12 rfl (lv_at hl 0 rfl) ?_
      refine lv_bipush (v := 48) hx hb dX7_hexDigit_13 (by decide) ?_
      refine lv_isub hx hb dX7_hexDigit_15 ?_
      obtain rfl := Option.some.inj hm
      subst hQ0
      exact W.iret (v := (a0 - 48)) hx hb hr (fun t ht hW => ⟨rfl, ht⟩) (fun q h => by cases h) dX7_hexDigit_16
set_option maxHeartbeats 4000000 in
set_option maxRecDepth 100000 in
theorem kX7_readEscape (l : Launch) (htr : l.stackTraces = false) (dC : Nat → ClassId) (dI : Nat → Nat → Nat) (adK adV : Nat → Nat) (cI cB cJ cZ cQ : ClassId) (obT tq_tape tq_said tq_inner tq_next tq_amount obK : Nat) (t_length : Int32) (t_wrongPlace : Int32) (t_tape : Nat → Int32) (sz : Nat) (a0 : Int32) (res : Int32 × Int32) (hm : m_X7_readEscape t_tape t_length t_wrongPlace a0 = some res) : Met l yX7_readEscape wsX7_readEscape (rmX7_readEscape 0 0) (pcW (sr_Z adK adV) (dC, dI) srCl [(cI, .int), (cB, .byte), (cJ, .long), (cZ, .boolean), (cQ, .object "SchemaReader$Schema")] [.ref obT, .int a0] [(obT, .inr (9, [.ref tq_tape, .ref tq_said, .ref tq_inner, .ref tq_next, .ref tq_amount, .ref obK, .int t_length, .int t_wrongPlace])), (tq_tape, .inl (cB, 4096, .inl t_tape))] sz) (va_Qi (fun r' u' => r' = res.1 ∧ u' = res.2) (pcB (dC, dI) srCl [(cI, .int), (cB, .byte), (cJ, .long), (cZ, .boolean), (cQ, .object "SchemaReader$Schema")] (fun u : Int32 => [(obT, .inr (9, [.ref tq_tape, .ref tq_said, .ref tq_inner, .ref tq_next, .ref tq_amount, .ref obK, .int t_length, .int u])), (tq_tape, .inl (cB, 4096, .inl t_tape))]) (va_A [(obT, .inr (9, [.ref tq_tape, .ref tq_said, .ref tq_inner, .ref tq_next, .ref tq_amount, .ref obK, .int t_length, .int t_wrongPlace])), (tq_tape, .inl (cB, 4096, .inl t_tape))] sz)) (va_A [(obT, .inr (9, [.ref tq_tape, .ref tq_said, .ref tq_inner, .ref tq_next, .ref tq_amount, .ref obK, .int t_length, .int t_wrongPlace])), (tq_tape, .inl (cB, 4096, .inl t_tape))] sz)) 0 0 (va_A [(obT, .inr (9, [.ref tq_tape, .ref tq_said, .ref tq_inner, .ref tq_next, .ref tq_amount, .ref obK, .int t_length, .int t_wrongPlace])), (tq_tape, .inl (cB, 4096, .inl t_tape))] sz) := by
  refine Met.ofW (cc := cX7_readEscape) (maxL := 6) (ret := (some .int)) (by decide) rfl ?_
  intro p e s m args below meth c s₁ B hml hv
  obtain ⟨rfl, hsz, hP, hK, hD0, hz0⟩ := hv
  have hx := B.exec
  have hb := B.bytes
  have hr := B.returns
  have hts := atoms_spec (ws := wsX7_readEscape) B.pre
  have hown : s.vm.findClass RX7 = some m.cls := findClass_of_methodNamed B.named
  have hlocks := B.notSynchronized
  subst hsz
  have hD := hD0.self (sz := s.heap.size)
  generalize hAe : va_A [(obT, .inr (9, [.ref tq_tape, .ref tq_said, .ref tq_inner, .ref tq_next, .ref tq_amount, .ref obK, .int t_length, .int t_wrongPlace])), (tq_tape, .inl (cB, 4096, .inl t_tape))] s.heap.size = A at hD hz0 ⊢
  have hA : ∀ q : Nat, s.heap.size ≤ q → A q := fun q h => by rw [← hAe]; exact Or.inr h
  have hS : va_S A s.heap s.heap [] := va_S.rf
  generalize hQ0 : MQ below (va_Qi (fun r' u' => r' = res.1 ∧ u' = res.2) (pcB (dC, dI) srCl [(cI, .int), (cB, .byte), (cJ, .long), (cZ, .boolean), (cQ, .object "SchemaReader$Schema")] (fun u : Int32 => [(obT, .inr (9, [.ref tq_tape, .ref tq_said, .ref tq_inner, .ref tq_next, .ref tq_amount, .ref obK, .int t_length, .int u])), (tq_tape, .inl (cB, 4096, .inl t_tape))]) A) A) [.ref obT, .int a0].toArray s 0 0 A = Q0
  have hl := lv_entry [.ref obT, .int a0] (n := 6) (Nat.le_of_ble_eq_true rfl)
  rw [lg_entry_eq]
  generalize (lg_sl [.ref obT, .int a0] ++ List.replicate (6 - (lg_sl [.ref obT, .int a0]).length) Slot.unset).toArray = ls at hl ⊢
  have hl : lv_has ls 6 [(0, .ref obT), (1, .int a0)] := hl
  unfold m_X7_readEscape at hm
  refine lv_aload_n hx hb dX7_readEscape_0 rfl (lv_at hl 0 rfl) ?_
  refine lv_iload_n hx hb dX7_readEscape_1 rfl (lv_at hl 1 rfl) ?_
  refine lv_iconst (v := 1) hx hb dX7_readEscape_2 (by decide) ?_
  refine lv_iadd hx hb dX7_readEscape_3 ?_
  obtain ⟨r1, hz1, hm⟩ := mr_bind hm
  refine mr_pV (As := [.int (a0 + 1)]) (rest := []) (sr_okZ adK adV) ⟨hx, hb, hml, hown, hts⟩ (kX7_byteAt l htr dC dI adK adV cI cB cJ cZ cQ obT tq_tape tq_said tq_inner tq_next tq_amount obK t_length t_wrongPlace t_tape (a0 + 1) r1 hz1) (cwV 1 hts (g7_42 _) rfl rfl rfl (by decide +kernel) ⟨(by show 0 + 1 ≤ 1; omega), (by show 8 + (2 + 11) + (0) ≤ 21; omega)⟩) hS hP hK hz0 [0, 1] rfl (va_recv hK hP (ci := 9) (q0 := 0) rfl rfl) rfl rfl hl.1 (Nat.le_of_ble_eq_true rfl) dX7_readEscape_4 ⟨Nat.zero_le _, Nat.zero_le _⟩ ?_
  refine lv_istore_n (lv' := [(2, .int r1), (0, .ref obT), (1, .int a0)]) hx hb dX7_readEscape_7 rfl hl (by decide) rfl (fun ls hl => ?_)
  refine lv_iload_n hx hb dX7_readEscape_8 rfl (lv_at hl 0 rfl) ?_
  by_cases c2 : r1 = 34
  · have hm := mr_if c2 hm
    refine lv_lookup (tgt := 92) hx hb dX7_readEscape_9 (by decide) (by rw [c2] <;> rfl) (by decide) ?_
    refine lv_iload_n hx hb dX7_readEscape_92 rfl (lv_at hl 0 rfl) ?_
    obtain rfl := Option.some.inj hm
    subst hQ0
    exact W.iret (v := r1) hx hb hr (fun t ht hW => ⟨⟨r1, t_wrongPlace, rfl, ⟨rfl, rfl⟩, by rw [ht]; exact hP, va_K.moved hW.alike hK, hD⟩, hS.F ht⟩) hS.2.2 dX7_readEscape_93
  have hm := mr_un c2 hm
  by_cases c3 : r1 = 47
  · have hm := mr_if c3 hm
    refine lv_lookup (tgt := 92) hx hb dX7_readEscape_9 (by decide) (by rw [c3] <;> rfl) (by decide) ?_
    refine lv_iload_n hx hb dX7_readEscape_92 rfl (lv_at hl 0 rfl) ?_
    obtain rfl := Option.some.inj hm
    subst hQ0
    exact W.iret (v := r1) hx hb hr (fun t ht hW => ⟨⟨r1, t_wrongPlace, rfl, ⟨rfl, rfl⟩, by rw [ht]; exact hP, va_K.moved hW.alike hK, hD⟩, hS.F ht⟩) hS.2.2 dX7_readEscape_93
  have hm := mr_un c3 hm
  by_cases c4 : r1 = 92
  · have hm := mr_if c4 hm
    refine lv_lookup (tgt := 92) hx hb dX7_readEscape_9 (by decide) (by rw [c4] <;> rfl) (by decide) ?_
    refine lv_iload_n hx hb dX7_readEscape_92 rfl (lv_at hl 0 rfl) ?_
    obtain rfl := Option.some.inj hm
    subst hQ0
    exact W.iret (v := r1) hx hb hr (fun t ht hW => ⟨⟨r1, t_wrongPlace, rfl, ⟨rfl, rfl⟩, by rw [ht]; exact hP, va_K.moved hW.alike hK, hD⟩, hS.F ht⟩) hS.2.2 dX7_readEscape_93
  have hm := mr_un c4 hm
  by_cases c5 : r1 = 98
  · have hm := mr_if c5 hm
    refine lv_lookup (tgt := 94) hx hb dX7_readEscape_9 (by decide) (by rw [c5] <;> rfl) (by decide) ?_
    refine lv_bipush (v := 8) hx hb dX7_readEscape_94 (by decide) ?_
    obtain rfl := Option.some.inj hm
    subst hQ0
    exact W.iret (v := 8) hx hb hr (fun t ht hW => ⟨⟨8, t_wrongPlace, rfl, ⟨rfl, rfl⟩, by rw [ht]; exact hP, va_K.moved hW.alike hK, hD⟩, hS.F ht⟩) hS.2.2 dX7_readEscape_96
  have hm := mr_un c5 hm
  by_cases c6 : r1 = 102
  · have hm := mr_if c6 hm
    refine lv_lookup (tgt := 97) hx hb dX7_readEscape_9 (by decide) (by rw [c6] <;> rfl) (by decide) ?_
    refine lv_bipush (v := 12) hx hb dX7_readEscape_97 (by decide) ?_
    obtain rfl := Option.some.inj hm
    subst hQ0
    exact W.iret (v := 12) hx hb hr (fun t ht hW => ⟨⟨12, t_wrongPlace, rfl, ⟨rfl, rfl⟩, by rw [ht]; exact hP, va_K.moved hW.alike hK, hD⟩, hS.F ht⟩) hS.2.2 dX7_readEscape_99
  have hm := mr_un c6 hm
  by_cases c7 : r1 = 110
  · have hm := mr_if c7 hm
    refine lv_lookup (tgt := 100) hx hb dX7_readEscape_9 (by decide) (by rw [c7] <;> rfl) (by decide) ?_
    refine lv_bipush (v := 10) hx hb dX7_readEscape_100 (by decide) ?_
    obtain rfl := Option.some.inj hm
    subst hQ0
    exact W.iret (v := 10) hx hb hr (fun t ht hW => ⟨⟨10, t_wrongPlace, rfl, ⟨rfl, rfl⟩, by rw [ht]; exact hP, va_K.moved hW.alike hK, hD⟩, hS.F ht⟩) hS.2.2 dX7_readEscape_102
  have hm := mr_un c7 hm
  by_cases c8 : r1 = 114
  · have hm := mr_if c8 hm
    refine lv_lookup (tgt := 103) hx hb dX7_readEscape_9 (by decide) (by rw [c8] <;> rfl) (by decide) ?_
    refine lv_bipush (v := 13) hx hb dX7_readEscape_103 (by decide) ?_
    obtain rfl := Option.some.inj hm
    subst hQ0
    exact W.iret (v := 13) hx hb hr (fun t ht hW => ⟨⟨13, t_wrongPlace, rfl, ⟨rfl, rfl⟩, by rw [ht]; exact hP, va_K.moved hW.alike hK, hD⟩, hS.F ht⟩) hS.2.2 dX7_readEscape_105
  have hm := mr_un c8 hm
  by_cases c9 : r1 = 116
  · have hm := mr_if c9 hm
    refine lv_lookup (tgt := 106) hx hb dX7_readEscape_9 (by decide) (by rw [c9] <;> rfl) (by decide) ?_
    refine lv_bipush (v := 9) hx hb dX7_readEscape_106 (by decide) ?_
    obtain rfl := Option.some.inj hm
    subst hQ0
    exact W.iret (v := 9) hx hb hr (fun t ht hW => ⟨⟨9, t_wrongPlace, rfl, ⟨rfl, rfl⟩, by rw [ht]; exact hP, va_K.moved hW.alike hK, hD⟩, hS.F ht⟩) hS.2.2 dX7_readEscape_108
  have hm := mr_un c9 hm
  by_cases c10 : r1 = 117
  · have hm := mr_if c10 hm
    refine lv_lookup (tgt := 109) hx hb dX7_readEscape_9 (by decide) (by rw [c10] <;> rfl) (by decide) ?_
    refine lv_goto (tgt := 120) hx hb dX7_readEscape_109 (by decide) ?_
    refine lv_iconst (v := 0) hx hb dX7_readEscape_120 (by decide) ?_
    refine lv_istore_n (lv' := [(3, .int 0), (2, .int r1), (0, .ref obT), (1, .int a0)]) hx hb dX7_readEscape_121 rfl hl (by decide) rfl (fun ls hl => ?_)
    refine lv_iload_n hx hb dX7_readEscape_122 rfl (lv_at hl 3 rfl) ?_
    refine lv_iconst (v := 2) hx hb dX7_readEscape_123 (by decide) ?_
    refine lv_iadd hx hb dX7_readEscape_124 ?_
    have j127 : ∀ (n127 : Nat) (t_wrongPlace : Int32) (x1 : Int32) (x3 : Int32) (x4 : Int32) (H : Heap) (locs : List Loc) (ls : Array Slot), va_P (dC, dI) srCl [(obT, .inr (9, [.ref tq_tape, .ref tq_said, .ref tq_inner, .ref tq_next, .ref tq_amount, .ref obK, .int t_length, .int t_wrongPlace])), (tq_tape, .inl (cB, 4096, .inl t_tape))] H → va_D A [(obT, .inr (9, [.ref tq_tape, .ref tq_said, .ref tq_inner, .ref tq_next, .ref tq_amount, .ref obK, .int t_length, .int t_wrongPlace])), (tq_tape, .inl (cB, 4096, .inl t_tape))] → va_S A s.heap H locs → lv_has ls 6 [(0, .ref obT), (1, .int x1), (3, .int x3), (4, .int x4)] → m_X7_readEscape_127 t_tape t_length n127 t_wrongPlace x1 x3 x4 = some res → W p l e (headSpec wsX7_readEscape (rmX7_readEscape 0 0)).room s m [.ref obT, .int a0].toArray below meth c H locs 0 0 Q0 (F0 m 127 ls []) := by
      intro n127
      induction n127 with
      | zero => intro t_wrongPlace x1 x3 x4 H locs ls hP hD hS hl hm; exact nomatch (show (none : Option _) = some res from hm)
      | succ n127 ih127 =>
        intro t_wrongPlace x1 x3 x4 H locs ls hP hD hS hl hm
        rw [m_X7_readEscape_127] at hm
        refine lv_iload hx hb dX7_readEscape_127 (lv_at hl 3 rfl) ?_
        refine lv_iload_n hx hb dX7_readEscape_129 rfl (lv_at hl 1 rfl) ?_
        refine lv_bipush (v := 6) hx hb dX7_readEscape_130 (by decide) ?_
        refine lv_iadd hx hb dX7_readEscape_132 ?_
        refine lv_icmp_ge (tgt := 174) hx hb dX7_readEscape_133 (by decide) (fun c11 => ?_) (fun c11 => ?_)
        · have hm := mr_if c11 hm
          refine lv_iload_n hx hb dX7_readEscape_174 rfl (lv_at hl 2 rfl) ?_
          refine lv_sipush (v := 255) hx hb dX7_readEscape_175 (by decide) ?_
          refine lv_icmp_le (tgt := 189) hx hb dX7_readEscape_178 (by decide) (fun c12 => ?_) (fun c12 => ?_)
          · have hm := mr_if c12 hm
            refine lv_iload_n hx hb dX7_readEscape_189 rfl (lv_at hl 2 rfl) ?_
            obtain rfl := Option.some.inj hm
            subst hQ0
            exact W.iret (v := x3) hx hb hr (fun t ht hW => ⟨⟨x3, t_wrongPlace, rfl, ⟨rfl, rfl⟩, by rw [ht]; exact hP, va_K.moved hW.alike hK, hD⟩, hS.F ht⟩) hS.2.2 dX7_readEscape_190
          · have hm := mr_un c12 hm
            refine lv_aload_n hx hb dX7_readEscape_181 rfl (lv_at hl 0 rfl) ?_
            refine lv_iload_n hx hb dX7_readEscape_182 rfl (lv_at hl 1 rfl) ?_
            obtain ⟨⟨r13, t_wrongPlace_13⟩, hz13, hm⟩ := mr_bind hm
            try dsimp only at hm
            refine mr_wVi (As := [.int x1]) (rest := []) (sr_okZ adK adV) ⟨hx, hb, hml, hown, hts⟩ (kX7_refuse l htr dC dI adK adV cI cB cJ cZ cQ obT tq_tape tq_said tq_inner tq_next tq_amount obK t_length t_wrongPlace _ x1 _ hz13) (cwV 1 hts (g7_94 _) rfl rfl rfl (by decide +kernel) ⟨(by show 0 + 1 ≤ 1; omega), (by show 8 + (2 + 11) + (0) ≤ 21; omega)⟩) hS hA hP hD hK hz0 (wr := [(tq_tape, .inl (cB, 4096, .inl t_tape))]) (w1 := [(obT, .inr (9, [.ref tq_tape, .ref tq_said, .ref tq_inner, .ref tq_next, .ref tq_amount, .ref obK, .int t_length, .int t_wrongPlace_13])), (tq_tape, .inl (cB, 4096, .inl t_tape))]) [0] [1] [1, 0] rfl rfl rfl rfl rfl (by decide) rfl rfl rfl (va_recv hK hP (ci := 9) (q0 := 0) rfl rfl) rfl rfl hl.1 (Nat.le_of_ble_eq_true rfl) dX7_readEscape_183 ⟨Nat.zero_le _, Nat.zero_le _⟩ (fun H locs hP hD hS => ?_)
            refine lv_goto (tgt := 190) hx hb dX7_readEscape_186 (by decide) ?_
            obtain rfl := Option.some.inj hm
            subst hQ0
            exact W.iret (v := r13) hx hb hr (fun t ht hW => ⟨⟨r13, t_wrongPlace_13, rfl, ⟨rfl, rfl⟩, by rw [ht]; exact hP, va_K.moved hW.alike hK, hD⟩, hS.F ht⟩) hS.2.2 dX7_readEscape_190
        · have hm := mr_un c11 hm
          refine lv_aload_n hx hb dX7_readEscape_136 rfl (lv_at hl 0 rfl) ?_
          refine lv_iload hx hb dX7_readEscape_137 (lv_at hl 3 rfl) ?_
          obtain ⟨r14, hz14, hm⟩ := mr_bind hm
          refine mr_pV (As := [.int x4]) (rest := []) (sr_okZ adK adV) ⟨hx, hb, hml, hown, hts⟩ (kX7_byteAt l htr dC dI adK adV cI cB cJ cZ cQ obT tq_tape tq_said tq_inner tq_next tq_amount obK t_length t_wrongPlace t_tape x4 r14 hz14) (cwV 1 hts (g7_42 _) rfl rfl rfl (by decide +kernel) ⟨(by show 0 + 1 ≤ 1; omega), (by show 8 + (2 + 11) + (0) ≤ 21; omega)⟩) hS hP hK hz0 [0, 1] rfl (va_recv hK hP (ci := 9) (q0 := 0) rfl rfl) rfl rfl hl.1 (Nat.le_of_ble_eq_true rfl) dX7_readEscape_139 ⟨Nat.zero_le _, Nat.zero_le _⟩ ?_
          obtain ⟨r15, hz15, hm⟩ := mr_bind hm
          refine mr_pS (As := [.int r14]) (rest := []) (sr_okZ adK adV) ⟨hx, hb, hml, hown, hts⟩ (kX7_hexDigit l htr dC dI adK adV cI cB cJ cZ cQ  r14 r15 hz15) (va_cwS 1 hts (g7_147 _) rfl rfl rfl (by decide +kernel) ⟨(by show 0 + 1 ≤ 1; omega), (by show 8 + (1 + 11) + (0) ≤ 21; omega)⟩) hS hP hK hz0 [] rfl rfl rfl hl.1 (Nat.le_of_ble_eq_true rfl) dX7_readEscape_142 ⟨Nat.zero_le _, Nat.zero_le _⟩ ?_
          refine lv_istore (lv' := [(5, .int r15), (0, .ref obT), (1, .int x1), (3, .int x3), (4, .int x4)]) hx hb dX7_readEscape_145 hl (by decide) rfl (fun ls hl => ?_)
          refine lv_iload hx hb dX7_readEscape_147 (lv_at hl 0 rfl) ?_
          refine lv_iconst (v := -1) hx hb dX7_readEscape_149 (by decide) ?_
          refine lv_icmp_ne (tgt := 160) hx hb dX7_readEscape_150 (by decide) (fun c16 => ?_) (fun c16 => ?_)
          · have hm := mr_un c16 hm
            refine lv_iload_n hx hb dX7_readEscape_160 rfl (lv_at hl 3 rfl) ?_
            refine lv_bipush (v := 16) hx hb dX7_readEscape_161 (by decide) ?_
            refine lv_imul hx hb dX7_readEscape_163 ?_
            refine lv_iload hx hb dX7_readEscape_164 (lv_at hl 0 rfl) ?_
            refine lv_iadd hx hb dX7_readEscape_166 ?_
            refine lv_istore_n (lv' := [(3, .int ((x3 * 16) + r15)), (5, .int r15), (0, .ref obT), (1, .int x1), (4, .int x4)]) hx hb dX7_readEscape_167 rfl hl (by decide) rfl (fun ls hl => ?_)
            refine lv_iinc (v := x4 + 1) (lv' := [(4, .int (x4 + 1)), (3, .int ((x3 * 16) + r15)), (5, .int r15), (0, .ref obT), (1, .int x1)]) hx hb dX7_readEscape_168 hl (k := 4) rfl rfl (by decide) rfl (fun ls hl => ?_)
            refine lv_goto (tgt := 127) hx hb dX7_readEscape_171 (by decide) ?_
            exact ih127 t_wrongPlace x1 ((x3 * 16) + r15) (x4 + 1) _ _ ls hP hD hS (lv_sub hl [3, 4, 1, 0] rfl) hm
          · have hm := mr_if c16 hm
            refine lv_aload_n hx hb dX7_readEscape_153 rfl (lv_at hl 1 rfl) ?_
            refine lv_iload hx hb dX7_readEscape_154 (lv_at hl 4 rfl) ?_
            obtain ⟨⟨r17, t_wrongPlace_17⟩, hz17, hm⟩ := mr_bind hm
            try dsimp only at hm
            refine mr_wVi (As := [.int x4]) (rest := []) (sr_okZ adK adV) ⟨hx, hb, hml, hown, hts⟩ (kX7_refuse l htr dC dI adK adV cI cB cJ cZ cQ obT tq_tape tq_said tq_inner tq_next tq_amount obK t_length t_wrongPlace _ x4 _ hz17) (cwV 1 hts (g7_94 _) rfl rfl rfl (by decide +kernel) ⟨(by show 0 + 1 ≤ 1; omega), (by show 8 + (2 + 11) + (0) ≤ 21; omega)⟩) hS hA hP hD hK hz0 (wr := [(tq_tape, .inl (cB, 4096, .inl t_tape))]) (w1 := [(obT, .inr (9, [.ref tq_tape, .ref tq_said, .ref tq_inner, .ref tq_next, .ref tq_amount, .ref obK, .int t_length, .int t_wrongPlace_17])), (tq_tape, .inl (cB, 4096, .inl t_tape))]) [0] [1] [1, 0] rfl rfl rfl rfl rfl (by decide) rfl rfl rfl (va_recv hK hP (ci := 9) (q0 := 0) rfl rfl) rfl rfl hl.1 (Nat.le_of_ble_eq_true rfl) dX7_readEscape_156 ⟨Nat.zero_le _, Nat.zero_le _⟩ (fun H locs hP hD hS => ?_)
            obtain rfl := Option.some.inj hm
            subst hQ0
            exact W.iret (v := r17) hx hb hr (fun t ht hW => ⟨⟨r17, t_wrongPlace_17, rfl, ⟨rfl, rfl⟩, by rw [ht]; exact hP, va_K.moved hW.alike hK, hD⟩, hS.F ht⟩) hS.2.2 dX7_readEscape_159
    refine lv_istore (lv' := [(4, .int (a0 + 2)), (3, .int 0), (2, .int r1), (0, .ref obT), (1, .int a0)]) hx hb dX7_readEscape_125 hl (by decide) rfl (fun ls hl => ?_)
    exact j127 sr_fuel t_wrongPlace a0 0 (a0 + 2) _ _ ls hP hD hS (lv_sub hl [3, 4, 1, 0] rfl) hm
  have hm := mr_un c10 hm
  refine lv_lookup (tgt := 112) (off := 103) hx hb dX7_readEscape_9 (by decide) (by have q0 := (mr_ne c2 (K := 34) (by decide)).symm; have q1 := (mr_ne c3 (K := 47) (by decide)).symm; have q2 := (mr_ne c4 (K := 92) (by decide)).symm; have q3 := (mr_ne c5 (K := 98) (by decide)).symm; have q4 := (mr_ne c6 (K := 102) (by decide)).symm; have q5 := (mr_ne c7 (K := 110) (by decide)).symm; have q6 := (mr_ne c8 (K := 114) (by decide)).symm; have q7 := (mr_ne c9 (K := 116) (by decide)).symm; have q8 := (mr_ne c10 (K := 117) (by decide)).symm; simp [Op.lookupswitch.offset, q0, q1, q2, q3, q4, q5, q6, q7, q8]) (by decide) ?_
  refine lv_aload_n hx hb dX7_readEscape_112 rfl (lv_at hl 1 rfl) ?_
  refine lv_iload_n hx hb dX7_readEscape_113 rfl (lv_at hl 2 rfl) ?_
  refine lv_iconst (v := 1) hx hb dX7_readEscape_114 (by decide) ?_
  refine lv_iadd hx hb dX7_readEscape_115 ?_
  obtain ⟨⟨r18, t_wrongPlace_18⟩, hz18, hm⟩ := mr_bind hm
  try dsimp only at hm
  refine mr_wVi (As := [.int (a0 + 1)]) (rest := []) (sr_okZ adK adV) ⟨hx, hb, hml, hown, hts⟩ (kX7_refuse l htr dC dI adK adV cI cB cJ cZ cQ obT tq_tape tq_said tq_inner tq_next tq_amount obK t_length t_wrongPlace _ (a0 + 1) _ hz18) (cwV 1 hts (g7_94 _) rfl rfl rfl (by decide +kernel) ⟨(by show 0 + 1 ≤ 1; omega), (by show 8 + (2 + 11) + (0) ≤ 21; omega)⟩) hS hA hP hD hK hz0 (wr := [(tq_tape, .inl (cB, 4096, .inl t_tape))]) (w1 := [(obT, .inr (9, [.ref tq_tape, .ref tq_said, .ref tq_inner, .ref tq_next, .ref tq_amount, .ref obK, .int t_length, .int t_wrongPlace_18])), (tq_tape, .inl (cB, 4096, .inl t_tape))]) [0] [1] [1, 0] rfl rfl rfl rfl rfl (by decide) rfl rfl rfl (va_recv hK hP (ci := 9) (q0 := 0) rfl rfl) rfl rfl hl.1 (Nat.le_of_ble_eq_true rfl) dX7_readEscape_116 ⟨Nat.zero_le _, Nat.zero_le _⟩ (fun H locs hP hD hS => ?_)
  obtain rfl := Option.some.inj hm
  subst hQ0
  exact W.iret (v := r18) hx hb hr (fun t ht hW => ⟨⟨r18, t_wrongPlace_18, rfl, ⟨rfl, rfl⟩, by rw [ht]; exact hP, va_K.moved hW.alike hK, hD⟩, hS.F ht⟩) hS.2.2 dX7_readEscape_119
set_option maxHeartbeats 4000000 in
set_option maxRecDepth 100000 in
theorem kX7_isWithinLong (l : Launch) (htr : l.stackTraces = false) (dC : Nat → ClassId) (dI : Nat → Nat → Nat) (adK adV : Nat → Nat) (cI cB cJ cZ cQ : ClassId) (obT tq_tape tq_said tq_inner tq_next tq_amount obK : Nat) (t_length : Int32) (t_wrongPlace : Int32) (t_tape : Nat → Int32) (a0 : Int32) (a1 : Int32) (a2 : Int32) (res : Int32) (hm : m_X7_isWithinLong t_tape t_length a0 a1 a2 = some res) : Met l yX7_isWithinLong wsX7_isWithinLong (rmX7_isWithinLong 0 0) (pcR (sr_Z adK adV) (dC, dI) srCl [(cI, .int), (cB, .byte), (cJ, .long), (cZ, .boolean), (cQ, .object "SchemaReader$Schema")] [.ref obT, .int a0, .int a1, .int a2] [(obT, .inr (9, [.ref tq_tape, .ref tq_said, .ref tq_inner, .ref tq_next, .ref tq_amount, .ref obK, .int t_length, .int t_wrongPlace])), (tq_tape, .inl (cB, 4096, .inl t_tape))]) (k2_QcV (.int res)) 0 0 (fun _ => False) := by
  refine Met.ofW (cc := cX7_isWithinLong) (maxL := 9) (ret := (some .boolean)) (by decide) rfl ?_
  intro p e s m args below meth c s₁ B hml hv
  obtain ⟨rfl, hP, hK, hz0⟩ := hv
  have hx := B.exec
  have hb := B.bytes
  have hr := B.returns
  have hts := atoms_spec (ws := wsX7_isWithinLong) B.pre
  have hown : s.vm.findClass RX7 = some m.cls := findClass_of_methodNamed B.named
  have hlocks := B.notSynchronized
  have hS : va_S (fun _ => False) s.heap s.heap [] := va_S.rf
  generalize hQ0 : MQ below (k2_QcV (.int res)) [.ref obT, .int a0, .int a1, .int a2].toArray s 0 0 (fun _ => False) = Q0
  have hl := lv_entry [.ref obT, .int a0, .int a1, .int a2] (n := 9) (Nat.le_of_ble_eq_true rfl)
  rw [lg_entry_eq]
  generalize (lg_sl [.ref obT, .int a0, .int a1, .int a2] ++ List.replicate (9 - (lg_sl [.ref obT, .int a0, .int a1, .int a2]).length) Slot.unset).toArray = ls at hl ⊢
  have hl : lv_has ls 9 [(0, .ref obT), (1, .int a0), (2, .int a1), (3, .int a2)] := hl
  unfold m_X7_isWithinLong at hm
  refine lv_iload_n hx hb dX7_isWithinLong_0 rfl (lv_at hl 3 rfl) ?_
  have j11 : ∀ (x1 : Int32) (x2 : Int32) (y0 : Int32) (ls : Array Slot), lv_has ls 9 [(0, .ref obT), (1, .int x1), (2, .int x2)] → m_X7_isWithinLong_11 t_tape t_length x1 x2 y0 = some res → W p l e (headSpec wsX7_isWithinLong (rmX7_isWithinLong 0 0)).room s m [.ref obT, .int a0, .int a1, .int a2].toArray below meth c s.heap [] 0 0 Q0 (F0 m 11 ls [.int y0]) := by
    intro x1 x2 y0 ls hl hm
    unfold m_X7_isWithinLong_11 at hm
    refine lv_istore (lv' := [(4, .int y0), (0, .ref obT), (1, .int x1), (2, .int x2)]) hx hb dX7_isWithinLong_11 hl (by decide) rfl (fun ls hl => ?_)
    refine lv_lconst (v := 0) hx hb dX7_isWithinLong_13 (by decide) ?_
    refine lv_lstore (lv' := [(5, .long 0), (4, .int y0), (0, .ref obT), (1, .int x1), (2, .int x2)]) hx hb dX7_isWithinLong_14 hl (by decide) rfl (fun ls hl => ?_)
    refine lv_iload_n hx hb dX7_isWithinLong_16 rfl (lv_at hl 3 rfl) ?_
    have j19 : ∀ (n19 : Nat) (x2 : Int32) (x4 : Int32) (x5 : Int64) (x7 : Int32) (ls : Array Slot), lv_has ls 9 [(0, .ref obT), (2, .int x2), (4, .int x4), (5, .long x5), (7, .int x7)] → m_X7_isWithinLong_19 t_tape t_length n19 x2 x4 x5 x7 = some res → W p l e (headSpec wsX7_isWithinLong (rmX7_isWithinLong 0 0)).room s m [.ref obT, .int a0, .int a1, .int a2].toArray below meth c s.heap [] 0 0 Q0 (F0 m 19 ls []) := by
      intro n19
      induction n19 with
      | zero => intro x2 x4 x5 x7 ls hl hm; exact nomatch (show (none : Option _) = some res from hm)
      | succ n19 ih19 =>
        intro x2 x4 x5 x7 ls hl hm
        rw [m_X7_isWithinLong_19] at hm
        refine lv_iload hx hb dX7_isWithinLong_19 (lv_at hl 4 rfl) ?_
        refine lv_iload_n hx hb dX7_isWithinLong_21 rfl (lv_at hl 1 rfl) ?_
        refine lv_icmp_ge (tgt := 81) hx hb dX7_isWithinLong_22 (by decide) (fun c1 => ?_) (fun c1 => ?_)
        · have hm := mr_if c1 hm
          refine lv_iconst (v := 1) hx hb dX7_isWithinLong_81 (by decide) ?_
          obtain rfl := Option.some.inj hm
          subst hQ0
          exact W.zret (v := 1) hx hb hr rfl (fun t ht hW => ⟨rfl, ht⟩) (fun q h => by cases h) dX7_isWithinLong_82
        · have hm := mr_un c1 hm
          refine lv_aload_n hx hb dX7_isWithinLong_25 rfl (lv_at hl 0 rfl) ?_
          refine lv_iload hx hb dX7_isWithinLong_26 (lv_at hl 4 rfl) ?_
          obtain ⟨r2, hz2, hm⟩ := mr_bind hm
          refine mr_pV (As := [.int x7]) (rest := []) (sr_okZ adK adV) ⟨hx, hb, hml, hown, hts⟩ (kX7_byteAt l htr dC dI adK adV cI cB cJ cZ cQ obT tq_tape tq_said tq_inner tq_next tq_amount obK t_length t_wrongPlace t_tape x7 r2 hz2) (cwV 1 hts (g7_42 _) rfl rfl rfl (by decide +kernel) ⟨(by show 0 + 1 ≤ 1; omega), (by show 8 + (2 + 11) + (0) ≤ 21; omega)⟩) hS hP hK hz0 [0, 1] rfl (va_recv hK hP (ci := 9) (q0 := 0) rfl rfl) rfl rfl hl.1 (Nat.le_of_ble_eq_true rfl) dX7_isWithinLong_28 ⟨Nat.zero_le _, Nat.zero_le _⟩ ?_
          refine lv_bipush (v := 48) hx hb dX7_isWithinLong_31 (by decide) ?_
          refine lv_isub hx hb dX7_isWithinLong_33 ?_
          refine lv_istore (lv' := [(8, .int (r2 - 48)), (0, .ref obT), (2, .int x2), (4, .int x4), (5, .long x5), (7, .int x7)]) hx hb dX7_isWithinLong_34 hl (by decide) rfl (fun ls hl => ?_)
          refine lv_lload hx hb dX7_isWithinLong_36 (lv_at hl 4 rfl) ?_
          refine lv_ldc2 (v := -922337203685477580) hx hb hown (hts _ (List.mem_cons_of_mem _ wcl7_154)) dX7_isWithinLong_38 ?_
          refine W.lcmp hx hb dX7_isWithinLong_41 ?_
          refine lv_if_lt (tgt := 61) hx hb dX7_isWithinLong_42 (by decide) (fun c3 => ?_) (fun c3 => ?_)
          · have hm := mr_if c3 hm
            refine lv_iconst (v := 0) hx hb dX7_isWithinLong_61 (by decide) ?_
            obtain rfl := Option.some.inj hm
            subst hQ0
            exact W.zret (v := 0) hx hb hr rfl (fun t ht hW => ⟨rfl, ht⟩) (fun q h => by cases h) dX7_isWithinLong_62
          · have hm := mr_un c3 hm
            refine lv_lload hx hb dX7_isWithinLong_45 (lv_at hl 4 rfl) ?_
            refine lv_ldc2 (v := -922337203685477580) hx hb hown (hts _ (List.mem_cons_of_mem _ wcl7_154)) dX7_isWithinLong_47 ?_
            refine W.lcmp hx hb dX7_isWithinLong_50 ?_
            have j63 : ∀ (x2 : Int32) (x4 : Int32) (x5 : Int64) (x7 : Int32) (x8 : Int32) (ls : Array Slot), lv_has ls 9 [(0, .ref obT), (2, .int x2), (4, .int x4), (5, .long x5), (7, .int x7), (8, .int x8)] → m_X7_isWithinLong_63 t_tape t_length (m_X7_isWithinLong_19 t_tape t_length n19) x2 x4 x5 x7 x8 = some res → W p l e (headSpec wsX7_isWithinLong (rmX7_isWithinLong 0 0)).room s m [.ref obT, .int a0, .int a1, .int a2].toArray below meth c s.heap [] 0 0 Q0 (F0 m 63 ls []) := by
              intro x2 x4 x5 x7 x8 ls hl hm
              unfold m_X7_isWithinLong_63 at hm
              refine lv_lload hx hb dX7_isWithinLong_63 (lv_at hl 3 rfl) ?_
              refine lv_ldc2 (v := 10) hx hb hown (hts _ (List.mem_cons_of_mem _ wcl7_82)) dX7_isWithinLong_65 ?_
              refine lv_lmul hx hb dX7_isWithinLong_68 ?_
              refine lv_iload hx hb dX7_isWithinLong_69 (lv_at hl 5 rfl) ?_
              refine lv_i2l hx hb dX7_isWithinLong_71 rfl ?_
              refine lv_lsub hx hb dX7_isWithinLong_72 ?_
              refine lv_lstore (lv' := [(5, .long ((x5 * 10) - ((x8 : Int32).toInt64))), (0, .ref obT), (2, .int x2), (4, .int x4), (7, .int x7), (8, .int x8)]) hx hb dX7_isWithinLong_73 hl (by decide) rfl (fun ls hl => ?_)
              refine lv_iinc (v := x7 + 1) (lv' := [(7, .int (x7 + 1)), (5, .long ((x5 * 10) - ((x8 : Int32).toInt64))), (0, .ref obT), (2, .int x2), (4, .int x4), (8, .int x8)]) hx hb dX7_isWithinLong_75 hl (k := 4) rfl rfl (by decide) rfl (fun ls hl => ?_)
              refine lv_goto (tgt := 19) hx hb dX7_isWithinLong_78 (by decide) ?_
              exact ih19 x2 x4 ((x5 * 10) - ((x8 : Int32).toInt64)) (x7 + 1) ls (lv_sub hl [2, 3, 4, 1, 0] rfl) hm
            refine lv_if_ne (tgt := 63) hx hb dX7_isWithinLong_51 (by decide) (fun c4 => ?_) (fun c4 => ?_)
            · have hm := mr_un c4 hm
              exact j63 x2 x4 x5 x7 (r2 - 48) ls (lv_sub hl [1, 2, 3, 4, 5, 0] rfl) hm
            · have hm := mr_if c4 hm
              refine lv_iload hx hb dX7_isWithinLong_54 (lv_at hl 0 rfl) ?_
              refine lv_iload hx hb dX7_isWithinLong_56 (lv_at hl 3 rfl) ?_
              refine lv_icmp_le (tgt := 63) hx hb dX7_isWithinLong_58 (by decide) (fun c5 => ?_) (fun c5 => ?_)
              · have hm := mr_if c5 hm
                exact j63 x2 x4 x5 x7 (r2 - 48) ls (lv_sub hl [1, 2, 3, 4, 5, 0] rfl) hm
              · have hm := mr_un c5 hm
                refine lv_iconst (v := 0) hx hb dX7_isWithinLong_61 (by decide) ?_
                obtain rfl := Option.some.inj hm
                subst hQ0
                exact W.zret (v := 0) hx hb hr rfl (fun t ht hW => ⟨rfl, ht⟩) (fun q h => by cases h) dX7_isWithinLong_62
    refine lv_istore (lv' := [(7, .int x1), (5, .long 0), (4, .int y0), (0, .ref obT), (1, .int x1), (2, .int x2)]) hx hb dX7_isWithinLong_17 hl (by decide) rfl (fun ls hl => ?_)
    exact j19 sr_fuel x2 y0 0 x1 ls (lv_sub hl [3, 5, 2, 1, 0] rfl) hm
  refine lv_if_eq (tgt := 9) hx hb dX7_isWithinLong_1 (by decide) (fun c6 => ?_) (fun c6 => ?_)
  · have hm := mr_if c6 hm
    refine lv_bipush (v := 7) hx hb dX7_isWithinLong_9 (by decide) ?_
    exact j11 a0 a1 7 ls (lv_sub hl [0, 1, 2] rfl) hm
  · have hm := mr_un c6 hm
    refine lv_bipush (v := 8) hx hb dX7_isWithinLong_4 (by decide) ?_
    refine lv_goto (tgt := 11) hx hb dX7_isWithinLong_6 (by decide) ?_
    exact j11 a0 a1 8 ls (lv_sub hl [0, 1, 2] rfl) hm
set_option maxHeartbeats 4000000 in
set_option maxRecDepth 100000 in
theorem kX7_readNumber (l : Launch) (htr : l.stackTraces = false) (dC : Nat → ClassId) (dI : Nat → Nat → Nat) (adK adV : Nat → Nat) (cI cB cJ cZ cQ : ClassId) (obT tq_tape tq_said tq_inner tq_next tq_amount obK : Nat) (t_length : Int32) (t_wrongPlace : Int32) (t_tape : Nat → Int32) (sz : Nat) (a0 : Int32) (res : Int32 × Int32) (hm : m_X7_readNumber t_tape t_length t_wrongPlace a0 = some res) : Met l yX7_readNumber wsX7_readNumber (rmX7_readNumber 0 0) (pcW (sr_Z adK adV) (dC, dI) srCl [(cI, .int), (cB, .byte), (cJ, .long), (cZ, .boolean), (cQ, .object "SchemaReader$Schema")] [.ref obT, .int a0] [(obT, .inr (9, [.ref tq_tape, .ref tq_said, .ref tq_inner, .ref tq_next, .ref tq_amount, .ref obK, .int t_length, .int t_wrongPlace])), (tq_tape, .inl (cB, 4096, .inl t_tape))] sz) (va_Qi (fun r' u' => r' = res.1 ∧ u' = res.2) (pcB (dC, dI) srCl [(cI, .int), (cB, .byte), (cJ, .long), (cZ, .boolean), (cQ, .object "SchemaReader$Schema")] (fun u : Int32 => [(obT, .inr (9, [.ref tq_tape, .ref tq_said, .ref tq_inner, .ref tq_next, .ref tq_amount, .ref obK, .int t_length, .int u])), (tq_tape, .inl (cB, 4096, .inl t_tape))]) (va_A [(obT, .inr (9, [.ref tq_tape, .ref tq_said, .ref tq_inner, .ref tq_next, .ref tq_amount, .ref obK, .int t_length, .int t_wrongPlace])), (tq_tape, .inl (cB, 4096, .inl t_tape))] sz)) (va_A [(obT, .inr (9, [.ref tq_tape, .ref tq_said, .ref tq_inner, .ref tq_next, .ref tq_amount, .ref obK, .int t_length, .int t_wrongPlace])), (tq_tape, .inl (cB, 4096, .inl t_tape))] sz)) 0 0 (va_A [(obT, .inr (9, [.ref tq_tape, .ref tq_said, .ref tq_inner, .ref tq_next, .ref tq_amount, .ref obK, .int t_length, .int t_wrongPlace])), (tq_tape, .inl (cB, 4096, .inl t_tape))] sz) := by
  refine Met.ofW (cc := cX7_readNumber) (maxL := 5) (ret := (some .int)) (by decide) rfl ?_
  intro p e s m args below meth c s₁ B hml hv
  obtain ⟨rfl, hsz, hP, hK, hD0, hz0⟩ := hv
  have hx := B.exec
  have hb := B.bytes
  have hr := B.returns
  have hts := atoms_spec (ws := wsX7_readNumber) B.pre
  have hown : s.vm.findClass RX7 = some m.cls := findClass_of_methodNamed B.named
  have hlocks := B.notSynchronized
  subst hsz
  have hD := hD0.self (sz := s.heap.size)
  generalize hAe : va_A [(obT, .inr (9, [.ref tq_tape, .ref tq_said, .ref tq_inner, .ref tq_next, .ref tq_amount, .ref obK, .int t_length, .int t_wrongPlace])), (tq_tape, .inl (cB, 4096, .inl t_tape))] s.heap.size = A at hD hz0 ⊢
  have hA : ∀ q : Nat, s.heap.size ≤ q → A q := fun q h => by rw [← hAe]; exact Or.inr h
  have hS : va_S A s.heap s.heap [] := va_S.rf
  generalize hQ0 : MQ below (va_Qi (fun r' u' => r' = res.1 ∧ u' = res.2) (pcB (dC, dI) srCl [(cI, .int), (cB, .byte), (cJ, .long), (cZ, .boolean), (cQ, .object "SchemaReader$Schema")] (fun u : Int32 => [(obT, .inr (9, [.ref tq_tape, .ref tq_said, .ref tq_inner, .ref tq_next, .ref tq_amount, .ref obK, .int t_length, .int u])), (tq_tape, .inl (cB, 4096, .inl t_tape))]) A) A) [.ref obT, .int a0].toArray s 0 0 A = Q0
  have hl := lv_entry [.ref obT, .int a0] (n := 5) (Nat.le_of_ble_eq_true rfl)
  rw [lg_entry_eq]
  generalize (lg_sl [.ref obT, .int a0] ++ List.replicate (5 - (lg_sl [.ref obT, .int a0]).length) Slot.unset).toArray = ls at hl ⊢
  have hl : lv_has ls 5 [(0, .ref obT), (1, .int a0)] := hl
  unfold m_X7_readNumber at hm
  refine lv_aload_n hx hb dX7_readNumber_0 rfl (lv_at hl 0 rfl) ?_
  refine lv_iload_n hx hb dX7_readNumber_1 rfl (lv_at hl 1 rfl) ?_
  obtain ⟨r1, hz1, hm⟩ := mr_bind hm
  refine mr_pV (As := [.int a0]) (rest := []) (sr_okZ adK adV) ⟨hx, hb, hml, hown, hts⟩ (kX7_byteAt l htr dC dI adK adV cI cB cJ cZ cQ obT tq_tape tq_said tq_inner tq_next tq_amount obK t_length t_wrongPlace t_tape a0 r1 hz1) (cwV 1 hts (g7_42 _) rfl rfl rfl (by decide +kernel) ⟨(by show 0 + 1 ≤ 2; omega), (by show 8 + (2 + 11) + (0) ≤ 49; omega)⟩) hS hP hK hz0 [0, 1] rfl (va_recv hK hP (ci := 9) (q0 := 0) rfl rfl) rfl rfl hl.1 (Nat.le_of_ble_eq_true rfl) dX7_readNumber_2 ⟨Nat.zero_le _, Nat.zero_le _⟩ ?_
  refine lv_bipush (v := 45) hx hb dX7_readNumber_5 (by decide) ?_
  have j15 : ∀ (t_wrongPlace : Int32) (x1 : Int32) (y0 : Int32) (H : Heap) (locs : List Loc) (ls : Array Slot), va_P (dC, dI) srCl [(obT, .inr (9, [.ref tq_tape, .ref tq_said, .ref tq_inner, .ref tq_next, .ref tq_amount, .ref obK, .int t_length, .int t_wrongPlace])), (tq_tape, .inl (cB, 4096, .inl t_tape))] H → va_D A [(obT, .inr (9, [.ref tq_tape, .ref tq_said, .ref tq_inner, .ref tq_next, .ref tq_amount, .ref obK, .int t_length, .int t_wrongPlace])), (tq_tape, .inl (cB, 4096, .inl t_tape))] → va_S A s.heap H locs → lv_has ls 5 [(0, .ref obT), (1, .int x1)] → m_X7_readNumber_15 t_tape t_length t_wrongPlace x1 y0 = some res → W p l e (headSpec wsX7_readNumber (rmX7_readNumber 0 0)).room s m [.ref obT, .int a0].toArray below meth c H locs 0 0 Q0 (F0 m 15 ls [.int y0]) := by
    intro t_wrongPlace x1 y0 H locs ls hP hD hS hl hm
    unfold m_X7_readNumber_15 at hm
    refine lv_istore_n (lv' := [(2, .int y0), (0, .ref obT), (1, .int x1)]) hx hb dX7_readNumber_15 rfl hl (by decide) rfl (fun ls hl => ?_)
    refine lv_iload_n hx hb dX7_readNumber_16 rfl (lv_at hl 0 rfl) ?_
    have j27 : ∀ (t_wrongPlace : Int32) (x1 : Int32) (x2 : Int32) (y0 : Int32) (H : Heap) (locs : List Loc) (ls : Array Slot), va_P (dC, dI) srCl [(obT, .inr (9, [.ref tq_tape, .ref tq_said, .ref tq_inner, .ref tq_next, .ref tq_amount, .ref obK, .int t_length, .int t_wrongPlace])), (tq_tape, .inl (cB, 4096, .inl t_tape))] H → va_D A [(obT, .inr (9, [.ref tq_tape, .ref tq_said, .ref tq_inner, .ref tq_next, .ref tq_amount, .ref obK, .int t_length, .int t_wrongPlace])), (tq_tape, .inl (cB, 4096, .inl t_tape))] → va_S A s.heap H locs → lv_has ls 5 [(0, .ref obT), (1, .int x1), (2, .int x2)] → m_X7_readNumber_27 t_tape t_length t_wrongPlace x1 x2 y0 = some res → W p l e (headSpec wsX7_readNumber (rmX7_readNumber 0 0)).room s m [.ref obT, .int a0].toArray below meth c H locs 0 0 Q0 (F0 m 27 ls [.int y0]) := by
      intro t_wrongPlace x1 x2 y0 H locs ls hP hD hS hl hm
      unfold m_X7_readNumber_27 at hm
      refine lv_istore_n (lv' := [(3, .int y0), (0, .ref obT), (1, .int x1), (2, .int x2)]) hx hb dX7_readNumber_27 rfl hl (by decide) rfl (fun ls hl => ?_)
      refine lv_aload_n hx hb dX7_readNumber_28 rfl (lv_at hl 1 rfl) ?_
      refine lv_iload_n hx hb dX7_readNumber_29 rfl (lv_at hl 0 rfl) ?_
      obtain ⟨r2, hz2, hm⟩ := mr_bind hm
      refine mr_pV (As := [.int y0]) (rest := []) (sr_okZ adK adV) ⟨hx, hb, hml, hown, hts⟩ (kX7_byteAt l htr dC dI adK adV cI cB cJ cZ cQ obT tq_tape tq_said tq_inner tq_next tq_amount obK t_length t_wrongPlace t_tape y0 r2 hz2) (cwV 1 hts (g7_42 _) rfl rfl rfl (by decide +kernel) ⟨(by show 0 + 1 ≤ 2; omega), (by show 8 + (2 + 11) + (0) ≤ 49; omega)⟩) hS hP hK hz0 [0, 1] rfl (va_recv hK hP (ci := 9) (q0 := 0) rfl rfl) rfl rfl hl.1 (Nat.le_of_ble_eq_true rfl) dX7_readNumber_30 ⟨Nat.zero_le _, Nat.zero_le _⟩ ?_
      obtain ⟨r3, hz3, hm⟩ := mr_bind hm
      refine mr_pSN (As := [.int r2]) (rest := []) (sr_okZ adK adV) ⟨hx, hb, hml, hown, hts⟩ (kX8_isDigit l htr dC dI adK adV cI cB cJ cZ cQ  r2 r3 hz3) (sr_cnS 1 hts rfl gn7_46.1 (hz0.2.2.2.2.2.2.1 _ gn7_46.2) rfl rfl (by decide +kernel) ⟨(by show 0 + 1 ≤ 2; omega), (by show 8 + (1 + 11) + (0) ≤ 49; omega)⟩) hS hP hK hz0 [] rfl rfl rfl hl.1 (Nat.le_of_ble_eq_true rfl) dX7_readNumber_33 ⟨Nat.zero_le _, Nat.zero_le _⟩ ?_
      refine lv_if_ne (tgt := 45) hx hb dX7_readNumber_36 (by decide) (fun c4 => ?_) (fun c4 => ?_)
      · have hm := mr_un c4 hm
        refine lv_iload_n hx hb dX7_readNumber_45 rfl (lv_at hl 0 rfl) ?_
        refine lv_iconst (v := 1) hx hb dX7_readNumber_46 (by decide) ?_
        refine lv_iadd hx hb dX7_readNumber_47 ?_
        refine lv_istore (lv' := [(4, .int (y0 + 1)), (3, .int y0), (0, .ref obT), (1, .int x1), (2, .int x2)]) hx hb dX7_readNumber_48 hl (by decide) rfl (fun ls hl => ?_)
        refine lv_aload_n hx hb dX7_readNumber_50 rfl (lv_at hl 2 rfl) ?_
        refine lv_iload_n hx hb dX7_readNumber_51 rfl (lv_at hl 1 rfl) ?_
        obtain ⟨r5, hz5, hm⟩ := mr_bind hm
        refine mr_pV (As := [.int y0]) (rest := []) (sr_okZ adK adV) ⟨hx, hb, hml, hown, hts⟩ (kX7_byteAt l htr dC dI adK adV cI cB cJ cZ cQ obT tq_tape tq_said tq_inner tq_next tq_amount obK t_length t_wrongPlace t_tape y0 r5 hz5) (cwV 1 hts (g7_42 _) rfl rfl rfl (by decide +kernel) ⟨(by show 0 + 1 ≤ 2; omega), (by show 8 + (2 + 11) + (0) ≤ 49; omega)⟩) hS hP hK hz0 [0, 1] rfl (va_recv hK hP (ci := 9) (q0 := 0) rfl rfl) rfl rfl hl.1 (Nat.le_of_ble_eq_true rfl) dX7_readNumber_52 ⟨Nat.zero_le _, Nat.zero_le _⟩ ?_
        refine lv_bipush (v := 48) hx hb dX7_readNumber_55 (by decide) ?_
        have j87 : ∀ (t_wrongPlace : Int32) (x1 : Int32) (x2 : Int32) (x3 : Int32) (x4 : Int32) (H : Heap) (locs : List Loc) (ls : Array Slot), va_P (dC, dI) srCl [(obT, .inr (9, [.ref tq_tape, .ref tq_said, .ref tq_inner, .ref tq_next, .ref tq_amount, .ref obK, .int t_length, .int t_wrongPlace])), (tq_tape, .inl (cB, 4096, .inl t_tape))] H → va_D A [(obT, .inr (9, [.ref tq_tape, .ref tq_said, .ref tq_inner, .ref tq_next, .ref tq_amount, .ref obK, .int t_length, .int t_wrongPlace])), (tq_tape, .inl (cB, 4096, .inl t_tape))] → va_S A s.heap H locs → lv_has ls 5 [(0, .ref obT), (1, .int x1), (2, .int x2), (3, .int x3), (4, .int x4)] → m_X7_readNumber_87 t_tape t_length t_wrongPlace x1 x2 x3 x4 = some res → W p l e (headSpec wsX7_readNumber (rmX7_readNumber 0 0)).room s m [.ref obT, .int a0].toArray below meth c H locs 0 0 Q0 (F0 m 87 ls []) := by
          intro t_wrongPlace x1 x2 x3 x4 H locs ls hP hD hS hl hm
          unfold m_X7_readNumber_87 at hm
          refine lv_aload_n hx hb dX7_readNumber_87 rfl (lv_at hl 0 rfl) ?_
          refine lv_iload_n hx hb dX7_readNumber_88 rfl (lv_at hl 3 rfl) ?_
          refine lv_iload hx hb dX7_readNumber_89 (lv_at hl 4 rfl) ?_
          refine lv_iload_n hx hb dX7_readNumber_91 rfl (lv_at hl 2 rfl) ?_
          obtain ⟨r6, hz6, hm⟩ := mr_bind hm
          refine mr_pV (As := [.int x3, .int x4, .int x2]) (rest := []) (sr_okZ adK adV) ⟨hx, hb, hml, hown, hts⟩ (kX7_isWithinLong l htr dC dI adK adV cI cB cJ cZ cQ obT tq_tape tq_said tq_inner tq_next tq_amount obK t_length t_wrongPlace t_tape x3 x4 x2 r6 hz6) (cwV 3 hts (g7_150 _) rfl rfl rfl (by decide +kernel) ⟨(by show 1 + 1 ≤ 2; omega), (by show 8 + (9 + 11) + (21) ≤ 49; omega)⟩) hS hP hK hz0 [0, 1] rfl (va_recv hK hP (ci := 9) (q0 := 0) rfl rfl) rfl rfl hl.1 (Nat.le_of_ble_eq_true rfl) dX7_readNumber_92 ⟨Nat.zero_le _, Nat.zero_le _⟩ ?_
          refine lv_if_eq (tgt := 103) hx hb dX7_readNumber_95 (by decide) (fun c7 => ?_) (fun c7 => ?_)
          · have hm := mr_if c7 hm
            refine lv_aload_n hx hb dX7_readNumber_103 rfl (lv_at hl 0 rfl) ?_
            refine lv_iload_n hx hb dX7_readNumber_104 rfl (lv_at hl 1 rfl) ?_
            obtain ⟨⟨r8, t_wrongPlace_8⟩, hz8, hm⟩ := mr_bind hm
            try dsimp only at hm
            refine mr_wVi (As := [.int x1]) (rest := []) (sr_okZ adK adV) ⟨hx, hb, hml, hown, hts⟩ (kX7_refuse l htr dC dI adK adV cI cB cJ cZ cQ obT tq_tape tq_said tq_inner tq_next tq_amount obK t_length t_wrongPlace _ x1 _ hz8) (cwV 1 hts (g7_94 _) rfl rfl rfl (by decide +kernel) ⟨(by show 0 + 1 ≤ 2; omega), (by show 8 + (2 + 11) + (0) ≤ 49; omega)⟩) hS hA hP hD hK hz0 (wr := [(tq_tape, .inl (cB, 4096, .inl t_tape))]) (w1 := [(obT, .inr (9, [.ref tq_tape, .ref tq_said, .ref tq_inner, .ref tq_next, .ref tq_amount, .ref obK, .int t_length, .int t_wrongPlace_8])), (tq_tape, .inl (cB, 4096, .inl t_tape))]) [0] [1] [1, 0] rfl rfl rfl rfl rfl (by decide) rfl rfl rfl (va_recv hK hP (ci := 9) (q0 := 0) rfl rfl) rfl rfl hl.1 (Nat.le_of_ble_eq_true rfl) dX7_readNumber_105 ⟨Nat.zero_le _, Nat.zero_le _⟩ (fun H locs hP hD hS => ?_)
            obtain rfl := Option.some.inj hm
            subst hQ0
            exact W.iret (v := r8) hx hb hr (fun t ht hW => ⟨⟨r8, t_wrongPlace_8, rfl, ⟨rfl, rfl⟩, by rw [ht]; exact hP, va_K.moved hW.alike hK, hD⟩, hS.F ht⟩) hS.2.2 dX7_readNumber_108
          · have hm := mr_un c7 hm
            refine lv_iload hx hb dX7_readNumber_98 (lv_at hl 4 rfl) ?_
            refine lv_goto (tgt := 108) hx hb dX7_readNumber_100 (by decide) ?_
            obtain rfl := Option.some.inj hm
            subst hQ0
            exact W.iret (v := x4) hx hb hr (fun t ht hW => ⟨⟨x4, t_wrongPlace, rfl, ⟨rfl, rfl⟩, by rw [ht]; exact hP, va_K.moved hW.alike hK, hD⟩, hS.F ht⟩) hS.2.2 dX7_readNumber_108
        have j60 : ∀ (n60 : Nat) (t_wrongPlace : Int32) (x1 : Int32) (x2 : Int32) (x3 : Int32) (x4 : Int32) (H : Heap) (locs : List Loc) (ls : Array Slot), va_P (dC, dI) srCl [(obT, .inr (9, [.ref tq_tape, .ref tq_said, .ref tq_inner, .ref tq_next, .ref tq_amount, .ref obK, .int t_length, .int t_wrongPlace])), (tq_tape, .inl (cB, 4096, .inl t_tape))] H → va_D A [(obT, .inr (9, [.ref tq_tape, .ref tq_said, .ref tq_inner, .ref tq_next, .ref tq_amount, .ref obK, .int t_length, .int t_wrongPlace])), (tq_tape, .inl (cB, 4096, .inl t_tape))] → va_S A s.heap H locs → lv_has ls 5 [(0, .ref obT), (1, .int x1), (2, .int x2), (3, .int x3), (4, .int x4)] → m_X7_readNumber_60 t_tape t_length n60 t_wrongPlace x1 x2 x3 x4 = some res → W p l e (headSpec wsX7_readNumber (rmX7_readNumber 0 0)).room s m [.ref obT, .int a0].toArray below meth c H locs 0 0 Q0 (F0 m 60 ls []) := by
          intro n60
          induction n60 with
          | zero => intro t_wrongPlace x1 x2 x3 x4 H locs ls hP hD hS hl hm; exact nomatch (show (none : Option _) = some res from hm)
          | succ n60 ih60 =>
            intro t_wrongPlace x1 x2 x3 x4 H locs ls hP hD hS hl hm
            rw [m_X7_readNumber_60] at hm
            refine lv_iload hx hb dX7_readNumber_60 (lv_at hl 4 rfl) ?_
            refine lv_aload_n hx hb dX7_readNumber_62 rfl (lv_at hl 0 rfl) ?_
            refine va_get (D := (dC, dI)) (ci := 9) (v := .int t_length) (C := RX7) (T := TX7) (N := 8) hx hb hts (inX7 _) hown hK hP 0 rfl rfl 6 (by decide) (hts _ (List.mem_cons_of_mem _ wf7_35)) (fun _ h9 => h9) rfl dX7_readNumber_63 ?_
            refine lv_icmp_ge (tgt := 87) hx hb dX7_readNumber_66 (by decide) (fun c9 => ?_) (fun c9 => ?_)
            · have hm := mr_if c9 hm
              exact j87 t_wrongPlace x1 x2 x3 x4 _ _ ls hP hD hS (lv_sub hl [0, 1, 2, 3, 4] rfl) hm
            · have hm := mr_un c9 hm
              refine lv_aload_n hx hb dX7_readNumber_69 rfl (lv_at hl 0 rfl) ?_
              refine lv_iload hx hb dX7_readNumber_70 (lv_at hl 4 rfl) ?_
              obtain ⟨r10, hz10, hm⟩ := mr_bind hm
              refine mr_pV (As := [.int x4]) (rest := []) (sr_okZ adK adV) ⟨hx, hb, hml, hown, hts⟩ (kX7_byteAt l htr dC dI adK adV cI cB cJ cZ cQ obT tq_tape tq_said tq_inner tq_next tq_amount obK t_length t_wrongPlace t_tape x4 r10 hz10) (cwV 1 hts (g7_42 _) rfl rfl rfl (by decide +kernel) ⟨(by show 0 + 1 ≤ 2; omega), (by show 8 + (2 + 11) + (0) ≤ 49; omega)⟩) hS hP hK hz0 [0, 1] rfl (va_recv hK hP (ci := 9) (q0 := 0) rfl rfl) rfl rfl hl.1 (Nat.le_of_ble_eq_true rfl) dX7_readNumber_72 ⟨Nat.zero_le _, Nat.zero_le _⟩ ?_
              obtain ⟨r11, hz11, hm⟩ := mr_bind hm
              refine mr_pSN (As := [.int r10]) (rest := []) (sr_okZ adK adV) ⟨hx, hb, hml, hown, hts⟩ (kX8_isDigit l htr dC dI adK adV cI cB cJ cZ cQ  r10 r11 hz11) (sr_cnS 1 hts rfl gn7_46.1 (hz0.2.2.2.2.2.2.1 _ gn7_46.2) rfl rfl (by decide +kernel) ⟨(by show 0 + 1 ≤ 2; omega), (by show 8 + (1 + 11) + (0) ≤ 49; omega)⟩) hS hP hK hz0 [] rfl rfl rfl hl.1 (Nat.le_of_ble_eq_true rfl) dX7_readNumber_75 ⟨Nat.zero_le _, Nat.zero_le _⟩ ?_
              refine lv_if_eq (tgt := 87) hx hb dX7_readNumber_78 (by decide) (fun c12 => ?_) (fun c12 => ?_)
              · have hm := mr_if c12 hm
                exact j87 t_wrongPlace x1 x2 x3 x4 _ _ ls hP hD hS (lv_sub hl [0, 1, 2, 3, 4] rfl) hm
              · have hm := mr_un c12 hm
                refine lv_iinc (v := x4 + 1) (lv' := [(4, .int (x4 + 1)), (0, .ref obT), (1, .int x1), (2, .int x2), (3, .int x3)]) hx hb dX7_readNumber_81 hl (k := 4) rfl rfl (by decide) rfl (fun ls hl => ?_)
                refine lv_goto (tgt := 60) hx hb dX7_readNumber_84 (by decide) ?_
                exact ih60 t_wrongPlace x1 x2 x3 (x4 + 1) _ _ ls hP hD hS (lv_sub hl [1, 2, 3, 4, 0] rfl) hm
        refine lv_icmp_eq (tgt := 87) hx hb dX7_readNumber_57 (by decide) (fun c13 => ?_) (fun c13 => ?_)
        · have hm := mr_if c13 hm
          exact j87 t_wrongPlace x1 x2 y0 (y0 + 1) _ _ ls hP hD hS (lv_sub hl [2, 3, 4, 1, 0] rfl) hm
        · have hm := mr_un c13 hm
          exact j60 sr_fuel t_wrongPlace x1 x2 y0 (y0 + 1) _ _ ls hP hD hS (lv_sub hl [2, 3, 4, 1, 0] rfl) hm
      · have hm := mr_if c4 hm
        refine lv_aload_n hx hb dX7_readNumber_39 rfl (lv_at hl 1 rfl) ?_
        refine lv_iload_n hx hb dX7_readNumber_40 rfl (lv_at hl 0 rfl) ?_
        obtain ⟨⟨r14, t_wrongPlace_14⟩, hz14, hm⟩ := mr_bind hm
        try dsimp only at hm
        refine mr_wVi (As := [.int y0]) (rest := []) (sr_okZ adK adV) ⟨hx, hb, hml, hown, hts⟩ (kX7_refuse l htr dC dI adK adV cI cB cJ cZ cQ obT tq_tape tq_said tq_inner tq_next tq_amount obK t_length t_wrongPlace _ y0 _ hz14) (cwV 1 hts (g7_94 _) rfl rfl rfl (by decide +kernel) ⟨(by show 0 + 1 ≤ 2; omega), (by show 8 + (2 + 11) + (0) ≤ 49; omega)⟩) hS hA hP hD hK hz0 (wr := [(tq_tape, .inl (cB, 4096, .inl t_tape))]) (w1 := [(obT, .inr (9, [.ref tq_tape, .ref tq_said, .ref tq_inner, .ref tq_next, .ref tq_amount, .ref obK, .int t_length, .int t_wrongPlace_14])), (tq_tape, .inl (cB, 4096, .inl t_tape))]) [0] [1] [1, 0] rfl rfl rfl rfl rfl (by decide) rfl rfl rfl (va_recv hK hP (ci := 9) (q0 := 0) rfl rfl) rfl rfl hl.1 (Nat.le_of_ble_eq_true rfl) dX7_readNumber_41 ⟨Nat.zero_le _, Nat.zero_le _⟩ (fun H locs hP hD hS => ?_)
        obtain rfl := Option.some.inj hm
        subst hQ0
        exact W.iret (v := r14) hx hb hr (fun t ht hW => ⟨⟨r14, t_wrongPlace_14, rfl, ⟨rfl, rfl⟩, by rw [ht]; exact hP, va_K.moved hW.alike hK, hD⟩, hS.F ht⟩) hS.2.2 dX7_readNumber_44
    refine lv_if_eq (tgt := 26) hx hb dX7_readNumber_17 (by decide) (fun c15 => ?_) (fun c15 => ?_)
    · have hm := mr_if c15 hm
      refine lv_iload_n hx hb dX7_readNumber_26 rfl (lv_at hl 2 rfl) ?_
      exact j27 t_wrongPlace x1 y0 x1 _ _ ls hP hD hS (lv_sub hl [1, 2, 0] rfl) hm
    · have hm := mr_un c15 hm
      refine lv_iload_n hx hb dX7_readNumber_20 rfl (lv_at hl 2 rfl) ?_
      refine lv_iconst (v := 1) hx hb dX7_readNumber_21 (by decide) ?_
      refine lv_iadd hx hb dX7_readNumber_22 ?_
      refine lv_goto (tgt := 27) hx hb dX7_readNumber_23 (by decide) ?_
      exact j27 t_wrongPlace x1 y0 (x1 + 1) _ _ ls hP hD hS (lv_sub hl [1, 2, 0] rfl) hm
  refine lv_icmp_ne (tgt := 14) hx hb dX7_readNumber_7 (by decide) (fun c16 => ?_) (fun c16 => ?_)
  · have hm := mr_un c16 hm
    refine lv_iconst (v := 0) hx hb dX7_readNumber_14 (by decide) ?_
    exact j15 t_wrongPlace a0 0 _ _ ls hP hD hS (lv_sub hl [0, 1] rfl) hm
  · have hm := mr_if c16 hm
    refine lv_iconst (v := 1) hx hb dX7_readNumber_10 (by decide) ?_
    refine lv_goto (tgt := 15) hx hb dX7_readNumber_11 (by decide) ?_
    exact j15 t_wrongPlace a0 1 _ _ ls hP hD hS (lv_sub hl [0, 1] rfl) hm
set_option maxHeartbeats 4000000 in
set_option maxRecDepth 100000 in
theorem kX7_readWord (l : Launch) (htr : l.stackTraces = false) (dC : Nat → ClassId) (dI : Nat → Nat → Nat) (adK adV : Nat → Nat) (cI cB cJ cZ cQ : ClassId) (obT tq_tape tq_said tq_inner tq_next tq_amount obK : Nat) (t_length : Int32) (t_wrongPlace : Int32) (t_tape : Nat → Int32) (sz : Nat) (a0 : Int32) (a1 : Nat) (res : Int32 × Int32) (hm : m_X7_readWord t_tape t_length t_wrongPlace a0 a1 = some res) : Met l yX7_readWord wsX7_readWord (rmX7_readWord 0 0) (pcW (sr_Z adK adV) (dC, dI) srCl [(cI, .int), (cB, .byte), (cJ, .long), (cZ, .boolean), (cQ, .object "SchemaReader$Schema")] [.ref obT, .int a0, .ref (adK a1)] [(obT, .inr (9, [.ref tq_tape, .ref tq_said, .ref tq_inner, .ref tq_next, .ref tq_amount, .ref obK, .int t_length, .int t_wrongPlace])), (tq_tape, .inl (cB, 4096, .inl t_tape))] sz) (va_Qi (fun r' u' => r' = res.1 ∧ u' = res.2) (pcB (dC, dI) srCl [(cI, .int), (cB, .byte), (cJ, .long), (cZ, .boolean), (cQ, .object "SchemaReader$Schema")] (fun u : Int32 => [(obT, .inr (9, [.ref tq_tape, .ref tq_said, .ref tq_inner, .ref tq_next, .ref tq_amount, .ref obK, .int t_length, .int u])), (tq_tape, .inl (cB, 4096, .inl t_tape))]) (va_A [(obT, .inr (9, [.ref tq_tape, .ref tq_said, .ref tq_inner, .ref tq_next, .ref tq_amount, .ref obK, .int t_length, .int t_wrongPlace])), (tq_tape, .inl (cB, 4096, .inl t_tape))] sz)) (va_A [(obT, .inr (9, [.ref tq_tape, .ref tq_said, .ref tq_inner, .ref tq_next, .ref tq_amount, .ref obK, .int t_length, .int t_wrongPlace])), (tq_tape, .inl (cB, 4096, .inl t_tape))] sz)) 0 0 (va_A [(obT, .inr (9, [.ref tq_tape, .ref tq_said, .ref tq_inner, .ref tq_next, .ref tq_amount, .ref obK, .int t_length, .int t_wrongPlace])), (tq_tape, .inl (cB, 4096, .inl t_tape))] sz) := by
  refine Met.ofW (cc := cX7_readWord) (maxL := 4) (ret := (some .int)) (by decide) rfl ?_
  intro p e s m args below meth c s₁ B hml hv
  obtain ⟨rfl, hsz, hP, hK, hD0, hz0⟩ := hv
  have hx := B.exec
  have hb := B.bytes
  have hr := B.returns
  have hts := atoms_spec (ws := wsX7_readWord) B.pre
  have hown : s.vm.findClass RX7 = some m.cls := findClass_of_methodNamed B.named
  have hlocks := B.notSynchronized
  subst hsz
  have hD := hD0.self (sz := s.heap.size)
  generalize hAe : va_A [(obT, .inr (9, [.ref tq_tape, .ref tq_said, .ref tq_inner, .ref tq_next, .ref tq_amount, .ref obK, .int t_length, .int t_wrongPlace])), (tq_tape, .inl (cB, 4096, .inl t_tape))] s.heap.size = A at hD hz0 ⊢
  have hA : ∀ q : Nat, s.heap.size ≤ q → A q := fun q h => by rw [← hAe]; exact Or.inr h
  have hS : va_S A s.heap s.heap [] := va_S.rf
  generalize hQ0 : MQ below (va_Qi (fun r' u' => r' = res.1 ∧ u' = res.2) (pcB (dC, dI) srCl [(cI, .int), (cB, .byte), (cJ, .long), (cZ, .boolean), (cQ, .object "SchemaReader$Schema")] (fun u : Int32 => [(obT, .inr (9, [.ref tq_tape, .ref tq_said, .ref tq_inner, .ref tq_next, .ref tq_amount, .ref obK, .int t_length, .int u])), (tq_tape, .inl (cB, 4096, .inl t_tape))]) A) A) [.ref obT, .int a0, .ref (adK a1)].toArray s 0 0 A = Q0
  have hl := lv_entry [.ref obT, .int a0, .ref (adK a1)] (n := 4) (Nat.le_of_ble_eq_true rfl)
  rw [lg_entry_eq]
  generalize (lg_sl [.ref obT, .int a0, .ref (adK a1)] ++ List.replicate (4 - (lg_sl [.ref obT, .int a0, .ref (adK a1)]).length) Slot.unset).toArray = ls at hl ⊢
  have hl : lv_has ls 4 [(0, .ref obT), (1, .int a0), (2, .ref (adK a1))] := hl
  unfold m_X7_readWord at hm
  refine lv_iconst (v := 0) hx hb dX7_readWord_0 (by decide) ?_
  have j2 : ∀ (n2 : Nat) (t_wrongPlace : Int32) (x1 : Int32) (x2 : Nat) (x3 : Int32) (H : Heap) (locs : List Loc) (ls : Array Slot), va_P (dC, dI) srCl [(obT, .inr (9, [.ref tq_tape, .ref tq_said, .ref tq_inner, .ref tq_next, .ref tq_amount, .ref obK, .int t_length, .int t_wrongPlace])), (tq_tape, .inl (cB, 4096, .inl t_tape))] H → va_D A [(obT, .inr (9, [.ref tq_tape, .ref tq_said, .ref tq_inner, .ref tq_next, .ref tq_amount, .ref obK, .int t_length, .int t_wrongPlace])), (tq_tape, .inl (cB, 4096, .inl t_tape))] → va_S A s.heap H locs → lv_has ls 4 [(0, .ref obT), (1, .int x1), (2, .ref (adK x2)), (3, .int x3)] → m_X7_readWord_2 t_tape t_length n2 t_wrongPlace x1 x2 x3 = some res → W p l e (headSpec wsX7_readWord (rmX7_readWord 0 0)).room s m [.ref obT, .int a0, .ref (adK a1)].toArray below meth c H locs 0 0 Q0 (F0 m 2 ls []) := by
    intro n2
    induction n2 with
    | zero => intro t_wrongPlace x1 x2 x3 H locs ls hP hD hS hl hm; exact nomatch (show (none : Option _) = some res from hm)
    | succ n2 ih2 =>
      intro t_wrongPlace x1 x2 x3 H locs ls hP hD hS hl hm
      rw [m_X7_readWord_2] at hm
      refine lv_iload_n hx hb dX7_readWord_2 rfl (lv_at hl 3 rfl) ?_
      refine lv_aload_n hx hb dX7_readWord_3 rfl (lv_at hl 2 rfl) ?_
      obtain ⟨h2, hm⟩ := mr_bs hm
      obtain ⟨r1, hz1, hm⟩ := mr_bind hm
      refine mr_pV (As := []) (rest := [.int x3]) (sr_okZ adK adV) ⟨hx, hb, hml, hown, hts⟩ (kX20_length l htr dC dI adK adV cI cB cJ cZ cQ  x2 r1 hz1) (cwV 0 hts (g7_54 _) rfl rfl rfl (by decide +kernel) ⟨(by show 1 + 1 ≤ 4; omega), (by show 8 + (1 + 11) + (20) ≤ 85; omega)⟩) hS hP hK hz0 [] rfl (sr_recv (hz0.1 x2 h2).1.1 hS) rfl rfl hl.1 (Nat.le_of_ble_eq_true rfl) dX7_readWord_4 ⟨Nat.zero_le _, Nat.zero_le _⟩ ?_
      refine lv_icmp_ge (tgt := 39) hx hb dX7_readWord_7 (by decide) (fun c3 => ?_) (fun c3 => ?_)
      · have hm := mr_if c3 hm
        refine lv_iload_n hx hb dX7_readWord_39 rfl (lv_at hl 1 rfl) ?_
        refine lv_aload_n hx hb dX7_readWord_40 rfl (lv_at hl 2 rfl) ?_
        obtain ⟨h5, hm⟩ := mr_bs hm
        obtain ⟨r4, hz4, hm⟩ := mr_bind hm
        refine mr_pV (As := []) (rest := [.int x1]) (sr_okZ adK adV) ⟨hx, hb, hml, hown, hts⟩ (kX20_length l htr dC dI adK adV cI cB cJ cZ cQ  x2 r4 hz4) (cwV 0 hts (g7_54 _) rfl rfl rfl (by decide +kernel) ⟨(by show 1 + 1 ≤ 4; omega), (by show 8 + (1 + 11) + (20) ≤ 85; omega)⟩) hS hP hK hz0 [] rfl (sr_recv (hz0.1 x2 h5).1.1 hS) rfl rfl hl.1 (Nat.le_of_ble_eq_true rfl) dX7_readWord_41 ⟨Nat.zero_le _, Nat.zero_le _⟩ ?_
        refine lv_iadd hx hb dX7_readWord_44 ?_
        obtain rfl := Option.some.inj hm
        subst hQ0
        exact W.iret (v := (x1 + r4)) hx hb hr (fun t ht hW => ⟨⟨(x1 + r4), t_wrongPlace, rfl, ⟨rfl, rfl⟩, by rw [ht]; exact hP, va_K.moved hW.alike hK, hD⟩, hS.F ht⟩) hS.2.2 dX7_readWord_45
      · have hm := mr_un c3 hm
        refine lv_aload_n hx hb dX7_readWord_10 rfl (lv_at hl 0 rfl) ?_
        refine lv_iload_n hx hb dX7_readWord_11 rfl (lv_at hl 1 rfl) ?_
        refine lv_iload_n hx hb dX7_readWord_12 rfl (lv_at hl 3 rfl) ?_
        refine lv_iadd hx hb dX7_readWord_13 ?_
        obtain ⟨r6, hz6, hm⟩ := mr_bind hm
        refine mr_pV (As := [.int (x1 + x3)]) (rest := []) (sr_okZ adK adV) ⟨hx, hb, hml, hown, hts⟩ (kX7_byteAt l htr dC dI adK adV cI cB cJ cZ cQ obT tq_tape tq_said tq_inner tq_next tq_amount obK t_length t_wrongPlace t_tape (x1 + x3) r6 hz6) (cwV 1 hts (g7_42 _) rfl rfl rfl (by decide +kernel) ⟨(by show 0 + 1 ≤ 4; omega), (by show 8 + (2 + 11) + (0) ≤ 85; omega)⟩) hS hP hK hz0 [0, 1] rfl (va_recv hK hP (ci := 9) (q0 := 0) rfl rfl) rfl rfl hl.1 (Nat.le_of_ble_eq_true rfl) dX7_readWord_14 ⟨Nat.zero_le _, Nat.zero_le _⟩ ?_
        refine lv_aload_n hx hb dX7_readWord_17 rfl (lv_at hl 2 rfl) ?_
        refine lv_iload_n hx hb dX7_readWord_18 rfl (lv_at hl 3 rfl) ?_
        obtain ⟨h8, hm⟩ := mr_bs hm
        obtain ⟨r7, hz7, hm⟩ := mr_bind hm
        refine mr_pV (As := [.int x3]) (rest := [.int r6]) (sr_okZ adK adV) ⟨hx, hb, hml, hown, hts⟩ (kX20_charAt l htr dC dI adK adV cI cB cJ cZ cQ  x2 x3 r7 hz7) (cwV 1 hts (g7_62 _) rfl rfl rfl (by decide +kernel) ⟨(by show 3 + 1 ≤ 4; omega), (by show 8 + (2 + 11) + (64) ≤ 85; omega)⟩) hS hP hK hz0 [] rfl (sr_recv (hz0.1 x2 h8).1.1 hS) rfl rfl hl.1 (Nat.le_of_ble_eq_true rfl) dX7_readWord_19 ⟨Nat.zero_le _, Nat.zero_le _⟩ ?_
        refine lv_icmp_eq (tgt := 33) hx hb dX7_readWord_22 (by decide) (fun c9 => ?_) (fun c9 => ?_)
        · have hm := mr_if c9 hm
          refine lv_iinc (v := x3 + 1) (lv' := [(3, .int (x3 + 1)), (0, .ref obT), (1, .int x1), (2, .ref (adK x2))]) hx hb dX7_readWord_33 hl (k := 3) rfl rfl (by decide) rfl (fun ls hl => ?_)
          refine lv_goto (tgt := 2) hx hb dX7_readWord_36 (by decide) ?_
          exact ih2 t_wrongPlace x1 x2 (x3 + 1) _ _ ls hP hD hS (lv_sub hl [1, 2, 3, 0] rfl) hm
        · have hm := mr_un c9 hm
          refine lv_aload_n hx hb dX7_readWord_25 rfl (lv_at hl 0 rfl) ?_
          refine lv_iload_n hx hb dX7_readWord_26 rfl (lv_at hl 1 rfl) ?_
          refine lv_iload_n hx hb dX7_readWord_27 rfl (lv_at hl 3 rfl) ?_
          refine lv_iadd hx hb dX7_readWord_28 ?_
          obtain ⟨⟨r10, t_wrongPlace_10⟩, hz10, hm⟩ := mr_bind hm
          try dsimp only at hm
          refine mr_wVi (As := [.int (x1 + x3)]) (rest := []) (sr_okZ adK adV) ⟨hx, hb, hml, hown, hts⟩ (kX7_refuse l htr dC dI adK adV cI cB cJ cZ cQ obT tq_tape tq_said tq_inner tq_next tq_amount obK t_length t_wrongPlace _ (x1 + x3) _ hz10) (cwV 1 hts (g7_94 _) rfl rfl rfl (by decide +kernel) ⟨(by show 0 + 1 ≤ 4; omega), (by show 8 + (2 + 11) + (0) ≤ 85; omega)⟩) hS hA hP hD hK hz0 (wr := [(tq_tape, .inl (cB, 4096, .inl t_tape))]) (w1 := [(obT, .inr (9, [.ref tq_tape, .ref tq_said, .ref tq_inner, .ref tq_next, .ref tq_amount, .ref obK, .int t_length, .int t_wrongPlace_10])), (tq_tape, .inl (cB, 4096, .inl t_tape))]) [0] [1] [1, 0] rfl rfl rfl rfl rfl (by decide) rfl rfl rfl (va_recv hK hP (ci := 9) (q0 := 0) rfl rfl) rfl rfl hl.1 (Nat.le_of_ble_eq_true rfl) dX7_readWord_29 ⟨Nat.zero_le _, Nat.zero_le _⟩ (fun H locs hP hD hS => ?_)
          obtain rfl := Option.some.inj hm
          subst hQ0
          exact W.iret (v := r10) hx hb hr (fun t ht hW => ⟨⟨r10, t_wrongPlace_10, rfl, ⟨rfl, rfl⟩, by rw [ht]; exact hP, va_K.moved hW.alike hK, hD⟩, hS.F ht⟩) hS.2.2 dX7_readWord_32
  refine lv_istore_n (lv' := [(3, .int 0), (0, .ref obT), (1, .int a0), (2, .ref (adK a1))]) hx hb dX7_readWord_1 rfl hl (by decide) rfl (fun ls hl => ?_)
  exact j2 sr_fuel t_wrongPlace a0 a1 0 _ _ ls hP hD hS (lv_sub hl [1, 2, 3, 0] rfl) hm
set_option maxHeartbeats 4000000 in
set_option maxRecDepth 100000 in
theorem kX7_readString (l : Launch) (htr : l.stackTraces = false) (dC : Nat → ClassId) (dI : Nat → Nat → Nat) (adK adV : Nat → Nat) (cI cB cJ cZ cQ : ClassId) (obT tq_tape tq_said tq_inner tq_next tq_amount obK : Nat) (t_length : Int32) (t_wrongPlace : Int32) (t_tape : Nat → Int32) (t_said : Nat → Int32) (t_amount : Nat → Int32) (sz : Nat) (a0 : Int32) (res : Int32 × (Nat → Int32) × (Nat → Int32) × Int32) (hm : m_X7_readString t_tape t_said t_amount t_length t_wrongPlace a0 = some res) : Met l yX7_readString wsX7_readString (rmX7_readString 0 0) (pcW (sr_Z adK adV) (dC, dI) srCl [(cI, .int), (cB, .byte), (cJ, .long), (cZ, .boolean), (cQ, .object "SchemaReader$Schema")] [.ref obT, .int a0] [(obT, .inr (9, [.ref tq_tape, .ref tq_said, .ref tq_inner, .ref tq_next, .ref tq_amount, .ref obK, .int t_length, .int t_wrongPlace])), (tq_tape, .inl (cB, 4096, .inl t_tape)), (tq_said, .inl (cB, 4096, .inl t_said)), (tq_amount, .inl (cI, 4096, .inl t_amount))] sz) (va_Qi (fun r' u' => r' = res.1 ∧ u' = res.2) (pcB (dC, dI) srCl [(cI, .int), (cB, .byte), (cJ, .long), (cZ, .boolean), (cQ, .object "SchemaReader$Schema")] (fun u : (Nat → Int32) × (Nat → Int32) × Int32 => [(obT, .inr (9, [.ref tq_tape, .ref tq_said, .ref tq_inner, .ref tq_next, .ref tq_amount, .ref obK, .int t_length, .int u.2.2])), (tq_tape, .inl (cB, 4096, .inl t_tape)), (tq_said, .inl (cB, 4096, .inl u.1)), (tq_amount, .inl (cI, 4096, .inl u.2.1))]) (va_A [(obT, .inr (9, [.ref tq_tape, .ref tq_said, .ref tq_inner, .ref tq_next, .ref tq_amount, .ref obK, .int t_length, .int t_wrongPlace])), (tq_tape, .inl (cB, 4096, .inl t_tape)), (tq_said, .inl (cB, 4096, .inl t_said)), (tq_amount, .inl (cI, 4096, .inl t_amount))] sz)) (va_A [(obT, .inr (9, [.ref tq_tape, .ref tq_said, .ref tq_inner, .ref tq_next, .ref tq_amount, .ref obK, .int t_length, .int t_wrongPlace])), (tq_tape, .inl (cB, 4096, .inl t_tape)), (tq_said, .inl (cB, 4096, .inl t_said)), (tq_amount, .inl (cI, 4096, .inl t_amount))] sz)) 0 0 (va_A [(obT, .inr (9, [.ref tq_tape, .ref tq_said, .ref tq_inner, .ref tq_next, .ref tq_amount, .ref obK, .int t_length, .int t_wrongPlace])), (tq_tape, .inl (cB, 4096, .inl t_tape)), (tq_said, .inl (cB, 4096, .inl t_said)), (tq_amount, .inl (cI, 4096, .inl t_amount))] sz) := by
  refine Met.ofW (cc := cX7_readString) (maxL := 5) (ret := (some .int)) (by decide) rfl ?_
  intro p e s m args below meth c s₁ B hml hv
  obtain ⟨rfl, hsz, hP, hK, hD0, hz0⟩ := hv
  have hx := B.exec
  have hb := B.bytes
  have hr := B.returns
  have hts := atoms_spec (ws := wsX7_readString) B.pre
  have hown : s.vm.findClass RX7 = some m.cls := findClass_of_methodNamed B.named
  have hlocks := B.notSynchronized
  subst hsz
  have hD := hD0.self (sz := s.heap.size)
  generalize hAe : va_A [(obT, .inr (9, [.ref tq_tape, .ref tq_said, .ref tq_inner, .ref tq_next, .ref tq_amount, .ref obK, .int t_length, .int t_wrongPlace])), (tq_tape, .inl (cB, 4096, .inl t_tape)), (tq_said, .inl (cB, 4096, .inl t_said)), (tq_amount, .inl (cI, 4096, .inl t_amount))] s.heap.size = A at hD hz0 ⊢
  have hA : ∀ q : Nat, s.heap.size ≤ q → A q := fun q h => by rw [← hAe]; exact Or.inr h
  have hS : va_S A s.heap s.heap [] := va_S.rf
  generalize hQ0 : MQ below (va_Qi (fun r' u' => r' = res.1 ∧ u' = res.2) (pcB (dC, dI) srCl [(cI, .int), (cB, .byte), (cJ, .long), (cZ, .boolean), (cQ, .object "SchemaReader$Schema")] (fun u : (Nat → Int32) × (Nat → Int32) × Int32 => [(obT, .inr (9, [.ref tq_tape, .ref tq_said, .ref tq_inner, .ref tq_next, .ref tq_amount, .ref obK, .int t_length, .int u.2.2])), (tq_tape, .inl (cB, 4096, .inl t_tape)), (tq_said, .inl (cB, 4096, .inl u.1)), (tq_amount, .inl (cI, 4096, .inl u.2.1))]) A) A) [.ref obT, .int a0].toArray s 0 0 A = Q0
  have hl := lv_entry [.ref obT, .int a0] (n := 5) (Nat.le_of_ble_eq_true rfl)
  rw [lg_entry_eq]
  generalize (lg_sl [.ref obT, .int a0] ++ List.replicate (5 - (lg_sl [.ref obT, .int a0]).length) Slot.unset).toArray = ls at hl ⊢
  have hl : lv_has ls 5 [(0, .ref obT), (1, .int a0)] := hl
  unfold m_X7_readString at hm
  refine lv_iconst (v := 0) hx hb dX7_readString_0 (by decide) ?_
  refine lv_istore_n (lv' := [(2, .int 0), (0, .ref obT), (1, .int a0)]) hx hb dX7_readString_1 rfl hl (by decide) rfl (fun ls hl => ?_)
  refine lv_iload_n hx hb dX7_readString_2 rfl (lv_at hl 2 rfl) ?_
  refine lv_iconst (v := 1) hx hb dX7_readString_3 (by decide) ?_
  refine lv_iadd hx hb dX7_readString_4 ?_
  have j6 : ∀ (n6 : Nat) (t_said : Nat → Int32) (t_amount : Nat → Int32) (t_wrongPlace : Int32) (x1 : Int32) (x2 : Int32) (x3 : Int32) (H : Heap) (locs : List Loc) (ls : Array Slot), va_P (dC, dI) srCl [(obT, .inr (9, [.ref tq_tape, .ref tq_said, .ref tq_inner, .ref tq_next, .ref tq_amount, .ref obK, .int t_length, .int t_wrongPlace])), (tq_tape, .inl (cB, 4096, .inl t_tape)), (tq_said, .inl (cB, 4096, .inl t_said)), (tq_amount, .inl (cI, 4096, .inl t_amount))] H → va_D A [(obT, .inr (9, [.ref tq_tape, .ref tq_said, .ref tq_inner, .ref tq_next, .ref tq_amount, .ref obK, .int t_length, .int t_wrongPlace])), (tq_tape, .inl (cB, 4096, .inl t_tape)), (tq_said, .inl (cB, 4096, .inl t_said)), (tq_amount, .inl (cI, 4096, .inl t_amount))] → va_S A s.heap H locs → lv_has ls 5 [(0, .ref obT), (1, .int x1), (2, .int x2), (3, .int x3)] → m_X7_readString_6 t_tape t_length n6 t_said t_amount t_wrongPlace x1 x2 x3 = some res → W p l e (headSpec wsX7_readString (rmX7_readString 0 0)).room s m [.ref obT, .int a0].toArray below meth c H locs 0 0 Q0 (F0 m 6 ls []) := by
    intro n6
    induction n6 with
    | zero => intro t_said t_amount t_wrongPlace x1 x2 x3 H locs ls hP hD hS hl hm; exact nomatch (show (none : Option _) = some res from hm)
    | succ n6 ih6 =>
      intro t_said t_amount t_wrongPlace x1 x2 x3 H locs ls hP hD hS hl hm
      rw [m_X7_readString_6] at hm
      refine lv_iload_n hx hb dX7_readString_6 rfl (lv_at hl 3 rfl) ?_
      refine lv_aload_n hx hb dX7_readString_7 rfl (lv_at hl 0 rfl) ?_
      refine va_get (D := (dC, dI)) (ci := 9) (v := .int t_length) (C := RX7) (T := TX7) (N := 8) hx hb hts (inX7 _) hown hK hP 0 rfl rfl 6 (by decide) (hts _ (List.mem_cons_of_mem _ wf7_35)) (fun _ h9 => h9) rfl dX7_readString_8 ?_
      refine lv_icmp_ge (tgt := 121) hx hb dX7_readString_11 (by decide) (fun c1 => ?_) (fun c1 => ?_)
      · have hm := mr_if c1 hm
        refine lv_aload_n hx hb dX7_readString_121 rfl (lv_at hl 0 rfl) ?_
        refine lv_aload_n hx hb dX7_readString_122 rfl (lv_at hl 0 rfl) ?_
        refine va_get (D := (dC, dI)) (ci := 9) (v := .int t_length) (C := RX7) (T := TX7) (N := 8) hx hb hts (inX7 _) hown hK hP 0 rfl rfl 6 (by decide) (hts _ (List.mem_cons_of_mem _ wf7_35)) (fun _ h9 => h9) rfl dX7_readString_123 ?_
        obtain ⟨⟨r2, t_wrongPlace_2⟩, hz2, hm⟩ := mr_bind hm
        try dsimp only at hm
        refine mr_wVi (As := [.int t_length]) (rest := []) (sr_okZ adK adV) ⟨hx, hb, hml, hown, hts⟩ (kX7_refuse l htr dC dI adK adV cI cB cJ cZ cQ obT tq_tape tq_said tq_inner tq_next tq_amount obK t_length t_wrongPlace _ t_length _ hz2) (cwV 1 hts (g7_94 _) rfl rfl rfl (by decide +kernel) ⟨(by show 0 + 1 ≤ 2; omega), (by show 8 + (2 + 11) + (0) ≤ 46; omega)⟩) hS hA hP hD hK hz0 (wr := [(tq_tape, .inl (cB, 4096, .inl t_tape)), (tq_said, .inl (cB, 4096, .inl t_said)), (tq_amount, .inl (cI, 4096, .inl t_amount))]) (w1 := [(obT, .inr (9, [.ref tq_tape, .ref tq_said, .ref tq_inner, .ref tq_next, .ref tq_amount, .ref obK, .int t_length, .int t_wrongPlace_2])), (tq_tape, .inl (cB, 4096, .inl t_tape)), (tq_said, .inl (cB, 4096, .inl t_said)), (tq_amount, .inl (cI, 4096, .inl t_amount))]) [0] [1, 2, 3] [3, 0, 1, 2] rfl rfl rfl rfl rfl (by decide) rfl rfl rfl (va_recv hK hP (ci := 9) (q0 := 0) rfl rfl) rfl rfl hl.1 (Nat.le_of_ble_eq_true rfl) dX7_readString_126 ⟨Nat.zero_le _, Nat.zero_le _⟩ (fun H locs hP hD hS => ?_)
        obtain rfl := Option.some.inj hm
        subst hQ0
        exact W.iret (v := r2) hx hb hr (fun t ht hW => ⟨⟨r2, (t_said, t_amount, t_wrongPlace_2), rfl, ⟨rfl, rfl⟩, by rw [ht]; exact hP, va_K.moved hW.alike hK, hD⟩, hS.F ht⟩) hS.2.2 dX7_readString_129
      · have hm := mr_un c1 hm
        refine lv_aload_n hx hb dX7_readString_14 rfl (lv_at hl 0 rfl) ?_
        refine lv_iload_n hx hb dX7_readString_15 rfl (lv_at hl 3 rfl) ?_
        obtain ⟨r3, hz3, hm⟩ := mr_bind hm
        refine mr_pV (As := [.int x3]) (rest := []) (sr_okZ adK adV) ⟨hx, hb, hml, hown, hts⟩ (kX7_byteAt l htr dC dI adK adV cI cB cJ cZ cQ obT tq_tape tq_said tq_inner tq_next tq_amount obK t_length t_wrongPlace t_tape x3 r3 hz3) (cwV 1 hts (g7_42 _) rfl rfl rfl (by decide +kernel) ⟨(by show 0 + 1 ≤ 2; omega), (by show 8 + (2 + 11) + (0) ≤ 46; omega)⟩) hS hP hK hz0 [0, 1] rfl (va_recv hK hP (ci := 9) (q0 := 0) rfl rfl) rfl rfl hl.1 (Nat.le_of_ble_eq_true rfl) dX7_readString_16 ⟨Nat.zero_le _, Nat.zero_le _⟩ ?_
        refine lv_istore (lv' := [(4, .int r3), (0, .ref obT), (1, .int x1), (2, .int x2), (3, .int x3)]) hx hb dX7_readString_19 hl (by decide) rfl (fun ls hl => ?_)
        refine lv_iload hx hb dX7_readString_21 (lv_at hl 0 rfl) ?_
        refine lv_bipush (v := 34) hx hb dX7_readString_23 (by decide) ?_
        refine lv_icmp_ne (tgt := 41) hx hb dX7_readString_25 (by decide) (fun c4 => ?_) (fun c4 => ?_)
        · have hm := mr_un c4 hm
          refine lv_iload hx hb dX7_readString_41 (lv_at hl 0 rfl) ?_
          refine lv_bipush (v := 32) hx hb dX7_readString_43 (by decide) ?_
          have j55 : ∀ (t_said : Nat → Int32) (t_amount : Nat → Int32) (t_wrongPlace : Int32) (x3 : Int32) (H : Heap) (locs : List Loc) (ls : Array Slot), va_P (dC, dI) srCl [(obT, .inr (9, [.ref tq_tape, .ref tq_said, .ref tq_inner, .ref tq_next, .ref tq_amount, .ref obK, .int t_length, .int t_wrongPlace])), (tq_tape, .inl (cB, 4096, .inl t_tape)), (tq_said, .inl (cB, 4096, .inl t_said)), (tq_amount, .inl (cI, 4096, .inl t_amount))] H → va_D A [(obT, .inr (9, [.ref tq_tape, .ref tq_said, .ref tq_inner, .ref tq_next, .ref tq_amount, .ref obK, .int t_length, .int t_wrongPlace])), (tq_tape, .inl (cB, 4096, .inl t_tape)), (tq_said, .inl (cB, 4096, .inl t_said)), (tq_amount, .inl (cI, 4096, .inl t_amount))] → va_S A s.heap H locs → lv_has ls 5 [(0, .ref obT), (3, .int x3)] → m_X7_readString_55 t_tape t_length t_said t_amount t_wrongPlace x3 = some res → W p l e (headSpec wsX7_readString (rmX7_readString 0 0)).room s m [.ref obT, .int a0].toArray below meth c H locs 0 0 Q0 (F0 m 55 ls []) := by
            intro t_said t_amount t_wrongPlace x3 H locs ls hP hD hS hl hm
            unfold m_X7_readString_55 at hm
            refine lv_aload_n hx hb dX7_readString_55 rfl (lv_at hl 0 rfl) ?_
            refine lv_iload_n hx hb dX7_readString_56 rfl (lv_at hl 1 rfl) ?_
            obtain ⟨⟨r5, t_wrongPlace_5⟩, hz5, hm⟩ := mr_bind hm
            try dsimp only at hm
            refine mr_wVi (As := [.int x3]) (rest := []) (sr_okZ adK adV) ⟨hx, hb, hml, hown, hts⟩ (kX7_refuse l htr dC dI adK adV cI cB cJ cZ cQ obT tq_tape tq_said tq_inner tq_next tq_amount obK t_length t_wrongPlace _ x3 _ hz5) (cwV 1 hts (g7_94 _) rfl rfl rfl (by decide +kernel) ⟨(by show 0 + 1 ≤ 2; omega), (by show 8 + (2 + 11) + (0) ≤ 46; omega)⟩) hS hA hP hD hK hz0 (wr := [(tq_tape, .inl (cB, 4096, .inl t_tape)), (tq_said, .inl (cB, 4096, .inl t_said)), (tq_amount, .inl (cI, 4096, .inl t_amount))]) (w1 := [(obT, .inr (9, [.ref tq_tape, .ref tq_said, .ref tq_inner, .ref tq_next, .ref tq_amount, .ref obK, .int t_length, .int t_wrongPlace_5])), (tq_tape, .inl (cB, 4096, .inl t_tape)), (tq_said, .inl (cB, 4096, .inl t_said)), (tq_amount, .inl (cI, 4096, .inl t_amount))]) [0] [1, 2, 3] [3, 0, 1, 2] rfl rfl rfl rfl rfl (by decide) rfl rfl rfl (va_recv hK hP (ci := 9) (q0 := 0) rfl rfl) rfl rfl hl.1 (Nat.le_of_ble_eq_true rfl) dX7_readString_57 ⟨Nat.zero_le _, Nat.zero_le _⟩ (fun H locs hP hD hS => ?_)
            obtain rfl := Option.some.inj hm
            subst hQ0
            exact W.iret (v := r5) hx hb hr (fun t ht hW => ⟨⟨r5, (t_said, t_amount, t_wrongPlace_5), rfl, ⟨rfl, rfl⟩, by rw [ht]; exact hP, va_K.moved hW.alike hK, hD⟩, hS.F ht⟩) hS.2.2 dX7_readString_60
          refine lv_icmp_lt (tgt := 55) hx hb dX7_readString_45 (by decide) (fun c6 => ?_) (fun c6 => ?_)
          · have hm := mr_if c6 hm
            exact j55 t_said t_amount t_wrongPlace x3 _ _ ls hP hD hS (lv_sub hl [1, 4] rfl) hm
          · have hm := mr_un c6 hm
            refine lv_iload hx hb dX7_readString_48 (lv_at hl 0 rfl) ?_
            refine lv_bipush (v := 126) hx hb dX7_readString_50 (by decide) ?_
            refine lv_icmp_le (tgt := 61) hx hb dX7_readString_52 (by decide) (fun c7 => ?_) (fun c7 => ?_)
            · have hm := mr_if c7 hm
              refine lv_iload hx hb dX7_readString_61 (lv_at hl 0 rfl) ?_
              refine lv_bipush (v := 92) hx hb dX7_readString_63 (by decide) ?_
              have j103 : ∀ (t_said : Nat → Int32) (t_amount : Nat → Int32) (t_wrongPlace : Int32) (x1 : Int32) (x2 : Int32) (x3 : Int32) (x4 : Int32) (H : Heap) (locs : List Loc) (ls : Array Slot), va_P (dC, dI) srCl [(obT, .inr (9, [.ref tq_tape, .ref tq_said, .ref tq_inner, .ref tq_next, .ref tq_amount, .ref obK, .int t_length, .int t_wrongPlace])), (tq_tape, .inl (cB, 4096, .inl t_tape)), (tq_said, .inl (cB, 4096, .inl t_said)), (tq_amount, .inl (cI, 4096, .inl t_amount))] H → va_D A [(obT, .inr (9, [.ref tq_tape, .ref tq_said, .ref tq_inner, .ref tq_next, .ref tq_amount, .ref obK, .int t_length, .int t_wrongPlace])), (tq_tape, .inl (cB, 4096, .inl t_tape)), (tq_said, .inl (cB, 4096, .inl t_said)), (tq_amount, .inl (cI, 4096, .inl t_amount))] → va_S A s.heap H locs → lv_has ls 5 [(0, .ref obT), (1, .int x1), (2, .int x2), (3, .int x3), (4, .int x4)] → m_X7_readString_103 t_tape t_length (m_X7_readString_6 t_tape t_length n6) t_said t_amount t_wrongPlace x1 x2 x3 x4 = some res → W p l e (headSpec wsX7_readString (rmX7_readString 0 0)).room s m [.ref obT, .int a0].toArray below meth c H locs 0 0 Q0 (F0 m 103 ls []) := by
                intro t_said t_amount t_wrongPlace x1 x2 x3 x4 H locs ls hP hD hS hl hm
                unfold m_X7_readString_103 at hm
                refine lv_aload_n hx hb dX7_readString_103 rfl (lv_at hl 0 rfl) ?_
                refine lv_iload_n hx hb dX7_readString_104 rfl (lv_at hl 1 rfl) ?_
                refine lv_iload_n hx hb dX7_readString_105 rfl (lv_at hl 2 rfl) ?_
                refine lv_iadd hx hb dX7_readString_106 ?_
                refine lv_iload hx hb dX7_readString_107 (lv_at hl 4 rfl) ?_
                obtain ⟨t_said_8, hz8, hm⟩ := mr_bind hm
                try dsimp only at hm
                refine mr_wVv (As := [.int (x1 + x2), .int x4]) (rest := []) (sr_okZ adK adV) ⟨hx, hb, hml, hown, hts⟩ (kX7_say l htr dC dI adK adV cI cB cJ cZ cQ obT tq_tape tq_said tq_inner tq_next tq_amount obK t_length t_wrongPlace t_said _ (x1 + x2) x4 _ hz8) (cwV 2 hts (g7_143 _) rfl rfl rfl (by decide +kernel) ⟨(by show 0 + 1 ≤ 2; omega), (by show 8 + (3 + 11) + (0) ≤ 46; omega)⟩) hS hA hP hD hK hz0 (wr := [(tq_tape, .inl (cB, 4096, .inl t_tape)), (tq_amount, .inl (cI, 4096, .inl t_amount))]) (w1 := [(obT, .inr (9, [.ref tq_tape, .ref tq_said, .ref tq_inner, .ref tq_next, .ref tq_amount, .ref obK, .int t_length, .int t_wrongPlace])), (tq_tape, .inl (cB, 4096, .inl t_tape)), (tq_said, .inl (cB, 4096, .inl t_said_8)), (tq_amount, .inl (cI, 4096, .inl t_amount))]) [0, 2] [1, 3] [2, 0, 3, 1] rfl rfl rfl rfl rfl (by decide) rfl rfl rfl (va_recv hK hP (ci := 9) (q0 := 0) rfl rfl) rfl rfl hl.1 (Nat.le_of_ble_eq_true rfl) dX7_readString_109 ⟨Nat.zero_le _, Nat.zero_le _⟩ (fun H locs hP hD hS => ?_)
                refine lv_iinc (v := x2 + 1) (lv' := [(2, .int (x2 + 1)), (0, .ref obT), (1, .int x1), (3, .int x3), (4, .int x4)]) hx hb dX7_readString_112 hl (k := 2) rfl rfl (by decide) rfl (fun ls hl => ?_)
                refine lv_iinc (v := x3 + 1) (lv' := [(3, .int (x3 + 1)), (2, .int (x2 + 1)), (0, .ref obT), (1, .int x1), (4, .int x4)]) hx hb dX7_readString_115 hl (k := 3) rfl rfl (by decide) rfl (fun ls hl => ?_)
                refine lv_goto (tgt := 6) hx hb dX7_readString_118 (by decide) ?_
                exact ih6 t_said_8 t_amount t_wrongPlace x1 (x2 + 1) (x3 + 1) _ _ ls hP hD hS (lv_sub hl [2, 3, 1, 0] rfl) hm
              refine lv_icmp_ne (tgt := 103) hx hb dX7_readString_65 (by decide) (fun c9 => ?_) (fun c9 => ?_)
              · have hm := mr_un c9 hm
                exact j103 t_said t_amount t_wrongPlace x1 x2 x3 r3 _ _ ls hP hD hS (lv_sub hl [1, 2, 3, 4, 0] rfl) hm
              · have hm := mr_if c9 hm
                refine lv_aload_n hx hb dX7_readString_68 rfl (lv_at hl 1 rfl) ?_
                refine lv_iload_n hx hb dX7_readString_69 rfl (lv_at hl 4 rfl) ?_
                obtain ⟨⟨r10, t_wrongPlace_10⟩, hz10, hm⟩ := mr_bind hm
                try dsimp only at hm
                refine mr_wVi (As := [.int x3]) (rest := []) (sr_okZ adK adV) ⟨hx, hb, hml, hown, hts⟩ (kX7_readEscape l htr dC dI adK adV cI cB cJ cZ cQ obT tq_tape tq_said tq_inner tq_next tq_amount obK t_length t_wrongPlace t_tape _ x3 _ hz10) (cwV 1 hts (g7_140 _) rfl rfl rfl (by decide +kernel) ⟨(by show 1 + 1 ≤ 2; omega), (by show 8 + (6 + 11) + (21) ≤ 46; omega)⟩) hS hA hP hD hK hz0 (wr := [(tq_said, .inl (cB, 4096, .inl t_said)), (tq_amount, .inl (cI, 4096, .inl t_amount))]) (w1 := [(obT, .inr (9, [.ref tq_tape, .ref tq_said, .ref tq_inner, .ref tq_next, .ref tq_amount, .ref obK, .int t_length, .int t_wrongPlace_10])), (tq_tape, .inl (cB, 4096, .inl t_tape)), (tq_said, .inl (cB, 4096, .inl t_said)), (tq_amount, .inl (cI, 4096, .inl t_amount))]) [0, 1] [2, 3] [2, 3, 0, 1] rfl rfl rfl rfl rfl (by decide) rfl rfl rfl (va_recv hK hP (ci := 9) (q0 := 0) rfl rfl) rfl rfl hl.1 (Nat.le_of_ble_eq_true rfl) dX7_readString_70 ⟨Nat.zero_le _, Nat.zero_le _⟩ (fun H locs hP hD hS => ?_)
                refine lv_istore (lv' := [(4, .int r10), (0, .ref obT), (1, .int x1), (2, .int x2), (3, .int x3)]) hx hb dX7_readString_73 hl (by decide) rfl (fun ls hl => ?_)
                refine lv_iload hx hb dX7_readString_75 (lv_at hl 0 rfl) ?_
                refine lv_iconst (v := -1) hx hb dX7_readString_77 (by decide) ?_
                refine lv_icmp_ne (tgt := 83) hx hb dX7_readString_78 (by decide) (fun c11 => ?_) (fun c11 => ?_)
                · have hm := mr_un c11 hm
                  refine lv_iload_n hx hb dX7_readString_83 rfl (lv_at hl 4 rfl) ?_
                  refine lv_aload_n hx hb dX7_readString_84 rfl (lv_at hl 1 rfl) ?_
                  refine lv_iload_n hx hb dX7_readString_85 rfl (lv_at hl 4 rfl) ?_
                  refine lv_iconst (v := 1) hx hb dX7_readString_86 (by decide) ?_
                  refine lv_iadd hx hb dX7_readString_87 ?_
                  obtain ⟨r12, hz12, hm⟩ := mr_bind hm
                  refine mr_pV (As := [.int (x3 + 1)]) (rest := [.int x3]) (sr_okZ adK adV) ⟨hx, hb, hml, hown, hts⟩ (kX7_byteAt l htr dC dI adK adV cI cB cJ cZ cQ obT tq_tape tq_said tq_inner tq_next tq_amount obK t_length t_wrongPlace_10 t_tape (x3 + 1) r12 hz12) (cwV 1 hts (g7_42 _) rfl rfl rfl (by decide +kernel) ⟨(by show 0 + 1 ≤ 2; omega), (by show 8 + (2 + 11) + (0) ≤ 46; omega)⟩) hS hP hK hz0 [0, 1] rfl (va_recv hK hP (ci := 9) (q0 := 0) rfl rfl) rfl rfl hl.1 (Nat.le_of_ble_eq_true rfl) dX7_readString_88 ⟨Nat.zero_le _, Nat.zero_le _⟩ ?_
                  refine lv_bipush (v := 117) hx hb dX7_readString_91 (by decide) ?_
                  have j101 : ∀ (t_said : Nat → Int32) (t_amount : Nat → Int32) (t_wrongPlace : Int32) (x1 : Int32) (x2 : Int32) (x4 : Int32) (y0 : Int32) (y1 : Int32) (H : Heap) (locs : List Loc) (ls : Array Slot), va_P (dC, dI) srCl [(obT, .inr (9, [.ref tq_tape, .ref tq_said, .ref tq_inner, .ref tq_next, .ref tq_amount, .ref obK, .int t_length, .int t_wrongPlace])), (tq_tape, .inl (cB, 4096, .inl t_tape)), (tq_said, .inl (cB, 4096, .inl t_said)), (tq_amount, .inl (cI, 4096, .inl t_amount))] H → va_D A [(obT, .inr (9, [.ref tq_tape, .ref tq_said, .ref tq_inner, .ref tq_next, .ref tq_amount, .ref obK, .int t_length, .int t_wrongPlace])), (tq_tape, .inl (cB, 4096, .inl t_tape)), (tq_said, .inl (cB, 4096, .inl t_said)), (tq_amount, .inl (cI, 4096, .inl t_amount))] → va_S A s.heap H locs → lv_has ls 5 [(0, .ref obT), (1, .int x1), (2, .int x2), (4, .int x4)] → m_X7_readString_101 t_tape t_length (m_X7_readString_6 t_tape t_length n6) t_said t_amount t_wrongPlace x1 x2 x4 y0 y1 = some res → W p l e (headSpec wsX7_readString (rmX7_readString 0 0)).room s m [.ref obT, .int a0].toArray below meth c H locs 0 0 Q0 (F0 m 101 ls [.int y0, .int y1]) := by
                    intro t_said t_amount t_wrongPlace x1 x2 x4 y0 y1 H locs ls hP hD hS hl hm
                    unfold m_X7_readString_101 at hm
                    refine lv_iadd hx hb dX7_readString_101 ?_
                    refine lv_istore_n (lv' := [(3, .int (y1 + y0)), (0, .ref obT), (1, .int x1), (2, .int x2), (4, .int x4)]) hx hb dX7_readString_102 rfl hl (by decide) rfl (fun ls hl => ?_)
                    exact j103 t_said t_amount t_wrongPlace x1 x2 (y1 + y0) x4 _ _ ls hP hD hS (lv_sub hl [1, 2, 3, 0, 4] rfl) hm
                  refine lv_icmp_ne (tgt := 100) hx hb dX7_readString_93 (by decide) (fun c13 => ?_) (fun c13 => ?_)
                  · have hm := mr_un c13 hm
                    refine lv_iconst (v := 1) hx hb dX7_readString_100 (by decide) ?_
                    exact j101 t_said t_amount t_wrongPlace_10 x1 x2 r10 1 x3 _ _ ls hP hD hS (lv_sub hl [1, 2, 3, 0] rfl) hm
                  · have hm := mr_if c13 hm
                    refine lv_iconst (v := 5) hx hb dX7_readString_96 (by decide) ?_
                    refine lv_goto (tgt := 101) hx hb dX7_readString_97 (by decide) ?_
                    exact j101 t_said t_amount t_wrongPlace_10 x1 x2 r10 5 x3 _ _ ls hP hD hS (lv_sub hl [1, 2, 3, 0] rfl) hm
                · have hm := mr_if c11 hm
                  refine lv_iconst (v := -1) hx hb dX7_readString_81 (by decide) ?_
                  obtain rfl := Option.some.inj hm
                  subst hQ0
                  exact W.iret (v := (-1)) hx hb hr (fun t ht hW => ⟨⟨(-1), (t_said, t_amount, t_wrongPlace_10), rfl, ⟨rfl, rfl⟩, by rw [ht]; exact hP, va_K.moved hW.alike hK, hD⟩, hS.F ht⟩) hS.2.2 dX7_readString_82
            · have hm := mr_un c7 hm
              exact j55 t_said t_amount t_wrongPlace x3 _ _ ls hP hD hS (lv_sub hl [1, 4] rfl) hm
        · have hm := mr_if c4 hm
          refine lv_aload_n hx hb dX7_readString_28 rfl (lv_at hl 1 rfl) ?_
          refine va_get (D := (dC, dI)) (ci := 9) (v := .ref tq_amount) (C := RX7) (T := TX7) (N := 8) hx hb hts (inX7 _) hown hK hP 0 rfl rfl 4 (by decide) (hts _ (List.mem_cons_of_mem _ wf7_25)) (fun _ h9 => h9) rfl dX7_readString_29 ?_
          refine lv_iload_n hx hb dX7_readString_32 rfl (lv_at hl 2 rfl) ?_
          refine lv_iload_n hx hb dX7_readString_33 rfl (lv_at hl 3 rfl) ?_
          obtain ⟨t_amount_14, hz14, hm⟩ := mr_bind hm
          try dsimp only at hm
          refine mr_wSNv (As := [.ref tq_amount, .int x1, .int x2]) (rest := []) (sr_okZ adK adV) ⟨hx, hb, hml, hown, hts⟩ (kX8_enter l htr dC dI adK adV cI cB cJ cZ cQ tq_amount t_amount _ 4096 x1 x2 _ hz14) (sr_cnS 3 hts rfl gn7_125.1 (hz0.2.2.2.2.2.2.1 _ gn7_125.2) rfl rfl (by decide +kernel) ⟨(by show 0 + 1 ≤ 2; omega), (by show 8 + (3 + 11) + (0) ≤ 46; omega)⟩) hS hA hP hD hK hz0 (wr := [(obT, .inr (9, [.ref tq_tape, .ref tq_said, .ref tq_inner, .ref tq_next, .ref tq_amount, .ref obK, .int t_length, .int t_wrongPlace])), (tq_tape, .inl (cB, 4096, .inl t_tape)), (tq_said, .inl (cB, 4096, .inl t_said))]) (w1 := [(obT, .inr (9, [.ref tq_tape, .ref tq_said, .ref tq_inner, .ref tq_next, .ref tq_amount, .ref obK, .int t_length, .int t_wrongPlace])), (tq_tape, .inl (cB, 4096, .inl t_tape)), (tq_said, .inl (cB, 4096, .inl t_said)), (tq_amount, .inl (cI, 4096, .inl t_amount_14))]) [3] [0, 1, 2] [0, 1, 2, 3] rfl rfl rfl rfl rfl (by decide) rfl rfl rfl rfl rfl hl.1 (Nat.le_of_ble_eq_true rfl) dX7_readString_34 ⟨Nat.zero_le _, Nat.zero_le _⟩ (fun H locs hP hD hS => ?_)
          refine lv_iload_n hx hb dX7_readString_37 rfl (lv_at hl 4 rfl) ?_
          refine lv_iconst (v := 1) hx hb dX7_readString_38 (by decide) ?_
          refine lv_iadd hx hb dX7_readString_39 ?_
          obtain rfl := Option.some.inj hm
          subst hQ0
          exact W.iret (v := (x3 + 1)) hx hb hr (fun t ht hW => ⟨⟨(x3 + 1), (t_said, t_amount_14, t_wrongPlace), rfl, ⟨rfl, rfl⟩, by rw [ht]; exact hP, va_K.moved hW.alike hK, hD⟩, hS.F ht⟩) hS.2.2 dX7_readString_40
  refine lv_istore_n (lv' := [(3, .int (a0 + 1)), (2, .int 0), (0, .ref obT), (1, .int a0)]) hx hb dX7_readString_5 rfl hl (by decide) rfl (fun ls hl => ?_)
  exact j6 sr_fuel t_said t_amount t_wrongPlace a0 0 (a0 + 1) _ _ ls hP hD hS (lv_sub hl [2, 3, 1, 0] rfl) hm
set_option maxHeartbeats 4000000 in
set_option maxRecDepth 100000 in
theorem kX7_readKey (l : Launch) (htr : l.stackTraces = false) (dC : Nat → ClassId) (dI : Nat → Nat → Nat) (adK adV : Nat → Nat) (cI cB cJ cZ cQ : ClassId) (obT tq_tape tq_said tq_inner tq_next tq_amount obK kq_heads kq_places kq_owners kq_nexts : Nat) (t_length : Int32) (t_wrongPlace : Int32) (k_count : Int32) (t_tape : Nat → Int32) (t_said : Nat → Int32) (t_inner : Nat → Int32) (t_amount : Nat → Int32) (k_heads : Nat → Int32) (k_places : Nat → Int32) (k_owners : Nat → Int32) (k_nexts : Nat → Int32) (sz : Nat) (a0 : Int32) (a1 : Int32) (res : Int32 × (Nat → Int32) × (Nat → Int32) × (Nat → Int32) × Int32 × (Nat → Int32) × (Nat → Int32) × (Nat → Int32) × (Nat → Int32) × Int32) (hm : m_X7_readKey t_tape t_said t_inner t_amount t_length t_wrongPlace k_heads k_places k_owners k_nexts k_count a0 a1 = some res) : Met l yX7_readKey wsX7_readKey (rmX7_readKey 0 0) (pcW (sr_Z adK adV) (dC, dI) srCl [(cI, .int), (cB, .byte), (cJ, .long), (cZ, .boolean), (cQ, .object "SchemaReader$Schema")] [.ref obT, .int a0, .int a1] [(obT, .inr (9, [.ref tq_tape, .ref tq_said, .ref tq_inner, .ref tq_next, .ref tq_amount, .ref obK, .int t_length, .int t_wrongPlace])), (tq_tape, .inl (cB, 4096, .inl t_tape)), (tq_said, .inl (cB, 4096, .inl t_said)), (tq_inner, .inl (cI, 4096, .inl t_inner)), (tq_amount, .inl (cI, 4096, .inl t_amount)), (obK, .inr (5, [.ref kq_heads, .ref kq_places, .ref kq_owners, .ref kq_nexts, .int k_count])), (kq_heads, .inl (cI, 256, .inl k_heads)), (kq_places, .inl (cI, 1024, .inl k_places)), (kq_owners, .inl (cI, 1024, .inl k_owners)), (kq_nexts, .inl (cI, 1024, .inl k_nexts))] sz) (va_Qi (fun r' u' => r' = res.1 ∧ u' = res.2) (pcB (dC, dI) srCl [(cI, .int), (cB, .byte), (cJ, .long), (cZ, .boolean), (cQ, .object "SchemaReader$Schema")] (fun u : (Nat → Int32) × (Nat → Int32) × (Nat → Int32) × Int32 × (Nat → Int32) × (Nat → Int32) × (Nat → Int32) × (Nat → Int32) × Int32 => [(obT, .inr (9, [.ref tq_tape, .ref tq_said, .ref tq_inner, .ref tq_next, .ref tq_amount, .ref obK, .int t_length, .int u.2.2.2.1])), (tq_tape, .inl (cB, 4096, .inl t_tape)), (tq_said, .inl (cB, 4096, .inl u.1)), (tq_inner, .inl (cI, 4096, .inl u.2.1)), (tq_amount, .inl (cI, 4096, .inl u.2.2.1)), (obK, .inr (5, [.ref kq_heads, .ref kq_places, .ref kq_owners, .ref kq_nexts, .int u.2.2.2.2.2.2.2.2])), (kq_heads, .inl (cI, 256, .inl u.2.2.2.2.1)), (kq_places, .inl (cI, 1024, .inl u.2.2.2.2.2.1)), (kq_owners, .inl (cI, 1024, .inl u.2.2.2.2.2.2.1)), (kq_nexts, .inl (cI, 1024, .inl u.2.2.2.2.2.2.2.1))]) (va_A [(obT, .inr (9, [.ref tq_tape, .ref tq_said, .ref tq_inner, .ref tq_next, .ref tq_amount, .ref obK, .int t_length, .int t_wrongPlace])), (tq_tape, .inl (cB, 4096, .inl t_tape)), (tq_said, .inl (cB, 4096, .inl t_said)), (tq_inner, .inl (cI, 4096, .inl t_inner)), (tq_amount, .inl (cI, 4096, .inl t_amount)), (obK, .inr (5, [.ref kq_heads, .ref kq_places, .ref kq_owners, .ref kq_nexts, .int k_count])), (kq_heads, .inl (cI, 256, .inl k_heads)), (kq_places, .inl (cI, 1024, .inl k_places)), (kq_owners, .inl (cI, 1024, .inl k_owners)), (kq_nexts, .inl (cI, 1024, .inl k_nexts))] sz)) (va_A [(obT, .inr (9, [.ref tq_tape, .ref tq_said, .ref tq_inner, .ref tq_next, .ref tq_amount, .ref obK, .int t_length, .int t_wrongPlace])), (tq_tape, .inl (cB, 4096, .inl t_tape)), (tq_said, .inl (cB, 4096, .inl t_said)), (tq_inner, .inl (cI, 4096, .inl t_inner)), (tq_amount, .inl (cI, 4096, .inl t_amount)), (obK, .inr (5, [.ref kq_heads, .ref kq_places, .ref kq_owners, .ref kq_nexts, .int k_count])), (kq_heads, .inl (cI, 256, .inl k_heads)), (kq_places, .inl (cI, 1024, .inl k_places)), (kq_owners, .inl (cI, 1024, .inl k_owners)), (kq_nexts, .inl (cI, 1024, .inl k_nexts))] sz)) 0 0 (va_A [(obT, .inr (9, [.ref tq_tape, .ref tq_said, .ref tq_inner, .ref tq_next, .ref tq_amount, .ref obK, .int t_length, .int t_wrongPlace])), (tq_tape, .inl (cB, 4096, .inl t_tape)), (tq_said, .inl (cB, 4096, .inl t_said)), (tq_inner, .inl (cI, 4096, .inl t_inner)), (tq_amount, .inl (cI, 4096, .inl t_amount)), (obK, .inr (5, [.ref kq_heads, .ref kq_places, .ref kq_owners, .ref kq_nexts, .int k_count])), (kq_heads, .inl (cI, 256, .inl k_heads)), (kq_places, .inl (cI, 1024, .inl k_places)), (kq_owners, .inl (cI, 1024, .inl k_owners)), (kq_nexts, .inl (cI, 1024, .inl k_nexts))] sz) := by
  refine Met.ofW (cc := cX7_readKey) (maxL := 6) (ret := (some .int)) (by decide) rfl ?_
  intro p e s m args below meth c s₁ B hml hv
  obtain ⟨rfl, hsz, hP, hK, hD0, hz0⟩ := hv
  have hx := B.exec
  have hb := B.bytes
  have hr := B.returns
  have hts := atoms_spec (ws := wsX7_readKey) B.pre
  have hown : s.vm.findClass RX7 = some m.cls := findClass_of_methodNamed B.named
  have hlocks := B.notSynchronized
  subst hsz
  have hD := hD0.self (sz := s.heap.size)
  generalize hAe : va_A [(obT, .inr (9, [.ref tq_tape, .ref tq_said, .ref tq_inner, .ref tq_next, .ref tq_amount, .ref obK, .int t_length, .int t_wrongPlace])), (tq_tape, .inl (cB, 4096, .inl t_tape)), (tq_said, .inl (cB, 4096, .inl t_said)), (tq_inner, .inl (cI, 4096, .inl t_inner)), (tq_amount, .inl (cI, 4096, .inl t_amount)), (obK, .inr (5, [.ref kq_heads, .ref kq_places, .ref kq_owners, .ref kq_nexts, .int k_count])), (kq_heads, .inl (cI, 256, .inl k_heads)), (kq_places, .inl (cI, 1024, .inl k_places)), (kq_owners, .inl (cI, 1024, .inl k_owners)), (kq_nexts, .inl (cI, 1024, .inl k_nexts))] s.heap.size = A at hD hz0 ⊢
  have hA : ∀ q : Nat, s.heap.size ≤ q → A q := fun q h => by rw [← hAe]; exact Or.inr h
  have hS : va_S A s.heap s.heap [] := va_S.rf
  generalize hQ0 : MQ below (va_Qi (fun r' u' => r' = res.1 ∧ u' = res.2) (pcB (dC, dI) srCl [(cI, .int), (cB, .byte), (cJ, .long), (cZ, .boolean), (cQ, .object "SchemaReader$Schema")] (fun u : (Nat → Int32) × (Nat → Int32) × (Nat → Int32) × Int32 × (Nat → Int32) × (Nat → Int32) × (Nat → Int32) × (Nat → Int32) × Int32 => [(obT, .inr (9, [.ref tq_tape, .ref tq_said, .ref tq_inner, .ref tq_next, .ref tq_amount, .ref obK, .int t_length, .int u.2.2.2.1])), (tq_tape, .inl (cB, 4096, .inl t_tape)), (tq_said, .inl (cB, 4096, .inl u.1)), (tq_inner, .inl (cI, 4096, .inl u.2.1)), (tq_amount, .inl (cI, 4096, .inl u.2.2.1)), (obK, .inr (5, [.ref kq_heads, .ref kq_places, .ref kq_owners, .ref kq_nexts, .int u.2.2.2.2.2.2.2.2])), (kq_heads, .inl (cI, 256, .inl u.2.2.2.2.1)), (kq_places, .inl (cI, 1024, .inl u.2.2.2.2.2.1)), (kq_owners, .inl (cI, 1024, .inl u.2.2.2.2.2.2.1)), (kq_nexts, .inl (cI, 1024, .inl u.2.2.2.2.2.2.2.1))]) A) A) [.ref obT, .int a0, .int a1].toArray s 0 0 A = Q0
  have hl := lv_entry [.ref obT, .int a0, .int a1] (n := 6) (Nat.le_of_ble_eq_true rfl)
  rw [lg_entry_eq]
  generalize (lg_sl [.ref obT, .int a0, .int a1] ++ List.replicate (6 - (lg_sl [.ref obT, .int a0, .int a1]).length) Slot.unset).toArray = ls at hl ⊢
  have hl : lv_has ls 6 [(0, .ref obT), (1, .int a0), (2, .int a1)] := hl
  unfold m_X7_readKey at hm
  refine lv_aload_n hx hb dX7_readKey_0 rfl (lv_at hl 0 rfl) ?_
  refine lv_iload_n hx hb dX7_readKey_1 rfl (lv_at hl 2 rfl) ?_
  obtain ⟨r1, hz1, hm⟩ := mr_bind hm
  refine mr_pV (As := [.int a1]) (rest := []) (sr_okZ adK adV) ⟨hx, hb, hml, hown, hts⟩ (kX7_isString l htr dC dI adK adV cI cB cJ cZ cQ obT tq_tape tq_said tq_inner tq_next tq_amount obK t_length t_wrongPlace t_tape a1 r1 hz1) (cwV 1 hts (g7_68 _) rfl rfl rfl (by decide +kernel) ⟨(by show 1 + 1 ≤ 3; omega), (by show 8 + (2 + 11) + (21) ≤ 71; omega)⟩) hS hP hK hz0 [0, 1] rfl (va_recv hK hP (ci := 9) (q0 := 0) rfl rfl) rfl rfl hl.1 (Nat.le_of_ble_eq_true rfl) dX7_readKey_2 ⟨Nat.zero_le _, Nat.zero_le _⟩ ?_
  refine lv_if_ne (tgt := 14) hx hb dX7_readKey_5 (by decide) (fun c2 => ?_) (fun c2 => ?_)
  · have hm := mr_un c2 hm
    refine lv_aload_n hx hb dX7_readKey_14 rfl (lv_at hl 0 rfl) ?_
    refine lv_iload_n hx hb dX7_readKey_15 rfl (lv_at hl 2 rfl) ?_
    obtain ⟨⟨r3, t_said_3, t_amount_3, t_wrongPlace_3⟩, hz3, hm⟩ := mr_bind hm
    try dsimp only at hm
    refine mr_wVi (As := [.int a1]) (rest := []) (sr_okZ adK adV) ⟨hx, hb, hml, hown, hts⟩ (kX7_readString l htr dC dI adK adV cI cB cJ cZ cQ obT tq_tape tq_said tq_inner tq_next tq_amount obK t_length t_wrongPlace t_tape t_said t_amount _ a1 _ hz3) (cwV 1 hts (g7_103 _) rfl rfl rfl (by decide +kernel) ⟨(by show 2 + 1 ≤ 3; omega), (by show 8 + (5 + 11) + (46) ≤ 71; omega)⟩) hS hA hP hD hK hz0 (wr := [(tq_inner, .inl (cI, 4096, .inl t_inner)), (obK, .inr (5, [.ref kq_heads, .ref kq_places, .ref kq_owners, .ref kq_nexts, .int k_count])), (kq_heads, .inl (cI, 256, .inl k_heads)), (kq_places, .inl (cI, 1024, .inl k_places)), (kq_owners, .inl (cI, 1024, .inl k_owners)), (kq_nexts, .inl (cI, 1024, .inl k_nexts))]) (w1 := [(obT, .inr (9, [.ref tq_tape, .ref tq_said, .ref tq_inner, .ref tq_next, .ref tq_amount, .ref obK, .int t_length, .int t_wrongPlace_3])), (tq_tape, .inl (cB, 4096, .inl t_tape)), (tq_said, .inl (cB, 4096, .inl t_said_3)), (tq_inner, .inl (cI, 4096, .inl t_inner)), (tq_amount, .inl (cI, 4096, .inl t_amount_3)), (obK, .inr (5, [.ref kq_heads, .ref kq_places, .ref kq_owners, .ref kq_nexts, .int k_count])), (kq_heads, .inl (cI, 256, .inl k_heads)), (kq_places, .inl (cI, 1024, .inl k_places)), (kq_owners, .inl (cI, 1024, .inl k_owners)), (kq_nexts, .inl (cI, 1024, .inl k_nexts))]) [0, 1, 2, 4] [3, 5, 6, 7, 8, 9] [6, 7, 8, 0, 9, 1, 2, 3, 4, 5] rfl rfl rfl rfl rfl (by decide) rfl rfl rfl (va_recv hK hP (ci := 9) (q0 := 0) rfl rfl) rfl rfl hl.1 (Nat.le_of_ble_eq_true rfl) dX7_readKey_16 ⟨Nat.zero_le _, Nat.zero_le _⟩ (fun H locs hP hD hS => ?_)
    refine lv_istore_n (lv' := [(3, .int r3), (0, .ref obT), (1, .int a0), (2, .int a1)]) hx hb dX7_readKey_19 rfl hl (by decide) rfl (fun ls hl => ?_)
    refine lv_iload_n hx hb dX7_readKey_20 rfl (lv_at hl 0 rfl) ?_
    refine lv_iconst (v := -1) hx hb dX7_readKey_21 (by decide) ?_
    refine lv_icmp_ne (tgt := 27) hx hb dX7_readKey_22 (by decide) (fun c4 => ?_) (fun c4 => ?_)
    · have hm := mr_un c4 hm
      refine lv_aload_n hx hb dX7_readKey_27 rfl (lv_at hl 1 rfl) ?_
      refine va_get (D := (dC, dI)) (ci := 9) (v := .ref obK) (C := RX7) (T := TX7) (N := 8) hx hb hts (inX7 _) hown hK hP 0 rfl rfl 5 (by decide) (hts _ (List.mem_cons_of_mem _ wf7_31)) (fun _ h9 => h9) rfl dX7_readKey_28 ?_
      refine lv_aload_n hx hb dX7_readKey_31 rfl (lv_at hl 1 rfl) ?_
      refine lv_iload_n hx hb dX7_readKey_32 rfl (lv_at hl 2 rfl) ?_
      refine lv_iload_n hx hb dX7_readKey_33 rfl (lv_at hl 3 rfl) ?_
      obtain ⟨⟨r5, k_heads_5, k_places_5, k_owners_5, k_nexts_5, k_count_5⟩, hz5, hm⟩ := mr_bind hm
      try dsimp only at hm
      refine mr_wVi (As := [.ref obT, .int a0, .int a1]) (rest := []) (sr_okZ adK adV) ⟨hx, hb, hml, hown, hts⟩ (kX2_add l htr dC dI adK adV cI cB cJ cZ cQ obK kq_heads kq_places kq_owners kq_nexts obT tq_tape tq_said tq_inner tq_next tq_amount k_count t_length t_wrongPlace_3 k_heads k_places k_owners k_nexts t_said_3 t_amount_3 _ a0 a1 _ hz5) (cwV 3 hts (g7_136 _) rfl rfl rfl (by decide +kernel) ⟨(by show 2 + 1 ≤ 3; omega), (by show 8 + (7 + 11) + (45) ≤ 71; omega)⟩) hS hA hP hD hK hz0 (wr := [(tq_tape, .inl (cB, 4096, .inl t_tape)), (tq_inner, .inl (cI, 4096, .inl t_inner))]) (w1 := [(obT, .inr (9, [.ref tq_tape, .ref tq_said, .ref tq_inner, .ref tq_next, .ref tq_amount, .ref obK, .int t_length, .int t_wrongPlace_3])), (tq_tape, .inl (cB, 4096, .inl t_tape)), (tq_said, .inl (cB, 4096, .inl t_said_3)), (tq_inner, .inl (cI, 4096, .inl t_inner)), (tq_amount, .inl (cI, 4096, .inl t_amount_3)), (obK, .inr (5, [.ref kq_heads, .ref kq_places, .ref kq_owners, .ref kq_nexts, .int k_count_5])), (kq_heads, .inl (cI, 256, .inl k_heads_5)), (kq_places, .inl (cI, 1024, .inl k_places_5)), (kq_owners, .inl (cI, 1024, .inl k_owners_5)), (kq_nexts, .inl (cI, 1024, .inl k_nexts_5))]) [5, 6, 7, 8, 9, 0, 2, 4] [1, 3] [7, 0, 8, 1, 9, 2, 3, 4, 5, 6] rfl rfl rfl rfl rfl (by decide) rfl rfl rfl (va_recv hK hP (ci := 5) (q0 := 5) rfl rfl) rfl rfl hl.1 (Nat.le_of_ble_eq_true rfl) dX7_readKey_34 ⟨Nat.zero_le _, Nat.zero_le _⟩ (fun H locs hP hD hS => ?_)
      refine lv_if_ne (tgt := 46) hx hb dX7_readKey_37 (by decide) (fun c6 => ?_) (fun c6 => ?_)
      · have hm := mr_un c6 hm
        refine lv_aload_n hx hb dX7_readKey_46 rfl (lv_at hl 1 rfl) ?_
        refine lv_iload_n hx hb dX7_readKey_47 rfl (lv_at hl 0 rfl) ?_
        obtain ⟨r7, hz7, hm⟩ := mr_bind hm
        refine mr_pV (As := [.int r3]) (rest := []) (sr_okZ adK adV) ⟨hx, hb, hml, hown, hts⟩ (kX7_behindBlanks l htr dC dI adK adV cI cB cJ cZ cQ obT tq_tape tq_said tq_inner tq_next tq_amount obK t_length t_wrongPlace_3 t_tape r3 r7 hz7) (cwV 1 hts (g7_87 _) rfl rfl rfl (by decide +kernel) ⟨(by show 1 + 1 ≤ 3; omega), (by show 8 + (3 + 11) + (21) ≤ 71; omega)⟩) hS hP hK hz0 [0, 1] rfl (va_recv hK hP (ci := 9) (q0 := 0) rfl rfl) rfl rfl hl.1 (Nat.le_of_ble_eq_true rfl) dX7_readKey_48 ⟨Nat.zero_le _, Nat.zero_le _⟩ ?_
        refine lv_istore (lv' := [(4, .int r7), (3, .int r3), (0, .ref obT), (1, .int a0), (2, .int a1)]) hx hb dX7_readKey_51 hl (by decide) rfl (fun ls hl => ?_)
        refine lv_aload_n hx hb dX7_readKey_53 rfl (lv_at hl 2 rfl) ?_
        refine lv_iload hx hb dX7_readKey_54 (lv_at hl 0 rfl) ?_
        obtain ⟨r8, hz8, hm⟩ := mr_bind hm
        refine mr_pV (As := [.int r7]) (rest := []) (sr_okZ adK adV) ⟨hx, hb, hml, hown, hts⟩ (kX7_byteAt l htr dC dI adK adV cI cB cJ cZ cQ obT tq_tape tq_said tq_inner tq_next tq_amount obK t_length t_wrongPlace_3 t_tape r7 r8 hz8) (cwV 1 hts (g7_42 _) rfl rfl rfl (by decide +kernel) ⟨(by show 0 + 1 ≤ 3; omega), (by show 8 + (2 + 11) + (0) ≤ 71; omega)⟩) hS hP hK hz0 [0, 1] rfl (va_recv hK hP (ci := 9) (q0 := 0) rfl rfl) rfl rfl hl.1 (Nat.le_of_ble_eq_true rfl) dX7_readKey_56 ⟨Nat.zero_le _, Nat.zero_le _⟩ ?_
        refine lv_bipush (v := 58) hx hb dX7_readKey_59 (by decide) ?_
        refine lv_icmp_eq (tgt := 71) hx hb dX7_readKey_61 (by decide) (fun c9 => ?_) (fun c9 => ?_)
        · have hm := mr_if c9 hm
          refine lv_aload_n hx hb dX7_readKey_71 rfl (lv_at hl 2 rfl) ?_
          refine lv_iload hx hb dX7_readKey_72 (lv_at hl 0 rfl) ?_
          refine lv_iconst (v := 1) hx hb dX7_readKey_74 (by decide) ?_
          refine lv_iadd hx hb dX7_readKey_75 ?_
          obtain ⟨r10, hz10, hm⟩ := mr_bind hm
          refine mr_pV (As := [.int (r7 + 1)]) (rest := []) (sr_okZ adK adV) ⟨hx, hb, hml, hown, hts⟩ (kX7_behindBlanks l htr dC dI adK adV cI cB cJ cZ cQ obT tq_tape tq_said tq_inner tq_next tq_amount obK t_length t_wrongPlace_3 t_tape (r7 + 1) r10 hz10) (cwV 1 hts (g7_87 _) rfl rfl rfl (by decide +kernel) ⟨(by show 1 + 1 ≤ 3; omega), (by show 8 + (3 + 11) + (21) ≤ 71; omega)⟩) hS hP hK hz0 [0, 1] rfl (va_recv hK hP (ci := 9) (q0 := 0) rfl rfl) rfl rfl hl.1 (Nat.le_of_ble_eq_true rfl) dX7_readKey_76 ⟨Nat.zero_le _, Nat.zero_le _⟩ ?_
          refine lv_istore (lv' := [(5, .int r10), (4, .int r7), (3, .int r3), (0, .ref obT), (1, .int a0), (2, .int a1)]) hx hb dX7_readKey_79 hl (by decide) rfl (fun ls hl => ?_)
          refine lv_aload_n hx hb dX7_readKey_81 rfl (lv_at hl 3 rfl) ?_
          refine va_get (D := (dC, dI)) (ci := 9) (v := .ref tq_inner) (C := RX7) (T := TX7) (N := 8) hx hb hts (inX7 _) hown hK hP 0 rfl rfl 2 (by decide) (hts _ (List.mem_cons_of_mem _ wf7_18)) (fun _ h9 => h9) rfl dX7_readKey_82 ?_
          refine lv_iload_n hx hb dX7_readKey_85 rfl (lv_at hl 5 rfl) ?_
          refine lv_iload hx hb dX7_readKey_86 (lv_at hl 0 rfl) ?_
          obtain ⟨t_inner_11, hz11, hm⟩ := mr_bind hm
          try dsimp only at hm
          refine mr_wSNv (As := [.ref tq_inner, .int a1, .int r10]) (rest := []) (sr_okZ adK adV) ⟨hx, hb, hml, hown, hts⟩ (kX8_enter l htr dC dI adK adV cI cB cJ cZ cQ tq_inner t_inner _ 4096 a1 r10 _ hz11) (sr_cnS 3 hts rfl gn7_125.1 (hz0.2.2.2.2.2.2.1 _ gn7_125.2) rfl rfl (by decide +kernel) ⟨(by show 0 + 1 ≤ 3; omega), (by show 8 + (3 + 11) + (0) ≤ 71; omega)⟩) hS hA hP hD hK hz0 (wr := [(obT, .inr (9, [.ref tq_tape, .ref tq_said, .ref tq_inner, .ref tq_next, .ref tq_amount, .ref obK, .int t_length, .int t_wrongPlace_3])), (tq_tape, .inl (cB, 4096, .inl t_tape)), (tq_said, .inl (cB, 4096, .inl t_said_3)), (tq_amount, .inl (cI, 4096, .inl t_amount_3)), (obK, .inr (5, [.ref kq_heads, .ref kq_places, .ref kq_owners, .ref kq_nexts, .int k_count_5])), (kq_heads, .inl (cI, 256, .inl k_heads_5)), (kq_places, .inl (cI, 1024, .inl k_places_5)), (kq_owners, .inl (cI, 1024, .inl k_owners_5)), (kq_nexts, .inl (cI, 1024, .inl k_nexts_5))]) (w1 := [(obT, .inr (9, [.ref tq_tape, .ref tq_said, .ref tq_inner, .ref tq_next, .ref tq_amount, .ref obK, .int t_length, .int t_wrongPlace_3])), (tq_tape, .inl (cB, 4096, .inl t_tape)), (tq_said, .inl (cB, 4096, .inl t_said_3)), (tq_inner, .inl (cI, 4096, .inl t_inner_11)), (tq_amount, .inl (cI, 4096, .inl t_amount_3)), (obK, .inr (5, [.ref kq_heads, .ref kq_places, .ref kq_owners, .ref kq_nexts, .int k_count_5])), (kq_heads, .inl (cI, 256, .inl k_heads_5)), (kq_places, .inl (cI, 1024, .inl k_places_5)), (kq_owners, .inl (cI, 1024, .inl k_owners_5)), (kq_nexts, .inl (cI, 1024, .inl k_nexts_5))]) [3] [0, 1, 2, 4, 5, 6, 7, 8, 9] [0, 1, 2, 9, 3, 4, 5, 6, 7, 8] rfl rfl rfl rfl rfl (by decide) rfl rfl rfl rfl rfl hl.1 (Nat.le_of_ble_eq_true rfl) dX7_readKey_88 ⟨Nat.zero_le _, Nat.zero_le _⟩ (fun H locs hP hD hS => ?_)
          refine lv_iload hx hb dX7_readKey_91 (lv_at hl 0 rfl) ?_
          obtain rfl := Option.some.inj hm
          subst hQ0
          exact W.iret (v := r10) hx hb hr (fun t ht hW => ⟨⟨r10, (t_said_3, t_inner_11, t_amount_3, t_wrongPlace_3, k_heads_5, k_places_5, k_owners_5, k_nexts_5, k_count_5), rfl, ⟨rfl, rfl⟩, by rw [ht]; exact hP, va_K.moved hW.alike hK, hD⟩, hS.F ht⟩) hS.2.2 dX7_readKey_93
        · have hm := mr_un c9 hm
          refine lv_aload_n hx hb dX7_readKey_64 rfl (lv_at hl 2 rfl) ?_
          refine lv_iload hx hb dX7_readKey_65 (lv_at hl 0 rfl) ?_
          obtain ⟨⟨r12, t_wrongPlace_12⟩, hz12, hm⟩ := mr_bind hm
          try dsimp only at hm
          refine mr_wVi (As := [.int r7]) (rest := []) (sr_okZ adK adV) ⟨hx, hb, hml, hown, hts⟩ (kX7_refuse l htr dC dI adK adV cI cB cJ cZ cQ obT tq_tape tq_said tq_inner tq_next tq_amount obK t_length t_wrongPlace_3 _ r7 _ hz12) (cwV 1 hts (g7_94 _) rfl rfl rfl (by decide +kernel) ⟨(by show 0 + 1 ≤ 3; omega), (by show 8 + (2 + 11) + (0) ≤ 71; omega)⟩) hS hA hP hD hK hz0 (wr := [(tq_tape, .inl (cB, 4096, .inl t_tape)), (tq_said, .inl (cB, 4096, .inl t_said_3)), (tq_inner, .inl (cI, 4096, .inl t_inner)), (tq_amount, .inl (cI, 4096, .inl t_amount_3)), (obK, .inr (5, [.ref kq_heads, .ref kq_places, .ref kq_owners, .ref kq_nexts, .int k_count_5])), (kq_heads, .inl (cI, 256, .inl k_heads_5)), (kq_places, .inl (cI, 1024, .inl k_places_5)), (kq_owners, .inl (cI, 1024, .inl k_owners_5)), (kq_nexts, .inl (cI, 1024, .inl k_nexts_5))]) (w1 := [(obT, .inr (9, [.ref tq_tape, .ref tq_said, .ref tq_inner, .ref tq_next, .ref tq_amount, .ref obK, .int t_length, .int t_wrongPlace_12])), (tq_tape, .inl (cB, 4096, .inl t_tape)), (tq_said, .inl (cB, 4096, .inl t_said_3)), (tq_inner, .inl (cI, 4096, .inl t_inner)), (tq_amount, .inl (cI, 4096, .inl t_amount_3)), (obK, .inr (5, [.ref kq_heads, .ref kq_places, .ref kq_owners, .ref kq_nexts, .int k_count_5])), (kq_heads, .inl (cI, 256, .inl k_heads_5)), (kq_places, .inl (cI, 1024, .inl k_places_5)), (kq_owners, .inl (cI, 1024, .inl k_owners_5)), (kq_nexts, .inl (cI, 1024, .inl k_nexts_5))]) [0] [1, 2, 3, 4, 5, 6, 7, 8, 9] [9, 0, 1, 2, 3, 4, 5, 6, 7, 8] rfl rfl rfl rfl rfl (by decide) rfl rfl rfl (va_recv hK hP (ci := 9) (q0 := 0) rfl rfl) rfl rfl hl.1 (Nat.le_of_ble_eq_true rfl) dX7_readKey_67 ⟨Nat.zero_le _, Nat.zero_le _⟩ (fun H locs hP hD hS => ?_)
          obtain rfl := Option.some.inj hm
          subst hQ0
          exact W.iret (v := r12) hx hb hr (fun t ht hW => ⟨⟨r12, (t_said_3, t_inner, t_amount_3, t_wrongPlace_12, k_heads_5, k_places_5, k_owners_5, k_nexts_5, k_count_5), rfl, ⟨rfl, rfl⟩, by rw [ht]; exact hP, va_K.moved hW.alike hK, hD⟩, hS.F ht⟩) hS.2.2 dX7_readKey_70
      · have hm := mr_if c6 hm
        refine lv_aload_n hx hb dX7_readKey_40 rfl (lv_at hl 1 rfl) ?_
        refine lv_iload_n hx hb dX7_readKey_41 rfl (lv_at hl 3 rfl) ?_
        obtain ⟨⟨r13, t_wrongPlace_13⟩, hz13, hm⟩ := mr_bind hm
        try dsimp only at hm
        refine mr_wVi (As := [.int a1]) (rest := []) (sr_okZ adK adV) ⟨hx, hb, hml, hown, hts⟩ (kX7_refuse l htr dC dI adK adV cI cB cJ cZ cQ obT tq_tape tq_said tq_inner tq_next tq_amount obK t_length t_wrongPlace_3 _ a1 _ hz13) (cwV 1 hts (g7_94 _) rfl rfl rfl (by decide +kernel) ⟨(by show 0 + 1 ≤ 3; omega), (by show 8 + (2 + 11) + (0) ≤ 71; omega)⟩) hS hA hP hD hK hz0 (wr := [(tq_tape, .inl (cB, 4096, .inl t_tape)), (tq_said, .inl (cB, 4096, .inl t_said_3)), (tq_inner, .inl (cI, 4096, .inl t_inner)), (tq_amount, .inl (cI, 4096, .inl t_amount_3)), (obK, .inr (5, [.ref kq_heads, .ref kq_places, .ref kq_owners, .ref kq_nexts, .int k_count_5])), (kq_heads, .inl (cI, 256, .inl k_heads_5)), (kq_places, .inl (cI, 1024, .inl k_places_5)), (kq_owners, .inl (cI, 1024, .inl k_owners_5)), (kq_nexts, .inl (cI, 1024, .inl k_nexts_5))]) (w1 := [(obT, .inr (9, [.ref tq_tape, .ref tq_said, .ref tq_inner, .ref tq_next, .ref tq_amount, .ref obK, .int t_length, .int t_wrongPlace_13])), (tq_tape, .inl (cB, 4096, .inl t_tape)), (tq_said, .inl (cB, 4096, .inl t_said_3)), (tq_inner, .inl (cI, 4096, .inl t_inner)), (tq_amount, .inl (cI, 4096, .inl t_amount_3)), (obK, .inr (5, [.ref kq_heads, .ref kq_places, .ref kq_owners, .ref kq_nexts, .int k_count_5])), (kq_heads, .inl (cI, 256, .inl k_heads_5)), (kq_places, .inl (cI, 1024, .inl k_places_5)), (kq_owners, .inl (cI, 1024, .inl k_owners_5)), (kq_nexts, .inl (cI, 1024, .inl k_nexts_5))]) [0] [1, 2, 3, 4, 5, 6, 7, 8, 9] [9, 0, 1, 2, 3, 4, 5, 6, 7, 8] rfl rfl rfl rfl rfl (by decide) rfl rfl rfl (va_recv hK hP (ci := 9) (q0 := 0) rfl rfl) rfl rfl hl.1 (Nat.le_of_ble_eq_true rfl) dX7_readKey_42 ⟨Nat.zero_le _, Nat.zero_le _⟩ (fun H locs hP hD hS => ?_)
        obtain rfl := Option.some.inj hm
        subst hQ0
        exact W.iret (v := r13) hx hb hr (fun t ht hW => ⟨⟨r13, (t_said_3, t_inner, t_amount_3, t_wrongPlace_13, k_heads_5, k_places_5, k_owners_5, k_nexts_5, k_count_5), rfl, ⟨rfl, rfl⟩, by rw [ht]; exact hP, va_K.moved hW.alike hK, hD⟩, hS.F ht⟩) hS.2.2 dX7_readKey_45
    · have hm := mr_if c4 hm
      refine lv_iconst (v := -1) hx hb dX7_readKey_25 (by decide) ?_
      obtain rfl := Option.some.inj hm
      subst hQ0
      exact W.iret (v := (-1)) hx hb hr (fun t ht hW => ⟨⟨(-1), (t_said_3, t_inner, t_amount_3, t_wrongPlace_3, k_heads, k_places, k_owners, k_nexts, k_count), rfl, ⟨rfl, rfl⟩, by rw [ht]; exact hP, va_K.moved hW.alike hK, hD⟩, hS.F ht⟩) hS.2.2 dX7_readKey_26
  · have hm := mr_if c2 hm
    refine lv_aload_n hx hb dX7_readKey_8 rfl (lv_at hl 0 rfl) ?_
    refine lv_iload_n hx hb dX7_readKey_9 rfl (lv_at hl 2 rfl) ?_
    obtain ⟨⟨r14, t_wrongPlace_14⟩, hz14, hm⟩ := mr_bind hm
    try dsimp only at hm
    refine mr_wVi (As := [.int a1]) (rest := []) (sr_okZ adK adV) ⟨hx, hb, hml, hown, hts⟩ (kX7_refuse l htr dC dI adK adV cI cB cJ cZ cQ obT tq_tape tq_said tq_inner tq_next tq_amount obK t_length t_wrongPlace _ a1 _ hz14) (cwV 1 hts (g7_94 _) rfl rfl rfl (by decide +kernel) ⟨(by show 0 + 1 ≤ 3; omega), (by show 8 + (2 + 11) + (0) ≤ 71; omega)⟩) hS hA hP hD hK hz0 (wr := [(tq_tape, .inl (cB, 4096, .inl t_tape)), (tq_said, .inl (cB, 4096, .inl t_said)), (tq_inner, .inl (cI, 4096, .inl t_inner)), (tq_amount, .inl (cI, 4096, .inl t_amount)), (obK, .inr (5, [.ref kq_heads, .ref kq_places, .ref kq_owners, .ref kq_nexts, .int k_count])), (kq_heads, .inl (cI, 256, .inl k_heads)), (kq_places, .inl (cI, 1024, .inl k_places)), (kq_owners, .inl (cI, 1024, .inl k_owners)), (kq_nexts, .inl (cI, 1024, .inl k_nexts))]) (w1 := [(obT, .inr (9, [.ref tq_tape, .ref tq_said, .ref tq_inner, .ref tq_next, .ref tq_amount, .ref obK, .int t_length, .int t_wrongPlace_14])), (tq_tape, .inl (cB, 4096, .inl t_tape)), (tq_said, .inl (cB, 4096, .inl t_said)), (tq_inner, .inl (cI, 4096, .inl t_inner)), (tq_amount, .inl (cI, 4096, .inl t_amount)), (obK, .inr (5, [.ref kq_heads, .ref kq_places, .ref kq_owners, .ref kq_nexts, .int k_count])), (kq_heads, .inl (cI, 256, .inl k_heads)), (kq_places, .inl (cI, 1024, .inl k_places)), (kq_owners, .inl (cI, 1024, .inl k_owners)), (kq_nexts, .inl (cI, 1024, .inl k_nexts))]) [0] [1, 2, 3, 4, 5, 6, 7, 8, 9] [9, 0, 1, 2, 3, 4, 5, 6, 7, 8] rfl rfl rfl rfl rfl (by decide) rfl rfl rfl (va_recv hK hP (ci := 9) (q0 := 0) rfl rfl) rfl rfl hl.1 (Nat.le_of_ble_eq_true rfl) dX7_readKey_10 ⟨Nat.zero_le _, Nat.zero_le _⟩ (fun H locs hP hD hS => ?_)
    obtain rfl := Option.some.inj hm
    subst hQ0
    exact W.iret (v := r14) hx hb hr (fun t ht hW => ⟨⟨r14, (t_said, t_inner, t_amount, t_wrongPlace_14, k_heads, k_places, k_owners, k_nexts, k_count), rfl, ⟨rfl, rfl⟩, by rw [ht]; exact hP, va_K.moved hW.alike hK, hD⟩, hS.F ht⟩) hS.2.2 dX7_readKey_13
end
section
abbrev cX7_readGroup : ByteArray := prog_10_method_26_code
def yX7_readGroup : MethodName := ⟨RX7, "readGroup", "(II)I"⟩
def wsX7_readGroup : List Cond := .code yX7_readGroup cX7_readGroup 10 (some .int) :: sr_G
def nq_cX7_readGroup : Nat := 0xac5e00b62300b42a2a77ffa701068404365700b6600409152a05360415ac5e00b609152a0a009f2c102a00b609152aac600409150800a01d2a00b609152a09365700b608152a7d00b806151b1900b42a8400b6041505151b2aac020500a002081508365a00b660041c07152a0c00a7020700a0020715073604150500a78100b604151b2a0d00997a00b61b2a8600a32300b42a0615063604053602ac600404150800a01d2a00b604152a04365700b660041b2a7d00b8021b1200b42a7d00b8031b1900b42a3e5d100500a77d100800997a00b61b2aac5e00b61b2a0900a118101c
theorem kq_cX7_readGroup : qOk cX7_readGroup nq_cX7_readGroup 225 = true := by decide +kernel
theorem dX7_readGroup_0 : decode cX7_readGroup 0 = .ok (.iload_n 2, 1) := qd_28 kq_cX7_readGroup (by decide +kernel)
theorem dX7_readGroup_1 : decode cX7_readGroup 1 = .ok (.bipush 24, 2) := qd_16 kq_cX7_readGroup (by decide +kernel)
theorem dX7_readGroup_3 : decode cX7_readGroup 3 = .ok (.if_icmp .lt 9, 3) := qd_161 kq_cX7_readGroup (by decide +kernel)
theorem dX7_readGroup_6 : decode cX7_readGroup 6 = .ok (.aload_n 0, 1) := qd_42 kq_cX7_readGroup (by decide +kernel)
theorem dX7_readGroup_7 : decode cX7_readGroup 7 = .ok (.iload_n 1, 1) := qd_27 kq_cX7_readGroup (by decide +kernel)
theorem dX7_readGroup_8 : decode cX7_readGroup 8 = .ok (.invokevirtual 94, 3) := qd_182 kq_cX7_readGroup (by decide +kernel)
theorem dX7_readGroup_11 : decode cX7_readGroup 11 = .ok (.ireturn, 1) := qd_172 kq_cX7_readGroup (by decide +kernel)
theorem dX7_readGroup_12 : decode cX7_readGroup 12 = .ok (.aload_n 0, 1) := qd_42 kq_cX7_readGroup (by decide +kernel)
theorem dX7_readGroup_13 : decode cX7_readGroup 13 = .ok (.iload_n 1, 1) := qd_27 kq_cX7_readGroup (by decide +kernel)
theorem dX7_readGroup_14 : decode cX7_readGroup 14 = .ok (.invokevirtual 122, 3) := qd_182 kq_cX7_readGroup (by decide +kernel)
theorem dX7_readGroup_17 : decode cX7_readGroup 17 = .ok (.ifCond .eq 8, 3) := qd_153 kq_cX7_readGroup (by decide +kernel)
theorem dX7_readGroup_20 : decode cX7_readGroup 20 = .ok (.bipush 125, 2) := qd_16 kq_cX7_readGroup (by decide +kernel)
theorem dX7_readGroup_22 : decode cX7_readGroup 22 = .ok (.goto 5, 3) := qd_167 kq_cX7_readGroup (by decide +kernel)
theorem dX7_readGroup_25 : decode cX7_readGroup 25 = .ok (.bipush 93, 2) := qd_16 kq_cX7_readGroup (by decide +kernel)
theorem dX7_readGroup_27 : decode cX7_readGroup 27 = .ok (.istore_n 3, 1) := qd_62 kq_cX7_readGroup (by decide +kernel)
theorem dX7_readGroup_28 : decode cX7_readGroup 28 = .ok (.aload_n 0, 1) := qd_42 kq_cX7_readGroup (by decide +kernel)
theorem dX7_readGroup_29 : decode cX7_readGroup 29 = .ok (.getfield 25, 3) := qd_180 kq_cX7_readGroup (by decide +kernel)
theorem dX7_readGroup_32 : decode cX7_readGroup 32 = .ok (.iload_n 1, 1) := qd_27 kq_cX7_readGroup (by decide +kernel)
theorem dX7_readGroup_33 : decode cX7_readGroup 33 = .ok (.iconst 0, 1) := qd_3 kq_cX7_readGroup (by decide +kernel)
theorem dX7_readGroup_34 : decode cX7_readGroup 34 = .ok (.invokestatic 125, 3) := qd_184 kq_cX7_readGroup (by decide +kernel)
theorem dX7_readGroup_37 : decode cX7_readGroup 37 = .ok (.aload_n 0, 1) := qd_42 kq_cX7_readGroup (by decide +kernel)
theorem dX7_readGroup_38 : decode cX7_readGroup 38 = .ok (.getfield 18, 3) := qd_180 kq_cX7_readGroup (by decide +kernel)
theorem dX7_readGroup_41 : decode cX7_readGroup 41 = .ok (.iload_n 1, 1) := qd_27 kq_cX7_readGroup (by decide +kernel)
theorem dX7_readGroup_42 : decode cX7_readGroup 42 = .ok (.iconst (-1), 1) := qd_2 kq_cX7_readGroup (by decide +kernel)
theorem dX7_readGroup_43 : decode cX7_readGroup 43 = .ok (.invokestatic 125, 3) := qd_184 kq_cX7_readGroup (by decide +kernel)
theorem dX7_readGroup_46 : decode cX7_readGroup 46 = .ok (.aload_n 0, 1) := qd_42 kq_cX7_readGroup (by decide +kernel)
theorem dX7_readGroup_47 : decode cX7_readGroup 47 = .ok (.iload_n 1, 1) := qd_27 kq_cX7_readGroup (by decide +kernel)
theorem dX7_readGroup_48 : decode cX7_readGroup 48 = .ok (.iconst 1, 1) := qd_4 kq_cX7_readGroup (by decide +kernel)
theorem dX7_readGroup_49 : decode cX7_readGroup 49 = .ok (.iadd, 1) := qd_96 kq_cX7_readGroup (by decide +kernel)
theorem dX7_readGroup_50 : decode cX7_readGroup 50 = .ok (.invokevirtual 87, 3) := qd_182 kq_cX7_readGroup (by decide +kernel)
theorem dX7_readGroup_53 : decode cX7_readGroup 53 = .ok (.istore 4, 2) := qd_54 kq_cX7_readGroup (by decide +kernel)
theorem dX7_readGroup_55 : decode cX7_readGroup 55 = .ok (.aload_n 0, 1) := qd_42 kq_cX7_readGroup (by decide +kernel)
theorem dX7_readGroup_56 : decode cX7_readGroup 56 = .ok (.iload 4, 2) := qd_21 kq_cX7_readGroup (by decide +kernel)
theorem dX7_readGroup_58 : decode cX7_readGroup 58 = .ok (.invokevirtual 42, 3) := qd_182 kq_cX7_readGroup (by decide +kernel)
theorem dX7_readGroup_61 : decode cX7_readGroup 61 = .ok (.iload_n 3, 1) := qd_29 kq_cX7_readGroup (by decide +kernel)
theorem dX7_readGroup_62 : decode cX7_readGroup 62 = .ok (.if_icmp .ne 8, 3) := qd_160 kq_cX7_readGroup (by decide +kernel)
theorem dX7_readGroup_65 : decode cX7_readGroup 65 = .ok (.iload 4, 2) := qd_21 kq_cX7_readGroup (by decide +kernel)
theorem dX7_readGroup_67 : decode cX7_readGroup 67 = .ok (.iconst 1, 1) := qd_4 kq_cX7_readGroup (by decide +kernel)
theorem dX7_readGroup_68 : decode cX7_readGroup 68 = .ok (.iadd, 1) := qd_96 kq_cX7_readGroup (by decide +kernel)
theorem dX7_readGroup_69 : decode cX7_readGroup 69 = .ok (.ireturn, 1) := qd_172 kq_cX7_readGroup (by decide +kernel)
theorem dX7_readGroup_70 : decode cX7_readGroup 70 = .ok (.iconst (-1), 1) := qd_2 kq_cX7_readGroup (by decide +kernel)
theorem dX7_readGroup_71 : decode cX7_readGroup 71 = .ok (.istore 5, 2) := qd_54 kq_cX7_readGroup (by decide +kernel)
theorem dX7_readGroup_73 : decode cX7_readGroup 73 = .ok (.iconst 1, 1) := qd_4 kq_cX7_readGroup (by decide +kernel)
theorem dX7_readGroup_74 : decode cX7_readGroup 74 = .ok (.istore 6, 2) := qd_54 kq_cX7_readGroup (by decide +kernel)
theorem dX7_readGroup_76 : decode cX7_readGroup 76 = .ok (.iload 6, 2) := qd_21 kq_cX7_readGroup (by decide +kernel)
theorem dX7_readGroup_78 : decode cX7_readGroup 78 = .ok (.aload_n 0, 1) := qd_42 kq_cX7_readGroup (by decide +kernel)
theorem dX7_readGroup_79 : decode cX7_readGroup 79 = .ok (.getfield 35, 3) := qd_180 kq_cX7_readGroup (by decide +kernel)
theorem dX7_readGroup_82 : decode cX7_readGroup 82 = .ok (.if_icmp .gt 134, 3) := qd_163 kq_cX7_readGroup (by decide +kernel)
theorem dX7_readGroup_85 : decode cX7_readGroup 85 = .ok (.aload_n 0, 1) := qd_42 kq_cX7_readGroup (by decide +kernel)
theorem dX7_readGroup_86 : decode cX7_readGroup 86 = .ok (.iload_n 1, 1) := qd_27 kq_cX7_readGroup (by decide +kernel)
theorem dX7_readGroup_87 : decode cX7_readGroup 87 = .ok (.invokevirtual 122, 3) := qd_182 kq_cX7_readGroup (by decide +kernel)
theorem dX7_readGroup_90 : decode cX7_readGroup 90 = .ok (.ifCond .eq 13, 3) := qd_153 kq_cX7_readGroup (by decide +kernel)
theorem dX7_readGroup_93 : decode cX7_readGroup 93 = .ok (.aload_n 0, 1) := qd_42 kq_cX7_readGroup (by decide +kernel)
theorem dX7_readGroup_94 : decode cX7_readGroup 94 = .ok (.iload_n 1, 1) := qd_27 kq_cX7_readGroup (by decide +kernel)
theorem dX7_readGroup_95 : decode cX7_readGroup 95 = .ok (.iload 4, 2) := qd_21 kq_cX7_readGroup (by decide +kernel)
theorem dX7_readGroup_97 : decode cX7_readGroup 97 = .ok (.invokevirtual 129, 3) := qd_182 kq_cX7_readGroup (by decide +kernel)
theorem dX7_readGroup_100 : decode cX7_readGroup 100 = .ok (.goto 5, 3) := qd_167 kq_cX7_readGroup (by decide +kernel)
theorem dX7_readGroup_103 : decode cX7_readGroup 103 = .ok (.iload 4, 2) := qd_21 kq_cX7_readGroup (by decide +kernel)
theorem dX7_readGroup_105 : decode cX7_readGroup 105 = .ok (.istore 7, 2) := qd_54 kq_cX7_readGroup (by decide +kernel)
theorem dX7_readGroup_107 : decode cX7_readGroup 107 = .ok (.iload 7, 2) := qd_21 kq_cX7_readGroup (by decide +kernel)
theorem dX7_readGroup_109 : decode cX7_readGroup 109 = .ok (.iconst (-1), 1) := qd_2 kq_cX7_readGroup (by decide +kernel)
theorem dX7_readGroup_110 : decode cX7_readGroup 110 = .ok (.if_icmp .ne 7, 3) := qd_160 kq_cX7_readGroup (by decide +kernel)
theorem dX7_readGroup_113 : decode cX7_readGroup 113 = .ok (.iconst (-1), 1) := qd_2 kq_cX7_readGroup (by decide +kernel)
theorem dX7_readGroup_114 : decode cX7_readGroup 114 = .ok (.goto 12, 3) := qd_167 kq_cX7_readGroup (by decide +kernel)
theorem dX7_readGroup_117 : decode cX7_readGroup 117 = .ok (.aload_n 0, 1) := qd_42 kq_cX7_readGroup (by decide +kernel)
theorem dX7_readGroup_118 : decode cX7_readGroup 118 = .ok (.iload 7, 2) := qd_21 kq_cX7_readGroup (by decide +kernel)
theorem dX7_readGroup_120 : decode cX7_readGroup 120 = .ok (.iload_n 2, 1) := qd_28 kq_cX7_readGroup (by decide +kernel)
theorem dX7_readGroup_121 : decode cX7_readGroup 121 = .ok (.iconst 1, 1) := qd_4 kq_cX7_readGroup (by decide +kernel)
theorem dX7_readGroup_122 : decode cX7_readGroup 122 = .ok (.iadd, 1) := qd_96 kq_cX7_readGroup (by decide +kernel)
theorem dX7_readGroup_123 : decode cX7_readGroup 123 = .ok (.invokevirtual 90, 3) := qd_182 kq_cX7_readGroup (by decide +kernel)
theorem dX7_readGroup_126 : decode cX7_readGroup 126 = .ok (.istore 8, 2) := qd_54 kq_cX7_readGroup (by decide +kernel)
theorem dX7_readGroup_128 : decode cX7_readGroup 128 = .ok (.iload 8, 2) := qd_21 kq_cX7_readGroup (by decide +kernel)
theorem dX7_readGroup_130 : decode cX7_readGroup 130 = .ok (.iconst (-1), 1) := qd_2 kq_cX7_readGroup (by decide +kernel)
theorem dX7_readGroup_131 : decode cX7_readGroup 131 = .ok (.if_icmp .ne 5, 3) := qd_160 kq_cX7_readGroup (by decide +kernel)
theorem dX7_readGroup_134 : decode cX7_readGroup 134 = .ok (.iconst (-1), 1) := qd_2 kq_cX7_readGroup (by decide +kernel)
theorem dX7_readGroup_135 : decode cX7_readGroup 135 = .ok (.ireturn, 1) := qd_172 kq_cX7_readGroup (by decide +kernel)
theorem dX7_readGroup_136 : decode cX7_readGroup 136 = .ok (.aload_n 0, 1) := qd_42 kq_cX7_readGroup (by decide +kernel)
theorem dX7_readGroup_137 : decode cX7_readGroup 137 = .ok (.iload_n 1, 1) := qd_27 kq_cX7_readGroup (by decide +kernel)
theorem dX7_readGroup_138 : decode cX7_readGroup 138 = .ok (.iload 5, 2) := qd_21 kq_cX7_readGroup (by decide +kernel)
theorem dX7_readGroup_140 : decode cX7_readGroup 140 = .ok (.iload 4, 2) := qd_21 kq_cX7_readGroup (by decide +kernel)
theorem dX7_readGroup_142 : decode cX7_readGroup 142 = .ok (.invokevirtual 132, 3) := qd_182 kq_cX7_readGroup (by decide +kernel)
theorem dX7_readGroup_145 : decode cX7_readGroup 145 = .ok (.aload_n 0, 1) := qd_42 kq_cX7_readGroup (by decide +kernel)
theorem dX7_readGroup_146 : decode cX7_readGroup 146 = .ok (.getfield 25, 3) := qd_180 kq_cX7_readGroup (by decide +kernel)
theorem dX7_readGroup_149 : decode cX7_readGroup 149 = .ok (.iload_n 1, 1) := qd_27 kq_cX7_readGroup (by decide +kernel)
theorem dX7_readGroup_150 : decode cX7_readGroup 150 = .ok (.iload 6, 2) := qd_21 kq_cX7_readGroup (by decide +kernel)
theorem dX7_readGroup_152 : decode cX7_readGroup 152 = .ok (.invokestatic 125, 3) := qd_184 kq_cX7_readGroup (by decide +kernel)
theorem dX7_readGroup_155 : decode cX7_readGroup 155 = .ok (.aload_n 0, 1) := qd_42 kq_cX7_readGroup (by decide +kernel)
theorem dX7_readGroup_156 : decode cX7_readGroup 156 = .ok (.iload 8, 2) := qd_21 kq_cX7_readGroup (by decide +kernel)
theorem dX7_readGroup_158 : decode cX7_readGroup 158 = .ok (.invokevirtual 87, 3) := qd_182 kq_cX7_readGroup (by decide +kernel)
theorem dX7_readGroup_161 : decode cX7_readGroup 161 = .ok (.istore 9, 2) := qd_54 kq_cX7_readGroup (by decide +kernel)
theorem dX7_readGroup_163 : decode cX7_readGroup 163 = .ok (.aload_n 0, 1) := qd_42 kq_cX7_readGroup (by decide +kernel)
theorem dX7_readGroup_164 : decode cX7_readGroup 164 = .ok (.iload 9, 2) := qd_21 kq_cX7_readGroup (by decide +kernel)
theorem dX7_readGroup_166 : decode cX7_readGroup 166 = .ok (.invokevirtual 42, 3) := qd_182 kq_cX7_readGroup (by decide +kernel)
theorem dX7_readGroup_169 : decode cX7_readGroup 169 = .ok (.iload_n 3, 1) := qd_29 kq_cX7_readGroup (by decide +kernel)
theorem dX7_readGroup_170 : decode cX7_readGroup 170 = .ok (.if_icmp .ne 8, 3) := qd_160 kq_cX7_readGroup (by decide +kernel)
theorem dX7_readGroup_173 : decode cX7_readGroup 173 = .ok (.iload 9, 2) := qd_21 kq_cX7_readGroup (by decide +kernel)
theorem dX7_readGroup_175 : decode cX7_readGroup 175 = .ok (.iconst 1, 1) := qd_4 kq_cX7_readGroup (by decide +kernel)
theorem dX7_readGroup_176 : decode cX7_readGroup 176 = .ok (.iadd, 1) := qd_96 kq_cX7_readGroup (by decide +kernel)
theorem dX7_readGroup_177 : decode cX7_readGroup 177 = .ok (.ireturn, 1) := qd_172 kq_cX7_readGroup (by decide +kernel)
theorem dX7_readGroup_178 : decode cX7_readGroup 178 = .ok (.aload_n 0, 1) := qd_42 kq_cX7_readGroup (by decide +kernel)
theorem dX7_readGroup_179 : decode cX7_readGroup 179 = .ok (.iload 9, 2) := qd_21 kq_cX7_readGroup (by decide +kernel)
theorem dX7_readGroup_181 : decode cX7_readGroup 181 = .ok (.invokevirtual 42, 3) := qd_182 kq_cX7_readGroup (by decide +kernel)
theorem dX7_readGroup_184 : decode cX7_readGroup 184 = .ok (.bipush 44, 2) := qd_16 kq_cX7_readGroup (by decide +kernel)
theorem dX7_readGroup_186 : decode cX7_readGroup 186 = .ok (.if_icmp .eq 10, 3) := qd_159 kq_cX7_readGroup (by decide +kernel)
theorem dX7_readGroup_189 : decode cX7_readGroup 189 = .ok (.aload_n 0, 1) := qd_42 kq_cX7_readGroup (by decide +kernel)
theorem dX7_readGroup_190 : decode cX7_readGroup 190 = .ok (.iload 9, 2) := qd_21 kq_cX7_readGroup (by decide +kernel)
theorem dX7_readGroup_192 : decode cX7_readGroup 192 = .ok (.invokevirtual 94, 3) := qd_182 kq_cX7_readGroup (by decide +kernel)
theorem dX7_readGroup_195 : decode cX7_readGroup 195 = .ok (.ireturn, 1) := qd_172 kq_cX7_readGroup (by decide +kernel)
theorem dX7_readGroup_196 : decode cX7_readGroup 196 = .ok (.iload 4, 2) := qd_21 kq_cX7_readGroup (by decide +kernel)
theorem dX7_readGroup_198 : decode cX7_readGroup 198 = .ok (.istore 5, 2) := qd_54 kq_cX7_readGroup (by decide +kernel)
theorem dX7_readGroup_200 : decode cX7_readGroup 200 = .ok (.aload_n 0, 1) := qd_42 kq_cX7_readGroup (by decide +kernel)
theorem dX7_readGroup_201 : decode cX7_readGroup 201 = .ok (.iload 9, 2) := qd_21 kq_cX7_readGroup (by decide +kernel)
theorem dX7_readGroup_203 : decode cX7_readGroup 203 = .ok (.iconst 1, 1) := qd_4 kq_cX7_readGroup (by decide +kernel)
theorem dX7_readGroup_204 : decode cX7_readGroup 204 = .ok (.iadd, 1) := qd_96 kq_cX7_readGroup (by decide +kernel)
theorem dX7_readGroup_205 : decode cX7_readGroup 205 = .ok (.invokevirtual 87, 3) := qd_182 kq_cX7_readGroup (by decide +kernel)
theorem dX7_readGroup_208 : decode cX7_readGroup 208 = .ok (.istore 4, 2) := qd_54 kq_cX7_readGroup (by decide +kernel)
theorem dX7_readGroup_210 : decode cX7_readGroup 210 = .ok (.iinc 6 1, 3) := qd_132 kq_cX7_readGroup (by decide +kernel)
theorem dX7_readGroup_213 : decode cX7_readGroup 213 = .ok (.goto (-137), 3) := qd_167 kq_cX7_readGroup (by decide +kernel)
theorem dX7_readGroup_216 : decode cX7_readGroup 216 = .ok (.aload_n 0, 1) := qd_42 kq_cX7_readGroup (by decide +kernel)
theorem dX7_readGroup_217 : decode cX7_readGroup 217 = .ok (.aload_n 0, 1) := qd_42 kq_cX7_readGroup (by decide +kernel)
theorem dX7_readGroup_218 : decode cX7_readGroup 218 = .ok (.getfield 35, 3) := qd_180 kq_cX7_readGroup (by decide +kernel)
theorem dX7_readGroup_221 : decode cX7_readGroup 221 = .ok (.invokevirtual 94, 3) := qd_182 kq_cX7_readGroup (by decide +kernel)
theorem dX7_readGroup_224 : decode cX7_readGroup 224 = .ok (.ireturn, 1) := qd_172 kq_cX7_readGroup (by decide +kernel)
def rmX7_readGroup (d : Nat) (mc ms : Nat) : Room := { frames := 2 * d + 6, cells := mc, slots := ms, locals := 51 * d + 130 }
abbrev cX7_readValue : ByteArray := prog_10_method_25_code
def yX7_readValue : MethodName := ⟨RX7, "readValue", "(II)I"⟩
def wsX7_readValue : List Cond := .code yX7_readValue cX7_readValue 3 (some .int) :: sr_G
def nq_cX7_readValue : Nat := 0xac5e00b61b2a0800a77700b61b2a0b00997400b61b2aac6c00b672121b2aac6c00b670121b2aac6c00b66a121b2aac6700b61b2aac6400b61c1b2a3b0000007b0000004800000074000000580000006e00000050000000660000003b0000005b000000420000002200000006000000600000000000ab2a00b61b2a
theorem kq_cX7_readValue : qOk cX7_readValue nq_cX7_readValue 123 = true := by decide +kernel
theorem dX7_readValue_0 : decode cX7_readValue 0 = .ok (.aload_n 0, 1) := qd_42 kq_cX7_readValue (by decide +kernel)
theorem dX7_readValue_1 : decode cX7_readValue 1 = .ok (.iload_n 1, 1) := qd_27 kq_cX7_readValue (by decide +kernel)
theorem dX7_readValue_2 : decode cX7_readValue 2 = .ok (.invokevirtual 42, 3) := qd_182 kq_cX7_readValue (by decide +kernel)
theorem dX7_readValue_5 : decode cX7_readValue 5 = .ok (.lookupswitch 96 #[(34, 66), (91, 59), (102, 80), (110, 88), (116, 72), (123, 59)], 59) := by decide +kernel
theorem dX7_readValue_64 : decode cX7_readValue 64 = .ok (.aload_n 0, 1) := qd_42 kq_cX7_readValue (by decide +kernel)
theorem dX7_readValue_65 : decode cX7_readValue 65 = .ok (.iload_n 1, 1) := qd_27 kq_cX7_readValue (by decide +kernel)
theorem dX7_readValue_66 : decode cX7_readValue 66 = .ok (.iload_n 2, 1) := qd_28 kq_cX7_readValue (by decide +kernel)
theorem dX7_readValue_67 : decode cX7_readValue 67 = .ok (.invokevirtual 100, 3) := qd_182 kq_cX7_readValue (by decide +kernel)
theorem dX7_readValue_70 : decode cX7_readValue 70 = .ok (.ireturn, 1) := qd_172 kq_cX7_readValue (by decide +kernel)
theorem dX7_readValue_71 : decode cX7_readValue 71 = .ok (.aload_n 0, 1) := qd_42 kq_cX7_readValue (by decide +kernel)
theorem dX7_readValue_72 : decode cX7_readValue 72 = .ok (.iload_n 1, 1) := qd_27 kq_cX7_readValue (by decide +kernel)
theorem dX7_readValue_73 : decode cX7_readValue 73 = .ok (.invokevirtual 103, 3) := qd_182 kq_cX7_readValue (by decide +kernel)
theorem dX7_readValue_76 : decode cX7_readValue 76 = .ok (.ireturn, 1) := qd_172 kq_cX7_readValue (by decide +kernel)
theorem dX7_readValue_77 : decode cX7_readValue 77 = .ok (.aload_n 0, 1) := qd_42 kq_cX7_readValue (by decide +kernel)
theorem dX7_readValue_78 : decode cX7_readValue 78 = .ok (.iload_n 1, 1) := qd_27 kq_cX7_readValue (by decide +kernel)
theorem dX7_readValue_79 : decode cX7_readValue 79 = .ok (.ldc 106, 2) := qd_18 kq_cX7_readValue (by decide +kernel)
theorem dX7_readValue_81 : decode cX7_readValue 81 = .ok (.invokevirtual 108, 3) := qd_182 kq_cX7_readValue (by decide +kernel)
theorem dX7_readValue_84 : decode cX7_readValue 84 = .ok (.ireturn, 1) := qd_172 kq_cX7_readValue (by decide +kernel)
theorem dX7_readValue_85 : decode cX7_readValue 85 = .ok (.aload_n 0, 1) := qd_42 kq_cX7_readValue (by decide +kernel)
theorem dX7_readValue_86 : decode cX7_readValue 86 = .ok (.iload_n 1, 1) := qd_27 kq_cX7_readValue (by decide +kernel)
theorem dX7_readValue_87 : decode cX7_readValue 87 = .ok (.ldc 112, 2) := qd_18 kq_cX7_readValue (by decide +kernel)
theorem dX7_readValue_89 : decode cX7_readValue 89 = .ok (.invokevirtual 108, 3) := qd_182 kq_cX7_readValue (by decide +kernel)
theorem dX7_readValue_92 : decode cX7_readValue 92 = .ok (.ireturn, 1) := qd_172 kq_cX7_readValue (by decide +kernel)
theorem dX7_readValue_93 : decode cX7_readValue 93 = .ok (.aload_n 0, 1) := qd_42 kq_cX7_readValue (by decide +kernel)
theorem dX7_readValue_94 : decode cX7_readValue 94 = .ok (.iload_n 1, 1) := qd_27 kq_cX7_readValue (by decide +kernel)
theorem dX7_readValue_95 : decode cX7_readValue 95 = .ok (.ldc 114, 2) := qd_18 kq_cX7_readValue (by decide +kernel)
theorem dX7_readValue_97 : decode cX7_readValue 97 = .ok (.invokevirtual 108, 3) := qd_182 kq_cX7_readValue (by decide +kernel)
theorem dX7_readValue_100 : decode cX7_readValue 100 = .ok (.ireturn, 1) := qd_172 kq_cX7_readValue (by decide +kernel)
theorem dX7_readValue_101 : decode cX7_readValue 101 = .ok (.aload_n 0, 1) := qd_42 kq_cX7_readValue (by decide +kernel)
theorem dX7_readValue_102 : decode cX7_readValue 102 = .ok (.iload_n 1, 1) := qd_27 kq_cX7_readValue (by decide +kernel)
theorem dX7_readValue_103 : decode cX7_readValue 103 = .ok (.invokevirtual 116, 3) := qd_182 kq_cX7_readValue (by decide +kernel)
theorem dX7_readValue_106 : decode cX7_readValue 106 = .ok (.ifCond .eq 11, 3) := qd_153 kq_cX7_readValue (by decide +kernel)
theorem dX7_readValue_109 : decode cX7_readValue 109 = .ok (.aload_n 0, 1) := qd_42 kq_cX7_readValue (by decide +kernel)
theorem dX7_readValue_110 : decode cX7_readValue 110 = .ok (.iload_n 1, 1) := qd_27 kq_cX7_readValue (by decide +kernel)
theorem dX7_readValue_111 : decode cX7_readValue 111 = .ok (.invokevirtual 119, 3) := qd_182 kq_cX7_readValue (by decide +kernel)
theorem dX7_readValue_114 : decode cX7_readValue 114 = .ok (.goto 8, 3) := qd_167 kq_cX7_readValue (by decide +kernel)
theorem dX7_readValue_117 : decode cX7_readValue 117 = .ok (.aload_n 0, 1) := qd_42 kq_cX7_readValue (by decide +kernel)
theorem dX7_readValue_118 : decode cX7_readValue 118 = .ok (.iload_n 1, 1) := qd_27 kq_cX7_readValue (by decide +kernel)
theorem dX7_readValue_119 : decode cX7_readValue 119 = .ok (.invokevirtual 94, 3) := qd_182 kq_cX7_readValue (by decide +kernel)
theorem dX7_readValue_122 : decode cX7_readValue 122 = .ok (.ireturn, 1) := qd_172 kq_cX7_readValue (by decide +kernel)
def rmX7_readValue (d : Nat) (mc ms : Nat) : Room := { frames := 2 * d + 5, cells := mc, slots := ms, locals := 51 * d + 108 }
abbrev cX7_read : ByteArray := prog_10_method_21_code
def yX7_read : MethodName := ⟨RX7, "read", "()I"⟩
def wsX7_read : List Cond := .code yX7_read cX7_read 3 (some .int) :: sr_G
def nq_cX7_read : Nat := 0xac1b0400a75e00b61c2a0b00a22300b42a1c3d5700b61c2aac020500a0021c3d5a00b6031b2a3c5700b6032a2700b5022a5400b61f00b42a
theorem kq_cX7_read : qOk cX7_read nq_cX7_read 56 = true := by decide +kernel
theorem dX7_read_0 : decode cX7_read 0 = .ok (.aload_n 0, 1) := qd_42 kq_cX7_read (by decide +kernel)
theorem dX7_read_1 : decode cX7_read 1 = .ok (.getfield 31, 3) := qd_180 kq_cX7_read (by decide +kernel)
theorem dX7_read_4 : decode cX7_read 4 = .ok (.invokevirtual 84, 3) := qd_182 kq_cX7_read (by decide +kernel)
theorem dX7_read_7 : decode cX7_read 7 = .ok (.aload_n 0, 1) := qd_42 kq_cX7_read (by decide +kernel)
theorem dX7_read_8 : decode cX7_read 8 = .ok (.iconst (-1), 1) := qd_2 kq_cX7_read (by decide +kernel)
theorem dX7_read_9 : decode cX7_read 9 = .ok (.putfield 39, 3) := qd_181 kq_cX7_read (by decide +kernel)
theorem dX7_read_12 : decode cX7_read 12 = .ok (.aload_n 0, 1) := qd_42 kq_cX7_read (by decide +kernel)
theorem dX7_read_13 : decode cX7_read 13 = .ok (.iconst 0, 1) := qd_3 kq_cX7_read (by decide +kernel)
theorem dX7_read_14 : decode cX7_read 14 = .ok (.invokevirtual 87, 3) := qd_182 kq_cX7_read (by decide +kernel)
theorem dX7_read_17 : decode cX7_read 17 = .ok (.istore_n 1, 1) := qd_60 kq_cX7_read (by decide +kernel)
theorem dX7_read_18 : decode cX7_read 18 = .ok (.aload_n 0, 1) := qd_42 kq_cX7_read (by decide +kernel)
theorem dX7_read_19 : decode cX7_read 19 = .ok (.iload_n 1, 1) := qd_27 kq_cX7_read (by decide +kernel)
theorem dX7_read_20 : decode cX7_read 20 = .ok (.iconst 0, 1) := qd_3 kq_cX7_read (by decide +kernel)
theorem dX7_read_21 : decode cX7_read 21 = .ok (.invokevirtual 90, 3) := qd_182 kq_cX7_read (by decide +kernel)
theorem dX7_read_24 : decode cX7_read 24 = .ok (.istore_n 2, 1) := qd_61 kq_cX7_read (by decide +kernel)
theorem dX7_read_25 : decode cX7_read 25 = .ok (.iload_n 2, 1) := qd_28 kq_cX7_read (by decide +kernel)
theorem dX7_read_26 : decode cX7_read 26 = .ok (.iconst (-1), 1) := qd_2 kq_cX7_read (by decide +kernel)
theorem dX7_read_27 : decode cX7_read 27 = .ok (.if_icmp .ne 5, 3) := qd_160 kq_cX7_read (by decide +kernel)
theorem dX7_read_30 : decode cX7_read 30 = .ok (.iconst (-1), 1) := qd_2 kq_cX7_read (by decide +kernel)
theorem dX7_read_31 : decode cX7_read 31 = .ok (.ireturn, 1) := qd_172 kq_cX7_read (by decide +kernel)
theorem dX7_read_32 : decode cX7_read 32 = .ok (.aload_n 0, 1) := qd_42 kq_cX7_read (by decide +kernel)
theorem dX7_read_33 : decode cX7_read 33 = .ok (.iload_n 2, 1) := qd_28 kq_cX7_read (by decide +kernel)
theorem dX7_read_34 : decode cX7_read 34 = .ok (.invokevirtual 87, 3) := qd_182 kq_cX7_read (by decide +kernel)
theorem dX7_read_37 : decode cX7_read 37 = .ok (.istore_n 2, 1) := qd_61 kq_cX7_read (by decide +kernel)
theorem dX7_read_38 : decode cX7_read 38 = .ok (.iload_n 2, 1) := qd_28 kq_cX7_read (by decide +kernel)
theorem dX7_read_39 : decode cX7_read 39 = .ok (.aload_n 0, 1) := qd_42 kq_cX7_read (by decide +kernel)
theorem dX7_read_40 : decode cX7_read 40 = .ok (.getfield 35, 3) := qd_180 kq_cX7_read (by decide +kernel)
theorem dX7_read_43 : decode cX7_read 43 = .ok (.if_icmp .ge 11, 3) := qd_162 kq_cX7_read (by decide +kernel)
theorem dX7_read_46 : decode cX7_read 46 = .ok (.aload_n 0, 1) := qd_42 kq_cX7_read (by decide +kernel)
theorem dX7_read_47 : decode cX7_read 47 = .ok (.iload_n 2, 1) := qd_28 kq_cX7_read (by decide +kernel)
theorem dX7_read_48 : decode cX7_read 48 = .ok (.invokevirtual 94, 3) := qd_182 kq_cX7_read (by decide +kernel)
theorem dX7_read_51 : decode cX7_read 51 = .ok (.goto 4, 3) := qd_167 kq_cX7_read (by decide +kernel)
theorem dX7_read_54 : decode cX7_read 54 = .ok (.iload_n 1, 1) := qd_27 kq_cX7_read (by decide +kernel)
theorem dX7_read_55 : decode cX7_read 55 = .ok (.ireturn, 1) := qd_172 kq_cX7_read (by decide +kernel)
def rmX7_read (mc ms : Nat) : Room := { frames := 60, cells := mc, slots := ms, locals := 1507 }
theorem g7_122 (c0 : Cond) : GoodIn (c0 :: sr_G) (wsV RX7 122 RX7 yX7_isObject wsX7_isObject) := sr_V c0 (sr_insI [(2, 14), (2, 15), (2, 16), (1, 2), (2, 17)] (by decide +kernel))
theorem g7_132 (c0 : Cond) : GoodIn (c0 :: sr_G) (wsV RX7 132 RX7 yX7_join wsX7_join) := sr_V c0 (sr_insI [(2, 63), (2, 65), (0, 8), (1, 2), (2, 66)] (by decide +kernel))
theorem g7_90 (c0 : Cond) : GoodIn (c0 :: sr_G) (wsV RX7 90 RX7 yX7_readValue wsX7_readValue) := sr_V c0 (sr_insI [(2, 2), (2, 4), (0, 1), (1, 2), (2, 5)] (by decide +kernel))
theorem g7_129 (c0 : Cond) : GoodIn (c0 :: sr_G) (wsV RX7 129 RX7 yX7_readKey wsX7_readKey) := sr_V c0 (sr_insI [(2, 21), (2, 23), (0, 4), (1, 2), (2, 24)] (by decide +kernel))
theorem g7_100 (c0 : Cond) : GoodIn (c0 :: sr_G) (wsV RX7 100 RX7 yX7_readGroup wsX7_readGroup) := sr_V c0 (sr_insI [(2, 6), (2, 8), (0, 2), (1, 2), (2, 9)] (by decide +kernel))
theorem g7_108 (c0 : Cond) : GoodIn (c0 :: sr_G) (wsV RX7 108 RX7 yX7_readWord wsX7_readWord) := sr_V c0 (sr_insI [(2, 68), (2, 70), (0, 9), (1, 2), (2, 71)] (by decide +kernel))
theorem g7_116 (c0 : Cond) : GoodIn (c0 :: sr_G) (wsV RX7 116 RX7 yX7_isNumber wsX7_isNumber) := sr_V c0 (sr_insI [(2, 122), (2, 123), (2, 124), (1, 2), (2, 125)] (by decide +kernel))
theorem g7_119 (c0 : Cond) : GoodIn (c0 :: sr_G) (wsV RX7 119 RX7 yX7_readNumber wsX7_readNumber) := sr_V c0 (sr_insI [(2, 129), (2, 131), (0, 10), (1, 2), (2, 132)] (by decide +kernel))
theorem g7_84 (c0 : Cond) : GoodIn (c0 :: sr_G) (wsV RX7 84 RX2 yX2_clear wsX2_clear) := sr_V c0 (sr_insI [(1, 224), (1, 225), (1, 226), (1, 3), (1, 227)] (by decide +kernel))
end
