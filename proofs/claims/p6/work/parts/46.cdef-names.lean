abbrev cX0_isOfKind : ByteArray := prog_3_method_3_code
def yX0_isOfKind : MethodName := ⟨RX0, "isOfKind", "(II)Z"⟩
def wsX0_isOfKind : List Cond := .code yX0_isOfKind cX0_isOfKind 3 (some .boolean) :: sr_G
theorem dX0_isOfKind_0 : decode cX0_isOfKind 0 = .ok (.aload_n 0, 1) := by decide +kernel
theorem dX0_isOfKind_1 : decode cX0_isOfKind 1 = .ok (.getfield 15, 3) := by decide +kernel
theorem dX0_isOfKind_4 : decode cX0_isOfKind 4 = .ok (.iload_n 1, 1) := by decide +kernel
theorem dX0_isOfKind_5 : decode cX0_isOfKind 5 = .ok (.invokevirtual 19, 3) := by decide +kernel
theorem dX0_isOfKind_8 : decode cX0_isOfKind 8 = .ok (.tableswitch 255 0 10 #[60, 79, 111, 150, 159, 159, 237, 246, 168, 204, 246], 60) := by decide +kernel
theorem dX0_isOfKind_68 : decode cX0_isOfKind 68 = .ok (.aload_n 0, 1) := by decide +kernel
theorem dX0_isOfKind_69 : decode cX0_isOfKind 69 = .ok (.getfield 9, 3) := by decide +kernel
theorem dX0_isOfKind_72 : decode cX0_isOfKind 72 = .ok (.iload_n 2, 1) := by decide +kernel
theorem dX0_isOfKind_73 : decode cX0_isOfKind 73 = .ok (.invokevirtual 46, 3) := by decide +kernel
theorem dX0_isOfKind_76 : decode cX0_isOfKind 76 = .ok (.bipush 110, 2) := by decide +kernel
theorem dX0_isOfKind_78 : decode cX0_isOfKind 78 = .ok (.if_icmp .ne 7, 3) := by decide +kernel
theorem dX0_isOfKind_81 : decode cX0_isOfKind 81 = .ok (.iconst 1, 1) := by decide +kernel
theorem dX0_isOfKind_82 : decode cX0_isOfKind 82 = .ok (.goto 4, 3) := by decide +kernel
theorem dX0_isOfKind_85 : decode cX0_isOfKind 85 = .ok (.iconst 0, 1) := by decide +kernel
theorem dX0_isOfKind_86 : decode cX0_isOfKind 86 = .ok (.ireturn, 1) := by decide +kernel
theorem dX0_isOfKind_87 : decode cX0_isOfKind 87 = .ok (.aload_n 0, 1) := by decide +kernel
theorem dX0_isOfKind_88 : decode cX0_isOfKind 88 = .ok (.getfield 9, 3) := by decide +kernel
theorem dX0_isOfKind_91 : decode cX0_isOfKind 91 = .ok (.iload_n 2, 1) := by decide +kernel
theorem dX0_isOfKind_92 : decode cX0_isOfKind 92 = .ok (.invokevirtual 46, 3) := by decide +kernel
theorem dX0_isOfKind_95 : decode cX0_isOfKind 95 = .ok (.bipush 116, 2) := by decide +kernel
theorem dX0_isOfKind_97 : decode cX0_isOfKind 97 = .ok (.if_icmp .eq 16, 3) := by decide +kernel
theorem dX0_isOfKind_100 : decode cX0_isOfKind 100 = .ok (.aload_n 0, 1) := by decide +kernel
theorem dX0_isOfKind_101 : decode cX0_isOfKind 101 = .ok (.getfield 9, 3) := by decide +kernel
theorem dX0_isOfKind_104 : decode cX0_isOfKind 104 = .ok (.iload_n 2, 1) := by decide +kernel
theorem dX0_isOfKind_105 : decode cX0_isOfKind 105 = .ok (.invokevirtual 46, 3) := by decide +kernel
theorem dX0_isOfKind_108 : decode cX0_isOfKind 108 = .ok (.bipush 102, 2) := by decide +kernel
theorem dX0_isOfKind_110 : decode cX0_isOfKind 110 = .ok (.if_icmp .ne 7, 3) := by decide +kernel
theorem dX0_isOfKind_113 : decode cX0_isOfKind 113 = .ok (.iconst 1, 1) := by decide +kernel
theorem dX0_isOfKind_114 : decode cX0_isOfKind 114 = .ok (.goto 4, 3) := by decide +kernel
theorem dX0_isOfKind_117 : decode cX0_isOfKind 117 = .ok (.iconst 0, 1) := by decide +kernel
theorem dX0_isOfKind_118 : decode cX0_isOfKind 118 = .ok (.ireturn, 1) := by decide +kernel
theorem dX0_isOfKind_119 : decode cX0_isOfKind 119 = .ok (.aload_n 0, 1) := by decide +kernel
theorem dX0_isOfKind_120 : decode cX0_isOfKind 120 = .ok (.getfield 9, 3) := by decide +kernel
theorem dX0_isOfKind_123 : decode cX0_isOfKind 123 = .ok (.iload_n 2, 1) := by decide +kernel
theorem dX0_isOfKind_124 : decode cX0_isOfKind 124 = .ok (.invokevirtual 49, 3) := by decide +kernel
theorem dX0_isOfKind_127 : decode cX0_isOfKind 127 = .ok (.ifCond .eq 29, 3) := by decide +kernel
theorem dX0_isOfKind_130 : decode cX0_isOfKind 130 = .ok (.aload_n 0, 1) := by decide +kernel
theorem dX0_isOfKind_131 : decode cX0_isOfKind 131 = .ok (.getfield 9, 3) := by decide +kernel
theorem dX0_isOfKind_134 : decode cX0_isOfKind 134 = .ok (.iload_n 2, 1) := by decide +kernel
theorem dX0_isOfKind_135 : decode cX0_isOfKind 135 = .ok (.invokevirtual 53, 3) := by decide +kernel
theorem dX0_isOfKind_138 : decode cX0_isOfKind 138 = .ok (.aload_n 0, 1) := by decide +kernel
theorem dX0_isOfKind_139 : decode cX0_isOfKind 139 = .ok (.getfield 9, 3) := by decide +kernel
theorem dX0_isOfKind_142 : decode cX0_isOfKind 142 = .ok (.iload_n 2, 1) := by decide +kernel
theorem dX0_isOfKind_143 : decode cX0_isOfKind 143 = .ok (.invokevirtual 53, 3) := by decide +kernel
theorem dX0_isOfKind_146 : decode cX0_isOfKind 146 = .ok (.l2i, 1) := by decide +kernel
theorem dX0_isOfKind_147 : decode cX0_isOfKind 147 = .ok (.i2l, 1) := by decide +kernel
theorem dX0_isOfKind_148 : decode cX0_isOfKind 148 = .ok (.lcmp, 1) := by decide +kernel
theorem dX0_isOfKind_149 : decode cX0_isOfKind 149 = .ok (.ifCond .ne 7, 3) := by decide +kernel
theorem dX0_isOfKind_152 : decode cX0_isOfKind 152 = .ok (.iconst 1, 1) := by decide +kernel
theorem dX0_isOfKind_153 : decode cX0_isOfKind 153 = .ok (.goto 4, 3) := by decide +kernel
theorem dX0_isOfKind_156 : decode cX0_isOfKind 156 = .ok (.iconst 0, 1) := by decide +kernel
theorem dX0_isOfKind_157 : decode cX0_isOfKind 157 = .ok (.ireturn, 1) := by decide +kernel
theorem dX0_isOfKind_158 : decode cX0_isOfKind 158 = .ok (.aload_n 0, 1) := by decide +kernel
theorem dX0_isOfKind_159 : decode cX0_isOfKind 159 = .ok (.getfield 9, 3) := by decide +kernel
theorem dX0_isOfKind_162 : decode cX0_isOfKind 162 = .ok (.iload_n 2, 1) := by decide +kernel
theorem dX0_isOfKind_163 : decode cX0_isOfKind 163 = .ok (.invokevirtual 49, 3) := by decide +kernel
theorem dX0_isOfKind_166 : decode cX0_isOfKind 166 = .ok (.ireturn, 1) := by decide +kernel
theorem dX0_isOfKind_167 : decode cX0_isOfKind 167 = .ok (.aload_n 0, 1) := by decide +kernel
theorem dX0_isOfKind_168 : decode cX0_isOfKind 168 = .ok (.getfield 9, 3) := by decide +kernel
theorem dX0_isOfKind_171 : decode cX0_isOfKind 171 = .ok (.iload_n 2, 1) := by decide +kernel
theorem dX0_isOfKind_172 : decode cX0_isOfKind 172 = .ok (.invokevirtual 57, 3) := by decide +kernel
theorem dX0_isOfKind_175 : decode cX0_isOfKind 175 = .ok (.ireturn, 1) := by decide +kernel
theorem dX0_isOfKind_176 : decode cX0_isOfKind 176 = .ok (.aload_n 0, 1) := by decide +kernel
theorem dX0_isOfKind_177 : decode cX0_isOfKind 177 = .ok (.getfield 9, 3) := by decide +kernel
theorem dX0_isOfKind_180 : decode cX0_isOfKind 180 = .ok (.iload_n 2, 1) := by decide +kernel
theorem dX0_isOfKind_181 : decode cX0_isOfKind 181 = .ok (.invokevirtual 57, 3) := by decide +kernel
theorem dX0_isOfKind_184 : decode cX0_isOfKind 184 = .ok (.ifCond .eq 26, 3) := by decide +kernel
theorem dX0_isOfKind_187 : decode cX0_isOfKind 187 = .ok (.aload_n 0, 1) := by decide +kernel
theorem dX0_isOfKind_188 : decode cX0_isOfKind 188 = .ok (.getfield 9, 3) := by decide +kernel
theorem dX0_isOfKind_191 : decode cX0_isOfKind 191 = .ok (.iload_n 2, 1) := by decide +kernel
theorem dX0_isOfKind_192 : decode cX0_isOfKind 192 = .ok (.invokevirtual 60, 3) := by decide +kernel
theorem dX0_isOfKind_195 : decode cX0_isOfKind 195 = .ok (.aload_n 0, 1) := by decide +kernel
theorem dX0_isOfKind_196 : decode cX0_isOfKind 196 = .ok (.getfield 15, 3) := by decide +kernel
theorem dX0_isOfKind_199 : decode cX0_isOfKind 199 = .ok (.iload_n 1, 1) := by decide +kernel
theorem dX0_isOfKind_200 : decode cX0_isOfKind 200 = .ok (.invokevirtual 63, 3) := by decide +kernel
theorem dX0_isOfKind_203 : decode cX0_isOfKind 203 = .ok (.if_icmp .ne 7, 3) := by decide +kernel
theorem dX0_isOfKind_206 : decode cX0_isOfKind 206 = .ok (.iconst 1, 1) := by decide +kernel
theorem dX0_isOfKind_207 : decode cX0_isOfKind 207 = .ok (.goto 4, 3) := by decide +kernel
theorem dX0_isOfKind_210 : decode cX0_isOfKind 210 = .ok (.iconst 0, 1) := by decide +kernel
theorem dX0_isOfKind_211 : decode cX0_isOfKind 211 = .ok (.ireturn, 1) := by decide +kernel
theorem dX0_isOfKind_212 : decode cX0_isOfKind 212 = .ok (.aload_n 0, 1) := by decide +kernel
theorem dX0_isOfKind_213 : decode cX0_isOfKind 213 = .ok (.getfield 9, 3) := by decide +kernel
theorem dX0_isOfKind_216 : decode cX0_isOfKind 216 = .ok (.iload_n 2, 1) := by decide +kernel
theorem dX0_isOfKind_217 : decode cX0_isOfKind 217 = .ok (.invokevirtual 57, 3) := by decide +kernel
theorem dX0_isOfKind_220 : decode cX0_isOfKind 220 = .ok (.ifCond .eq 23, 3) := by decide +kernel
theorem dX0_isOfKind_223 : decode cX0_isOfKind 223 = .ok (.aload_n 0, 1) := by decide +kernel
theorem dX0_isOfKind_224 : decode cX0_isOfKind 224 = .ok (.getfield 15, 3) := by decide +kernel
theorem dX0_isOfKind_227 : decode cX0_isOfKind 227 = .ok (.iload_n 1, 1) := by decide +kernel
theorem dX0_isOfKind_228 : decode cX0_isOfKind 228 = .ok (.aload_n 0, 1) := by decide +kernel
theorem dX0_isOfKind_229 : decode cX0_isOfKind 229 = .ok (.getfield 9, 3) := by decide +kernel
theorem dX0_isOfKind_232 : decode cX0_isOfKind 232 = .ok (.iload_n 2, 1) := by decide +kernel
theorem dX0_isOfKind_233 : decode cX0_isOfKind 233 = .ok (.invokevirtual 64, 3) := by decide +kernel
theorem dX0_isOfKind_236 : decode cX0_isOfKind 236 = .ok (.ifCond .eq 7, 3) := by decide +kernel
theorem dX0_isOfKind_239 : decode cX0_isOfKind 239 = .ok (.iconst 1, 1) := by decide +kernel
theorem dX0_isOfKind_240 : decode cX0_isOfKind 240 = .ok (.goto 4, 3) := by decide +kernel
theorem dX0_isOfKind_243 : decode cX0_isOfKind 243 = .ok (.iconst 0, 1) := by decide +kernel
theorem dX0_isOfKind_244 : decode cX0_isOfKind 244 = .ok (.ireturn, 1) := by decide +kernel
theorem dX0_isOfKind_245 : decode cX0_isOfKind 245 = .ok (.aload_n 0, 1) := by decide +kernel
theorem dX0_isOfKind_246 : decode cX0_isOfKind 246 = .ok (.getfield 9, 3) := by decide +kernel
theorem dX0_isOfKind_249 : decode cX0_isOfKind 249 = .ok (.iload_n 2, 1) := by decide +kernel
theorem dX0_isOfKind_250 : decode cX0_isOfKind 250 = .ok (.invokevirtual 68, 3) := by decide +kernel
theorem dX0_isOfKind_253 : decode cX0_isOfKind 253 = .ok (.ireturn, 1) := by decide +kernel
theorem dX0_isOfKind_254 : decode cX0_isOfKind 254 = .ok (.aload_n 0, 1) := by decide +kernel
theorem dX0_isOfKind_255 : decode cX0_isOfKind 255 = .ok (.getfield 9, 3) := by decide +kernel
theorem dX0_isOfKind_258 : decode cX0_isOfKind 258 = .ok (.iload_n 2, 1) := by decide +kernel
theorem dX0_isOfKind_259 : decode cX0_isOfKind 259 = .ok (.invokevirtual 71, 3) := by decide +kernel
theorem dX0_isOfKind_262 : decode cX0_isOfKind 262 = .ok (.ireturn, 1) := by decide +kernel
theorem dX0_isOfKind_263 : decode cX0_isOfKind 263 = .ok (.iconst 0, 1) := by decide +kernel
theorem dX0_isOfKind_264 : decode cX0_isOfKind 264 = .ok (.ireturn, 1) := by decide +kernel
def rmX0_isOfKind (mc ms : Nat) : Room := { frames := 4, cells := mc, slots := ms, locals := 93 }
abbrev cX0_memberFor : ByteArray := prog_3_method_7_code
def yX0_memberFor : MethodName := ⟨RX0, "memberFor", "(II)I"⟩
def wsX0_memberFor : List Cond := .code yX0_memberFor cX0_memberFor 5 (some .int) :: sr_G
theorem dX0_memberFor_0 : decode cX0_memberFor 0 = .ok (.aload_n 0, 1) := by decide +kernel
theorem dX0_memberFor_1 : decode cX0_memberFor 1 = .ok (.getfield 9, 3) := by decide +kernel
theorem dX0_memberFor_4 : decode cX0_memberFor 4 = .ok (.iload_n 2, 1) := by decide +kernel
theorem dX0_memberFor_5 : decode cX0_memberFor 5 = .ok (.invokevirtual 74, 3) := by decide +kernel
theorem dX0_memberFor_8 : decode cX0_memberFor 8 = .ok (.istore_n 3, 1) := by decide +kernel
theorem dX0_memberFor_9 : decode cX0_memberFor 9 = .ok (.iconst 0, 1) := by decide +kernel
theorem dX0_memberFor_10 : decode cX0_memberFor 10 = .ok (.istore 4, 2) := by decide +kernel
theorem dX0_memberFor_12 : decode cX0_memberFor 12 = .ok (.iload 4, 2) := by decide +kernel
theorem dX0_memberFor_14 : decode cX0_memberFor 14 = .ok (.aload_n 0, 1) := by decide +kernel
theorem dX0_memberFor_15 : decode cX0_memberFor 15 = .ok (.getfield 9, 3) := by decide +kernel
theorem dX0_memberFor_18 : decode cX0_memberFor 18 = .ok (.iload_n 2, 1) := by decide +kernel
theorem dX0_memberFor_19 : decode cX0_memberFor 19 = .ok (.invokevirtual 60, 3) := by decide +kernel
theorem dX0_memberFor_22 : decode cX0_memberFor 22 = .ok (.if_icmp .ge 43, 3) := by decide +kernel
theorem dX0_memberFor_25 : decode cX0_memberFor 25 = .ok (.aload_n 0, 1) := by decide +kernel
theorem dX0_memberFor_26 : decode cX0_memberFor 26 = .ok (.getfield 15, 3) := by decide +kernel
theorem dX0_memberFor_29 : decode cX0_memberFor 29 = .ok (.iload_n 1, 1) := by decide +kernel
theorem dX0_memberFor_30 : decode cX0_memberFor 30 = .ok (.aload_n 0, 1) := by decide +kernel
theorem dX0_memberFor_31 : decode cX0_memberFor 31 = .ok (.getfield 9, 3) := by decide +kernel
theorem dX0_memberFor_34 : decode cX0_memberFor 34 = .ok (.iload_n 3, 1) := by decide +kernel
theorem dX0_memberFor_35 : decode cX0_memberFor 35 = .ok (.invokevirtual 91, 3) := by decide +kernel
theorem dX0_memberFor_38 : decode cX0_memberFor 38 = .ok (.ifCond .eq 12, 3) := by decide +kernel
theorem dX0_memberFor_41 : decode cX0_memberFor 41 = .ok (.aload_n 0, 1) := by decide +kernel
theorem dX0_memberFor_42 : decode cX0_memberFor 42 = .ok (.getfield 9, 3) := by decide +kernel
theorem dX0_memberFor_45 : decode cX0_memberFor 45 = .ok (.iload_n 3, 1) := by decide +kernel
theorem dX0_memberFor_46 : decode cX0_memberFor 46 = .ok (.invokevirtual 74, 3) := by decide +kernel
theorem dX0_memberFor_49 : decode cX0_memberFor 49 = .ok (.ireturn, 1) := by decide +kernel
theorem dX0_memberFor_50 : decode cX0_memberFor 50 = .ok (.aload_n 0, 1) := by decide +kernel
theorem dX0_memberFor_51 : decode cX0_memberFor 51 = .ok (.getfield 9, 3) := by decide +kernel
theorem dX0_memberFor_54 : decode cX0_memberFor 54 = .ok (.iload_n 3, 1) := by decide +kernel
theorem dX0_memberFor_55 : decode cX0_memberFor 55 = .ok (.invokevirtual 80, 3) := by decide +kernel
theorem dX0_memberFor_58 : decode cX0_memberFor 58 = .ok (.istore_n 3, 1) := by decide +kernel
theorem dX0_memberFor_59 : decode cX0_memberFor 59 = .ok (.iinc 4 1, 3) := by decide +kernel
theorem dX0_memberFor_62 : decode cX0_memberFor 62 = .ok (.goto (-50), 3) := by decide +kernel
theorem dX0_memberFor_65 : decode cX0_memberFor 65 = .ok (.iconst (-1), 1) := by decide +kernel
theorem dX0_memberFor_66 : decode cX0_memberFor 66 = .ok (.ireturn, 1) := by decide +kernel
def rmX0_memberFor (mc ms : Nat) : Room := { frames := 3, cells := mc, slots := ms, locals := 68 }
abbrev cX0_misfitInList : ByteArray := prog_3_method_4_code
def yX0_misfitInList : MethodName := ⟨RX0, "misfitInList", "(III)I"⟩
def wsX0_misfitInList : List Cond := .code yX0_misfitInList cX0_misfitInList 7 (some .int) :: sr_G
theorem dX0_misfitInList_0 : decode cX0_misfitInList 0 = .ok (.aload_n 0, 1) := by decide +kernel
theorem dX0_misfitInList_1 : decode cX0_misfitInList 1 = .ok (.getfield 9, 3) := by decide +kernel
theorem dX0_misfitInList_4 : decode cX0_misfitInList 4 = .ok (.iload_n 2, 1) := by decide +kernel
theorem dX0_misfitInList_5 : decode cX0_misfitInList 5 = .ok (.invokevirtual 74, 3) := by decide +kernel
theorem dX0_misfitInList_8 : decode cX0_misfitInList 8 = .ok (.istore 4, 2) := by decide +kernel
theorem dX0_misfitInList_10 : decode cX0_misfitInList 10 = .ok (.iconst 0, 1) := by decide +kernel
theorem dX0_misfitInList_11 : decode cX0_misfitInList 11 = .ok (.istore 5, 2) := by decide +kernel
theorem dX0_misfitInList_13 : decode cX0_misfitInList 13 = .ok (.iload 5, 2) := by decide +kernel
theorem dX0_misfitInList_15 : decode cX0_misfitInList 15 = .ok (.aload_n 0, 1) := by decide +kernel
theorem dX0_misfitInList_16 : decode cX0_misfitInList 16 = .ok (.getfield 9, 3) := by decide +kernel
theorem dX0_misfitInList_19 : decode cX0_misfitInList 19 = .ok (.iload_n 2, 1) := by decide +kernel
theorem dX0_misfitInList_20 : decode cX0_misfitInList 20 = .ok (.invokevirtual 60, 3) := by decide +kernel
theorem dX0_misfitInList_23 : decode cX0_misfitInList 23 = .ok (.if_icmp .ge 41, 3) := by decide +kernel
theorem dX0_misfitInList_26 : decode cX0_misfitInList 26 = .ok (.aload_n 0, 1) := by decide +kernel
theorem dX0_misfitInList_27 : decode cX0_misfitInList 27 = .ok (.iload_n 1, 1) := by decide +kernel
theorem dX0_misfitInList_28 : decode cX0_misfitInList 28 = .ok (.iload 4, 2) := by decide +kernel
theorem dX0_misfitInList_30 : decode cX0_misfitInList 30 = .ok (.iload_n 3, 1) := by decide +kernel
theorem dX0_misfitInList_31 : decode cX0_misfitInList 31 = .ok (.iconst 1, 1) := by decide +kernel
theorem dX0_misfitInList_32 : decode cX0_misfitInList 32 = .ok (.iadd, 1) := by decide +kernel
theorem dX0_misfitInList_33 : decode cX0_misfitInList 33 = .ok (.invokevirtual 77, 3) := by decide +kernel
theorem dX0_misfitInList_36 : decode cX0_misfitInList 36 = .ok (.istore 6, 2) := by decide +kernel
theorem dX0_misfitInList_38 : decode cX0_misfitInList 38 = .ok (.iload 6, 2) := by decide +kernel
theorem dX0_misfitInList_40 : decode cX0_misfitInList 40 = .ok (.iconst (-1), 1) := by decide +kernel
theorem dX0_misfitInList_41 : decode cX0_misfitInList 41 = .ok (.if_icmp .eq 6, 3) := by decide +kernel
theorem dX0_misfitInList_44 : decode cX0_misfitInList 44 = .ok (.iload 6, 2) := by decide +kernel
theorem dX0_misfitInList_46 : decode cX0_misfitInList 46 = .ok (.ireturn, 1) := by decide +kernel
theorem dX0_misfitInList_47 : decode cX0_misfitInList 47 = .ok (.aload_n 0, 1) := by decide +kernel
theorem dX0_misfitInList_48 : decode cX0_misfitInList 48 = .ok (.getfield 9, 3) := by decide +kernel
theorem dX0_misfitInList_51 : decode cX0_misfitInList 51 = .ok (.iload 4, 2) := by decide +kernel
theorem dX0_misfitInList_53 : decode cX0_misfitInList 53 = .ok (.invokevirtual 80, 3) := by decide +kernel
theorem dX0_misfitInList_56 : decode cX0_misfitInList 56 = .ok (.istore 4, 2) := by decide +kernel
theorem dX0_misfitInList_58 : decode cX0_misfitInList 58 = .ok (.iinc 5 1, 3) := by decide +kernel
theorem dX0_misfitInList_61 : decode cX0_misfitInList 61 = .ok (.goto (-48), 3) := by decide +kernel
theorem dX0_misfitInList_64 : decode cX0_misfitInList 64 = .ok (.iconst (-1), 1) := by decide +kernel
theorem dX0_misfitInList_65 : decode cX0_misfitInList 65 = .ok (.ireturn, 1) := by decide +kernel
def rmX0_misfitInList (d : Nat) (mc ms : Nat) : Room := { frames := 2 * d + 6, cells := mc, slots := ms, locals := 51 * d + 139 }
abbrev cX0_misfitInMap : ByteArray := prog_3_method_5_code
def yX0_misfitInMap : MethodName := ⟨RX0, "misfitInMap", "(III)I"⟩
def wsX0_misfitInMap : List Cond := .code yX0_misfitInMap cX0_misfitInMap 7 (some .int) :: sr_G
theorem dX0_misfitInMap_0 : decode cX0_misfitInMap 0 = .ok (.aload_n 0, 1) := by decide +kernel
theorem dX0_misfitInMap_1 : decode cX0_misfitInMap 1 = .ok (.getfield 9, 3) := by decide +kernel
theorem dX0_misfitInMap_4 : decode cX0_misfitInMap 4 = .ok (.iload_n 2, 1) := by decide +kernel
theorem dX0_misfitInMap_5 : decode cX0_misfitInMap 5 = .ok (.invokevirtual 74, 3) := by decide +kernel
theorem dX0_misfitInMap_8 : decode cX0_misfitInMap 8 = .ok (.istore 4, 2) := by decide +kernel
theorem dX0_misfitInMap_10 : decode cX0_misfitInMap 10 = .ok (.iconst 0, 1) := by decide +kernel
theorem dX0_misfitInMap_11 : decode cX0_misfitInMap 11 = .ok (.istore 5, 2) := by decide +kernel
theorem dX0_misfitInMap_13 : decode cX0_misfitInMap 13 = .ok (.iload 5, 2) := by decide +kernel
theorem dX0_misfitInMap_15 : decode cX0_misfitInMap 15 = .ok (.aload_n 0, 1) := by decide +kernel
theorem dX0_misfitInMap_16 : decode cX0_misfitInMap 16 = .ok (.getfield 9, 3) := by decide +kernel
theorem dX0_misfitInMap_19 : decode cX0_misfitInMap 19 = .ok (.iload_n 2, 1) := by decide +kernel
theorem dX0_misfitInMap_20 : decode cX0_misfitInMap 20 = .ok (.invokevirtual 60, 3) := by decide +kernel
theorem dX0_misfitInMap_23 : decode cX0_misfitInMap 23 = .ok (.if_icmp .ge 48, 3) := by decide +kernel
theorem dX0_misfitInMap_26 : decode cX0_misfitInMap 26 = .ok (.aload_n 0, 1) := by decide +kernel
theorem dX0_misfitInMap_27 : decode cX0_misfitInMap 27 = .ok (.iload_n 1, 1) := by decide +kernel
theorem dX0_misfitInMap_28 : decode cX0_misfitInMap 28 = .ok (.aload_n 0, 1) := by decide +kernel
theorem dX0_misfitInMap_29 : decode cX0_misfitInMap 29 = .ok (.getfield 9, 3) := by decide +kernel
theorem dX0_misfitInMap_32 : decode cX0_misfitInMap 32 = .ok (.iload 4, 2) := by decide +kernel
theorem dX0_misfitInMap_34 : decode cX0_misfitInMap 34 = .ok (.invokevirtual 74, 3) := by decide +kernel
theorem dX0_misfitInMap_37 : decode cX0_misfitInMap 37 = .ok (.iload_n 3, 1) := by decide +kernel
theorem dX0_misfitInMap_38 : decode cX0_misfitInMap 38 = .ok (.iconst 1, 1) := by decide +kernel
theorem dX0_misfitInMap_39 : decode cX0_misfitInMap 39 = .ok (.iadd, 1) := by decide +kernel
theorem dX0_misfitInMap_40 : decode cX0_misfitInMap 40 = .ok (.invokevirtual 77, 3) := by decide +kernel
theorem dX0_misfitInMap_43 : decode cX0_misfitInMap 43 = .ok (.istore 6, 2) := by decide +kernel
theorem dX0_misfitInMap_45 : decode cX0_misfitInMap 45 = .ok (.iload 6, 2) := by decide +kernel
theorem dX0_misfitInMap_47 : decode cX0_misfitInMap 47 = .ok (.iconst (-1), 1) := by decide +kernel
theorem dX0_misfitInMap_48 : decode cX0_misfitInMap 48 = .ok (.if_icmp .eq 6, 3) := by decide +kernel
theorem dX0_misfitInMap_51 : decode cX0_misfitInMap 51 = .ok (.iload 6, 2) := by decide +kernel
theorem dX0_misfitInMap_53 : decode cX0_misfitInMap 53 = .ok (.ireturn, 1) := by decide +kernel
theorem dX0_misfitInMap_54 : decode cX0_misfitInMap 54 = .ok (.aload_n 0, 1) := by decide +kernel
theorem dX0_misfitInMap_55 : decode cX0_misfitInMap 55 = .ok (.getfield 9, 3) := by decide +kernel
theorem dX0_misfitInMap_58 : decode cX0_misfitInMap 58 = .ok (.iload 4, 2) := by decide +kernel
theorem dX0_misfitInMap_60 : decode cX0_misfitInMap 60 = .ok (.invokevirtual 80, 3) := by decide +kernel
theorem dX0_misfitInMap_63 : decode cX0_misfitInMap 63 = .ok (.istore 4, 2) := by decide +kernel
theorem dX0_misfitInMap_65 : decode cX0_misfitInMap 65 = .ok (.iinc 5 1, 3) := by decide +kernel
theorem dX0_misfitInMap_68 : decode cX0_misfitInMap 68 = .ok (.goto (-55), 3) := by decide +kernel
theorem dX0_misfitInMap_71 : decode cX0_misfitInMap 71 = .ok (.iconst (-1), 1) := by decide +kernel
theorem dX0_misfitInMap_72 : decode cX0_misfitInMap 72 = .ok (.ireturn, 1) := by decide +kernel
def rmX0_misfitInMap (d : Nat) (mc ms : Nat) : Room := { frames := 2 * d + 6, cells := mc, slots := ms, locals := 51 * d + 139 }
abbrev cX0_misfitInRecord : ByteArray := prog_3_method_6_code
def yX0_misfitInRecord : MethodName := ⟨RX0, "misfitInRecord", "(III)I"⟩
def wsX0_misfitInRecord : List Cond := .code yX0_misfitInRecord cX0_misfitInRecord 8 (some .int) :: sr_G
theorem dX0_misfitInRecord_0 : decode cX0_misfitInRecord 0 = .ok (.aload_n 0, 1) := by decide +kernel
theorem dX0_misfitInRecord_1 : decode cX0_misfitInRecord 1 = .ok (.getfield 15, 3) := by decide +kernel
theorem dX0_misfitInRecord_4 : decode cX0_misfitInRecord 4 = .ok (.iload_n 1, 1) := by decide +kernel
theorem dX0_misfitInRecord_5 : decode cX0_misfitInRecord 5 = .ok (.invokevirtual 27, 3) := by decide +kernel
theorem dX0_misfitInRecord_8 : decode cX0_misfitInRecord 8 = .ok (.istore 4, 2) := by decide +kernel
theorem dX0_misfitInRecord_10 : decode cX0_misfitInRecord 10 = .ok (.iconst 0, 1) := by decide +kernel
theorem dX0_misfitInRecord_11 : decode cX0_misfitInRecord 11 = .ok (.istore 5, 2) := by decide +kernel
theorem dX0_misfitInRecord_13 : decode cX0_misfitInRecord 13 = .ok (.iload 5, 2) := by decide +kernel
theorem dX0_misfitInRecord_15 : decode cX0_misfitInRecord 15 = .ok (.aload_n 0, 1) := by decide +kernel
theorem dX0_misfitInRecord_16 : decode cX0_misfitInRecord 16 = .ok (.getfield 15, 3) := by decide +kernel
theorem dX0_misfitInRecord_19 : decode cX0_misfitInRecord 19 = .ok (.iload_n 1, 1) := by decide +kernel
theorem dX0_misfitInRecord_20 : decode cX0_misfitInRecord 20 = .ok (.invokevirtual 63, 3) := by decide +kernel
theorem dX0_misfitInRecord_23 : decode cX0_misfitInRecord 23 = .ok (.if_icmp .ge 68, 3) := by decide +kernel
theorem dX0_misfitInRecord_26 : decode cX0_misfitInRecord 26 = .ok (.aload_n 0, 1) := by decide +kernel
theorem dX0_misfitInRecord_27 : decode cX0_misfitInRecord 27 = .ok (.aload_n 0, 1) := by decide +kernel
theorem dX0_misfitInRecord_28 : decode cX0_misfitInRecord 28 = .ok (.getfield 15, 3) := by decide +kernel
theorem dX0_misfitInRecord_31 : decode cX0_misfitInRecord 31 = .ok (.iload 4, 2) := by decide +kernel
theorem dX0_misfitInRecord_33 : decode cX0_misfitInRecord 33 = .ok (.invokevirtual 83, 3) := by decide +kernel
theorem dX0_misfitInRecord_36 : decode cX0_misfitInRecord 36 = .ok (.iload_n 2, 1) := by decide +kernel
theorem dX0_misfitInRecord_37 : decode cX0_misfitInRecord 37 = .ok (.invokevirtual 86, 3) := by decide +kernel
theorem dX0_misfitInRecord_40 : decode cX0_misfitInRecord 40 = .ok (.istore 6, 2) := by decide +kernel
theorem dX0_misfitInRecord_42 : decode cX0_misfitInRecord 42 = .ok (.iload 6, 2) := by decide +kernel
theorem dX0_misfitInRecord_44 : decode cX0_misfitInRecord 44 = .ok (.iconst (-1), 1) := by decide +kernel
theorem dX0_misfitInRecord_45 : decode cX0_misfitInRecord 45 = .ok (.if_icmp .ne 7, 3) := by decide +kernel
theorem dX0_misfitInRecord_48 : decode cX0_misfitInRecord 48 = .ok (.iload_n 2, 1) := by decide +kernel
theorem dX0_misfitInRecord_49 : decode cX0_misfitInRecord 49 = .ok (.goto 14, 3) := by decide +kernel
theorem dX0_misfitInRecord_52 : decode cX0_misfitInRecord 52 = .ok (.aload_n 0, 1) := by decide +kernel
theorem dX0_misfitInRecord_53 : decode cX0_misfitInRecord 53 = .ok (.iload 4, 2) := by decide +kernel
theorem dX0_misfitInRecord_55 : decode cX0_misfitInRecord 55 = .ok (.iload 6, 2) := by decide +kernel
theorem dX0_misfitInRecord_57 : decode cX0_misfitInRecord 57 = .ok (.iload_n 3, 1) := by decide +kernel
theorem dX0_misfitInRecord_58 : decode cX0_misfitInRecord 58 = .ok (.iconst 1, 1) := by decide +kernel
theorem dX0_misfitInRecord_59 : decode cX0_misfitInRecord 59 = .ok (.iadd, 1) := by decide +kernel
theorem dX0_misfitInRecord_60 : decode cX0_misfitInRecord 60 = .ok (.invokevirtual 77, 3) := by decide +kernel
theorem dX0_misfitInRecord_63 : decode cX0_misfitInRecord 63 = .ok (.istore 7, 2) := by decide +kernel
theorem dX0_misfitInRecord_65 : decode cX0_misfitInRecord 65 = .ok (.iload 7, 2) := by decide +kernel
theorem dX0_misfitInRecord_67 : decode cX0_misfitInRecord 67 = .ok (.iconst (-1), 1) := by decide +kernel
theorem dX0_misfitInRecord_68 : decode cX0_misfitInRecord 68 = .ok (.if_icmp .eq 6, 3) := by decide +kernel
theorem dX0_misfitInRecord_71 : decode cX0_misfitInRecord 71 = .ok (.iload 7, 2) := by decide +kernel
theorem dX0_misfitInRecord_73 : decode cX0_misfitInRecord 73 = .ok (.ireturn, 1) := by decide +kernel
theorem dX0_misfitInRecord_74 : decode cX0_misfitInRecord 74 = .ok (.aload_n 0, 1) := by decide +kernel
theorem dX0_misfitInRecord_75 : decode cX0_misfitInRecord 75 = .ok (.getfield 15, 3) := by decide +kernel
theorem dX0_misfitInRecord_78 : decode cX0_misfitInRecord 78 = .ok (.iload 4, 2) := by decide +kernel
theorem dX0_misfitInRecord_80 : decode cX0_misfitInRecord 80 = .ok (.invokevirtual 90, 3) := by decide +kernel
theorem dX0_misfitInRecord_83 : decode cX0_misfitInRecord 83 = .ok (.istore 4, 2) := by decide +kernel
theorem dX0_misfitInRecord_85 : decode cX0_misfitInRecord 85 = .ok (.iinc 5 1, 3) := by decide +kernel
theorem dX0_misfitInRecord_88 : decode cX0_misfitInRecord 88 = .ok (.goto (-75), 3) := by decide +kernel
theorem dX0_misfitInRecord_91 : decode cX0_misfitInRecord 91 = .ok (.iconst (-1), 1) := by decide +kernel
theorem dX0_misfitInRecord_92 : decode cX0_misfitInRecord 92 = .ok (.ireturn, 1) := by decide +kernel
def rmX0_misfitInRecord (d : Nat) (mc ms : Nat) : Room := { frames := 2 * d + 6, cells := mc, slots := ms, locals := 51 * d + 139 }
abbrev cX0_misfit : ByteArray := prog_3_method_2_code
def yX0_misfit : MethodName := ⟨RX0, "misfit", "(III)I"⟩
def wsX0_misfit : List Cond := .code yX0_misfit cX0_misfit 5 (some .int) :: sr_G
theorem dX0_misfit_0 : decode cX0_misfit 0 = .ok (.aload_n 0, 1) := by decide +kernel
theorem dX0_misfit_1 : decode cX0_misfit 1 = .ok (.getfield 15, 3) := by decide +kernel
theorem dX0_misfit_4 : decode cX0_misfit 4 = .ok (.iload_n 1, 1) := by decide +kernel
theorem dX0_misfit_5 : decode cX0_misfit 5 = .ok (.invokevirtual 19, 3) := by decide +kernel
theorem dX0_misfit_8 : decode cX0_misfit 8 = .ok (.bipush 11, 2) := by decide +kernel
theorem dX0_misfit_10 : decode cX0_misfit 10 = .ok (.if_icmp .ne 14, 3) := by decide +kernel
theorem dX0_misfit_13 : decode cX0_misfit 13 = .ok (.aload_n 0, 1) := by decide +kernel
theorem dX0_misfit_14 : decode cX0_misfit 14 = .ok (.getfield 15, 3) := by decide +kernel
theorem dX0_misfit_17 : decode cX0_misfit 17 = .ok (.iload_n 1, 1) := by decide +kernel
theorem dX0_misfit_18 : decode cX0_misfit 18 = .ok (.invokevirtual 27, 3) := by decide +kernel
theorem dX0_misfit_21 : decode cX0_misfit 21 = .ok (.goto 4, 3) := by decide +kernel
theorem dX0_misfit_24 : decode cX0_misfit 24 = .ok (.iload_n 1, 1) := by decide +kernel
theorem dX0_misfit_25 : decode cX0_misfit 25 = .ok (.istore 4, 2) := by decide +kernel
theorem dX0_misfit_27 : decode cX0_misfit 27 = .ok (.iload_n 3, 1) := by decide +kernel
theorem dX0_misfit_28 : decode cX0_misfit 28 = .ok (.bipush 24, 2) := by decide +kernel
theorem dX0_misfit_30 : decode cX0_misfit 30 = .ok (.if_icmp .gt 13, 3) := by decide +kernel
theorem dX0_misfit_33 : decode cX0_misfit 33 = .ok (.aload_n 0, 1) := by decide +kernel
theorem dX0_misfit_34 : decode cX0_misfit 34 = .ok (.iload 4, 2) := by decide +kernel
theorem dX0_misfit_36 : decode cX0_misfit 36 = .ok (.iload_n 2, 1) := by decide +kernel
theorem dX0_misfit_37 : decode cX0_misfit 37 = .ok (.invokevirtual 32, 3) := by decide +kernel
theorem dX0_misfit_40 : decode cX0_misfit 40 = .ok (.ifCond .ne 5, 3) := by decide +kernel
theorem dX0_misfit_43 : decode cX0_misfit 43 = .ok (.iload_n 2, 1) := by decide +kernel
theorem dX0_misfit_44 : decode cX0_misfit 44 = .ok (.ireturn, 1) := by decide +kernel
theorem dX0_misfit_45 : decode cX0_misfit 45 = .ok (.aload_n 0, 1) := by decide +kernel
theorem dX0_misfit_46 : decode cX0_misfit 46 = .ok (.getfield 15, 3) := by decide +kernel
theorem dX0_misfit_49 : decode cX0_misfit 49 = .ok (.iload 4, 2) := by decide +kernel
theorem dX0_misfit_51 : decode cX0_misfit 51 = .ok (.invokevirtual 19, 3) := by decide +kernel
theorem dX0_misfit_54 : decode cX0_misfit 54 = .ok (.tableswitch 75 6 10 #[34, 50, 75, 75, 66], 34) := by decide +kernel
theorem dX0_misfit_88 : decode cX0_misfit 88 = .ok (.aload_n 0, 1) := by decide +kernel
theorem dX0_misfit_89 : decode cX0_misfit 89 = .ok (.aload_n 0, 1) := by decide +kernel
theorem dX0_misfit_90 : decode cX0_misfit 90 = .ok (.getfield 15, 3) := by decide +kernel
theorem dX0_misfit_93 : decode cX0_misfit 93 = .ok (.iload 4, 2) := by decide +kernel
theorem dX0_misfit_95 : decode cX0_misfit 95 = .ok (.invokevirtual 27, 3) := by decide +kernel
theorem dX0_misfit_98 : decode cX0_misfit 98 = .ok (.iload_n 2, 1) := by decide +kernel
theorem dX0_misfit_99 : decode cX0_misfit 99 = .ok (.iload_n 3, 1) := by decide +kernel
theorem dX0_misfit_100 : decode cX0_misfit 100 = .ok (.invokevirtual 36, 3) := by decide +kernel
theorem dX0_misfit_103 : decode cX0_misfit 103 = .ok (.ireturn, 1) := by decide +kernel
theorem dX0_misfit_104 : decode cX0_misfit 104 = .ok (.aload_n 0, 1) := by decide +kernel
theorem dX0_misfit_105 : decode cX0_misfit 105 = .ok (.aload_n 0, 1) := by decide +kernel
theorem dX0_misfit_106 : decode cX0_misfit 106 = .ok (.getfield 15, 3) := by decide +kernel
theorem dX0_misfit_109 : decode cX0_misfit 109 = .ok (.iload 4, 2) := by decide +kernel
theorem dX0_misfit_111 : decode cX0_misfit 111 = .ok (.invokevirtual 27, 3) := by decide +kernel
theorem dX0_misfit_114 : decode cX0_misfit 114 = .ok (.iload_n 2, 1) := by decide +kernel
theorem dX0_misfit_115 : decode cX0_misfit 115 = .ok (.iload_n 3, 1) := by decide +kernel
theorem dX0_misfit_116 : decode cX0_misfit 116 = .ok (.invokevirtual 40, 3) := by decide +kernel
theorem dX0_misfit_119 : decode cX0_misfit 119 = .ok (.ireturn, 1) := by decide +kernel
theorem dX0_misfit_120 : decode cX0_misfit 120 = .ok (.aload_n 0, 1) := by decide +kernel
theorem dX0_misfit_121 : decode cX0_misfit 121 = .ok (.iload 4, 2) := by decide +kernel
theorem dX0_misfit_123 : decode cX0_misfit 123 = .ok (.iload_n 2, 1) := by decide +kernel
theorem dX0_misfit_124 : decode cX0_misfit 124 = .ok (.iload_n 3, 1) := by decide +kernel
theorem dX0_misfit_125 : decode cX0_misfit 125 = .ok (.invokevirtual 43, 3) := by decide +kernel
theorem dX0_misfit_128 : decode cX0_misfit 128 = .ok (.ireturn, 1) := by decide +kernel
theorem dX0_misfit_129 : decode cX0_misfit 129 = .ok (.iconst (-1), 1) := by decide +kernel
theorem dX0_misfit_130 : decode cX0_misfit 130 = .ok (.ireturn, 1) := by decide +kernel
def rmX0_misfit (d : Nat) (mc ms : Nat) : Room := { frames := 2 * d + 5, cells := mc, slots := ms, locals := 51 * d + 115 }
theorem g0_19 (c0 : Cond) : GoodIn (c0 :: sr_G) (wsV RX0 19 RX6 yX6_kind wsX6_kind) := sr_V c0 (sr_ins (by decide +kernel))
theorem g0_46 (c0 : Cond) : GoodIn (c0 :: sr_G) (wsV RX0 46 RX7 yX7_byteAt wsX7_byteAt) := sr_V c0 (sr_ins (by decide +kernel))
theorem g0_49 (c0 : Cond) : GoodIn (c0 :: sr_G) (wsV RX0 49 RX7 yX7_isNumber wsX7_isNumber) := sr_V c0 (sr_ins (by decide +kernel))
theorem g0_53 (c0 : Cond) : GoodIn (c0 :: sr_G) (wsV RX0 53 RX7 yX7_numberAt wsX7_numberAt) := sr_V c0 (sr_ins (by decide +kernel))
theorem g0_57 (c0 : Cond) : GoodIn (c0 :: sr_G) (wsV RX0 57 RX7 yX7_isString wsX7_isString) := sr_V c0 (sr_ins (by decide +kernel))
theorem g0_68 (c0 : Cond) : GoodIn (c0 :: sr_G) (wsV RX0 68 RX7 yX7_isList wsX7_isList) := sr_V c0 (sr_ins (by decide +kernel))
theorem g0_71 (c0 : Cond) : GoodIn (c0 :: sr_G) (wsV RX0 71 RX7 yX7_isObject wsX7_isObject) := sr_V c0 (sr_ins (by decide +kernel))
theorem g0_60 (c0 : Cond) : GoodIn (c0 :: sr_G) (wsV RX0 60 RX7 yX7_amount wsX7_amount) := sr_V c0 (sr_ins (by decide +kernel))
theorem g0_63 (c0 : Cond) : GoodIn (c0 :: sr_G) (wsV RX0 63 RX6 yX6_amount wsX6_amount) := sr_V c0 (sr_ins (by decide +kernel))
theorem g0_64 (c0 : Cond) : GoodIn (c0 :: sr_G) (wsV RX0 64 RX6 yX6_hasSymbol wsX6_hasSymbol) := sr_V c0 (sr_ins (by decide +kernel))
theorem g0_74 (c0 : Cond) : GoodIn (c0 :: sr_G) (wsV RX0 74 RX7 yX7_inner wsX7_inner) := sr_V c0 (sr_ins (by decide +kernel))
theorem g0_91 (c0 : Cond) : GoodIn (c0 :: sr_G) (wsV RX0 91 RX6 yX6_isSaid wsX6_isSaid) := sr_V c0 (sr_ins (by decide +kernel))
theorem g0_80 (c0 : Cond) : GoodIn (c0 :: sr_G) (wsV RX0 80 RX7 yX7_next wsX7_next) := sr_V c0 (sr_ins (by decide +kernel))
theorem g0_77 (c0 : Cond) : GoodIn (c0 :: sr_G) (wsV RX0 77 RX0 yX0_misfit wsX0_misfit) := sr_V c0 (sr_ins (by decide +kernel))
theorem g0_27 (c0 : Cond) : GoodIn (c0 :: sr_G) (wsV RX0 27 RX6 yX6_first wsX6_first) := sr_V c0 (sr_ins (by decide +kernel))
theorem g0_83 (c0 : Cond) : GoodIn (c0 :: sr_G) (wsV RX0 83 RX6 yX6_fieldName wsX6_fieldName) := sr_V c0 (sr_ins (by decide +kernel))
theorem g0_86 (c0 : Cond) : GoodIn (c0 :: sr_G) (wsV RX0 86 RX0 yX0_memberFor wsX0_memberFor) := sr_V c0 (sr_ins (by decide +kernel))
theorem g0_90 (c0 : Cond) : GoodIn (c0 :: sr_G) (wsV RX0 90 RX6 yX6_next wsX6_next) := sr_V c0 (sr_ins (by decide +kernel))
theorem g0_32 (c0 : Cond) : GoodIn (c0 :: sr_G) (wsV RX0 32 RX0 yX0_isOfKind wsX0_isOfKind) := sr_V c0 (sr_ins (by decide +kernel))
theorem g0_36 (c0 : Cond) : GoodIn (c0 :: sr_G) (wsV RX0 36 RX0 yX0_misfitInList wsX0_misfitInList) := sr_V c0 (sr_ins (by decide +kernel))
theorem g0_40 (c0 : Cond) : GoodIn (c0 :: sr_G) (wsV RX0 40 RX0 yX0_misfitInMap wsX0_misfitInMap) := sr_V c0 (sr_ins (by decide +kernel))
theorem g0_43 (c0 : Cond) : GoodIn (c0 :: sr_G) (wsV RX0 43 RX0 yX0_misfitInRecord wsX0_misfitInRecord) := sr_V c0 (sr_ins (by decide +kernel))
