abbrev cX9_fail : ByteArray := prog_13_method_2_code
def yX9_fail : MethodName := ⟨RX9, "fail", "(II)V"⟩
def wsX9_fail : List Cond := .code yX9_fail cX9_fail 3 none :: sr_G
theorem dX9_fail_0 : decode cX9_fail 0 = .ok (.aload_n 0, 1) := by decide +kernel
theorem dX9_fail_1 : decode cX9_fail 1 = .ok (.iload_n 1, 1) := by decide +kernel
theorem dX9_fail_2 : decode cX9_fail 2 = .ok (.putfield 78, 3) := by decide +kernel
theorem dX9_fail_5 : decode cX9_fail 5 = .ok (.aload_n 0, 1) := by decide +kernel
theorem dX9_fail_6 : decode cX9_fail 6 = .ok (.iload_n 2, 1) := by decide +kernel
theorem dX9_fail_7 : decode cX9_fail 7 = .ok (.putfield 82, 3) := by decide +kernel
theorem dX9_fail_10 : decode cX9_fail 10 = .ok (.new 85, 3) := by decide +kernel
theorem dX9_fail_13 : decode cX9_fail 13 = .ok (.dup, 1) := by decide +kernel
theorem dX9_fail_14 : decode cX9_fail 14 = .ok (.ldc 87, 2) := by decide +kernel
theorem dX9_fail_16 : decode cX9_fail 16 = .ok (.invokespecial 88, 3) := by decide +kernel
theorem dX9_fail_19 : decode cX9_fail 19 = .ok (.athrow, 1) := by decide +kernel
def rmX9_fail (mc ms : Nat) : Room := { frames := 8, cells := mc, slots := ms, locals := 120 }
abbrev cX9_need : ByteArray := prog_13_method_3_code
def yX9_need : MethodName := ⟨RX9, "need", "(ZII)V"⟩
def wsX9_need : List Cond := .code yX9_need cX9_need 4 none :: sr_G
theorem dX9_need_0 : decode cX9_need 0 = .ok (.iload_n 1, 1) := by decide +kernel
theorem dX9_need_1 : decode cX9_need 1 = .ok (.ifCond .ne 9, 3) := by decide +kernel
theorem dX9_need_4 : decode cX9_need 4 = .ok (.aload_n 0, 1) := by decide +kernel
theorem dX9_need_5 : decode cX9_need 5 = .ok (.iload_n 2, 1) := by decide +kernel
theorem dX9_need_6 : decode cX9_need 6 = .ok (.iload_n 3, 1) := by decide +kernel
theorem dX9_need_7 : decode cX9_need 7 = .ok (.invokevirtual 91, 3) := by decide +kernel
theorem dX9_need_10 : decode cX9_need 10 = .ok (.return_, 1) := by decide +kernel
def rmX9_need (mc ms : Nat) : Room := { frames := 9, cells := mc, slots := ms, locals := 142 }
abbrev cX9_take : ByteArray := prog_13_method_6_code
def yX9_take : MethodName := ⟨RX9, "take", "(I)V"⟩
def wsX9_take : List Cond := .code yX9_take cX9_take 2 none :: sr_G
theorem dX9_take_0 : decode cX9_take 0 = .ok (.aload_n 0, 1) := by decide +kernel
theorem dX9_take_1 : decode cX9_take 1 = .ok (.aload_n 0, 1) := by decide +kernel
theorem dX9_take_2 : decode cX9_take 2 = .ok (.invokevirtual 101, 3) := by decide +kernel
theorem dX9_take_5 : decode cX9_take 5 = .ok (.iload_n 1, 1) := by decide +kernel
theorem dX9_take_6 : decode cX9_take 6 = .ok (.if_icmp .ne 7, 3) := by decide +kernel
theorem dX9_take_9 : decode cX9_take 9 = .ok (.iconst 1, 1) := by decide +kernel
theorem dX9_take_10 : decode cX9_take 10 = .ok (.goto 4, 3) := by decide +kernel
theorem dX9_take_13 : decode cX9_take 13 = .ok (.iconst 0, 1) := by decide +kernel
theorem dX9_take_14 : decode cX9_take 14 = .ok (.iconst 1, 1) := by decide +kernel
theorem dX9_take_15 : decode cX9_take 15 = .ok (.aload_n 0, 1) := by decide +kernel
theorem dX9_take_16 : decode cX9_take 16 = .ok (.getfield 95, 3) := by decide +kernel
theorem dX9_take_19 : decode cX9_take 19 = .ok (.invokevirtual 105, 3) := by decide +kernel
theorem dX9_take_22 : decode cX9_take 22 = .ok (.aload_n 0, 1) := by decide +kernel
theorem dX9_take_23 : decode cX9_take 23 = .ok (.dup, 1) := by decide +kernel
theorem dX9_take_24 : decode cX9_take 24 = .ok (.getfield 95, 3) := by decide +kernel
theorem dX9_take_27 : decode cX9_take 27 = .ok (.iconst 1, 1) := by decide +kernel
theorem dX9_take_28 : decode cX9_take 28 = .ok (.iadd, 1) := by decide +kernel
theorem dX9_take_29 : decode cX9_take 29 = .ok (.putfield 95, 3) := by decide +kernel
theorem dX9_take_32 : decode cX9_take 32 = .ok (.return_, 1) := by decide +kernel
def rmX9_take (mc ms : Nat) : Room := { frames := 10, cells := mc, slots := ms, locals := 165 }
abbrev cX9_number : ByteArray := prog_13_method_14_code
def yX9_number : MethodName := ⟨RX9, "number", "()I"⟩
def wsX9_number : List Cond := .code yX9_number cX9_number 8 (some .int) :: sr_G
theorem dX9_number_0 : decode cX9_number 0 = .ok (.aload_n 0, 1) := by decide +kernel
theorem dX9_number_1 : decode cX9_number 1 = .ok (.iconst 3, 1) := by decide +kernel
theorem dX9_number_2 : decode cX9_number 2 = .ok (.invokevirtual 127, 3) := by decide +kernel
theorem dX9_number_5 : decode cX9_number 5 = .ok (.istore_n 1, 1) := by decide +kernel
theorem dX9_number_6 : decode cX9_number 6 = .ok (.aload_n 0, 1) := by decide +kernel
theorem dX9_number_7 : decode cX9_number 7 = .ok (.invokevirtual 101, 3) := by decide +kernel
theorem dX9_number_10 : decode cX9_number 10 = .ok (.bipush 45, 2) := by decide +kernel
theorem dX9_number_12 : decode cX9_number 12 = .ok (.if_icmp .ne 7, 3) := by decide +kernel
theorem dX9_number_15 : decode cX9_number 15 = .ok (.iconst 1, 1) := by decide +kernel
theorem dX9_number_16 : decode cX9_number 16 = .ok (.goto 4, 3) := by decide +kernel
theorem dX9_number_19 : decode cX9_number 19 = .ok (.iconst 0, 1) := by decide +kernel
theorem dX9_number_20 : decode cX9_number 20 = .ok (.istore_n 2, 1) := by decide +kernel
theorem dX9_number_21 : decode cX9_number 21 = .ok (.aload_n 0, 1) := by decide +kernel
theorem dX9_number_22 : decode cX9_number 22 = .ok (.iload_n 2, 1) := by decide +kernel
theorem dX9_number_23 : decode cX9_number 23 = .ok (.ifCond .eq 12, 3) := by decide +kernel
theorem dX9_number_26 : decode cX9_number 26 = .ok (.aload_n 0, 1) := by decide +kernel
theorem dX9_number_27 : decode cX9_number 27 = .ok (.getfield 95, 3) := by decide +kernel
theorem dX9_number_30 : decode cX9_number 30 = .ok (.iconst 1, 1) := by decide +kernel
theorem dX9_number_31 : decode cX9_number 31 = .ok (.iadd, 1) := by decide +kernel
theorem dX9_number_32 : decode cX9_number 32 = .ok (.goto 7, 3) := by decide +kernel
theorem dX9_number_35 : decode cX9_number 35 = .ok (.aload_n 0, 1) := by decide +kernel
theorem dX9_number_36 : decode cX9_number 36 = .ok (.getfield 95, 3) := by decide +kernel
theorem dX9_number_39 : decode cX9_number 39 = .ok (.putfield 95, 3) := by decide +kernel
theorem dX9_number_42 : decode cX9_number 42 = .ok (.aload_n 0, 1) := by decide +kernel
theorem dX9_number_43 : decode cX9_number 43 = .ok (.aload_n 0, 1) := by decide +kernel
theorem dX9_number_44 : decode cX9_number 44 = .ok (.invokevirtual 101, 3) := by decide +kernel
theorem dX9_number_47 : decode cX9_number 47 = .ok (.bipush 48, 2) := by decide +kernel
theorem dX9_number_49 : decode cX9_number 49 = .ok (.if_icmp .lt 16, 3) := by decide +kernel
theorem dX9_number_52 : decode cX9_number 52 = .ok (.aload_n 0, 1) := by decide +kernel
theorem dX9_number_53 : decode cX9_number 53 = .ok (.invokevirtual 101, 3) := by decide +kernel
theorem dX9_number_56 : decode cX9_number 56 = .ok (.bipush 57, 2) := by decide +kernel
theorem dX9_number_58 : decode cX9_number 58 = .ok (.if_icmp .gt 7, 3) := by decide +kernel
theorem dX9_number_61 : decode cX9_number 61 = .ok (.iconst 1, 1) := by decide +kernel
theorem dX9_number_62 : decode cX9_number 62 = .ok (.goto 4, 3) := by decide +kernel
theorem dX9_number_65 : decode cX9_number 65 = .ok (.iconst 0, 1) := by decide +kernel
theorem dX9_number_66 : decode cX9_number 66 = .ok (.iconst 1, 1) := by decide +kernel
theorem dX9_number_67 : decode cX9_number 67 = .ok (.aload_n 0, 1) := by decide +kernel
theorem dX9_number_68 : decode cX9_number 68 = .ok (.getfield 95, 3) := by decide +kernel
theorem dX9_number_71 : decode cX9_number 71 = .ok (.invokevirtual 105, 3) := by decide +kernel
theorem dX9_number_74 : decode cX9_number 74 = .ok (.aload_n 0, 1) := by decide +kernel
theorem dX9_number_75 : decode cX9_number 75 = .ok (.invokevirtual 101, 3) := by decide +kernel
theorem dX9_number_78 : decode cX9_number 78 = .ok (.bipush 48, 2) := by decide +kernel
theorem dX9_number_80 : decode cX9_number 80 = .ok (.if_icmp .ne 7, 3) := by decide +kernel
theorem dX9_number_83 : decode cX9_number 83 = .ok (.iconst 1, 1) := by decide +kernel
theorem dX9_number_84 : decode cX9_number 84 = .ok (.goto 4, 3) := by decide +kernel
theorem dX9_number_87 : decode cX9_number 87 = .ok (.iconst 0, 1) := by decide +kernel
theorem dX9_number_88 : decode cX9_number 88 = .ok (.istore_n 3, 1) := by decide +kernel
theorem dX9_number_89 : decode cX9_number 89 = .ok (.iconst 1, 1) := by decide +kernel
theorem dX9_number_90 : decode cX9_number 90 = .ok (.istore 4, 2) := by decide +kernel
theorem dX9_number_92 : decode cX9_number 92 = .ok (.lconst 0, 1) := by decide +kernel
theorem dX9_number_93 : decode cX9_number 93 = .ok (.lstore 5, 2) := by decide +kernel
theorem dX9_number_95 : decode cX9_number 95 = .ok (.aload_n 0, 1) := by decide +kernel
theorem dX9_number_96 : decode cX9_number 96 = .ok (.invokevirtual 101, 3) := by decide +kernel
theorem dX9_number_99 : decode cX9_number 99 = .ok (.bipush 48, 2) := by decide +kernel
theorem dX9_number_101 : decode cX9_number 101 = .ok (.if_icmp .lt 142, 3) := by decide +kernel
theorem dX9_number_104 : decode cX9_number 104 = .ok (.aload_n 0, 1) := by decide +kernel
theorem dX9_number_105 : decode cX9_number 105 = .ok (.invokevirtual 101, 3) := by decide +kernel
theorem dX9_number_108 : decode cX9_number 108 = .ok (.bipush 57, 2) := by decide +kernel
theorem dX9_number_110 : decode cX9_number 110 = .ok (.if_icmp .gt 133, 3) := by decide +kernel
theorem dX9_number_113 : decode cX9_number 113 = .ok (.iload_n 3, 1) := by decide +kernel
theorem dX9_number_114 : decode cX9_number 114 = .ok (.ifCond .eq 29, 3) := by decide +kernel
theorem dX9_number_117 : decode cX9_number 117 = .ok (.lload 5, 2) := by decide +kernel
theorem dX9_number_119 : decode cX9_number 119 = .ok (.lconst 0, 1) := by decide +kernel
theorem dX9_number_120 : decode cX9_number 120 = .ok (.lcmp, 1) := by decide +kernel
theorem dX9_number_121 : decode cX9_number 121 = .ok (.ifCond .ne 122, 3) := by decide +kernel
theorem dX9_number_124 : decode cX9_number 124 = .ok (.aload_n 0, 1) := by decide +kernel
theorem dX9_number_125 : decode cX9_number 125 = .ok (.getfield 15, 3) := by decide +kernel
theorem dX9_number_128 : decode cX9_number 128 = .ok (.iload_n 1, 1) := by decide +kernel
theorem dX9_number_129 : decode cX9_number 129 = .ok (.iaload, 1) := by decide +kernel
theorem dX9_number_130 : decode cX9_number 130 = .ok (.iconst 3, 1) := by decide +kernel
theorem dX9_number_131 : decode cX9_number 131 = .ok (.if_icmp .ne 112, 3) := by decide +kernel
theorem dX9_number_134 : decode cX9_number 134 = .ok (.aload_n 0, 1) := by decide +kernel
theorem dX9_number_135 : decode cX9_number 135 = .ok (.getfield 26, 3) := by decide +kernel
theorem dX9_number_138 : decode cX9_number 138 = .ok (.iload_n 1, 1) := by decide +kernel
theorem dX9_number_139 : decode cX9_number 139 = .ok (.iaload, 1) := by decide +kernel
theorem dX9_number_140 : decode cX9_number 140 = .ok (.ifCond .ne 103, 3) := by decide +kernel
theorem dX9_number_143 : decode cX9_number 143 = .ok (.aload_n 0, 1) := by decide +kernel
theorem dX9_number_144 : decode cX9_number 144 = .ok (.invokevirtual 101, 3) := by decide +kernel
theorem dX9_number_147 : decode cX9_number 147 = .ok (.bipush 48, 2) := by decide +kernel
theorem dX9_number_149 : decode cX9_number 149 = .ok (.isub, 1) := by decide +kernel
theorem dX9_number_150 : decode cX9_number 150 = .ok (.istore 7, 2) := by decide +kernel
theorem dX9_number_152 : decode cX9_number 152 = .ok (.iload 4, 2) := by decide +kernel
theorem dX9_number_154 : decode cX9_number 154 = .ok (.ifCond .eq 41, 3) := by decide +kernel
theorem dX9_number_157 : decode cX9_number 157 = .ok (.lload 5, 2) := by decide +kernel
theorem dX9_number_159 : decode cX9_number 159 = .ok (.ldc2_w 173, 3) := by decide +kernel
theorem dX9_number_162 : decode cX9_number 162 = .ok (.lcmp, 1) := by decide +kernel
theorem dX9_number_163 : decode cX9_number 163 = .ok (.ifCond .gt 28, 3) := by decide +kernel
theorem dX9_number_166 : decode cX9_number 166 = .ok (.lload 5, 2) := by decide +kernel
theorem dX9_number_168 : decode cX9_number 168 = .ok (.ldc2_w 173, 3) := by decide +kernel
theorem dX9_number_171 : decode cX9_number 171 = .ok (.lcmp, 1) := by decide +kernel
theorem dX9_number_172 : decode cX9_number 172 = .ok (.ifCond .ne 23, 3) := by decide +kernel
theorem dX9_number_175 : decode cX9_number 175 = .ok (.iload 7, 2) := by decide +kernel
theorem dX9_number_177 : decode cX9_number 177 = .ok (.iload_n 2, 1) := by decide +kernel
theorem dX9_number_178 : decode cX9_number 178 = .ok (.ifCond .eq 8, 3) := by decide +kernel
theorem dX9_number_181 : decode cX9_number 181 = .ok (.bipush 8, 2) := by decide +kernel
theorem dX9_number_183 : decode cX9_number 183 = .ok (.goto 5, 3) := by decide +kernel
theorem dX9_number_186 : decode cX9_number 186 = .ok (.bipush 7, 2) := by decide +kernel
theorem dX9_number_188 : decode cX9_number 188 = .ok (.if_icmp .gt 7, 3) := by decide +kernel
theorem dX9_number_191 : decode cX9_number 191 = .ok (.iconst 1, 1) := by decide +kernel
theorem dX9_number_192 : decode cX9_number 192 = .ok (.goto 4, 3) := by decide +kernel
theorem dX9_number_195 : decode cX9_number 195 = .ok (.iconst 0, 1) := by decide +kernel
theorem dX9_number_196 : decode cX9_number 196 = .ok (.istore 4, 2) := by decide +kernel
theorem dX9_number_198 : decode cX9_number 198 = .ok (.iload 4, 2) := by decide +kernel
theorem dX9_number_200 : decode cX9_number 200 = .ok (.ifCond .eq 16, 3) := by decide +kernel
theorem dX9_number_203 : decode cX9_number 203 = .ok (.ldc2_w 175, 3) := by decide +kernel
theorem dX9_number_206 : decode cX9_number 206 = .ok (.lload 5, 2) := by decide +kernel
theorem dX9_number_208 : decode cX9_number 208 = .ok (.lmul, 1) := by decide +kernel
theorem dX9_number_209 : decode cX9_number 209 = .ok (.iload 7, 2) := by decide +kernel
theorem dX9_number_211 : decode cX9_number 211 = .ok (.i2l, 1) := by decide +kernel
theorem dX9_number_212 : decode cX9_number 212 = .ok (.lsub, 1) := by decide +kernel
theorem dX9_number_213 : decode cX9_number 213 = .ok (.goto 5, 3) := by decide +kernel
theorem dX9_number_216 : decode cX9_number 216 = .ok (.lload 5, 2) := by decide +kernel
theorem dX9_number_218 : decode cX9_number 218 = .ok (.lstore 5, 2) := by decide +kernel
theorem dX9_number_220 : decode cX9_number 220 = .ok (.aload_n 0, 1) := by decide +kernel
theorem dX9_number_221 : decode cX9_number 221 = .ok (.getfield 26, 3) := by decide +kernel
theorem dX9_number_224 : decode cX9_number 224 = .ok (.iload_n 1, 1) := by decide +kernel
theorem dX9_number_225 : decode cX9_number 225 = .ok (.dup2, 1) := by decide +kernel
theorem dX9_number_226 : decode cX9_number 226 = .ok (.iaload, 1) := by decide +kernel
theorem dX9_number_227 : decode cX9_number 227 = .ok (.iconst 1, 1) := by decide +kernel
theorem dX9_number_228 : decode cX9_number 228 = .ok (.iadd, 1) := by decide +kernel
theorem dX9_number_229 : decode cX9_number 229 = .ok (.iastore, 1) := by decide +kernel
theorem dX9_number_230 : decode cX9_number 230 = .ok (.aload_n 0, 1) := by decide +kernel
theorem dX9_number_231 : decode cX9_number 231 = .ok (.dup, 1) := by decide +kernel
theorem dX9_number_232 : decode cX9_number 232 = .ok (.getfield 95, 3) := by decide +kernel
theorem dX9_number_235 : decode cX9_number 235 = .ok (.iconst 1, 1) := by decide +kernel
theorem dX9_number_236 : decode cX9_number 236 = .ok (.iadd, 1) := by decide +kernel
theorem dX9_number_237 : decode cX9_number 237 = .ok (.putfield 95, 3) := by decide +kernel
theorem dX9_number_240 : decode cX9_number 240 = .ok (.goto (-145), 3) := by decide +kernel
theorem dX9_number_243 : decode cX9_number 243 = .ok (.aload_n 0, 1) := by decide +kernel
theorem dX9_number_244 : decode cX9_number 244 = .ok (.iload 4, 2) := by decide +kernel
theorem dX9_number_246 : decode cX9_number 246 = .ok (.iconst 1, 1) := by decide +kernel
theorem dX9_number_247 : decode cX9_number 247 = .ok (.aload_n 0, 1) := by decide +kernel
theorem dX9_number_248 : decode cX9_number 248 = .ok (.getfield 19, 3) := by decide +kernel
theorem dX9_number_251 : decode cX9_number 251 = .ok (.iload_n 1, 1) := by decide +kernel
theorem dX9_number_252 : decode cX9_number 252 = .ok (.iaload, 1) := by decide +kernel
theorem dX9_number_253 : decode cX9_number 253 = .ok (.invokevirtual 105, 3) := by decide +kernel
theorem dX9_number_256 : decode cX9_number 256 = .ok (.aload_n 0, 1) := by decide +kernel
theorem dX9_number_257 : decode cX9_number 257 = .ok (.getfield 22, 3) := by decide +kernel
theorem dX9_number_260 : decode cX9_number 260 = .ok (.iload_n 1, 1) := by decide +kernel
theorem dX9_number_261 : decode cX9_number 261 = .ok (.iload_n 2, 1) := by decide +kernel
theorem dX9_number_262 : decode cX9_number 262 = .ok (.ifCond .eq 8, 3) := by decide +kernel
theorem dX9_number_265 : decode cX9_number 265 = .ok (.lload 5, 2) := by decide +kernel
theorem dX9_number_267 : decode cX9_number 267 = .ok (.goto 6, 3) := by decide +kernel
theorem dX9_number_270 : decode cX9_number 270 = .ok (.lload 5, 2) := by decide +kernel
theorem dX9_number_272 : decode cX9_number 272 = .ok (.lneg, 1) := by decide +kernel
theorem dX9_number_273 : decode cX9_number 273 = .ok (.lastore, 1) := by decide +kernel
theorem dX9_number_274 : decode cX9_number 274 = .ok (.iload_n 1, 1) := by decide +kernel
theorem dX9_number_275 : decode cX9_number 275 = .ok (.ireturn, 1) := by decide +kernel
def rmX9_number (mc ms : Nat) : Room := { frames := 10, cells := mc, slots := ms, locals := 165 }
theorem g9_91 (c0 : Cond) : GoodIn (c0 :: sr_G) (wsV RX9 91 RX9 yX9_fail wsX9_fail) := sr_V c0 (sr_ins (by decide +kernel))
theorem g9_105 (c0 : Cond) : GoodIn (c0 :: sr_G) (wsV RX9 105 RX9 yX9_need wsX9_need) := sr_V c0 (sr_ins (by decide +kernel))
theorem g9_127 (c0 : Cond) : GoodIn (c0 :: sr_G) (wsV RX9 127 RX9 yX9_node wsX9_node) := sr_V c0 (sr_ins (by decide +kernel))
theorem thr_w9_85 {c0 : Cond} {args : Array Value} {s : State} (hts : ∀ w ∈ c0 :: sr_G, w.before args s = true) : ∀ a' U, s.WarmedH U.vm → (Cond.classLink RX9 85 "java/lang/IllegalStateException").before a' U = true ∧ (Cond.instantiable "java/lang/IllegalStateException" 6).before a' U = true ∧ (Cond.initialized "java/lang/IllegalStateException").before a' U = true :=
  fun a' U hW => ⟨sr_pay hts (sr_ins (ws := [.classLink RX9 85 "java/lang/IllegalStateException"]) (by decide +kernel) _ List.mem_cons_self) a' U hW, sr_pay hts (sr_ins (ws := [.instantiable "java/lang/IllegalStateException" 6]) (by decide +kernel) _ List.mem_cons_self) a' U hW, sr_pay hts (sr_ins (ws := [.initialized "java/lang/IllegalStateException"]) (by decide +kernel) _ List.mem_cons_self) a' U hW⟩
theorem thr_all9_88 : (Bundle.ownAtoms RX9 88 "java/lang/IllegalStateException" thr_up).all (fun a => (decide (a = .isRef (.static "java/lang/Throwable" "UNASSIGNED_STACK" "[Ljava/lang/StackTraceElement;")) || decide (a = .isRef (.static "java/lang/Throwable" "SUPPRESSED_SENTINEL" "Ljava/util/List;"))) || (decide (a ∈ sr_Y) || decide (a ∈ sr_X) || (decide (a ∈ lw_tbl) && goodWord a))) = true := by decide +kernel
theorem thr_at9_88 {c0 : Cond} {args : Array Value} {s : State} (hts : ∀ w ∈ c0 :: sr_G, w.before args s = true) (hX : ∀ a ∈ sr_X, a.before #[] s = true) : ∀ a ∈ Bundle.ownAtoms RX9 88 "java/lang/IllegalStateException" thr_up, (a = .isRef (.static "java/lang/Throwable" "UNASSIGNED_STACK" "[Ljava/lang/StackTraceElement;") ∨ a = .isRef (.static "java/lang/Throwable" "SUPPRESSED_SENTINEL" "Ljava/util/List;")) ∨ a ∈ sr_Y ∨ ∀ a' U, s.WarmedH U.vm → a.before a' U = true := by
  intro a ha
  have h1 := List.all_eq_true.mp thr_all9_88 a ha
  simp only [Bool.or_eq_true, Bool.and_eq_true, decide_eq_true_eq] at h1
  rcases h1 with h1 | (h1 | h1) | h1
  · exact Or.inl h1
  · exact Or.inr (Or.inl h1)
  · exact Or.inr (Or.inr (fun a' U hW => sr_keep (sr_Xok a h1) hW (hX a h1)))
  · exact Or.inr (Or.inr (sr_pay hts (sr_in h1.1 h1.2)))
