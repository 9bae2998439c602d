abbrev cX9_symbols : ByteArray := prog_13_method_27_code
def yX9_symbols : MethodName := ⟨RX9, "symbols", "(II)V"⟩
def wsX9_symbols : List Cond := .code yX9_symbols cX9_symbols 7 none :: sr_G
theorem dX9_symbols_0 : decode cX9_symbols 0 = .ok (.aload_n 0, 1) := by decide +kernel
theorem dX9_symbols_1 : decode cX9_symbols 1 = .ok (.iload_n 2, 1) := by decide +kernel
theorem dX9_symbols_2 : decode cX9_symbols 2 = .ok (.ldc_w 263, 3) := by decide +kernel
theorem dX9_symbols_5 : decode cX9_symbols 5 = .ok (.invokevirtual 210, 3) := by decide +kernel
theorem dX9_symbols_8 : decode cX9_symbols 8 = .ok (.istore_n 3, 1) := by decide +kernel
theorem dX9_symbols_9 : decode cX9_symbols 9 = .ok (.aload_n 0, 1) := by decide +kernel
theorem dX9_symbols_10 : decode cX9_symbols 10 = .ok (.iload_n 3, 1) := by decide +kernel
theorem dX9_symbols_11 : decode cX9_symbols 11 = .ok (.ifCond .lt 7, 3) := by decide +kernel
theorem dX9_symbols_14 : decode cX9_symbols 14 = .ok (.iconst 1, 1) := by decide +kernel
theorem dX9_symbols_15 : decode cX9_symbols 15 = .ok (.goto 4, 3) := by decide +kernel
theorem dX9_symbols_18 : decode cX9_symbols 18 = .ok (.iconst 0, 1) := by decide +kernel
theorem dX9_symbols_19 : decode cX9_symbols 19 = .ok (.bipush 8, 2) := by decide +kernel
theorem dX9_symbols_21 : decode cX9_symbols 21 = .ok (.aload_n 0, 1) := by decide +kernel
theorem dX9_symbols_22 : decode cX9_symbols 22 = .ok (.getfield 19, 3) := by decide +kernel
theorem dX9_symbols_25 : decode cX9_symbols 25 = .ok (.iload_n 2, 1) := by decide +kernel
theorem dX9_symbols_26 : decode cX9_symbols 26 = .ok (.iaload, 1) := by decide +kernel
theorem dX9_symbols_27 : decode cX9_symbols 27 = .ok (.invokevirtual 105, 3) := by decide +kernel
theorem dX9_symbols_30 : decode cX9_symbols 30 = .ok (.aload_n 0, 1) := by decide +kernel
theorem dX9_symbols_31 : decode cX9_symbols 31 = .ok (.aload_n 0, 1) := by decide +kernel
theorem dX9_symbols_32 : decode cX9_symbols 32 = .ok (.getfield 15, 3) := by decide +kernel
theorem dX9_symbols_35 : decode cX9_symbols 35 = .ok (.iload_n 3, 1) := by decide +kernel
theorem dX9_symbols_36 : decode cX9_symbols 36 = .ok (.iaload, 1) := by decide +kernel
theorem dX9_symbols_37 : decode cX9_symbols 37 = .ok (.iconst 1, 1) := by decide +kernel
theorem dX9_symbols_38 : decode cX9_symbols 38 = .ok (.if_icmp .ne 27, 3) := by decide +kernel
theorem dX9_symbols_41 : decode cX9_symbols 41 = .ok (.aload_n 0, 1) := by decide +kernel
theorem dX9_symbols_42 : decode cX9_symbols 42 = .ok (.getfield 26, 3) := by decide +kernel
theorem dX9_symbols_45 : decode cX9_symbols 45 = .ok (.iload_n 3, 1) := by decide +kernel
theorem dX9_symbols_46 : decode cX9_symbols 46 = .ok (.iaload, 1) := by decide +kernel
theorem dX9_symbols_47 : decode cX9_symbols 47 = .ok (.ifCond .le 18, 3) := by decide +kernel
theorem dX9_symbols_50 : decode cX9_symbols 50 = .ok (.aload_n 0, 1) := by decide +kernel
theorem dX9_symbols_51 : decode cX9_symbols 51 = .ok (.getfield 26, 3) := by decide +kernel
theorem dX9_symbols_54 : decode cX9_symbols 54 = .ok (.iload_n 3, 1) := by decide +kernel
theorem dX9_symbols_55 : decode cX9_symbols 55 = .ok (.iaload, 1) := by decide +kernel
theorem dX9_symbols_56 : decode cX9_symbols 56 = .ok (.bipush 33, 2) := by decide +kernel
theorem dX9_symbols_58 : decode cX9_symbols 58 = .ok (.if_icmp .ge 7, 3) := by decide +kernel
theorem dX9_symbols_61 : decode cX9_symbols 61 = .ok (.iconst 1, 1) := by decide +kernel
theorem dX9_symbols_62 : decode cX9_symbols 62 = .ok (.goto 4, 3) := by decide +kernel
theorem dX9_symbols_65 : decode cX9_symbols 65 = .ok (.iconst 0, 1) := by decide +kernel
theorem dX9_symbols_66 : decode cX9_symbols 66 = .ok (.bipush 11, 2) := by decide +kernel
theorem dX9_symbols_68 : decode cX9_symbols 68 = .ok (.aload_n 0, 1) := by decide +kernel
theorem dX9_symbols_69 : decode cX9_symbols 69 = .ok (.getfield 19, 3) := by decide +kernel
theorem dX9_symbols_72 : decode cX9_symbols 72 = .ok (.iload_n 3, 1) := by decide +kernel
theorem dX9_symbols_73 : decode cX9_symbols 73 = .ok (.iaload, 1) := by decide +kernel
theorem dX9_symbols_74 : decode cX9_symbols 74 = .ok (.invokevirtual 105, 3) := by decide +kernel
theorem dX9_symbols_77 : decode cX9_symbols 77 = .ok (.iconst (-1), 1) := by decide +kernel
theorem dX9_symbols_78 : decode cX9_symbols 78 = .ok (.istore 4, 2) := by decide +kernel
theorem dX9_symbols_80 : decode cX9_symbols 80 = .ok (.aload_n 0, 1) := by decide +kernel
theorem dX9_symbols_81 : decode cX9_symbols 81 = .ok (.getfield 29, 3) := by decide +kernel
theorem dX9_symbols_84 : decode cX9_symbols 84 = .ok (.iload_n 3, 1) := by decide +kernel
theorem dX9_symbols_85 : decode cX9_symbols 85 = .ok (.iaload, 1) := by decide +kernel
theorem dX9_symbols_86 : decode cX9_symbols 86 = .ok (.istore 5, 2) := by decide +kernel
theorem dX9_symbols_88 : decode cX9_symbols 88 = .ok (.iload 5, 2) := by decide +kernel
theorem dX9_symbols_90 : decode cX9_symbols 90 = .ok (.ifCond .lt 112, 3) := by decide +kernel
theorem dX9_symbols_93 : decode cX9_symbols 93 = .ok (.aload_n 0, 1) := by decide +kernel
theorem dX9_symbols_94 : decode cX9_symbols 94 = .ok (.aload_n 0, 1) := by decide +kernel
theorem dX9_symbols_95 : decode cX9_symbols 95 = .ok (.iload 5, 2) := by decide +kernel
theorem dX9_symbols_97 : decode cX9_symbols 97 = .ok (.invokevirtual 248, 3) := by decide +kernel
theorem dX9_symbols_100 : decode cX9_symbols 100 = .ok (.bipush 11, 2) := by decide +kernel
theorem dX9_symbols_102 : decode cX9_symbols 102 = .ok (.aload_n 0, 1) := by decide +kernel
theorem dX9_symbols_103 : decode cX9_symbols 103 = .ok (.getfield 19, 3) := by decide +kernel
theorem dX9_symbols_106 : decode cX9_symbols 106 = .ok (.iload 5, 2) := by decide +kernel
theorem dX9_symbols_108 : decode cX9_symbols 108 = .ok (.iaload, 1) := by decide +kernel
theorem dX9_symbols_109 : decode cX9_symbols 109 = .ok (.invokevirtual 105, 3) := by decide +kernel
theorem dX9_symbols_112 : decode cX9_symbols 112 = .ok (.aload_n 0, 1) := by decide +kernel
theorem dX9_symbols_113 : decode cX9_symbols 113 = .ok (.getfield 47, 3) := by decide +kernel
theorem dX9_symbols_116 : decode cX9_symbols 116 = .ok (.iload_n 1, 1) := by decide +kernel
theorem dX9_symbols_117 : decode cX9_symbols 117 = .ok (.iaload, 1) := by decide +kernel
theorem dX9_symbols_118 : decode cX9_symbols 118 = .ok (.istore 6, 2) := by decide +kernel
theorem dX9_symbols_120 : decode cX9_symbols 120 = .ok (.iload 6, 2) := by decide +kernel
theorem dX9_symbols_122 : decode cX9_symbols 122 = .ok (.ifCond .lt 50, 3) := by decide +kernel
theorem dX9_symbols_125 : decode cX9_symbols 125 = .ok (.aload_n 0, 1) := by decide +kernel
theorem dX9_symbols_126 : decode cX9_symbols 126 = .ok (.aload_n 0, 1) := by decide +kernel
theorem dX9_symbols_127 : decode cX9_symbols 127 = .ok (.aload_n 0, 1) := by decide +kernel
theorem dX9_symbols_128 : decode cX9_symbols 128 = .ok (.getfield 59, 3) := by decide +kernel
theorem dX9_symbols_131 : decode cX9_symbols 131 = .ok (.iload 6, 2) := by decide +kernel
theorem dX9_symbols_133 : decode cX9_symbols 133 = .ok (.iaload, 1) := by decide +kernel
theorem dX9_symbols_134 : decode cX9_symbols 134 = .ok (.aload_n 0, 1) := by decide +kernel
theorem dX9_symbols_135 : decode cX9_symbols 135 = .ok (.iload 5, 2) := by decide +kernel
theorem dX9_symbols_137 : decode cX9_symbols 137 = .ok (.invokevirtual 155, 3) := by decide +kernel
theorem dX9_symbols_140 : decode cX9_symbols 140 = .ok (.ifCond .ne 7, 3) := by decide +kernel
theorem dX9_symbols_143 : decode cX9_symbols 143 = .ok (.iconst 1, 1) := by decide +kernel
theorem dX9_symbols_144 : decode cX9_symbols 144 = .ok (.goto 4, 3) := by decide +kernel
theorem dX9_symbols_147 : decode cX9_symbols 147 = .ok (.iconst 0, 1) := by decide +kernel
theorem dX9_symbols_148 : decode cX9_symbols 148 = .ok (.bipush 11, 2) := by decide +kernel
theorem dX9_symbols_150 : decode cX9_symbols 150 = .ok (.aload_n 0, 1) := by decide +kernel
theorem dX9_symbols_151 : decode cX9_symbols 151 = .ok (.getfield 19, 3) := by decide +kernel
theorem dX9_symbols_154 : decode cX9_symbols 154 = .ok (.iload 5, 2) := by decide +kernel
theorem dX9_symbols_156 : decode cX9_symbols 156 = .ok (.iaload, 1) := by decide +kernel
theorem dX9_symbols_157 : decode cX9_symbols 157 = .ok (.invokevirtual 105, 3) := by decide +kernel
theorem dX9_symbols_160 : decode cX9_symbols 160 = .ok (.aload_n 0, 1) := by decide +kernel
theorem dX9_symbols_161 : decode cX9_symbols 161 = .ok (.getfield 65, 3) := by decide +kernel
theorem dX9_symbols_164 : decode cX9_symbols 164 = .ok (.iload 6, 2) := by decide +kernel
theorem dX9_symbols_166 : decode cX9_symbols 166 = .ok (.iaload, 1) := by decide +kernel
theorem dX9_symbols_167 : decode cX9_symbols 167 = .ok (.istore 6, 2) := by decide +kernel
theorem dX9_symbols_169 : decode cX9_symbols 169 = .ok (.goto (-49), 3) := by decide +kernel
theorem dX9_symbols_172 : decode cX9_symbols 172 = .ok (.aload_n 0, 1) := by decide +kernel
theorem dX9_symbols_173 : decode cX9_symbols 173 = .ok (.iload_n 1, 1) := by decide +kernel
theorem dX9_symbols_174 : decode cX9_symbols 174 = .ok (.iload 4, 2) := by decide +kernel
theorem dX9_symbols_176 : decode cX9_symbols 176 = .ok (.invokevirtual 225, 3) := by decide +kernel
theorem dX9_symbols_179 : decode cX9_symbols 179 = .ok (.istore 4, 2) := by decide +kernel
theorem dX9_symbols_181 : decode cX9_symbols 181 = .ok (.aload_n 0, 1) := by decide +kernel
theorem dX9_symbols_182 : decode cX9_symbols 182 = .ok (.getfield 59, 3) := by decide +kernel
theorem dX9_symbols_185 : decode cX9_symbols 185 = .ok (.iload 4, 2) := by decide +kernel
theorem dX9_symbols_187 : decode cX9_symbols 187 = .ok (.iload 5, 2) := by decide +kernel
theorem dX9_symbols_189 : decode cX9_symbols 189 = .ok (.iastore, 1) := by decide +kernel
theorem dX9_symbols_190 : decode cX9_symbols 190 = .ok (.aload_n 0, 1) := by decide +kernel
theorem dX9_symbols_191 : decode cX9_symbols 191 = .ok (.getfield 32, 3) := by decide +kernel
theorem dX9_symbols_194 : decode cX9_symbols 194 = .ok (.iload 5, 2) := by decide +kernel
theorem dX9_symbols_196 : decode cX9_symbols 196 = .ok (.iaload, 1) := by decide +kernel
theorem dX9_symbols_197 : decode cX9_symbols 197 = .ok (.istore 5, 2) := by decide +kernel
theorem dX9_symbols_199 : decode cX9_symbols 199 = .ok (.goto (-111), 3) := by decide +kernel
theorem dX9_symbols_202 : decode cX9_symbols 202 = .ok (.aload_n 0, 1) := by decide +kernel
theorem dX9_symbols_203 : decode cX9_symbols 203 = .ok (.iload_n 2, 1) := by decide +kernel
theorem dX9_symbols_204 : decode cX9_symbols 204 = .ok (.ldc_w 264, 3) := by decide +kernel
theorem dX9_symbols_207 : decode cX9_symbols 207 = .ok (.invokevirtual 210, 3) := by decide +kernel
theorem dX9_symbols_210 : decode cX9_symbols 210 = .ok (.istore 5, 2) := by decide +kernel
theorem dX9_symbols_212 : decode cX9_symbols 212 = .ok (.iload 5, 2) := by decide +kernel
theorem dX9_symbols_214 : decode cX9_symbols 214 = .ok (.ifCond .lt 57, 3) := by decide +kernel
theorem dX9_symbols_217 : decode cX9_symbols 217 = .ok (.aload_n 0, 1) := by decide +kernel
theorem dX9_symbols_218 : decode cX9_symbols 218 = .ok (.aload_n 0, 1) := by decide +kernel
theorem dX9_symbols_219 : decode cX9_symbols 219 = .ok (.getfield 15, 3) := by decide +kernel
theorem dX9_symbols_222 : decode cX9_symbols 222 = .ok (.iload 5, 2) := by decide +kernel
theorem dX9_symbols_224 : decode cX9_symbols 224 = .ok (.iaload, 1) := by decide +kernel
theorem dX9_symbols_225 : decode cX9_symbols 225 = .ok (.iconst 2, 1) := by decide +kernel
theorem dX9_symbols_226 : decode cX9_symbols 226 = .ok (.if_icmp .ne 18, 3) := by decide +kernel
theorem dX9_symbols_229 : decode cX9_symbols 229 = .ok (.aload_n 0, 1) := by decide +kernel
theorem dX9_symbols_230 : decode cX9_symbols 230 = .ok (.iload_n 1, 1) := by decide +kernel
theorem dX9_symbols_231 : decode cX9_symbols 231 = .ok (.aload_n 0, 1) := by decide +kernel
theorem dX9_symbols_232 : decode cX9_symbols 232 = .ok (.iload 5, 2) := by decide +kernel
theorem dX9_symbols_234 : decode cX9_symbols 234 = .ok (.invokevirtual 266, 3) := by decide +kernel
theorem dX9_symbols_237 : decode cX9_symbols 237 = .ok (.ifCond .lt 7, 3) := by decide +kernel
theorem dX9_symbols_240 : decode cX9_symbols 240 = .ok (.iconst 1, 1) := by decide +kernel
theorem dX9_symbols_241 : decode cX9_symbols 241 = .ok (.goto 4, 3) := by decide +kernel
theorem dX9_symbols_244 : decode cX9_symbols 244 = .ok (.iconst 0, 1) := by decide +kernel
theorem dX9_symbols_245 : decode cX9_symbols 245 = .ok (.bipush 12, 2) := by decide +kernel
theorem dX9_symbols_247 : decode cX9_symbols 247 = .ok (.aload_n 0, 1) := by decide +kernel
theorem dX9_symbols_248 : decode cX9_symbols 248 = .ok (.getfield 19, 3) := by decide +kernel
theorem dX9_symbols_251 : decode cX9_symbols 251 = .ok (.iload 5, 2) := by decide +kernel
theorem dX9_symbols_253 : decode cX9_symbols 253 = .ok (.iaload, 1) := by decide +kernel
theorem dX9_symbols_254 : decode cX9_symbols 254 = .ok (.invokevirtual 105, 3) := by decide +kernel
theorem dX9_symbols_257 : decode cX9_symbols 257 = .ok (.aload_n 0, 1) := by decide +kernel
theorem dX9_symbols_258 : decode cX9_symbols 258 = .ok (.getfield 53, 3) := by decide +kernel
theorem dX9_symbols_261 : decode cX9_symbols 261 = .ok (.iload_n 1, 1) := by decide +kernel
theorem dX9_symbols_262 : decode cX9_symbols 262 = .ok (.aload_n 0, 1) := by decide +kernel
theorem dX9_symbols_263 : decode cX9_symbols 263 = .ok (.iload_n 1, 1) := by decide +kernel
theorem dX9_symbols_264 : decode cX9_symbols 264 = .ok (.aload_n 0, 1) := by decide +kernel
theorem dX9_symbols_265 : decode cX9_symbols 265 = .ok (.iload 5, 2) := by decide +kernel
theorem dX9_symbols_267 : decode cX9_symbols 267 = .ok (.invokevirtual 266, 3) := by decide +kernel
theorem dX9_symbols_270 : decode cX9_symbols 270 = .ok (.iastore, 1) := by decide +kernel
theorem dX9_symbols_271 : decode cX9_symbols 271 = .ok (.return_, 1) := by decide +kernel
def rmX9_symbols (mc ms : Nat) : Room := { frames := 10, cells := mc, slots := ms, locals := 165 }
abbrev cX9_union : ByteArray := prog_13_method_25_code
def yX9_union : MethodName := ⟨RX9, "union", "(IIZ)I"⟩
def wsX9_union : List Cond := .code yX9_union cX9_union 9 (some .int) :: sr_G
theorem dX9_union_0 : decode cX9_union 0 = .ok (.aload_n 0, 1) := by decide +kernel
theorem dX9_union_1 : decode cX9_union 1 = .ok (.iload_n 3, 1) := by decide +kernel
theorem dX9_union_2 : decode cX9_union 2 = .ok (.ifCond .ne 7, 3) := by decide +kernel
theorem dX9_union_5 : decode cX9_union 5 = .ok (.iconst 1, 1) := by decide +kernel
theorem dX9_union_6 : decode cX9_union 6 = .ok (.goto 4, 3) := by decide +kernel
theorem dX9_union_9 : decode cX9_union 9 = .ok (.iconst 0, 1) := by decide +kernel
theorem dX9_union_10 : decode cX9_union 10 = .ok (.iconst 4, 1) := by decide +kernel
theorem dX9_union_11 : decode cX9_union 11 = .ok (.aload_n 0, 1) := by decide +kernel
theorem dX9_union_12 : decode cX9_union 12 = .ok (.getfield 19, 3) := by decide +kernel
theorem dX9_union_15 : decode cX9_union 15 = .ok (.iload_n 1, 1) := by decide +kernel
theorem dX9_union_16 : decode cX9_union 16 = .ok (.iaload, 1) := by decide +kernel
theorem dX9_union_17 : decode cX9_union 17 = .ok (.invokevirtual 105, 3) := by decide +kernel
theorem dX9_union_20 : decode cX9_union 20 = .ok (.aload_n 0, 1) := by decide +kernel
theorem dX9_union_21 : decode cX9_union 21 = .ok (.aload_n 0, 1) := by decide +kernel
theorem dX9_union_22 : decode cX9_union 22 = .ok (.getfield 26, 3) := by decide +kernel
theorem dX9_union_25 : decode cX9_union 25 = .ok (.iload_n 1, 1) := by decide +kernel
theorem dX9_union_26 : decode cX9_union 26 = .ok (.iaload, 1) := by decide +kernel
theorem dX9_union_27 : decode cX9_union 27 = .ok (.ifCond .le 18, 3) := by decide +kernel
theorem dX9_union_30 : decode cX9_union 30 = .ok (.aload_n 0, 1) := by decide +kernel
theorem dX9_union_31 : decode cX9_union 31 = .ok (.getfield 26, 3) := by decide +kernel
theorem dX9_union_34 : decode cX9_union 34 = .ok (.iload_n 1, 1) := by decide +kernel
theorem dX9_union_35 : decode cX9_union 35 = .ok (.iaload, 1) := by decide +kernel
theorem dX9_union_36 : decode cX9_union 36 = .ok (.bipush 17, 2) := by decide +kernel
theorem dX9_union_38 : decode cX9_union 38 = .ok (.if_icmp .ge 7, 3) := by decide +kernel
theorem dX9_union_41 : decode cX9_union 41 = .ok (.iconst 1, 1) := by decide +kernel
theorem dX9_union_42 : decode cX9_union 42 = .ok (.goto 4, 3) := by decide +kernel
theorem dX9_union_45 : decode cX9_union 45 = .ok (.iconst 0, 1) := by decide +kernel
theorem dX9_union_46 : decode cX9_union 46 = .ok (.iconst 5, 1) := by decide +kernel
theorem dX9_union_47 : decode cX9_union 47 = .ok (.aload_n 0, 1) := by decide +kernel
theorem dX9_union_48 : decode cX9_union 48 = .ok (.getfield 19, 3) := by decide +kernel
theorem dX9_union_51 : decode cX9_union 51 = .ok (.iload_n 1, 1) := by decide +kernel
theorem dX9_union_52 : decode cX9_union 52 = .ok (.iaload, 1) := by decide +kernel
theorem dX9_union_53 : decode cX9_union 53 = .ok (.invokevirtual 105, 3) := by decide +kernel
theorem dX9_union_56 : decode cX9_union 56 = .ok (.aload_n 0, 1) := by decide +kernel
theorem dX9_union_57 : decode cX9_union 57 = .ok (.bipush 8, 2) := by decide +kernel
theorem dX9_union_59 : decode cX9_union 59 = .ok (.invokevirtual 222, 3) := by decide +kernel
theorem dX9_union_62 : decode cX9_union 62 = .ok (.istore 4, 2) := by decide +kernel
theorem dX9_union_64 : decode cX9_union 64 = .ok (.iconst (-1), 1) := by decide +kernel
theorem dX9_union_65 : decode cX9_union 65 = .ok (.istore 5, 2) := by decide +kernel
theorem dX9_union_67 : decode cX9_union 67 = .ok (.aload_n 0, 1) := by decide +kernel
theorem dX9_union_68 : decode cX9_union 68 = .ok (.getfield 29, 3) := by decide +kernel
theorem dX9_union_71 : decode cX9_union 71 = .ok (.iload_n 1, 1) := by decide +kernel
theorem dX9_union_72 : decode cX9_union 72 = .ok (.iaload, 1) := by decide +kernel
theorem dX9_union_73 : decode cX9_union 73 = .ok (.istore 6, 2) := by decide +kernel
theorem dX9_union_75 : decode cX9_union 75 = .ok (.iload 6, 2) := by decide +kernel
theorem dX9_union_77 : decode cX9_union 77 = .ok (.ifCond .lt 106, 3) := by decide +kernel
theorem dX9_union_80 : decode cX9_union 80 = .ok (.aload_n 0, 1) := by decide +kernel
theorem dX9_union_81 : decode cX9_union 81 = .ok (.iload 6, 2) := by decide +kernel
theorem dX9_union_83 : decode cX9_union 83 = .ok (.iload_n 2, 1) := by decide +kernel
theorem dX9_union_84 : decode cX9_union 84 = .ok (.iconst 1, 1) := by decide +kernel
theorem dX9_union_85 : decode cX9_union 85 = .ok (.iadd, 1) := by decide +kernel
theorem dX9_union_86 : decode cX9_union 86 = .ok (.iconst 1, 1) := by decide +kernel
theorem dX9_union_87 : decode cX9_union 87 = .ok (.invokevirtual 229, 3) := by decide +kernel
theorem dX9_union_90 : decode cX9_union 90 = .ok (.istore 7, 2) := by decide +kernel
theorem dX9_union_92 : decode cX9_union 92 = .ok (.aload_n 0, 1) := by decide +kernel
theorem dX9_union_93 : decode cX9_union 93 = .ok (.getfield 47, 3) := by decide +kernel
theorem dX9_union_96 : decode cX9_union 96 = .ok (.iload 4, 2) := by decide +kernel
theorem dX9_union_98 : decode cX9_union 98 = .ok (.iaload, 1) := by decide +kernel
theorem dX9_union_99 : decode cX9_union 99 = .ok (.istore 8, 2) := by decide +kernel
theorem dX9_union_101 : decode cX9_union 101 = .ok (.iload 8, 2) := by decide +kernel
theorem dX9_union_103 : decode cX9_union 103 = .ok (.ifCond .lt 49, 3) := by decide +kernel
theorem dX9_union_106 : decode cX9_union 106 = .ok (.aload_n 0, 1) := by decide +kernel
theorem dX9_union_107 : decode cX9_union 107 = .ok (.aload_n 0, 1) := by decide +kernel
theorem dX9_union_108 : decode cX9_union 108 = .ok (.aload_n 0, 1) := by decide +kernel
theorem dX9_union_109 : decode cX9_union 109 = .ok (.getfield 56, 3) := by decide +kernel
theorem dX9_union_112 : decode cX9_union 112 = .ok (.iload 8, 2) := by decide +kernel
theorem dX9_union_114 : decode cX9_union 114 = .ok (.iaload, 1) := by decide +kernel
theorem dX9_union_115 : decode cX9_union 115 = .ok (.iload 7, 2) := by decide +kernel
theorem dX9_union_117 : decode cX9_union 117 = .ok (.invokevirtual 242, 3) := by decide +kernel
theorem dX9_union_120 : decode cX9_union 120 = .ok (.ifCond .ne 7, 3) := by decide +kernel
theorem dX9_union_123 : decode cX9_union 123 = .ok (.iconst 1, 1) := by decide +kernel
theorem dX9_union_124 : decode cX9_union 124 = .ok (.goto 4, 3) := by decide +kernel
theorem dX9_union_127 : decode cX9_union 127 = .ok (.iconst 0, 1) := by decide +kernel
theorem dX9_union_128 : decode cX9_union 128 = .ok (.bipush 6, 2) := by decide +kernel
theorem dX9_union_130 : decode cX9_union 130 = .ok (.aload_n 0, 1) := by decide +kernel
theorem dX9_union_131 : decode cX9_union 131 = .ok (.getfield 19, 3) := by decide +kernel
theorem dX9_union_134 : decode cX9_union 134 = .ok (.iload 6, 2) := by decide +kernel
theorem dX9_union_136 : decode cX9_union 136 = .ok (.iaload, 1) := by decide +kernel
theorem dX9_union_137 : decode cX9_union 137 = .ok (.invokevirtual 105, 3) := by decide +kernel
theorem dX9_union_140 : decode cX9_union 140 = .ok (.aload_n 0, 1) := by decide +kernel
theorem dX9_union_141 : decode cX9_union 141 = .ok (.getfield 65, 3) := by decide +kernel
theorem dX9_union_144 : decode cX9_union 144 = .ok (.iload 8, 2) := by decide +kernel
theorem dX9_union_146 : decode cX9_union 146 = .ok (.iaload, 1) := by decide +kernel
theorem dX9_union_147 : decode cX9_union 147 = .ok (.istore 8, 2) := by decide +kernel
theorem dX9_union_149 : decode cX9_union 149 = .ok (.goto (-48), 3) := by decide +kernel
theorem dX9_union_152 : decode cX9_union 152 = .ok (.aload_n 0, 1) := by decide +kernel
theorem dX9_union_153 : decode cX9_union 153 = .ok (.iload 4, 2) := by decide +kernel
theorem dX9_union_155 : decode cX9_union 155 = .ok (.iload 5, 2) := by decide +kernel
theorem dX9_union_157 : decode cX9_union 157 = .ok (.invokevirtual 225, 3) := by decide +kernel
theorem dX9_union_160 : decode cX9_union 160 = .ok (.istore 5, 2) := by decide +kernel
theorem dX9_union_162 : decode cX9_union 162 = .ok (.aload_n 0, 1) := by decide +kernel
theorem dX9_union_163 : decode cX9_union 163 = .ok (.getfield 56, 3) := by decide +kernel
theorem dX9_union_166 : decode cX9_union 166 = .ok (.iload 5, 2) := by decide +kernel
theorem dX9_union_168 : decode cX9_union 168 = .ok (.iload 7, 2) := by decide +kernel
theorem dX9_union_170 : decode cX9_union 170 = .ok (.iastore, 1) := by decide +kernel
theorem dX9_union_171 : decode cX9_union 171 = .ok (.aload_n 0, 1) := by decide +kernel
theorem dX9_union_172 : decode cX9_union 172 = .ok (.getfield 32, 3) := by decide +kernel
theorem dX9_union_175 : decode cX9_union 175 = .ok (.iload 6, 2) := by decide +kernel
theorem dX9_union_177 : decode cX9_union 177 = .ok (.iaload, 1) := by decide +kernel
theorem dX9_union_178 : decode cX9_union 178 = .ok (.istore 6, 2) := by decide +kernel
theorem dX9_union_180 : decode cX9_union 180 = .ok (.goto (-105), 3) := by decide +kernel
theorem dX9_union_183 : decode cX9_union 183 = .ok (.iload 4, 2) := by decide +kernel
theorem dX9_union_185 : decode cX9_union 185 = .ok (.ireturn, 1) := by decide +kernel
def rmX9_union (d : Nat) (mc ms : Nat) : Room := { frames := 3 * d + 12, cells := mc, slots := ms, locals := 84 * d + 219 }
abbrev cX9_fields : ByteArray := prog_13_method_29_code
def yX9_fields : MethodName := ⟨RX9, "fields", "(III)V"⟩
def wsX9_fields : List Cond := .code yX9_fields cX9_fields 10 none :: sr_G
theorem dX9_fields_0 : decode cX9_fields 0 = .ok (.aload_n 0, 1) := by decide +kernel
theorem dX9_fields_1 : decode cX9_fields 1 = .ok (.iload_n 2, 1) := by decide +kernel
theorem dX9_fields_2 : decode cX9_fields 2 = .ok (.ldc_w 270, 3) := by decide +kernel
theorem dX9_fields_5 : decode cX9_fields 5 = .ok (.invokevirtual 210, 3) := by decide +kernel
theorem dX9_fields_8 : decode cX9_fields 8 = .ok (.istore 4, 2) := by decide +kernel
theorem dX9_fields_10 : decode cX9_fields 10 = .ok (.aload_n 0, 1) := by decide +kernel
theorem dX9_fields_11 : decode cX9_fields 11 = .ok (.iload 4, 2) := by decide +kernel
theorem dX9_fields_13 : decode cX9_fields 13 = .ok (.ifCond .lt 7, 3) := by decide +kernel
theorem dX9_fields_16 : decode cX9_fields 16 = .ok (.iconst 1, 1) := by decide +kernel
theorem dX9_fields_17 : decode cX9_fields 17 = .ok (.goto 4, 3) := by decide +kernel
theorem dX9_fields_20 : decode cX9_fields 20 = .ok (.iconst 0, 1) := by decide +kernel
theorem dX9_fields_21 : decode cX9_fields 21 = .ok (.bipush 8, 2) := by decide +kernel
theorem dX9_fields_23 : decode cX9_fields 23 = .ok (.aload_n 0, 1) := by decide +kernel
theorem dX9_fields_24 : decode cX9_fields 24 = .ok (.getfield 19, 3) := by decide +kernel
theorem dX9_fields_27 : decode cX9_fields 27 = .ok (.iload_n 2, 1) := by decide +kernel
theorem dX9_fields_28 : decode cX9_fields 28 = .ok (.iaload, 1) := by decide +kernel
theorem dX9_fields_29 : decode cX9_fields 29 = .ok (.invokevirtual 105, 3) := by decide +kernel
theorem dX9_fields_32 : decode cX9_fields 32 = .ok (.aload_n 0, 1) := by decide +kernel
theorem dX9_fields_33 : decode cX9_fields 33 = .ok (.aload_n 0, 1) := by decide +kernel
theorem dX9_fields_34 : decode cX9_fields 34 = .ok (.getfield 15, 3) := by decide +kernel
theorem dX9_fields_37 : decode cX9_fields 37 = .ok (.iload 4, 2) := by decide +kernel
theorem dX9_fields_39 : decode cX9_fields 39 = .ok (.iaload, 1) := by decide +kernel
theorem dX9_fields_40 : decode cX9_fields 40 = .ok (.iconst 1, 1) := by decide +kernel
theorem dX9_fields_41 : decode cX9_fields 41 = .ok (.if_icmp .ne 19, 3) := by decide +kernel
theorem dX9_fields_44 : decode cX9_fields 44 = .ok (.aload_n 0, 1) := by decide +kernel
theorem dX9_fields_45 : decode cX9_fields 45 = .ok (.getfield 26, 3) := by decide +kernel
theorem dX9_fields_48 : decode cX9_fields 48 = .ok (.iload 4, 2) := by decide +kernel
theorem dX9_fields_50 : decode cX9_fields 50 = .ok (.iaload, 1) := by decide +kernel
theorem dX9_fields_51 : decode cX9_fields 51 = .ok (.bipush 33, 2) := by decide +kernel
theorem dX9_fields_53 : decode cX9_fields 53 = .ok (.if_icmp .ge 7, 3) := by decide +kernel
theorem dX9_fields_56 : decode cX9_fields 56 = .ok (.iconst 1, 1) := by decide +kernel
theorem dX9_fields_57 : decode cX9_fields 57 = .ok (.goto 4, 3) := by decide +kernel
theorem dX9_fields_60 : decode cX9_fields 60 = .ok (.iconst 0, 1) := by decide +kernel
theorem dX9_fields_61 : decode cX9_fields 61 = .ok (.bipush 11, 2) := by decide +kernel
theorem dX9_fields_63 : decode cX9_fields 63 = .ok (.aload_n 0, 1) := by decide +kernel
theorem dX9_fields_64 : decode cX9_fields 64 = .ok (.getfield 19, 3) := by decide +kernel
theorem dX9_fields_67 : decode cX9_fields 67 = .ok (.iload 4, 2) := by decide +kernel
theorem dX9_fields_69 : decode cX9_fields 69 = .ok (.iaload, 1) := by decide +kernel
theorem dX9_fields_70 : decode cX9_fields 70 = .ok (.invokevirtual 105, 3) := by decide +kernel
theorem dX9_fields_73 : decode cX9_fields 73 = .ok (.iconst (-1), 1) := by decide +kernel
theorem dX9_fields_74 : decode cX9_fields 74 = .ok (.istore 5, 2) := by decide +kernel
theorem dX9_fields_76 : decode cX9_fields 76 = .ok (.aload_n 0, 1) := by decide +kernel
theorem dX9_fields_77 : decode cX9_fields 77 = .ok (.getfield 29, 3) := by decide +kernel
theorem dX9_fields_80 : decode cX9_fields 80 = .ok (.iload 4, 2) := by decide +kernel
theorem dX9_fields_82 : decode cX9_fields 82 = .ok (.iaload, 1) := by decide +kernel
theorem dX9_fields_83 : decode cX9_fields 83 = .ok (.istore 6, 2) := by decide +kernel
theorem dX9_fields_85 : decode cX9_fields 85 = .ok (.iload 6, 2) := by decide +kernel
theorem dX9_fields_87 : decode cX9_fields 87 = .ok (.ifCond .lt 269, 3) := by decide +kernel
theorem dX9_fields_90 : decode cX9_fields 90 = .ok (.aload_n 0, 1) := by decide +kernel
theorem dX9_fields_91 : decode cX9_fields 91 = .ok (.aload_n 0, 1) := by decide +kernel
theorem dX9_fields_92 : decode cX9_fields 92 = .ok (.getfield 15, 3) := by decide +kernel
theorem dX9_fields_95 : decode cX9_fields 95 = .ok (.iload 6, 2) := by decide +kernel
theorem dX9_fields_97 : decode cX9_fields 97 = .ok (.iaload, 1) := by decide +kernel
theorem dX9_fields_98 : decode cX9_fields 98 = .ok (.ifCond .ne 7, 3) := by decide +kernel
theorem dX9_fields_101 : decode cX9_fields 101 = .ok (.iconst 1, 1) := by decide +kernel
theorem dX9_fields_102 : decode cX9_fields 102 = .ok (.goto 4, 3) := by decide +kernel
theorem dX9_fields_105 : decode cX9_fields 105 = .ok (.iconst 0, 1) := by decide +kernel
theorem dX9_fields_106 : decode cX9_fields 106 = .ok (.bipush 11, 2) := by decide +kernel
theorem dX9_fields_108 : decode cX9_fields 108 = .ok (.aload_n 0, 1) := by decide +kernel
theorem dX9_fields_109 : decode cX9_fields 109 = .ok (.getfield 19, 3) := by decide +kernel
theorem dX9_fields_112 : decode cX9_fields 112 = .ok (.iload 6, 2) := by decide +kernel
theorem dX9_fields_114 : decode cX9_fields 114 = .ok (.iaload, 1) := by decide +kernel
theorem dX9_fields_115 : decode cX9_fields 115 = .ok (.invokevirtual 105, 3) := by decide +kernel
theorem dX9_fields_118 : decode cX9_fields 118 = .ok (.aload_n 0, 1) := by decide +kernel
theorem dX9_fields_119 : decode cX9_fields 119 = .ok (.iload 6, 2) := by decide +kernel
theorem dX9_fields_121 : decode cX9_fields 121 = .ok (.ldc 246, 2) := by decide +kernel
theorem dX9_fields_123 : decode cX9_fields 123 = .ok (.invokevirtual 210, 3) := by decide +kernel
theorem dX9_fields_126 : decode cX9_fields 126 = .ok (.istore 7, 2) := by decide +kernel
theorem dX9_fields_128 : decode cX9_fields 128 = .ok (.aload_n 0, 1) := by decide +kernel
theorem dX9_fields_129 : decode cX9_fields 129 = .ok (.iload 7, 2) := by decide +kernel
theorem dX9_fields_131 : decode cX9_fields 131 = .ok (.ifCond .lt 18, 3) := by decide +kernel
theorem dX9_fields_134 : decode cX9_fields 134 = .ok (.aload_n 0, 1) := by decide +kernel
theorem dX9_fields_135 : decode cX9_fields 135 = .ok (.getfield 15, 3) := by decide +kernel
theorem dX9_fields_138 : decode cX9_fields 138 = .ok (.iload 7, 2) := by decide +kernel
theorem dX9_fields_140 : decode cX9_fields 140 = .ok (.iaload, 1) := by decide +kernel
theorem dX9_fields_141 : decode cX9_fields 141 = .ok (.iconst 2, 1) := by decide +kernel
theorem dX9_fields_142 : decode cX9_fields 142 = .ok (.if_icmp .ne 7, 3) := by decide +kernel
theorem dX9_fields_145 : decode cX9_fields 145 = .ok (.iconst 1, 1) := by decide +kernel
theorem dX9_fields_146 : decode cX9_fields 146 = .ok (.goto 4, 3) := by decide +kernel
theorem dX9_fields_149 : decode cX9_fields 149 = .ok (.iconst 0, 1) := by decide +kernel
theorem dX9_fields_150 : decode cX9_fields 150 = .ok (.bipush 8, 2) := by decide +kernel
theorem dX9_fields_152 : decode cX9_fields 152 = .ok (.aload_n 0, 1) := by decide +kernel
theorem dX9_fields_153 : decode cX9_fields 153 = .ok (.getfield 19, 3) := by decide +kernel
theorem dX9_fields_156 : decode cX9_fields 156 = .ok (.iload 6, 2) := by decide +kernel
theorem dX9_fields_158 : decode cX9_fields 158 = .ok (.iaload, 1) := by decide +kernel
theorem dX9_fields_159 : decode cX9_fields 159 = .ok (.invokevirtual 105, 3) := by decide +kernel
theorem dX9_fields_162 : decode cX9_fields 162 = .ok (.aload_n 0, 1) := by decide +kernel
theorem dX9_fields_163 : decode cX9_fields 163 = .ok (.iload 7, 2) := by decide +kernel
theorem dX9_fields_165 : decode cX9_fields 165 = .ok (.invokevirtual 248, 3) := by decide +kernel
theorem dX9_fields_168 : decode cX9_fields 168 = .ok (.istore 8, 2) := by decide +kernel
theorem dX9_fields_170 : decode cX9_fields 170 = .ok (.aload_n 0, 1) := by decide +kernel
theorem dX9_fields_171 : decode cX9_fields 171 = .ok (.getfield 47, 3) := by decide +kernel
theorem dX9_fields_174 : decode cX9_fields 174 = .ok (.iload_n 1, 1) := by decide +kernel
theorem dX9_fields_175 : decode cX9_fields 175 = .ok (.iaload, 1) := by decide +kernel
theorem dX9_fields_176 : decode cX9_fields 176 = .ok (.istore 9, 2) := by decide +kernel
theorem dX9_fields_178 : decode cX9_fields 178 = .ok (.iload 9, 2) := by decide +kernel
theorem dX9_fields_180 : decode cX9_fields 180 = .ok (.ifCond .lt 44, 3) := by decide +kernel
theorem dX9_fields_183 : decode cX9_fields 183 = .ok (.iload 8, 2) := by decide +kernel
theorem dX9_fields_185 : decode cX9_fields 185 = .ok (.ifCond .eq 24, 3) := by decide +kernel
theorem dX9_fields_188 : decode cX9_fields 188 = .ok (.aload_n 0, 1) := by decide +kernel
theorem dX9_fields_189 : decode cX9_fields 189 = .ok (.aload_n 0, 1) := by decide +kernel
theorem dX9_fields_190 : decode cX9_fields 190 = .ok (.getfield 59, 3) := by decide +kernel
theorem dX9_fields_193 : decode cX9_fields 193 = .ok (.iload 9, 2) := by decide +kernel
theorem dX9_fields_195 : decode cX9_fields 195 = .ok (.iaload, 1) := by decide +kernel
theorem dX9_fields_196 : decode cX9_fields 196 = .ok (.aload_n 0, 1) := by decide +kernel
theorem dX9_fields_197 : decode cX9_fields 197 = .ok (.iload 7, 2) := by decide +kernel
theorem dX9_fields_199 : decode cX9_fields 199 = .ok (.invokevirtual 155, 3) := by decide +kernel
theorem dX9_fields_202 : decode cX9_fields 202 = .ok (.ifCond .ne 7, 3) := by decide +kernel
theorem dX9_fields_205 : decode cX9_fields 205 = .ok (.iconst 1, 1) := by decide +kernel
theorem dX9_fields_206 : decode cX9_fields 206 = .ok (.goto 4, 3) := by decide +kernel
theorem dX9_fields_209 : decode cX9_fields 209 = .ok (.iconst 0, 1) := by decide +kernel
theorem dX9_fields_210 : decode cX9_fields 210 = .ok (.istore 8, 2) := by decide +kernel
theorem dX9_fields_212 : decode cX9_fields 212 = .ok (.aload_n 0, 1) := by decide +kernel
theorem dX9_fields_213 : decode cX9_fields 213 = .ok (.getfield 65, 3) := by decide +kernel
theorem dX9_fields_216 : decode cX9_fields 216 = .ok (.iload 9, 2) := by decide +kernel
theorem dX9_fields_218 : decode cX9_fields 218 = .ok (.iaload, 1) := by decide +kernel
theorem dX9_fields_219 : decode cX9_fields 219 = .ok (.istore 9, 2) := by decide +kernel
theorem dX9_fields_221 : decode cX9_fields 221 = .ok (.goto (-43), 3) := by decide +kernel
theorem dX9_fields_224 : decode cX9_fields 224 = .ok (.aload_n 0, 1) := by decide +kernel
theorem dX9_fields_225 : decode cX9_fields 225 = .ok (.iload 8, 2) := by decide +kernel
theorem dX9_fields_227 : decode cX9_fields 227 = .ok (.bipush 9, 2) := by decide +kernel
theorem dX9_fields_229 : decode cX9_fields 229 = .ok (.aload_n 0, 1) := by decide +kernel
theorem dX9_fields_230 : decode cX9_fields 230 = .ok (.getfield 19, 3) := by decide +kernel
theorem dX9_fields_233 : decode cX9_fields 233 = .ok (.iload 7, 2) := by decide +kernel
theorem dX9_fields_235 : decode cX9_fields 235 = .ok (.iaload, 1) := by decide +kernel
theorem dX9_fields_236 : decode cX9_fields 236 = .ok (.invokevirtual 105, 3) := by decide +kernel
theorem dX9_fields_239 : decode cX9_fields 239 = .ok (.aload_n 0, 1) := by decide +kernel
theorem dX9_fields_240 : decode cX9_fields 240 = .ok (.iload 6, 2) := by decide +kernel
theorem dX9_fields_242 : decode cX9_fields 242 = .ok (.ldc 208, 2) := by decide +kernel
theorem dX9_fields_244 : decode cX9_fields 244 = .ok (.invokevirtual 210, 3) := by decide +kernel
theorem dX9_fields_247 : decode cX9_fields 247 = .ok (.istore 9, 2) := by decide +kernel
theorem dX9_fields_249 : decode cX9_fields 249 = .ok (.aload_n 0, 1) := by decide +kernel
theorem dX9_fields_250 : decode cX9_fields 250 = .ok (.iload 9, 2) := by decide +kernel
theorem dX9_fields_252 : decode cX9_fields 252 = .ok (.ifCond .lt 7, 3) := by decide +kernel
theorem dX9_fields_255 : decode cX9_fields 255 = .ok (.iconst 1, 1) := by decide +kernel
theorem dX9_fields_256 : decode cX9_fields 256 = .ok (.goto 4, 3) := by decide +kernel
theorem dX9_fields_259 : decode cX9_fields 259 = .ok (.iconst 0, 1) := by decide +kernel
theorem dX9_fields_260 : decode cX9_fields 260 = .ok (.bipush 8, 2) := by decide +kernel
theorem dX9_fields_262 : decode cX9_fields 262 = .ok (.aload_n 0, 1) := by decide +kernel
theorem dX9_fields_263 : decode cX9_fields 263 = .ok (.getfield 19, 3) := by decide +kernel
theorem dX9_fields_266 : decode cX9_fields 266 = .ok (.iload 6, 2) := by decide +kernel
theorem dX9_fields_268 : decode cX9_fields 268 = .ok (.iaload, 1) := by decide +kernel
theorem dX9_fields_269 : decode cX9_fields 269 = .ok (.invokevirtual 105, 3) := by decide +kernel
theorem dX9_fields_272 : decode cX9_fields 272 = .ok (.aload_n 0, 1) := by decide +kernel
theorem dX9_fields_273 : decode cX9_fields 273 = .ok (.iload_n 1, 1) := by decide +kernel
theorem dX9_fields_274 : decode cX9_fields 274 = .ok (.iload 5, 2) := by decide +kernel
theorem dX9_fields_276 : decode cX9_fields 276 = .ok (.invokevirtual 225, 3) := by decide +kernel
theorem dX9_fields_279 : decode cX9_fields 279 = .ok (.istore 5, 2) := by decide +kernel
theorem dX9_fields_281 : decode cX9_fields 281 = .ok (.aload_n 0, 1) := by decide +kernel
theorem dX9_fields_282 : decode cX9_fields 282 = .ok (.getfield 59, 3) := by decide +kernel
theorem dX9_fields_285 : decode cX9_fields 285 = .ok (.iload 5, 2) := by decide +kernel
theorem dX9_fields_287 : decode cX9_fields 287 = .ok (.iload 7, 2) := by decide +kernel
theorem dX9_fields_289 : decode cX9_fields 289 = .ok (.iastore, 1) := by decide +kernel
theorem dX9_fields_290 : decode cX9_fields 290 = .ok (.aload_n 0, 1) := by decide +kernel
theorem dX9_fields_291 : decode cX9_fields 291 = .ok (.getfield 62, 3) := by decide +kernel
theorem dX9_fields_294 : decode cX9_fields 294 = .ok (.iload 5, 2) := by decide +kernel
theorem dX9_fields_296 : decode cX9_fields 296 = .ok (.aload_n 0, 1) := by decide +kernel
theorem dX9_fields_297 : decode cX9_fields 297 = .ok (.iload 6, 2) := by decide +kernel
theorem dX9_fields_299 : decode cX9_fields 299 = .ok (.ldc_w 264, 3) := by decide +kernel
theorem dX9_fields_302 : decode cX9_fields 302 = .ok (.invokevirtual 210, 3) := by decide +kernel
theorem dX9_fields_305 : decode cX9_fields 305 = .ok (.iastore, 1) := by decide +kernel
theorem dX9_fields_306 : decode cX9_fields 306 = .ok (.aload_n 0, 1) := by decide +kernel
theorem dX9_fields_307 : decode cX9_fields 307 = .ok (.getfield 56, 3) := by decide +kernel
theorem dX9_fields_310 : decode cX9_fields 310 = .ok (.iload 5, 2) := by decide +kernel
theorem dX9_fields_312 : decode cX9_fields 312 = .ok (.aload_n 0, 1) := by decide +kernel
theorem dX9_fields_313 : decode cX9_fields 313 = .ok (.iload 9, 2) := by decide +kernel
theorem dX9_fields_315 : decode cX9_fields 315 = .ok (.iload_n 3, 1) := by decide +kernel
theorem dX9_fields_316 : decode cX9_fields 316 = .ok (.iconst 1, 1) := by decide +kernel
theorem dX9_fields_317 : decode cX9_fields 317 = .ok (.iadd, 1) := by decide +kernel
theorem dX9_fields_318 : decode cX9_fields 318 = .ok (.iconst 0, 1) := by decide +kernel
theorem dX9_fields_319 : decode cX9_fields 319 = .ok (.invokevirtual 229, 3) := by decide +kernel
theorem dX9_fields_322 : decode cX9_fields 322 = .ok (.iastore, 1) := by decide +kernel
theorem dX9_fields_323 : decode cX9_fields 323 = .ok (.aload_n 0, 1) := by decide +kernel
theorem dX9_fields_324 : decode cX9_fields 324 = .ok (.getfield 68, 3) := by decide +kernel
theorem dX9_fields_327 : decode cX9_fields 327 = .ok (.aload_n 0, 1) := by decide +kernel
theorem dX9_fields_328 : decode cX9_fields 328 = .ok (.getfield 271, 3) := by decide +kernel
theorem dX9_fields_331 : decode cX9_fields 331 = .ok (.iload 5, 2) := by decide +kernel
theorem dX9_fields_333 : decode cX9_fields 333 = .ok (.iastore, 1) := by decide +kernel
theorem dX9_fields_334 : decode cX9_fields 334 = .ok (.aload_n 0, 1) := by decide +kernel
theorem dX9_fields_335 : decode cX9_fields 335 = .ok (.dup, 1) := by decide +kernel
theorem dX9_fields_336 : decode cX9_fields 336 = .ok (.getfield 271, 3) := by decide +kernel
theorem dX9_fields_339 : decode cX9_fields 339 = .ok (.iconst 1, 1) := by decide +kernel
theorem dX9_fields_340 : decode cX9_fields 340 = .ok (.iadd, 1) := by decide +kernel
theorem dX9_fields_341 : decode cX9_fields 341 = .ok (.putfield 271, 3) := by decide +kernel
theorem dX9_fields_344 : decode cX9_fields 344 = .ok (.aload_n 0, 1) := by decide +kernel
theorem dX9_fields_345 : decode cX9_fields 345 = .ok (.getfield 32, 3) := by decide +kernel
theorem dX9_fields_348 : decode cX9_fields 348 = .ok (.iload 6, 2) := by decide +kernel
theorem dX9_fields_350 : decode cX9_fields 350 = .ok (.iaload, 1) := by decide +kernel
theorem dX9_fields_351 : decode cX9_fields 351 = .ok (.istore 6, 2) := by decide +kernel
theorem dX9_fields_353 : decode cX9_fields 353 = .ok (.goto (-268), 3) := by decide +kernel
theorem dX9_fields_356 : decode cX9_fields 356 = .ok (.return_, 1) := by decide +kernel
def rmX9_fields (d : Nat) (mc ms : Nat) : Room := { frames := 3 * d + 12, cells := mc, slots := ms, locals := 84 * d + 219 }
abbrev cX9_named : ByteArray := prog_13_method_26_code
def yX9_named : MethodName := ⟨RX9, "named", "(III)I"⟩
def wsX9_named : List Cond := .code yX9_named cX9_named 8 (some .int) :: sr_G
theorem dX9_named_0 : decode cX9_named 0 = .ok (.aload_n 0, 1) := by decide +kernel
theorem dX9_named_1 : decode cX9_named 1 = .ok (.iload_n 1, 1) := by decide +kernel
theorem dX9_named_2 : decode cX9_named 2 = .ok (.ldc 246, 2) := by decide +kernel
theorem dX9_named_4 : decode cX9_named 4 = .ok (.invokevirtual 210, 3) := by decide +kernel
theorem dX9_named_7 : decode cX9_named 7 = .ok (.istore 4, 2) := by decide +kernel
theorem dX9_named_9 : decode cX9_named 9 = .ok (.aload_n 0, 1) := by decide +kernel
theorem dX9_named_10 : decode cX9_named 10 = .ok (.iload 4, 2) := by decide +kernel
theorem dX9_named_12 : decode cX9_named 12 = .ok (.ifCond .lt 18, 3) := by decide +kernel
theorem dX9_named_15 : decode cX9_named 15 = .ok (.aload_n 0, 1) := by decide +kernel
theorem dX9_named_16 : decode cX9_named 16 = .ok (.getfield 15, 3) := by decide +kernel
theorem dX9_named_19 : decode cX9_named 19 = .ok (.iload 4, 2) := by decide +kernel
theorem dX9_named_21 : decode cX9_named 21 = .ok (.iaload, 1) := by decide +kernel
theorem dX9_named_22 : decode cX9_named 22 = .ok (.iconst 2, 1) := by decide +kernel
theorem dX9_named_23 : decode cX9_named 23 = .ok (.if_icmp .ne 7, 3) := by decide +kernel
theorem dX9_named_26 : decode cX9_named 26 = .ok (.iconst 1, 1) := by decide +kernel
theorem dX9_named_27 : decode cX9_named 27 = .ok (.goto 4, 3) := by decide +kernel
theorem dX9_named_30 : decode cX9_named 30 = .ok (.iconst 0, 1) := by decide +kernel
theorem dX9_named_31 : decode cX9_named 31 = .ok (.bipush 8, 2) := by decide +kernel
theorem dX9_named_33 : decode cX9_named 33 = .ok (.aload_n 0, 1) := by decide +kernel
theorem dX9_named_34 : decode cX9_named 34 = .ok (.getfield 19, 3) := by decide +kernel
theorem dX9_named_37 : decode cX9_named 37 = .ok (.iload_n 1, 1) := by decide +kernel
theorem dX9_named_38 : decode cX9_named 38 = .ok (.iaload, 1) := by decide +kernel
theorem dX9_named_39 : decode cX9_named 39 = .ok (.invokevirtual 105, 3) := by decide +kernel
theorem dX9_named_42 : decode cX9_named 42 = .ok (.aload_n 0, 1) := by decide +kernel
theorem dX9_named_43 : decode cX9_named 43 = .ok (.iload 4, 2) := by decide +kernel
theorem dX9_named_45 : decode cX9_named 45 = .ok (.invokevirtual 248, 3) := by decide +kernel
theorem dX9_named_48 : decode cX9_named 48 = .ok (.ifCond .eq 80, 3) := by decide +kernel
theorem dX9_named_51 : decode cX9_named 51 = .ok (.aload_n 0, 1) := by decide +kernel
theorem dX9_named_52 : decode cX9_named 52 = .ok (.iload 4, 2) := by decide +kernel
theorem dX9_named_54 : decode cX9_named 54 = .ok (.invokevirtual 198, 3) := by decide +kernel
theorem dX9_named_57 : decode cX9_named 57 = .ok (.ifCond .ge 71, 3) := by decide +kernel
theorem dX9_named_60 : decode cX9_named 60 = .ok (.aload_n 0, 1) := by decide +kernel
theorem dX9_named_61 : decode cX9_named 61 = .ok (.iload 4, 2) := by decide +kernel
theorem dX9_named_63 : decode cX9_named 63 = .ok (.ldc 214, 2) := by decide +kernel
theorem dX9_named_65 : decode cX9_named 65 = .ok (.invokevirtual 177, 3) := by decide +kernel
theorem dX9_named_68 : decode cX9_named 68 = .ok (.ifCond .ne 60, 3) := by decide +kernel
theorem dX9_named_71 : decode cX9_named 71 = .ok (.aload_n 0, 1) := by decide +kernel
theorem dX9_named_72 : decode cX9_named 72 = .ok (.iload 4, 2) := by decide +kernel
theorem dX9_named_74 : decode cX9_named 74 = .ok (.ldc 216, 2) := by decide +kernel
theorem dX9_named_76 : decode cX9_named 76 = .ok (.invokevirtual 177, 3) := by decide +kernel
theorem dX9_named_79 : decode cX9_named 79 = .ok (.ifCond .ne 49, 3) := by decide +kernel
theorem dX9_named_82 : decode cX9_named 82 = .ok (.aload_n 0, 1) := by decide +kernel
theorem dX9_named_83 : decode cX9_named 83 = .ok (.iload 4, 2) := by decide +kernel
theorem dX9_named_85 : decode cX9_named 85 = .ok (.ldc 232, 2) := by decide +kernel
theorem dX9_named_87 : decode cX9_named 87 = .ok (.invokevirtual 177, 3) := by decide +kernel
theorem dX9_named_90 : decode cX9_named 90 = .ok (.ifCond .ne 38, 3) := by decide +kernel
theorem dX9_named_93 : decode cX9_named 93 = .ok (.aload_n 0, 1) := by decide +kernel
theorem dX9_named_94 : decode cX9_named 94 = .ok (.iload 4, 2) := by decide +kernel
theorem dX9_named_96 : decode cX9_named 96 = .ok (.ldc 234, 2) := by decide +kernel
theorem dX9_named_98 : decode cX9_named 98 = .ok (.invokevirtual 177, 3) := by decide +kernel
theorem dX9_named_101 : decode cX9_named 101 = .ok (.ifCond .ne 27, 3) := by decide +kernel
theorem dX9_named_104 : decode cX9_named 104 = .ok (.aload_n 0, 1) := by decide +kernel
theorem dX9_named_105 : decode cX9_named 105 = .ok (.iload 4, 2) := by decide +kernel
theorem dX9_named_107 : decode cX9_named 107 = .ok (.ldc 236, 2) := by decide +kernel
theorem dX9_named_109 : decode cX9_named 109 = .ok (.invokevirtual 177, 3) := by decide +kernel
theorem dX9_named_112 : decode cX9_named 112 = .ok (.ifCond .ne 16, 3) := by decide +kernel
theorem dX9_named_115 : decode cX9_named 115 = .ok (.aload_n 0, 1) := by decide +kernel
theorem dX9_named_116 : decode cX9_named 116 = .ok (.iload 4, 2) := by decide +kernel
theorem dX9_named_118 : decode cX9_named 118 = .ok (.invokevirtual 201, 3) := by decide +kernel
theorem dX9_named_121 : decode cX9_named 121 = .ok (.ifCond .ge 7, 3) := by decide +kernel
theorem dX9_named_124 : decode cX9_named 124 = .ok (.iconst 1, 1) := by decide +kernel
theorem dX9_named_125 : decode cX9_named 125 = .ok (.goto 4, 3) := by decide +kernel
theorem dX9_named_128 : decode cX9_named 128 = .ok (.iconst 0, 1) := by decide +kernel
theorem dX9_named_129 : decode cX9_named 129 = .ok (.istore 5, 2) := by decide +kernel
theorem dX9_named_131 : decode cX9_named 131 = .ok (.aload_n 0, 1) := by decide +kernel
theorem dX9_named_132 : decode cX9_named 132 = .ok (.iload 5, 2) := by decide +kernel
theorem dX9_named_134 : decode cX9_named 134 = .ok (.bipush 9, 2) := by decide +kernel
theorem dX9_named_136 : decode cX9_named 136 = .ok (.aload_n 0, 1) := by decide +kernel
theorem dX9_named_137 : decode cX9_named 137 = .ok (.getfield 19, 3) := by decide +kernel
theorem dX9_named_140 : decode cX9_named 140 = .ok (.iload 4, 2) := by decide +kernel
theorem dX9_named_142 : decode cX9_named 142 = .ok (.iaload, 1) := by decide +kernel
theorem dX9_named_143 : decode cX9_named 143 = .ok (.invokevirtual 105, 3) := by decide +kernel
theorem dX9_named_146 : decode cX9_named 146 = .ok (.aload_n 0, 1) := by decide +kernel
theorem dX9_named_147 : decode cX9_named 147 = .ok (.aload_n 0, 1) := by decide +kernel
theorem dX9_named_148 : decode cX9_named 148 = .ok (.iload_n 2, 1) := by decide +kernel
theorem dX9_named_149 : decode cX9_named 149 = .ok (.ldc 232, 2) := by decide +kernel
theorem dX9_named_151 : decode cX9_named 151 = .ok (.invokevirtual 177, 3) := by decide +kernel
theorem dX9_named_154 : decode cX9_named 154 = .ok (.ifCond .eq 8, 3) := by decide +kernel
theorem dX9_named_157 : decode cX9_named 157 = .ok (.bipush 9, 2) := by decide +kernel
theorem dX9_named_159 : decode cX9_named 159 = .ok (.goto 20, 3) := by decide +kernel
theorem dX9_named_162 : decode cX9_named 162 = .ok (.aload_n 0, 1) := by decide +kernel
theorem dX9_named_163 : decode cX9_named 163 = .ok (.iload_n 2, 1) := by decide +kernel
theorem dX9_named_164 : decode cX9_named 164 = .ok (.ldc 234, 2) := by decide +kernel
theorem dX9_named_166 : decode cX9_named 166 = .ok (.invokevirtual 177, 3) := by decide +kernel
theorem dX9_named_169 : decode cX9_named 169 = .ok (.ifCond .eq 8, 3) := by decide +kernel
theorem dX9_named_172 : decode cX9_named 172 = .ok (.bipush 10, 2) := by decide +kernel
theorem dX9_named_174 : decode cX9_named 174 = .ok (.goto 5, 3) := by decide +kernel
theorem dX9_named_177 : decode cX9_named 177 = .ok (.bipush 11, 2) := by decide +kernel
theorem dX9_named_179 : decode cX9_named 179 = .ok (.invokevirtual 222, 3) := by decide +kernel
theorem dX9_named_182 : decode cX9_named 182 = .ok (.istore 6, 2) := by decide +kernel
theorem dX9_named_184 : decode cX9_named 184 = .ok (.aload_n 0, 1) := by decide +kernel
theorem dX9_named_185 : decode cX9_named 185 = .ok (.getfield 41, 3) := by decide +kernel
theorem dX9_named_188 : decode cX9_named 188 = .ok (.iload 6, 2) := by decide +kernel
theorem dX9_named_190 : decode cX9_named 190 = .ok (.iload 4, 2) := by decide +kernel
theorem dX9_named_192 : decode cX9_named 192 = .ok (.iastore, 1) := by decide +kernel
theorem dX9_named_193 : decode cX9_named 193 = .ok (.aload_n 0, 1) := by decide +kernel
theorem dX9_named_194 : decode cX9_named 194 = .ok (.getfield 38, 3) := by decide +kernel
theorem dX9_named_197 : decode cX9_named 197 = .ok (.iload 6, 2) := by decide +kernel
theorem dX9_named_199 : decode cX9_named 199 = .ok (.iaload, 1) := by decide +kernel
theorem dX9_named_200 : decode cX9_named 200 = .ok (.bipush 9, 2) := by decide +kernel
theorem dX9_named_202 : decode cX9_named 202 = .ok (.if_icmp .ne 107, 3) := by decide +kernel
theorem dX9_named_205 : decode cX9_named 205 = .ok (.aload_n 0, 1) := by decide +kernel
theorem dX9_named_206 : decode cX9_named 206 = .ok (.iload_n 1, 1) := by decide +kernel
theorem dX9_named_207 : decode cX9_named 207 = .ok (.ldc 252, 2) := by decide +kernel
theorem dX9_named_209 : decode cX9_named 209 = .ok (.invokevirtual 210, 3) := by decide +kernel
theorem dX9_named_212 : decode cX9_named 212 = .ok (.istore 7, 2) := by decide +kernel
theorem dX9_named_214 : decode cX9_named 214 = .ok (.aload_n 0, 1) := by decide +kernel
theorem dX9_named_215 : decode cX9_named 215 = .ok (.iload 7, 2) := by decide +kernel
theorem dX9_named_217 : decode cX9_named 217 = .ok (.ifCond .lt 7, 3) := by decide +kernel
theorem dX9_named_220 : decode cX9_named 220 = .ok (.iconst 1, 1) := by decide +kernel
theorem dX9_named_221 : decode cX9_named 221 = .ok (.goto 4, 3) := by decide +kernel
theorem dX9_named_224 : decode cX9_named 224 = .ok (.iconst 0, 1) := by decide +kernel
theorem dX9_named_225 : decode cX9_named 225 = .ok (.bipush 8, 2) := by decide +kernel
theorem dX9_named_227 : decode cX9_named 227 = .ok (.aload_n 0, 1) := by decide +kernel
theorem dX9_named_228 : decode cX9_named 228 = .ok (.getfield 19, 3) := by decide +kernel
theorem dX9_named_231 : decode cX9_named 231 = .ok (.iload_n 1, 1) := by decide +kernel
theorem dX9_named_232 : decode cX9_named 232 = .ok (.iaload, 1) := by decide +kernel
theorem dX9_named_233 : decode cX9_named 233 = .ok (.invokevirtual 105, 3) := by decide +kernel
theorem dX9_named_236 : decode cX9_named 236 = .ok (.aload_n 0, 1) := by decide +kernel
theorem dX9_named_237 : decode cX9_named 237 = .ok (.aload_n 0, 1) := by decide +kernel
theorem dX9_named_238 : decode cX9_named 238 = .ok (.getfield 15, 3) := by decide +kernel
theorem dX9_named_241 : decode cX9_named 241 = .ok (.iload 7, 2) := by decide +kernel
theorem dX9_named_243 : decode cX9_named 243 = .ok (.iaload, 1) := by decide +kernel
theorem dX9_named_244 : decode cX9_named 244 = .ok (.iconst 3, 1) := by decide +kernel
theorem dX9_named_245 : decode cX9_named 245 = .ok (.if_icmp .ne 33, 3) := by decide +kernel
theorem dX9_named_248 : decode cX9_named 248 = .ok (.aload_n 0, 1) := by decide +kernel
theorem dX9_named_249 : decode cX9_named 249 = .ok (.getfield 22, 3) := by decide +kernel
theorem dX9_named_252 : decode cX9_named 252 = .ok (.iload 7, 2) := by decide +kernel
theorem dX9_named_254 : decode cX9_named 254 = .ok (.laload, 1) := by decide +kernel
theorem dX9_named_255 : decode cX9_named 255 = .ok (.lconst 0, 1) := by decide +kernel
theorem dX9_named_256 : decode cX9_named 256 = .ok (.lcmp, 1) := by decide +kernel
theorem dX9_named_257 : decode cX9_named 257 = .ok (.ifCond .lt 21, 3) := by decide +kernel
theorem dX9_named_260 : decode cX9_named 260 = .ok (.aload_n 0, 1) := by decide +kernel
theorem dX9_named_261 : decode cX9_named 261 = .ok (.getfield 22, 3) := by decide +kernel
theorem dX9_named_264 : decode cX9_named 264 = .ok (.iload 7, 2) := by decide +kernel
theorem dX9_named_266 : decode cX9_named 266 = .ok (.laload, 1) := by decide +kernel
theorem dX9_named_267 : decode cX9_named 267 = .ok (.ldc2_w 254, 3) := by decide +kernel
theorem dX9_named_270 : decode cX9_named 270 = .ok (.lcmp, 1) := by decide +kernel
theorem dX9_named_271 : decode cX9_named 271 = .ok (.ifCond .gt 7, 3) := by decide +kernel
theorem dX9_named_274 : decode cX9_named 274 = .ok (.iconst 1, 1) := by decide +kernel
theorem dX9_named_275 : decode cX9_named 275 = .ok (.goto 4, 3) := by decide +kernel
theorem dX9_named_278 : decode cX9_named 278 = .ok (.iconst 0, 1) := by decide +kernel
theorem dX9_named_279 : decode cX9_named 279 = .ok (.bipush 10, 2) := by decide +kernel
theorem dX9_named_281 : decode cX9_named 281 = .ok (.aload_n 0, 1) := by decide +kernel
theorem dX9_named_282 : decode cX9_named 282 = .ok (.getfield 19, 3) := by decide +kernel
theorem dX9_named_285 : decode cX9_named 285 = .ok (.iload 7, 2) := by decide +kernel
theorem dX9_named_287 : decode cX9_named 287 = .ok (.iaload, 1) := by decide +kernel
theorem dX9_named_288 : decode cX9_named 288 = .ok (.invokevirtual 105, 3) := by decide +kernel
theorem dX9_named_291 : decode cX9_named 291 = .ok (.aload_n 0, 1) := by decide +kernel
theorem dX9_named_292 : decode cX9_named 292 = .ok (.getfield 44, 3) := by decide +kernel
theorem dX9_named_295 : decode cX9_named 295 = .ok (.iload 6, 2) := by decide +kernel
theorem dX9_named_297 : decode cX9_named 297 = .ok (.aload_n 0, 1) := by decide +kernel
theorem dX9_named_298 : decode cX9_named 298 = .ok (.getfield 22, 3) := by decide +kernel
theorem dX9_named_301 : decode cX9_named 301 = .ok (.iload 7, 2) := by decide +kernel
theorem dX9_named_303 : decode cX9_named 303 = .ok (.laload, 1) := by decide +kernel
theorem dX9_named_304 : decode cX9_named 304 = .ok (.l2i, 1) := by decide +kernel
theorem dX9_named_305 : decode cX9_named 305 = .ok (.iastore, 1) := by decide +kernel
theorem dX9_named_306 : decode cX9_named 306 = .ok (.goto 33, 3) := by decide +kernel
theorem dX9_named_309 : decode cX9_named 309 = .ok (.aload_n 0, 1) := by decide +kernel
theorem dX9_named_310 : decode cX9_named 310 = .ok (.getfield 38, 3) := by decide +kernel
theorem dX9_named_313 : decode cX9_named 313 = .ok (.iload 6, 2) := by decide +kernel
theorem dX9_named_315 : decode cX9_named 315 = .ok (.iaload, 1) := by decide +kernel
theorem dX9_named_316 : decode cX9_named 316 = .ok (.bipush 10, 2) := by decide +kernel
theorem dX9_named_318 : decode cX9_named 318 = .ok (.if_icmp .ne 13, 3) := by decide +kernel
theorem dX9_named_321 : decode cX9_named 321 = .ok (.aload_n 0, 1) := by decide +kernel
theorem dX9_named_322 : decode cX9_named 322 = .ok (.iload 6, 2) := by decide +kernel
theorem dX9_named_324 : decode cX9_named 324 = .ok (.iload_n 1, 1) := by decide +kernel
theorem dX9_named_325 : decode cX9_named 325 = .ok (.invokevirtual 256, 3) := by decide +kernel
theorem dX9_named_328 : decode cX9_named 328 = .ok (.goto 11, 3) := by decide +kernel
theorem dX9_named_331 : decode cX9_named 331 = .ok (.aload_n 0, 1) := by decide +kernel
theorem dX9_named_332 : decode cX9_named 332 = .ok (.iload 6, 2) := by decide +kernel
theorem dX9_named_334 : decode cX9_named 334 = .ok (.iload_n 1, 1) := by decide +kernel
theorem dX9_named_335 : decode cX9_named 335 = .ok (.iload_n 3, 1) := by decide +kernel
theorem dX9_named_336 : decode cX9_named 336 = .ok (.invokevirtual 259, 3) := by decide +kernel
theorem dX9_named_339 : decode cX9_named 339 = .ok (.iload 6, 2) := by decide +kernel
theorem dX9_named_341 : decode cX9_named 341 = .ok (.ireturn, 1) := by decide +kernel
def rmX9_named (d : Nat) (mc ms : Nat) : Room := { frames := 3 * d + 13, cells := mc, slots := ms, locals := 84 * d + 248 }
abbrev cX9_schemaOf : ByteArray := prog_13_method_23_code
def yX9_schemaOf : MethodName := ⟨RX9, "schemaOf", "(IIZ)I"⟩
def wsX9_schemaOf : List Cond := .code yX9_schemaOf cX9_schemaOf 9 (some .int) :: sr_G
theorem dX9_schemaOf_0 : decode cX9_schemaOf 0 = .ok (.aload_n 0, 1) := by decide +kernel
theorem dX9_schemaOf_1 : decode cX9_schemaOf 1 = .ok (.aload_n 0, 1) := by decide +kernel
theorem dX9_schemaOf_2 : decode cX9_schemaOf 2 = .ok (.getfield 195, 3) := by decide +kernel
theorem dX9_schemaOf_5 : decode cX9_schemaOf 5 = .ok (.sipush 128, 3) := by decide +kernel
theorem dX9_schemaOf_8 : decode cX9_schemaOf 8 = .ok (.if_icmp .ge 7, 3) := by decide +kernel
theorem dX9_schemaOf_11 : decode cX9_schemaOf 11 = .ok (.iconst 1, 1) := by decide +kernel
theorem dX9_schemaOf_12 : decode cX9_schemaOf 12 = .ok (.goto 4, 3) := by decide +kernel
theorem dX9_schemaOf_15 : decode cX9_schemaOf 15 = .ok (.iconst 0, 1) := by decide +kernel
theorem dX9_schemaOf_16 : decode cX9_schemaOf 16 = .ok (.bipush 13, 2) := by decide +kernel
theorem dX9_schemaOf_18 : decode cX9_schemaOf 18 = .ok (.aload_n 0, 1) := by decide +kernel
theorem dX9_schemaOf_19 : decode cX9_schemaOf 19 = .ok (.getfield 19, 3) := by decide +kernel
theorem dX9_schemaOf_22 : decode cX9_schemaOf 22 = .ok (.iload_n 1, 1) := by decide +kernel
theorem dX9_schemaOf_23 : decode cX9_schemaOf 23 = .ok (.iaload, 1) := by decide +kernel
theorem dX9_schemaOf_24 : decode cX9_schemaOf 24 = .ok (.invokevirtual 105, 3) := by decide +kernel
theorem dX9_schemaOf_27 : decode cX9_schemaOf 27 = .ok (.aload_n 0, 1) := by decide +kernel
theorem dX9_schemaOf_28 : decode cX9_schemaOf 28 = .ok (.dup, 1) := by decide +kernel
theorem dX9_schemaOf_29 : decode cX9_schemaOf 29 = .ok (.getfield 195, 3) := by decide +kernel
theorem dX9_schemaOf_32 : decode cX9_schemaOf 32 = .ok (.iconst 1, 1) := by decide +kernel
theorem dX9_schemaOf_33 : decode cX9_schemaOf 33 = .ok (.iadd, 1) := by decide +kernel
theorem dX9_schemaOf_34 : decode cX9_schemaOf 34 = .ok (.putfield 195, 3) := by decide +kernel
theorem dX9_schemaOf_37 : decode cX9_schemaOf 37 = .ok (.aload_n 0, 1) := by decide +kernel
theorem dX9_schemaOf_38 : decode cX9_schemaOf 38 = .ok (.iload_n 2, 1) := by decide +kernel
theorem dX9_schemaOf_39 : decode cX9_schemaOf 39 = .ok (.bipush 16, 2) := by decide +kernel
theorem dX9_schemaOf_41 : decode cX9_schemaOf 41 = .ok (.if_icmp .ge 7, 3) := by decide +kernel
theorem dX9_schemaOf_44 : decode cX9_schemaOf 44 = .ok (.iconst 1, 1) := by decide +kernel
theorem dX9_schemaOf_45 : decode cX9_schemaOf 45 = .ok (.goto 4, 3) := by decide +kernel
theorem dX9_schemaOf_48 : decode cX9_schemaOf 48 = .ok (.iconst 0, 1) := by decide +kernel
theorem dX9_schemaOf_49 : decode cX9_schemaOf 49 = .ok (.bipush 14, 2) := by decide +kernel
theorem dX9_schemaOf_51 : decode cX9_schemaOf 51 = .ok (.aload_n 0, 1) := by decide +kernel
theorem dX9_schemaOf_52 : decode cX9_schemaOf 52 = .ok (.getfield 19, 3) := by decide +kernel
theorem dX9_schemaOf_55 : decode cX9_schemaOf 55 = .ok (.iload_n 1, 1) := by decide +kernel
theorem dX9_schemaOf_56 : decode cX9_schemaOf 56 = .ok (.iaload, 1) := by decide +kernel
theorem dX9_schemaOf_57 : decode cX9_schemaOf 57 = .ok (.invokevirtual 105, 3) := by decide +kernel
theorem dX9_schemaOf_60 : decode cX9_schemaOf 60 = .ok (.aload_n 0, 1) := by decide +kernel
theorem dX9_schemaOf_61 : decode cX9_schemaOf 61 = .ok (.getfield 15, 3) := by decide +kernel
theorem dX9_schemaOf_64 : decode cX9_schemaOf 64 = .ok (.iload_n 1, 1) := by decide +kernel
theorem dX9_schemaOf_65 : decode cX9_schemaOf 65 = .ok (.iaload, 1) := by decide +kernel
theorem dX9_schemaOf_66 : decode cX9_schemaOf 66 = .ok (.iconst 2, 1) := by decide +kernel
theorem dX9_schemaOf_67 : decode cX9_schemaOf 67 = .ok (.if_icmp .ne 51, 3) := by decide +kernel
theorem dX9_schemaOf_70 : decode cX9_schemaOf 70 = .ok (.aload_n 0, 1) := by decide +kernel
theorem dX9_schemaOf_71 : decode cX9_schemaOf 71 = .ok (.iload_n 1, 1) := by decide +kernel
theorem dX9_schemaOf_72 : decode cX9_schemaOf 72 = .ok (.invokevirtual 198, 3) := by decide +kernel
theorem dX9_schemaOf_75 : decode cX9_schemaOf 75 = .ok (.istore 4, 2) := by decide +kernel
theorem dX9_schemaOf_77 : decode cX9_schemaOf 77 = .ok (.iload 4, 2) := by decide +kernel
theorem dX9_schemaOf_79 : decode cX9_schemaOf 79 = .ok (.ifCond .lt 8, 3) := by decide +kernel
theorem dX9_schemaOf_82 : decode cX9_schemaOf 82 = .ok (.iload 4, 2) := by decide +kernel
theorem dX9_schemaOf_84 : decode cX9_schemaOf 84 = .ok (.goto 8, 3) := by decide +kernel
theorem dX9_schemaOf_87 : decode cX9_schemaOf 87 = .ok (.aload_n 0, 1) := by decide +kernel
theorem dX9_schemaOf_88 : decode cX9_schemaOf 88 = .ok (.iload_n 1, 1) := by decide +kernel
theorem dX9_schemaOf_89 : decode cX9_schemaOf 89 = .ok (.invokevirtual 201, 3) := by decide +kernel
theorem dX9_schemaOf_92 : decode cX9_schemaOf 92 = .ok (.istore 5, 2) := by decide +kernel
theorem dX9_schemaOf_94 : decode cX9_schemaOf 94 = .ok (.aload_n 0, 1) := by decide +kernel
theorem dX9_schemaOf_95 : decode cX9_schemaOf 95 = .ok (.iload 5, 2) := by decide +kernel
theorem dX9_schemaOf_97 : decode cX9_schemaOf 97 = .ok (.ifCond .lt 7, 3) := by decide +kernel
theorem dX9_schemaOf_100 : decode cX9_schemaOf 100 = .ok (.iconst 1, 1) := by decide +kernel
theorem dX9_schemaOf_101 : decode cX9_schemaOf 101 = .ok (.goto 4, 3) := by decide +kernel
theorem dX9_schemaOf_104 : decode cX9_schemaOf 104 = .ok (.iconst 0, 1) := by decide +kernel
theorem dX9_schemaOf_105 : decode cX9_schemaOf 105 = .ok (.iconst 3, 1) := by decide +kernel
theorem dX9_schemaOf_106 : decode cX9_schemaOf 106 = .ok (.aload_n 0, 1) := by decide +kernel
theorem dX9_schemaOf_107 : decode cX9_schemaOf 107 = .ok (.getfield 19, 3) := by decide +kernel
theorem dX9_schemaOf_110 : decode cX9_schemaOf 110 = .ok (.iload_n 1, 1) := by decide +kernel
theorem dX9_schemaOf_111 : decode cX9_schemaOf 111 = .ok (.iaload, 1) := by decide +kernel
theorem dX9_schemaOf_112 : decode cX9_schemaOf 112 = .ok (.invokevirtual 105, 3) := by decide +kernel
theorem dX9_schemaOf_115 : decode cX9_schemaOf 115 = .ok (.iload 5, 2) := by decide +kernel
theorem dX9_schemaOf_117 : decode cX9_schemaOf 117 = .ok (.ireturn, 1) := by decide +kernel
theorem dX9_schemaOf_118 : decode cX9_schemaOf 118 = .ok (.aload_n 0, 1) := by decide +kernel
theorem dX9_schemaOf_119 : decode cX9_schemaOf 119 = .ok (.getfield 15, 3) := by decide +kernel
theorem dX9_schemaOf_122 : decode cX9_schemaOf 122 = .ok (.iload_n 1, 1) := by decide +kernel
theorem dX9_schemaOf_123 : decode cX9_schemaOf 123 = .ok (.iaload, 1) := by decide +kernel
theorem dX9_schemaOf_124 : decode cX9_schemaOf 124 = .ok (.iconst 1, 1) := by decide +kernel
theorem dX9_schemaOf_125 : decode cX9_schemaOf 125 = .ok (.if_icmp .ne 11, 3) := by decide +kernel
theorem dX9_schemaOf_128 : decode cX9_schemaOf 128 = .ok (.aload_n 0, 1) := by decide +kernel
theorem dX9_schemaOf_129 : decode cX9_schemaOf 129 = .ok (.iload_n 1, 1) := by decide +kernel
theorem dX9_schemaOf_130 : decode cX9_schemaOf 130 = .ok (.iload_n 2, 1) := by decide +kernel
theorem dX9_schemaOf_131 : decode cX9_schemaOf 131 = .ok (.iload_n 3, 1) := by decide +kernel
theorem dX9_schemaOf_132 : decode cX9_schemaOf 132 = .ok (.invokevirtual 204, 3) := by decide +kernel
theorem dX9_schemaOf_135 : decode cX9_schemaOf 135 = .ok (.ireturn, 1) := by decide +kernel
theorem dX9_schemaOf_136 : decode cX9_schemaOf 136 = .ok (.aload_n 0, 1) := by decide +kernel
theorem dX9_schemaOf_137 : decode cX9_schemaOf 137 = .ok (.aload_n 0, 1) := by decide +kernel
theorem dX9_schemaOf_138 : decode cX9_schemaOf 138 = .ok (.getfield 15, 3) := by decide +kernel
theorem dX9_schemaOf_141 : decode cX9_schemaOf 141 = .ok (.iload_n 1, 1) := by decide +kernel
theorem dX9_schemaOf_142 : decode cX9_schemaOf 142 = .ok (.iaload, 1) := by decide +kernel
theorem dX9_schemaOf_143 : decode cX9_schemaOf 143 = .ok (.ifCond .ne 7, 3) := by decide +kernel
theorem dX9_schemaOf_146 : decode cX9_schemaOf 146 = .ok (.iconst 1, 1) := by decide +kernel
theorem dX9_schemaOf_147 : decode cX9_schemaOf 147 = .ok (.goto 4, 3) := by decide +kernel
theorem dX9_schemaOf_150 : decode cX9_schemaOf 150 = .ok (.iconst 0, 1) := by decide +kernel
theorem dX9_schemaOf_151 : decode cX9_schemaOf 151 = .ok (.iconst 2, 1) := by decide +kernel
theorem dX9_schemaOf_152 : decode cX9_schemaOf 152 = .ok (.aload_n 0, 1) := by decide +kernel
theorem dX9_schemaOf_153 : decode cX9_schemaOf 153 = .ok (.getfield 19, 3) := by decide +kernel
theorem dX9_schemaOf_156 : decode cX9_schemaOf 156 = .ok (.iload_n 1, 1) := by decide +kernel
theorem dX9_schemaOf_157 : decode cX9_schemaOf 157 = .ok (.iaload, 1) := by decide +kernel
theorem dX9_schemaOf_158 : decode cX9_schemaOf 158 = .ok (.invokevirtual 105, 3) := by decide +kernel
theorem dX9_schemaOf_161 : decode cX9_schemaOf 161 = .ok (.aload_n 0, 1) := by decide +kernel
theorem dX9_schemaOf_162 : decode cX9_schemaOf 162 = .ok (.iload_n 1, 1) := by decide +kernel
theorem dX9_schemaOf_163 : decode cX9_schemaOf 163 = .ok (.ldc 208, 2) := by decide +kernel
theorem dX9_schemaOf_165 : decode cX9_schemaOf 165 = .ok (.invokevirtual 210, 3) := by decide +kernel
theorem dX9_schemaOf_168 : decode cX9_schemaOf 168 = .ok (.istore 4, 2) := by decide +kernel
theorem dX9_schemaOf_170 : decode cX9_schemaOf 170 = .ok (.aload_n 0, 1) := by decide +kernel
theorem dX9_schemaOf_171 : decode cX9_schemaOf 171 = .ok (.iload 4, 2) := by decide +kernel
theorem dX9_schemaOf_173 : decode cX9_schemaOf 173 = .ok (.ifCond .lt 18, 3) := by decide +kernel
theorem dX9_schemaOf_176 : decode cX9_schemaOf 176 = .ok (.aload_n 0, 1) := by decide +kernel
theorem dX9_schemaOf_177 : decode cX9_schemaOf 177 = .ok (.getfield 15, 3) := by decide +kernel
theorem dX9_schemaOf_180 : decode cX9_schemaOf 180 = .ok (.iload 4, 2) := by decide +kernel
theorem dX9_schemaOf_182 : decode cX9_schemaOf 182 = .ok (.iaload, 1) := by decide +kernel
theorem dX9_schemaOf_183 : decode cX9_schemaOf 183 = .ok (.iconst 2, 1) := by decide +kernel
theorem dX9_schemaOf_184 : decode cX9_schemaOf 184 = .ok (.if_icmp .ne 7, 3) := by decide +kernel
theorem dX9_schemaOf_187 : decode cX9_schemaOf 187 = .ok (.iconst 1, 1) := by decide +kernel
theorem dX9_schemaOf_188 : decode cX9_schemaOf 188 = .ok (.goto 4, 3) := by decide +kernel
theorem dX9_schemaOf_191 : decode cX9_schemaOf 191 = .ok (.iconst 0, 1) := by decide +kernel
theorem dX9_schemaOf_192 : decode cX9_schemaOf 192 = .ok (.bipush 7, 2) := by decide +kernel
theorem dX9_schemaOf_194 : decode cX9_schemaOf 194 = .ok (.aload_n 0, 1) := by decide +kernel
theorem dX9_schemaOf_195 : decode cX9_schemaOf 195 = .ok (.getfield 19, 3) := by decide +kernel
theorem dX9_schemaOf_198 : decode cX9_schemaOf 198 = .ok (.iload_n 1, 1) := by decide +kernel
theorem dX9_schemaOf_199 : decode cX9_schemaOf 199 = .ok (.iaload, 1) := by decide +kernel
theorem dX9_schemaOf_200 : decode cX9_schemaOf 200 = .ok (.invokevirtual 105, 3) := by decide +kernel
theorem dX9_schemaOf_203 : decode cX9_schemaOf 203 = .ok (.aload_n 0, 1) := by decide +kernel
theorem dX9_schemaOf_204 : decode cX9_schemaOf 204 = .ok (.iload 4, 2) := by decide +kernel
theorem dX9_schemaOf_206 : decode cX9_schemaOf 206 = .ok (.invokevirtual 198, 3) := by decide +kernel
theorem dX9_schemaOf_209 : decode cX9_schemaOf 209 = .ok (.ifCond .lt 10, 3) := by decide +kernel
theorem dX9_schemaOf_212 : decode cX9_schemaOf 212 = .ok (.aload_n 0, 1) := by decide +kernel
theorem dX9_schemaOf_213 : decode cX9_schemaOf 213 = .ok (.iload 4, 2) := by decide +kernel
theorem dX9_schemaOf_215 : decode cX9_schemaOf 215 = .ok (.invokevirtual 198, 3) := by decide +kernel
theorem dX9_schemaOf_218 : decode cX9_schemaOf 218 = .ok (.ireturn, 1) := by decide +kernel
theorem dX9_schemaOf_219 : decode cX9_schemaOf 219 = .ok (.aload_n 0, 1) := by decide +kernel
theorem dX9_schemaOf_220 : decode cX9_schemaOf 220 = .ok (.iload 4, 2) := by decide +kernel
theorem dX9_schemaOf_222 : decode cX9_schemaOf 222 = .ok (.ldc 214, 2) := by decide +kernel
theorem dX9_schemaOf_224 : decode cX9_schemaOf 224 = .ok (.invokevirtual 177, 3) := by decide +kernel
theorem dX9_schemaOf_227 : decode cX9_schemaOf 227 = .ok (.ifCond .ne 14, 3) := by decide +kernel
theorem dX9_schemaOf_230 : decode cX9_schemaOf 230 = .ok (.aload_n 0, 1) := by decide +kernel
theorem dX9_schemaOf_231 : decode cX9_schemaOf 231 = .ok (.iload 4, 2) := by decide +kernel
theorem dX9_schemaOf_233 : decode cX9_schemaOf 233 = .ok (.ldc 216, 2) := by decide +kernel
theorem dX9_schemaOf_235 : decode cX9_schemaOf 235 = .ok (.invokevirtual 177, 3) := by decide +kernel
theorem dX9_schemaOf_238 : decode cX9_schemaOf 238 = .ok (.ifCond .eq 101, 3) := by decide +kernel
theorem dX9_schemaOf_241 : decode cX9_schemaOf 241 = .ok (.aload_n 0, 1) := by decide +kernel
theorem dX9_schemaOf_242 : decode cX9_schemaOf 242 = .ok (.iload 4, 2) := by decide +kernel
theorem dX9_schemaOf_244 : decode cX9_schemaOf 244 = .ok (.ldc 214, 2) := by decide +kernel
theorem dX9_schemaOf_246 : decode cX9_schemaOf 246 = .ok (.invokevirtual 177, 3) := by decide +kernel
theorem dX9_schemaOf_249 : decode cX9_schemaOf 249 = .ok (.istore 5, 2) := by decide +kernel
theorem dX9_schemaOf_251 : decode cX9_schemaOf 251 = .ok (.aload_n 0, 1) := by decide +kernel
theorem dX9_schemaOf_252 : decode cX9_schemaOf 252 = .ok (.iload_n 1, 1) := by decide +kernel
theorem dX9_schemaOf_253 : decode cX9_schemaOf 253 = .ok (.iload 5, 2) := by decide +kernel
theorem dX9_schemaOf_255 : decode cX9_schemaOf 255 = .ok (.ifCond .eq 8, 3) := by decide +kernel
theorem dX9_schemaOf_258 : decode cX9_schemaOf 258 = .ok (.ldc 218, 2) := by decide +kernel
theorem dX9_schemaOf_260 : decode cX9_schemaOf 260 = .ok (.goto 5, 3) := by decide +kernel
theorem dX9_schemaOf_263 : decode cX9_schemaOf 263 = .ok (.ldc 220, 2) := by decide +kernel
theorem dX9_schemaOf_265 : decode cX9_schemaOf 265 = .ok (.invokevirtual 210, 3) := by decide +kernel
theorem dX9_schemaOf_268 : decode cX9_schemaOf 268 = .ok (.istore 6, 2) := by decide +kernel
theorem dX9_schemaOf_270 : decode cX9_schemaOf 270 = .ok (.aload_n 0, 1) := by decide +kernel
theorem dX9_schemaOf_271 : decode cX9_schemaOf 271 = .ok (.iload 6, 2) := by decide +kernel
theorem dX9_schemaOf_273 : decode cX9_schemaOf 273 = .ok (.ifCond .lt 7, 3) := by decide +kernel
theorem dX9_schemaOf_276 : decode cX9_schemaOf 276 = .ok (.iconst 1, 1) := by decide +kernel
theorem dX9_schemaOf_277 : decode cX9_schemaOf 277 = .ok (.goto 4, 3) := by decide +kernel
theorem dX9_schemaOf_280 : decode cX9_schemaOf 280 = .ok (.iconst 0, 1) := by decide +kernel
theorem dX9_schemaOf_281 : decode cX9_schemaOf 281 = .ok (.bipush 8, 2) := by decide +kernel
theorem dX9_schemaOf_283 : decode cX9_schemaOf 283 = .ok (.aload_n 0, 1) := by decide +kernel
theorem dX9_schemaOf_284 : decode cX9_schemaOf 284 = .ok (.getfield 19, 3) := by decide +kernel
theorem dX9_schemaOf_287 : decode cX9_schemaOf 287 = .ok (.iload_n 1, 1) := by decide +kernel
theorem dX9_schemaOf_288 : decode cX9_schemaOf 288 = .ok (.iaload, 1) := by decide +kernel
theorem dX9_schemaOf_289 : decode cX9_schemaOf 289 = .ok (.invokevirtual 105, 3) := by decide +kernel
theorem dX9_schemaOf_292 : decode cX9_schemaOf 292 = .ok (.aload_n 0, 1) := by decide +kernel
theorem dX9_schemaOf_293 : decode cX9_schemaOf 293 = .ok (.iload 5, 2) := by decide +kernel
theorem dX9_schemaOf_295 : decode cX9_schemaOf 295 = .ok (.ifCond .eq 8, 3) := by decide +kernel
theorem dX9_schemaOf_298 : decode cX9_schemaOf 298 = .ok (.bipush 6, 2) := by decide +kernel
theorem dX9_schemaOf_300 : decode cX9_schemaOf 300 = .ok (.goto 5, 3) := by decide +kernel
theorem dX9_schemaOf_303 : decode cX9_schemaOf 303 = .ok (.bipush 7, 2) := by decide +kernel
theorem dX9_schemaOf_305 : decode cX9_schemaOf 305 = .ok (.invokevirtual 222, 3) := by decide +kernel
theorem dX9_schemaOf_308 : decode cX9_schemaOf 308 = .ok (.istore 7, 2) := by decide +kernel
theorem dX9_schemaOf_310 : decode cX9_schemaOf 310 = .ok (.aload_n 0, 1) := by decide +kernel
theorem dX9_schemaOf_311 : decode cX9_schemaOf 311 = .ok (.iload 7, 2) := by decide +kernel
theorem dX9_schemaOf_313 : decode cX9_schemaOf 313 = .ok (.iconst (-1), 1) := by decide +kernel
theorem dX9_schemaOf_314 : decode cX9_schemaOf 314 = .ok (.invokevirtual 225, 3) := by decide +kernel
theorem dX9_schemaOf_317 : decode cX9_schemaOf 317 = .ok (.istore 8, 2) := by decide +kernel
theorem dX9_schemaOf_319 : decode cX9_schemaOf 319 = .ok (.aload_n 0, 1) := by decide +kernel
theorem dX9_schemaOf_320 : decode cX9_schemaOf 320 = .ok (.getfield 56, 3) := by decide +kernel
theorem dX9_schemaOf_323 : decode cX9_schemaOf 323 = .ok (.iload 8, 2) := by decide +kernel
theorem dX9_schemaOf_325 : decode cX9_schemaOf 325 = .ok (.aload_n 0, 1) := by decide +kernel
theorem dX9_schemaOf_326 : decode cX9_schemaOf 326 = .ok (.iload 6, 2) := by decide +kernel
theorem dX9_schemaOf_328 : decode cX9_schemaOf 328 = .ok (.iload_n 2, 1) := by decide +kernel
theorem dX9_schemaOf_329 : decode cX9_schemaOf 329 = .ok (.iconst 1, 1) := by decide +kernel
theorem dX9_schemaOf_330 : decode cX9_schemaOf 330 = .ok (.iadd, 1) := by decide +kernel
theorem dX9_schemaOf_331 : decode cX9_schemaOf 331 = .ok (.iconst 0, 1) := by decide +kernel
theorem dX9_schemaOf_332 : decode cX9_schemaOf 332 = .ok (.invokevirtual 229, 3) := by decide +kernel
theorem dX9_schemaOf_335 : decode cX9_schemaOf 335 = .ok (.iastore, 1) := by decide +kernel
theorem dX9_schemaOf_336 : decode cX9_schemaOf 336 = .ok (.iload 7, 2) := by decide +kernel
theorem dX9_schemaOf_338 : decode cX9_schemaOf 338 = .ok (.ireturn, 1) := by decide +kernel
theorem dX9_schemaOf_339 : decode cX9_schemaOf 339 = .ok (.aload_n 0, 1) := by decide +kernel
theorem dX9_schemaOf_340 : decode cX9_schemaOf 340 = .ok (.iload 4, 2) := by decide +kernel
theorem dX9_schemaOf_342 : decode cX9_schemaOf 342 = .ok (.ldc 232, 2) := by decide +kernel
theorem dX9_schemaOf_344 : decode cX9_schemaOf 344 = .ok (.invokevirtual 177, 3) := by decide +kernel
theorem dX9_schemaOf_347 : decode cX9_schemaOf 347 = .ok (.ifCond .ne 25, 3) := by decide +kernel
theorem dX9_schemaOf_350 : decode cX9_schemaOf 350 = .ok (.aload_n 0, 1) := by decide +kernel
theorem dX9_schemaOf_351 : decode cX9_schemaOf 351 = .ok (.iload 4, 2) := by decide +kernel
theorem dX9_schemaOf_353 : decode cX9_schemaOf 353 = .ok (.ldc 234, 2) := by decide +kernel
theorem dX9_schemaOf_355 : decode cX9_schemaOf 355 = .ok (.invokevirtual 177, 3) := by decide +kernel
theorem dX9_schemaOf_358 : decode cX9_schemaOf 358 = .ok (.ifCond .ne 14, 3) := by decide +kernel
theorem dX9_schemaOf_361 : decode cX9_schemaOf 361 = .ok (.aload_n 0, 1) := by decide +kernel
theorem dX9_schemaOf_362 : decode cX9_schemaOf 362 = .ok (.iload 4, 2) := by decide +kernel
theorem dX9_schemaOf_364 : decode cX9_schemaOf 364 = .ok (.ldc 236, 2) := by decide +kernel
theorem dX9_schemaOf_366 : decode cX9_schemaOf 366 = .ok (.invokevirtual 177, 3) := by decide +kernel
theorem dX9_schemaOf_369 : decode cX9_schemaOf 369 = .ok (.ifCond .eq 12, 3) := by decide +kernel
theorem dX9_schemaOf_372 : decode cX9_schemaOf 372 = .ok (.aload_n 0, 1) := by decide +kernel
theorem dX9_schemaOf_373 : decode cX9_schemaOf 373 = .ok (.iload_n 1, 1) := by decide +kernel
theorem dX9_schemaOf_374 : decode cX9_schemaOf 374 = .ok (.iload 4, 2) := by decide +kernel
theorem dX9_schemaOf_376 : decode cX9_schemaOf 376 = .ok (.iload_n 2, 1) := by decide +kernel
theorem dX9_schemaOf_377 : decode cX9_schemaOf 377 = .ok (.invokevirtual 238, 3) := by decide +kernel
theorem dX9_schemaOf_380 : decode cX9_schemaOf 380 = .ok (.ireturn, 1) := by decide +kernel
theorem dX9_schemaOf_381 : decode cX9_schemaOf 381 = .ok (.aload_n 0, 1) := by decide +kernel
theorem dX9_schemaOf_382 : decode cX9_schemaOf 382 = .ok (.iload 4, 2) := by decide +kernel
theorem dX9_schemaOf_384 : decode cX9_schemaOf 384 = .ok (.invokevirtual 201, 3) := by decide +kernel
theorem dX9_schemaOf_387 : decode cX9_schemaOf 387 = .ok (.istore 5, 2) := by decide +kernel
theorem dX9_schemaOf_389 : decode cX9_schemaOf 389 = .ok (.aload_n 0, 1) := by decide +kernel
theorem dX9_schemaOf_390 : decode cX9_schemaOf 390 = .ok (.iload 5, 2) := by decide +kernel
theorem dX9_schemaOf_392 : decode cX9_schemaOf 392 = .ok (.ifCond .lt 7, 3) := by decide +kernel
theorem dX9_schemaOf_395 : decode cX9_schemaOf 395 = .ok (.iconst 1, 1) := by decide +kernel
theorem dX9_schemaOf_396 : decode cX9_schemaOf 396 = .ok (.goto 4, 3) := by decide +kernel
theorem dX9_schemaOf_399 : decode cX9_schemaOf 399 = .ok (.iconst 0, 1) := by decide +kernel
theorem dX9_schemaOf_400 : decode cX9_schemaOf 400 = .ok (.iconst 3, 1) := by decide +kernel
theorem dX9_schemaOf_401 : decode cX9_schemaOf 401 = .ok (.aload_n 0, 1) := by decide +kernel
theorem dX9_schemaOf_402 : decode cX9_schemaOf 402 = .ok (.getfield 19, 3) := by decide +kernel
theorem dX9_schemaOf_405 : decode cX9_schemaOf 405 = .ok (.iload 4, 2) := by decide +kernel
theorem dX9_schemaOf_407 : decode cX9_schemaOf 407 = .ok (.iaload, 1) := by decide +kernel
theorem dX9_schemaOf_408 : decode cX9_schemaOf 408 = .ok (.invokevirtual 105, 3) := by decide +kernel
theorem dX9_schemaOf_411 : decode cX9_schemaOf 411 = .ok (.iload 5, 2) := by decide +kernel
theorem dX9_schemaOf_413 : decode cX9_schemaOf 413 = .ok (.ireturn, 1) := by decide +kernel
def rmX9_schemaOf (d : Nat) (mc ms : Nat) : Room := { frames := 3 * d + 11, cells := mc, slots := ms, locals := 84 * d + 191 }
theorem g9_210 (c0 : Cond) : GoodIn (c0 :: sr_G) (wsV RX9 210 RX9 yX9_member wsX9_member) := sr_V c0 (sr_ins (by decide +kernel))
theorem g9_266 (c0 : Cond) : GoodIn (c0 :: sr_G) (wsV RX9 266 RX9 yX9_symbol wsX9_symbol) := sr_V c0 (sr_ins (by decide +kernel))
theorem g9_248 (c0 : Cond) : GoodIn (c0 :: sr_G) (wsV RX9 248 RX9 yX9_isName wsX9_isName) := sr_V c0 (sr_ins (by decide +kernel))
theorem g9_225 (c0 : Cond) : GoodIn (c0 :: sr_G) (wsV RX9 225 RX9 yX9_addKid wsX9_addKid) := sr_V c0 (sr_ins (by decide +kernel))
theorem g9_222 (c0 : Cond) : GoodIn (c0 :: sr_G) (wsV RX9 222 RX9 yX9_shape wsX9_shape) := sr_V c0 (sr_ins (by decide +kernel))
theorem g9_229 (c0 : Cond) : GoodIn (c0 :: sr_G) (wsV RX9 229 RX9 yX9_schemaOf wsX9_schemaOf) := sr_V c0 (sr_ins (by decide +kernel))
theorem g9_242 (c0 : Cond) : GoodIn (c0 :: sr_G) (wsV RX9 242 RX9 yX9_alike wsX9_alike) := sr_V c0 (sr_ins (by decide +kernel))
theorem g9_259 (c0 : Cond) : GoodIn (c0 :: sr_G) (wsV RX9 259 RX9 yX9_fields wsX9_fields) := sr_V c0 (sr_ins (by decide +kernel))
theorem g9_256 (c0 : Cond) : GoodIn (c0 :: sr_G) (wsV RX9 256 RX9 yX9_symbols wsX9_symbols) := sr_V c0 (sr_ins (by decide +kernel))
theorem g9_198 (c0 : Cond) : GoodIn (c0 :: sr_G) (wsV RX9 198 RX9 yX9_word wsX9_word) := sr_V c0 (sr_ins (by decide +kernel))
theorem g9_201 (c0 : Cond) : GoodIn (c0 :: sr_G) (wsV RX9 201 RX9 yX9_defined wsX9_defined) := sr_V c0 (sr_ins (by decide +kernel))
theorem g9_238 (c0 : Cond) : GoodIn (c0 :: sr_G) (wsV RX9 238 RX9 yX9_named wsX9_named) := sr_V c0 (sr_ins (by decide +kernel))
theorem g9_204 (c0 : Cond) : GoodIn (c0 :: sr_G) (wsV RX9 204 RX9 yX9_union wsX9_union) := sr_V c0 (sr_ins (by decide +kernel))
