abbrev cX9_list : ByteArray := prog_13_method_9_code
def yX9_list : MethodName := ⟨RX9, "list", "()I"⟩
def wsX9_list : List Cond := .code yX9_list cX9_list 5 (some .int) :: sr_G
theorem dX9_list_0 : decode cX9_list 0 = .ok (.aload_n 0, 1) := by decide +kernel
theorem dX9_list_1 : decode cX9_list 1 = .ok (.iconst 1, 1) := by decide +kernel
theorem dX9_list_2 : decode cX9_list 2 = .ok (.invokevirtual 127, 3) := by decide +kernel
theorem dX9_list_5 : decode cX9_list 5 = .ok (.istore_n 1, 1) := by decide +kernel
theorem dX9_list_6 : decode cX9_list 6 = .ok (.aload_n 0, 1) := by decide +kernel
theorem dX9_list_7 : decode cX9_list 7 = .ok (.dup, 1) := by decide +kernel
theorem dX9_list_8 : decode cX9_list 8 = .ok (.getfield 95, 3) := by decide +kernel
theorem dX9_list_11 : decode cX9_list 11 = .ok (.iconst 1, 1) := by decide +kernel
theorem dX9_list_12 : decode cX9_list 12 = .ok (.iadd, 1) := by decide +kernel
theorem dX9_list_13 : decode cX9_list 13 = .ok (.putfield 95, 3) := by decide +kernel
theorem dX9_list_16 : decode cX9_list 16 = .ok (.aload_n 0, 1) := by decide +kernel
theorem dX9_list_17 : decode cX9_list 17 = .ok (.invokevirtual 149, 3) := by decide +kernel
theorem dX9_list_20 : decode cX9_list 20 = .ok (.iconst (-1), 1) := by decide +kernel
theorem dX9_list_21 : decode cX9_list 21 = .ok (.istore_n 2, 1) := by decide +kernel
theorem dX9_list_22 : decode cX9_list 22 = .ok (.aload_n 0, 1) := by decide +kernel
theorem dX9_list_23 : decode cX9_list 23 = .ok (.invokevirtual 101, 3) := by decide +kernel
theorem dX9_list_26 : decode cX9_list 26 = .ok (.bipush 93, 2) := by decide +kernel
theorem dX9_list_28 : decode cX9_list 28 = .ok (.if_icmp .eq 7, 3) := by decide +kernel
theorem dX9_list_31 : decode cX9_list 31 = .ok (.iconst 1, 1) := by decide +kernel
theorem dX9_list_32 : decode cX9_list 32 = .ok (.goto 4, 3) := by decide +kernel
theorem dX9_list_35 : decode cX9_list 35 = .ok (.iconst 0, 1) := by decide +kernel
theorem dX9_list_36 : decode cX9_list 36 = .ok (.istore_n 3, 1) := by decide +kernel
theorem dX9_list_37 : decode cX9_list 37 = .ok (.iload_n 3, 1) := by decide +kernel
theorem dX9_list_38 : decode cX9_list 38 = .ok (.ifCond .eq 85, 3) := by decide +kernel
theorem dX9_list_41 : decode cX9_list 41 = .ok (.aload_n 0, 1) := by decide +kernel
theorem dX9_list_42 : decode cX9_list 42 = .ok (.invokevirtual 152, 3) := by decide +kernel
theorem dX9_list_45 : decode cX9_list 45 = .ok (.istore 4, 2) := by decide +kernel
theorem dX9_list_47 : decode cX9_list 47 = .ok (.iload_n 2, 1) := by decide +kernel
theorem dX9_list_48 : decode cX9_list 48 = .ok (.ifCond .ge 14, 3) := by decide +kernel
theorem dX9_list_51 : decode cX9_list 51 = .ok (.aload_n 0, 1) := by decide +kernel
theorem dX9_list_52 : decode cX9_list 52 = .ok (.getfield 29, 3) := by decide +kernel
theorem dX9_list_55 : decode cX9_list 55 = .ok (.iload_n 1, 1) := by decide +kernel
theorem dX9_list_56 : decode cX9_list 56 = .ok (.iload 4, 2) := by decide +kernel
theorem dX9_list_58 : decode cX9_list 58 = .ok (.iastore, 1) := by decide +kernel
theorem dX9_list_59 : decode cX9_list 59 = .ok (.goto 11, 3) := by decide +kernel
theorem dX9_list_62 : decode cX9_list 62 = .ok (.aload_n 0, 1) := by decide +kernel
theorem dX9_list_63 : decode cX9_list 63 = .ok (.getfield 32, 3) := by decide +kernel
theorem dX9_list_66 : decode cX9_list 66 = .ok (.iload_n 2, 1) := by decide +kernel
theorem dX9_list_67 : decode cX9_list 67 = .ok (.iload 4, 2) := by decide +kernel
theorem dX9_list_69 : decode cX9_list 69 = .ok (.iastore, 1) := by decide +kernel
theorem dX9_list_70 : decode cX9_list 70 = .ok (.iload 4, 2) := by decide +kernel
theorem dX9_list_72 : decode cX9_list 72 = .ok (.istore_n 2, 1) := by decide +kernel
theorem dX9_list_73 : decode cX9_list 73 = .ok (.aload_n 0, 1) := by decide +kernel
theorem dX9_list_74 : decode cX9_list 74 = .ok (.getfield 26, 3) := by decide +kernel
theorem dX9_list_77 : decode cX9_list 77 = .ok (.iload_n 1, 1) := by decide +kernel
theorem dX9_list_78 : decode cX9_list 78 = .ok (.dup2, 1) := by decide +kernel
theorem dX9_list_79 : decode cX9_list 79 = .ok (.iaload, 1) := by decide +kernel
theorem dX9_list_80 : decode cX9_list 80 = .ok (.iconst 1, 1) := by decide +kernel
theorem dX9_list_81 : decode cX9_list 81 = .ok (.iadd, 1) := by decide +kernel
theorem dX9_list_82 : decode cX9_list 82 = .ok (.iastore, 1) := by decide +kernel
theorem dX9_list_83 : decode cX9_list 83 = .ok (.aload_n 0, 1) := by decide +kernel
theorem dX9_list_84 : decode cX9_list 84 = .ok (.invokevirtual 149, 3) := by decide +kernel
theorem dX9_list_87 : decode cX9_list 87 = .ok (.aload_n 0, 1) := by decide +kernel
theorem dX9_list_88 : decode cX9_list 88 = .ok (.invokevirtual 101, 3) := by decide +kernel
theorem dX9_list_91 : decode cX9_list 91 = .ok (.bipush 44, 2) := by decide +kernel
theorem dX9_list_93 : decode cX9_list 93 = .ok (.if_icmp .ne 7, 3) := by decide +kernel
theorem dX9_list_96 : decode cX9_list 96 = .ok (.iconst 1, 1) := by decide +kernel
theorem dX9_list_97 : decode cX9_list 97 = .ok (.goto 4, 3) := by decide +kernel
theorem dX9_list_100 : decode cX9_list 100 = .ok (.iconst 0, 1) := by decide +kernel
theorem dX9_list_101 : decode cX9_list 101 = .ok (.istore_n 3, 1) := by decide +kernel
theorem dX9_list_102 : decode cX9_list 102 = .ok (.iload_n 3, 1) := by decide +kernel
theorem dX9_list_103 : decode cX9_list 103 = .ok (.ifCond .eq 17, 3) := by decide +kernel
theorem dX9_list_106 : decode cX9_list 106 = .ok (.aload_n 0, 1) := by decide +kernel
theorem dX9_list_107 : decode cX9_list 107 = .ok (.dup, 1) := by decide +kernel
theorem dX9_list_108 : decode cX9_list 108 = .ok (.getfield 95, 3) := by decide +kernel
theorem dX9_list_111 : decode cX9_list 111 = .ok (.iconst 1, 1) := by decide +kernel
theorem dX9_list_112 : decode cX9_list 112 = .ok (.iadd, 1) := by decide +kernel
theorem dX9_list_113 : decode cX9_list 113 = .ok (.putfield 95, 3) := by decide +kernel
theorem dX9_list_116 : decode cX9_list 116 = .ok (.aload_n 0, 1) := by decide +kernel
theorem dX9_list_117 : decode cX9_list 117 = .ok (.invokevirtual 149, 3) := by decide +kernel
theorem dX9_list_120 : decode cX9_list 120 = .ok (.goto (-83), 3) := by decide +kernel
theorem dX9_list_123 : decode cX9_list 123 = .ok (.aload_n 0, 1) := by decide +kernel
theorem dX9_list_124 : decode cX9_list 124 = .ok (.bipush 93, 2) := by decide +kernel
theorem dX9_list_126 : decode cX9_list 126 = .ok (.invokevirtual 145, 3) := by decide +kernel
theorem dX9_list_129 : decode cX9_list 129 = .ok (.iload_n 1, 1) := by decide +kernel
theorem dX9_list_130 : decode cX9_list 130 = .ok (.ireturn, 1) := by decide +kernel
def rmX9_list (d : Nat) (mc ms : Nat) : Room := { frames := 2 * d + 14, cells := mc, slots := ms, locals := 49 * d + 257 }
abbrev cX9_object : ByteArray := prog_13_method_10_code
def yX9_object : MethodName := ⟨RX9, "object", "()I"⟩
def wsX9_object : List Cond := .code yX9_object cX9_object 6 (some .int) :: sr_G
theorem dX9_object_0 : decode cX9_object 0 = .ok (.aload_n 0, 1) := by decide +kernel
theorem dX9_object_1 : decode cX9_object 1 = .ok (.iconst 0, 1) := by decide +kernel
theorem dX9_object_2 : decode cX9_object 2 = .ok (.invokevirtual 127, 3) := by decide +kernel
theorem dX9_object_5 : decode cX9_object 5 = .ok (.istore_n 1, 1) := by decide +kernel
theorem dX9_object_6 : decode cX9_object 6 = .ok (.aload_n 0, 1) := by decide +kernel
theorem dX9_object_7 : decode cX9_object 7 = .ok (.dup, 1) := by decide +kernel
theorem dX9_object_8 : decode cX9_object 8 = .ok (.getfield 95, 3) := by decide +kernel
theorem dX9_object_11 : decode cX9_object 11 = .ok (.iconst 1, 1) := by decide +kernel
theorem dX9_object_12 : decode cX9_object 12 = .ok (.iadd, 1) := by decide +kernel
theorem dX9_object_13 : decode cX9_object 13 = .ok (.putfield 95, 3) := by decide +kernel
theorem dX9_object_16 : decode cX9_object 16 = .ok (.aload_n 0, 1) := by decide +kernel
theorem dX9_object_17 : decode cX9_object 17 = .ok (.invokevirtual 149, 3) := by decide +kernel
theorem dX9_object_20 : decode cX9_object 20 = .ok (.iconst (-1), 1) := by decide +kernel
theorem dX9_object_21 : decode cX9_object 21 = .ok (.istore_n 2, 1) := by decide +kernel
theorem dX9_object_22 : decode cX9_object 22 = .ok (.aload_n 0, 1) := by decide +kernel
theorem dX9_object_23 : decode cX9_object 23 = .ok (.invokevirtual 101, 3) := by decide +kernel
theorem dX9_object_26 : decode cX9_object 26 = .ok (.bipush 125, 2) := by decide +kernel
theorem dX9_object_28 : decode cX9_object 28 = .ok (.if_icmp .eq 7, 3) := by decide +kernel
theorem dX9_object_31 : decode cX9_object 31 = .ok (.iconst 1, 1) := by decide +kernel
theorem dX9_object_32 : decode cX9_object 32 = .ok (.goto 4, 3) := by decide +kernel
theorem dX9_object_35 : decode cX9_object 35 = .ok (.iconst 0, 1) := by decide +kernel
theorem dX9_object_36 : decode cX9_object 36 = .ok (.istore_n 3, 1) := by decide +kernel
theorem dX9_object_37 : decode cX9_object 37 = .ok (.iload_n 3, 1) := by decide +kernel
theorem dX9_object_38 : decode cX9_object 38 = .ok (.ifCond .eq 186, 3) := by decide +kernel
theorem dX9_object_41 : decode cX9_object 41 = .ok (.aload_n 0, 1) := by decide +kernel
theorem dX9_object_42 : decode cX9_object 42 = .ok (.aload_n 0, 1) := by decide +kernel
theorem dX9_object_43 : decode cX9_object 43 = .ok (.invokevirtual 101, 3) := by decide +kernel
theorem dX9_object_46 : decode cX9_object 46 = .ok (.bipush 34, 2) := by decide +kernel
theorem dX9_object_48 : decode cX9_object 48 = .ok (.if_icmp .ne 7, 3) := by decide +kernel
theorem dX9_object_51 : decode cX9_object 51 = .ok (.iconst 1, 1) := by decide +kernel
theorem dX9_object_52 : decode cX9_object 52 = .ok (.goto 4, 3) := by decide +kernel
theorem dX9_object_55 : decode cX9_object 55 = .ok (.iconst 0, 1) := by decide +kernel
theorem dX9_object_56 : decode cX9_object 56 = .ok (.iconst 1, 1) := by decide +kernel
theorem dX9_object_57 : decode cX9_object 57 = .ok (.aload_n 0, 1) := by decide +kernel
theorem dX9_object_58 : decode cX9_object 58 = .ok (.getfield 95, 3) := by decide +kernel
theorem dX9_object_61 : decode cX9_object 61 = .ok (.invokevirtual 105, 3) := by decide +kernel
theorem dX9_object_64 : decode cX9_object 64 = .ok (.aload_n 0, 1) := by decide +kernel
theorem dX9_object_65 : decode cX9_object 65 = .ok (.invokevirtual 121, 3) := by decide +kernel
theorem dX9_object_68 : decode cX9_object 68 = .ok (.istore 4, 2) := by decide +kernel
theorem dX9_object_70 : decode cX9_object 70 = .ok (.aload_n 0, 1) := by decide +kernel
theorem dX9_object_71 : decode cX9_object 71 = .ok (.getfield 29, 3) := by decide +kernel
theorem dX9_object_74 : decode cX9_object 74 = .ok (.iload_n 1, 1) := by decide +kernel
theorem dX9_object_75 : decode cX9_object 75 = .ok (.iaload, 1) := by decide +kernel
theorem dX9_object_76 : decode cX9_object 76 = .ok (.istore 5, 2) := by decide +kernel
theorem dX9_object_78 : decode cX9_object 78 = .ok (.iload 5, 2) := by decide +kernel
theorem dX9_object_80 : decode cX9_object 80 = .ok (.ifCond .lt 49, 3) := by decide +kernel
theorem dX9_object_83 : decode cX9_object 83 = .ok (.aload_n 0, 1) := by decide +kernel
theorem dX9_object_84 : decode cX9_object 84 = .ok (.aload_n 0, 1) := by decide +kernel
theorem dX9_object_85 : decode cX9_object 85 = .ok (.iload 5, 2) := by decide +kernel
theorem dX9_object_87 : decode cX9_object 87 = .ok (.aload_n 0, 1) := by decide +kernel
theorem dX9_object_88 : decode cX9_object 88 = .ok (.iload 4, 2) := by decide +kernel
theorem dX9_object_90 : decode cX9_object 90 = .ok (.invokevirtual 155, 3) := by decide +kernel
theorem dX9_object_93 : decode cX9_object 93 = .ok (.ifCond .ne 7, 3) := by decide +kernel
theorem dX9_object_96 : decode cX9_object 96 = .ok (.iconst 1, 1) := by decide +kernel
theorem dX9_object_97 : decode cX9_object 97 = .ok (.goto 4, 3) := by decide +kernel
theorem dX9_object_100 : decode cX9_object 100 = .ok (.iconst 0, 1) := by decide +kernel
theorem dX9_object_101 : decode cX9_object 101 = .ok (.iconst 1, 1) := by decide +kernel
theorem dX9_object_102 : decode cX9_object 102 = .ok (.aload_n 0, 1) := by decide +kernel
theorem dX9_object_103 : decode cX9_object 103 = .ok (.getfield 19, 3) := by decide +kernel
theorem dX9_object_106 : decode cX9_object 106 = .ok (.iload 4, 2) := by decide +kernel
theorem dX9_object_108 : decode cX9_object 108 = .ok (.iaload, 1) := by decide +kernel
theorem dX9_object_109 : decode cX9_object 109 = .ok (.invokevirtual 105, 3) := by decide +kernel
theorem dX9_object_112 : decode cX9_object 112 = .ok (.aload_n 0, 1) := by decide +kernel
theorem dX9_object_113 : decode cX9_object 113 = .ok (.getfield 32, 3) := by decide +kernel
theorem dX9_object_116 : decode cX9_object 116 = .ok (.aload_n 0, 1) := by decide +kernel
theorem dX9_object_117 : decode cX9_object 117 = .ok (.getfield 32, 3) := by decide +kernel
theorem dX9_object_120 : decode cX9_object 120 = .ok (.iload 5, 2) := by decide +kernel
theorem dX9_object_122 : decode cX9_object 122 = .ok (.iaload, 1) := by decide +kernel
theorem dX9_object_123 : decode cX9_object 123 = .ok (.iaload, 1) := by decide +kernel
theorem dX9_object_124 : decode cX9_object 124 = .ok (.istore 5, 2) := by decide +kernel
theorem dX9_object_126 : decode cX9_object 126 = .ok (.goto (-48), 3) := by decide +kernel
theorem dX9_object_129 : decode cX9_object 129 = .ok (.aload_n 0, 1) := by decide +kernel
theorem dX9_object_130 : decode cX9_object 130 = .ok (.invokevirtual 149, 3) := by decide +kernel
theorem dX9_object_133 : decode cX9_object 133 = .ok (.aload_n 0, 1) := by decide +kernel
theorem dX9_object_134 : decode cX9_object 134 = .ok (.bipush 58, 2) := by decide +kernel
theorem dX9_object_136 : decode cX9_object 136 = .ok (.invokevirtual 145, 3) := by decide +kernel
theorem dX9_object_139 : decode cX9_object 139 = .ok (.aload_n 0, 1) := by decide +kernel
theorem dX9_object_140 : decode cX9_object 140 = .ok (.invokevirtual 149, 3) := by decide +kernel
theorem dX9_object_143 : decode cX9_object 143 = .ok (.aload_n 0, 1) := by decide +kernel
theorem dX9_object_144 : decode cX9_object 144 = .ok (.invokevirtual 152, 3) := by decide +kernel
theorem dX9_object_147 : decode cX9_object 147 = .ok (.istore 5, 2) := by decide +kernel
theorem dX9_object_149 : decode cX9_object 149 = .ok (.iload_n 2, 1) := by decide +kernel
theorem dX9_object_150 : decode cX9_object 150 = .ok (.ifCond .ge 14, 3) := by decide +kernel
theorem dX9_object_153 : decode cX9_object 153 = .ok (.aload_n 0, 1) := by decide +kernel
theorem dX9_object_154 : decode cX9_object 154 = .ok (.getfield 29, 3) := by decide +kernel
theorem dX9_object_157 : decode cX9_object 157 = .ok (.iload_n 1, 1) := by decide +kernel
theorem dX9_object_158 : decode cX9_object 158 = .ok (.iload 4, 2) := by decide +kernel
theorem dX9_object_160 : decode cX9_object 160 = .ok (.iastore, 1) := by decide +kernel
theorem dX9_object_161 : decode cX9_object 161 = .ok (.goto 11, 3) := by decide +kernel
theorem dX9_object_164 : decode cX9_object 164 = .ok (.aload_n 0, 1) := by decide +kernel
theorem dX9_object_165 : decode cX9_object 165 = .ok (.getfield 32, 3) := by decide +kernel
theorem dX9_object_168 : decode cX9_object 168 = .ok (.iload_n 2, 1) := by decide +kernel
theorem dX9_object_169 : decode cX9_object 169 = .ok (.iload 4, 2) := by decide +kernel
theorem dX9_object_171 : decode cX9_object 171 = .ok (.iastore, 1) := by decide +kernel
theorem dX9_object_172 : decode cX9_object 172 = .ok (.aload_n 0, 1) := by decide +kernel
theorem dX9_object_173 : decode cX9_object 173 = .ok (.getfield 32, 3) := by decide +kernel
theorem dX9_object_176 : decode cX9_object 176 = .ok (.iload 4, 2) := by decide +kernel
theorem dX9_object_178 : decode cX9_object 178 = .ok (.iload 5, 2) := by decide +kernel
theorem dX9_object_180 : decode cX9_object 180 = .ok (.iastore, 1) := by decide +kernel
theorem dX9_object_181 : decode cX9_object 181 = .ok (.iload 5, 2) := by decide +kernel
theorem dX9_object_183 : decode cX9_object 183 = .ok (.istore_n 2, 1) := by decide +kernel
theorem dX9_object_184 : decode cX9_object 184 = .ok (.aload_n 0, 1) := by decide +kernel
theorem dX9_object_185 : decode cX9_object 185 = .ok (.invokevirtual 149, 3) := by decide +kernel
theorem dX9_object_188 : decode cX9_object 188 = .ok (.aload_n 0, 1) := by decide +kernel
theorem dX9_object_189 : decode cX9_object 189 = .ok (.invokevirtual 101, 3) := by decide +kernel
theorem dX9_object_192 : decode cX9_object 192 = .ok (.bipush 44, 2) := by decide +kernel
theorem dX9_object_194 : decode cX9_object 194 = .ok (.if_icmp .ne 7, 3) := by decide +kernel
theorem dX9_object_197 : decode cX9_object 197 = .ok (.iconst 1, 1) := by decide +kernel
theorem dX9_object_198 : decode cX9_object 198 = .ok (.goto 4, 3) := by decide +kernel
theorem dX9_object_201 : decode cX9_object 201 = .ok (.iconst 0, 1) := by decide +kernel
theorem dX9_object_202 : decode cX9_object 202 = .ok (.istore_n 3, 1) := by decide +kernel
theorem dX9_object_203 : decode cX9_object 203 = .ok (.iload_n 3, 1) := by decide +kernel
theorem dX9_object_204 : decode cX9_object 204 = .ok (.ifCond .eq 17, 3) := by decide +kernel
theorem dX9_object_207 : decode cX9_object 207 = .ok (.aload_n 0, 1) := by decide +kernel
theorem dX9_object_208 : decode cX9_object 208 = .ok (.dup, 1) := by decide +kernel
theorem dX9_object_209 : decode cX9_object 209 = .ok (.getfield 95, 3) := by decide +kernel
theorem dX9_object_212 : decode cX9_object 212 = .ok (.iconst 1, 1) := by decide +kernel
theorem dX9_object_213 : decode cX9_object 213 = .ok (.iadd, 1) := by decide +kernel
theorem dX9_object_214 : decode cX9_object 214 = .ok (.putfield 95, 3) := by decide +kernel
theorem dX9_object_217 : decode cX9_object 217 = .ok (.aload_n 0, 1) := by decide +kernel
theorem dX9_object_218 : decode cX9_object 218 = .ok (.invokevirtual 149, 3) := by decide +kernel
theorem dX9_object_221 : decode cX9_object 221 = .ok (.goto (-184), 3) := by decide +kernel
theorem dX9_object_224 : decode cX9_object 224 = .ok (.aload_n 0, 1) := by decide +kernel
theorem dX9_object_225 : decode cX9_object 225 = .ok (.bipush 125, 2) := by decide +kernel
theorem dX9_object_227 : decode cX9_object 227 = .ok (.invokevirtual 145, 3) := by decide +kernel
theorem dX9_object_230 : decode cX9_object 230 = .ok (.iload_n 1, 1) := by decide +kernel
theorem dX9_object_231 : decode cX9_object 231 = .ok (.ireturn, 1) := by decide +kernel
def rmX9_object (d : Nat) (mc ms : Nat) : Room := { frames := 2 * d + 14, cells := mc, slots := ms, locals := 49 * d + 257 }
abbrev cX9_value : ByteArray := prog_13_method_8_code
def yX9_value : MethodName := ⟨RX9, "value", "()I"⟩
def wsX9_value : List Cond := .code yX9_value cX9_value 5 (some .int) :: sr_G
theorem dX9_value_0 : decode cX9_value 0 = .ok (.aload_n 0, 1) := by decide +kernel
theorem dX9_value_1 : decode cX9_value 1 = .ok (.invokevirtual 101, 3) := by decide +kernel
theorem dX9_value_4 : decode cX9_value 4 = .ok (.istore_n 1, 1) := by decide +kernel
theorem dX9_value_5 : decode cX9_value 5 = .ok (.iload_n 1, 1) := by decide +kernel
theorem dX9_value_6 : decode cX9_value 6 = .ok (.bipush 123, 2) := by decide +kernel
theorem dX9_value_8 : decode cX9_value 8 = .ok (.if_icmp .eq 9, 3) := by decide +kernel
theorem dX9_value_11 : decode cX9_value 11 = .ok (.iload_n 1, 1) := by decide +kernel
theorem dX9_value_12 : decode cX9_value 12 = .ok (.bipush 91, 2) := by decide +kernel
theorem dX9_value_14 : decode cX9_value 14 = .ok (.if_icmp .ne 66, 3) := by decide +kernel
theorem dX9_value_17 : decode cX9_value 17 = .ok (.aload_n 0, 1) := by decide +kernel
theorem dX9_value_18 : decode cX9_value 18 = .ok (.aload_n 0, 1) := by decide +kernel
theorem dX9_value_19 : decode cX9_value 19 = .ok (.getfield 112, 3) := by decide +kernel
theorem dX9_value_22 : decode cX9_value 22 = .ok (.bipush 24, 2) := by decide +kernel
theorem dX9_value_24 : decode cX9_value 24 = .ok (.if_icmp .ge 7, 3) := by decide +kernel
theorem dX9_value_27 : decode cX9_value 27 = .ok (.iconst 1, 1) := by decide +kernel
theorem dX9_value_28 : decode cX9_value 28 = .ok (.goto 4, 3) := by decide +kernel
theorem dX9_value_31 : decode cX9_value 31 = .ok (.iconst 0, 1) := by decide +kernel
theorem dX9_value_32 : decode cX9_value 32 = .ok (.iconst 1, 1) := by decide +kernel
theorem dX9_value_33 : decode cX9_value 33 = .ok (.aload_n 0, 1) := by decide +kernel
theorem dX9_value_34 : decode cX9_value 34 = .ok (.getfield 95, 3) := by decide +kernel
theorem dX9_value_37 : decode cX9_value 37 = .ok (.invokevirtual 105, 3) := by decide +kernel
theorem dX9_value_40 : decode cX9_value 40 = .ok (.aload_n 0, 1) := by decide +kernel
theorem dX9_value_41 : decode cX9_value 41 = .ok (.dup, 1) := by decide +kernel
theorem dX9_value_42 : decode cX9_value 42 = .ok (.getfield 112, 3) := by decide +kernel
theorem dX9_value_45 : decode cX9_value 45 = .ok (.iconst 1, 1) := by decide +kernel
theorem dX9_value_46 : decode cX9_value 46 = .ok (.iadd, 1) := by decide +kernel
theorem dX9_value_47 : decode cX9_value 47 = .ok (.putfield 112, 3) := by decide +kernel
theorem dX9_value_50 : decode cX9_value 50 = .ok (.iload_n 1, 1) := by decide +kernel
theorem dX9_value_51 : decode cX9_value 51 = .ok (.bipush 123, 2) := by decide +kernel
theorem dX9_value_53 : decode cX9_value 53 = .ok (.if_icmp .ne 10, 3) := by decide +kernel
theorem dX9_value_56 : decode cX9_value 56 = .ok (.aload_n 0, 1) := by decide +kernel
theorem dX9_value_57 : decode cX9_value 57 = .ok (.invokevirtual 115, 3) := by decide +kernel
theorem dX9_value_60 : decode cX9_value 60 = .ok (.goto 7, 3) := by decide +kernel
theorem dX9_value_63 : decode cX9_value 63 = .ok (.aload_n 0, 1) := by decide +kernel
theorem dX9_value_64 : decode cX9_value 64 = .ok (.invokevirtual 118, 3) := by decide +kernel
theorem dX9_value_67 : decode cX9_value 67 = .ok (.istore_n 2, 1) := by decide +kernel
theorem dX9_value_68 : decode cX9_value 68 = .ok (.aload_n 0, 1) := by decide +kernel
theorem dX9_value_69 : decode cX9_value 69 = .ok (.dup, 1) := by decide +kernel
theorem dX9_value_70 : decode cX9_value 70 = .ok (.getfield 112, 3) := by decide +kernel
theorem dX9_value_73 : decode cX9_value 73 = .ok (.iconst 1, 1) := by decide +kernel
theorem dX9_value_74 : decode cX9_value 74 = .ok (.isub, 1) := by decide +kernel
theorem dX9_value_75 : decode cX9_value 75 = .ok (.putfield 112, 3) := by decide +kernel
theorem dX9_value_78 : decode cX9_value 78 = .ok (.iload_n 2, 1) := by decide +kernel
theorem dX9_value_79 : decode cX9_value 79 = .ok (.ireturn, 1) := by decide +kernel
theorem dX9_value_80 : decode cX9_value 80 = .ok (.iload_n 1, 1) := by decide +kernel
theorem dX9_value_81 : decode cX9_value 81 = .ok (.bipush 34, 2) := by decide +kernel
theorem dX9_value_83 : decode cX9_value 83 = .ok (.if_icmp .ne 8, 3) := by decide +kernel
theorem dX9_value_86 : decode cX9_value 86 = .ok (.aload_n 0, 1) := by decide +kernel
theorem dX9_value_87 : decode cX9_value 87 = .ok (.invokevirtual 121, 3) := by decide +kernel
theorem dX9_value_90 : decode cX9_value 90 = .ok (.ireturn, 1) := by decide +kernel
theorem dX9_value_91 : decode cX9_value 91 = .ok (.iload_n 1, 1) := by decide +kernel
theorem dX9_value_92 : decode cX9_value 92 = .ok (.bipush 45, 2) := by decide +kernel
theorem dX9_value_94 : decode cX9_value 94 = .ok (.if_icmp .eq 15, 3) := by decide +kernel
theorem dX9_value_97 : decode cX9_value 97 = .ok (.iload_n 1, 1) := by decide +kernel
theorem dX9_value_98 : decode cX9_value 98 = .ok (.bipush 48, 2) := by decide +kernel
theorem dX9_value_100 : decode cX9_value 100 = .ok (.if_icmp .lt 14, 3) := by decide +kernel
theorem dX9_value_103 : decode cX9_value 103 = .ok (.iload_n 1, 1) := by decide +kernel
theorem dX9_value_104 : decode cX9_value 104 = .ok (.bipush 57, 2) := by decide +kernel
theorem dX9_value_106 : decode cX9_value 106 = .ok (.if_icmp .gt 8, 3) := by decide +kernel
theorem dX9_value_109 : decode cX9_value 109 = .ok (.aload_n 0, 1) := by decide +kernel
theorem dX9_value_110 : decode cX9_value 110 = .ok (.invokevirtual 124, 3) := by decide +kernel
theorem dX9_value_113 : decode cX9_value 113 = .ok (.ireturn, 1) := by decide +kernel
theorem dX9_value_114 : decode cX9_value 114 = .ok (.aload_n 0, 1) := by decide +kernel
theorem dX9_value_115 : decode cX9_value 115 = .ok (.iload_n 1, 1) := by decide +kernel
theorem dX9_value_116 : decode cX9_value 116 = .ok (.bipush 116, 2) := by decide +kernel
theorem dX9_value_118 : decode cX9_value 118 = .ok (.if_icmp .ne 7, 3) := by decide +kernel
theorem dX9_value_121 : decode cX9_value 121 = .ok (.iconst 4, 1) := by decide +kernel
theorem dX9_value_122 : decode cX9_value 122 = .ok (.goto 15, 3) := by decide +kernel
theorem dX9_value_125 : decode cX9_value 125 = .ok (.iload_n 1, 1) := by decide +kernel
theorem dX9_value_126 : decode cX9_value 126 = .ok (.bipush 102, 2) := by decide +kernel
theorem dX9_value_128 : decode cX9_value 128 = .ok (.if_icmp .ne 7, 3) := by decide +kernel
theorem dX9_value_131 : decode cX9_value 131 = .ok (.iconst 5, 1) := by decide +kernel
theorem dX9_value_132 : decode cX9_value 132 = .ok (.goto 5, 3) := by decide +kernel
theorem dX9_value_135 : decode cX9_value 135 = .ok (.bipush 6, 2) := by decide +kernel
theorem dX9_value_137 : decode cX9_value 137 = .ok (.invokevirtual 127, 3) := by decide +kernel
theorem dX9_value_140 : decode cX9_value 140 = .ok (.istore_n 2, 1) := by decide +kernel
theorem dX9_value_141 : decode cX9_value 141 = .ok (.iload_n 1, 1) := by decide +kernel
theorem dX9_value_142 : decode cX9_value 142 = .ok (.bipush 116, 2) := by decide +kernel
theorem dX9_value_144 : decode cX9_value 144 = .ok (.if_icmp .ne 8, 3) := by decide +kernel
theorem dX9_value_147 : decode cX9_value 147 = .ok (.ldc 131, 2) := by decide +kernel
theorem dX9_value_149 : decode cX9_value 149 = .ok (.goto 16, 3) := by decide +kernel
theorem dX9_value_152 : decode cX9_value 152 = .ok (.iload_n 1, 1) := by decide +kernel
theorem dX9_value_153 : decode cX9_value 153 = .ok (.bipush 102, 2) := by decide +kernel
theorem dX9_value_155 : decode cX9_value 155 = .ok (.if_icmp .ne 8, 3) := by decide +kernel
theorem dX9_value_158 : decode cX9_value 158 = .ok (.ldc 133, 2) := by decide +kernel
theorem dX9_value_160 : decode cX9_value 160 = .ok (.goto 5, 3) := by decide +kernel
theorem dX9_value_163 : decode cX9_value 163 = .ok (.ldc 135, 2) := by decide +kernel
theorem dX9_value_165 : decode cX9_value 165 = .ok (.astore_n 3, 1) := by decide +kernel
theorem dX9_value_166 : decode cX9_value 166 = .ok (.iconst 0, 1) := by decide +kernel
theorem dX9_value_167 : decode cX9_value 167 = .ok (.istore 4, 2) := by decide +kernel
theorem dX9_value_169 : decode cX9_value 169 = .ok (.iload 4, 2) := by decide +kernel
theorem dX9_value_171 : decode cX9_value 171 = .ok (.aload_n 3, 1) := by decide +kernel
theorem dX9_value_172 : decode cX9_value 172 = .ok (.invokevirtual 137, 3) := by decide +kernel
theorem dX9_value_175 : decode cX9_value 175 = .ok (.if_icmp .ge 19, 3) := by decide +kernel
theorem dX9_value_178 : decode cX9_value 178 = .ok (.aload_n 0, 1) := by decide +kernel
theorem dX9_value_179 : decode cX9_value 179 = .ok (.aload_n 3, 1) := by decide +kernel
theorem dX9_value_180 : decode cX9_value 180 = .ok (.iload 4, 2) := by decide +kernel
theorem dX9_value_182 : decode cX9_value 182 = .ok (.invokevirtual 141, 3) := by decide +kernel
theorem dX9_value_185 : decode cX9_value 185 = .ok (.invokevirtual 145, 3) := by decide +kernel
theorem dX9_value_188 : decode cX9_value 188 = .ok (.iinc 4 1, 3) := by decide +kernel
theorem dX9_value_191 : decode cX9_value 191 = .ok (.goto (-22), 3) := by decide +kernel
theorem dX9_value_194 : decode cX9_value 194 = .ok (.iload_n 2, 1) := by decide +kernel
theorem dX9_value_195 : decode cX9_value 195 = .ok (.ireturn, 1) := by decide +kernel
def rmX9_value (d : Nat) (mc ms : Nat) : Room := { frames := 2 * d + 13, cells := mc, slots := ms, locals := 49 * d + 233 }
theorem g9_149 (c0 : Cond) : GoodIn (c0 :: sr_G) (wsV RX9 149 RX9 yX9_blanks wsX9_blanks) := sr_V c0 (sr_ins (by decide +kernel))
theorem g9_152 (c0 : Cond) : GoodIn (c0 :: sr_G) (wsV RX9 152 RX9 yX9_value wsX9_value) := sr_V c0 (sr_ins (by decide +kernel))
theorem g9_121 (c0 : Cond) : GoodIn (c0 :: sr_G) (wsV RX9 121 RX9 yX9_string wsX9_string) := sr_V c0 (sr_ins (by decide +kernel))
theorem g9_118 (c0 : Cond) : GoodIn (c0 :: sr_G) (wsV RX9 118 RX9 yX9_list wsX9_list) := sr_V c0 (sr_ins (by decide +kernel))
theorem g9_115 (c0 : Cond) : GoodIn (c0 :: sr_G) (wsV RX9 115 RX9 yX9_object wsX9_object) := sr_V c0 (sr_ins (by decide +kernel))
theorem g9_124 (c0 : Cond) : GoodIn (c0 :: sr_G) (wsV RX9 124 RX9 yX9_number wsX9_number) := sr_V c0 (sr_ins (by decide +kernel))
