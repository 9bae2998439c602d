abbrev cX9_writeNamed : ByteArray := prog_13_method_39_code
def yX9_writeNamed : MethodName := ⟨RX9, "writeNamed", "(I)V"⟩
def wsX9_writeNamed : List Cond := .code yX9_writeNamed cX9_writeNamed 3 none :: sr_G
theorem dX9_writeNamed_0 : decode cX9_writeNamed 0 = .ok (.aload_n 0, 1) := by decide +kernel
theorem dX9_writeNamed_1 : decode cX9_writeNamed 1 = .ok (.getfield 74, 3) := by decide +kernel
theorem dX9_writeNamed_4 : decode cX9_writeNamed 4 = .ok (.iload_n 1, 1) := by decide +kernel
theorem dX9_writeNamed_5 : decode cX9_writeNamed 5 = .ok (.baload, 1) := by decide +kernel
theorem dX9_writeNamed_6 : decode cX9_writeNamed 6 = .ok (.ifCond .eq 14, 3) := by decide +kernel
theorem dX9_writeNamed_9 : decode cX9_writeNamed 9 = .ok (.aload_n 0, 1) := by decide +kernel
theorem dX9_writeNamed_10 : decode cX9_writeNamed 10 = .ok (.aload_n 0, 1) := by decide +kernel
theorem dX9_writeNamed_11 : decode cX9_writeNamed 11 = .ok (.getfield 41, 3) := by decide +kernel
theorem dX9_writeNamed_14 : decode cX9_writeNamed 14 = .ok (.iload_n 1, 1) := by decide +kernel
theorem dX9_writeNamed_15 : decode cX9_writeNamed 15 = .ok (.iaload, 1) := by decide +kernel
theorem dX9_writeNamed_16 : decode cX9_writeNamed 16 = .ok (.invokevirtual 317, 3) := by decide +kernel
theorem dX9_writeNamed_19 : decode cX9_writeNamed 19 = .ok (.return_, 1) := by decide +kernel
theorem dX9_writeNamed_20 : decode cX9_writeNamed 20 = .ok (.aload_n 0, 1) := by decide +kernel
theorem dX9_writeNamed_21 : decode cX9_writeNamed 21 = .ok (.getfield 74, 3) := by decide +kernel
theorem dX9_writeNamed_24 : decode cX9_writeNamed 24 = .ok (.iload_n 1, 1) := by decide +kernel
theorem dX9_writeNamed_25 : decode cX9_writeNamed 25 = .ok (.iconst 1, 1) := by decide +kernel
theorem dX9_writeNamed_26 : decode cX9_writeNamed 26 = .ok (.bastore, 1) := by decide +kernel
theorem dX9_writeNamed_27 : decode cX9_writeNamed 27 = .ok (.aload_n 0, 1) := by decide +kernel
theorem dX9_writeNamed_28 : decode cX9_writeNamed 28 = .ok (.ldc_w 320, 3) := by decide +kernel
theorem dX9_writeNamed_31 : decode cX9_writeNamed 31 = .ok (.invokevirtual 297, 3) := by decide +kernel
theorem dX9_writeNamed_34 : decode cX9_writeNamed 34 = .ok (.aload_n 0, 1) := by decide +kernel
theorem dX9_writeNamed_35 : decode cX9_writeNamed 35 = .ok (.aload_n 0, 1) := by decide +kernel
theorem dX9_writeNamed_36 : decode cX9_writeNamed 36 = .ok (.getfield 41, 3) := by decide +kernel
theorem dX9_writeNamed_39 : decode cX9_writeNamed 39 = .ok (.iload_n 1, 1) := by decide +kernel
theorem dX9_writeNamed_40 : decode cX9_writeNamed 40 = .ok (.iaload, 1) := by decide +kernel
theorem dX9_writeNamed_41 : decode cX9_writeNamed 41 = .ok (.invokevirtual 317, 3) := by decide +kernel
theorem dX9_writeNamed_44 : decode cX9_writeNamed 44 = .ok (.aload_n 0, 1) := by decide +kernel
theorem dX9_writeNamed_45 : decode cX9_writeNamed 45 = .ok (.getfield 38, 3) := by decide +kernel
theorem dX9_writeNamed_48 : decode cX9_writeNamed 48 = .ok (.iload_n 1, 1) := by decide +kernel
theorem dX9_writeNamed_49 : decode cX9_writeNamed 49 = .ok (.iaload, 1) := by decide +kernel
theorem dX9_writeNamed_50 : decode cX9_writeNamed 50 = .ok (.bipush 9, 2) := by decide +kernel
theorem dX9_writeNamed_52 : decode cX9_writeNamed 52 = .ok (.if_icmp .ne 55, 3) := by decide +kernel
theorem dX9_writeNamed_55 : decode cX9_writeNamed 55 = .ok (.aload_n 0, 1) := by decide +kernel
theorem dX9_writeNamed_56 : decode cX9_writeNamed 56 = .ok (.ldc_w 322, 3) := by decide +kernel
theorem dX9_writeNamed_59 : decode cX9_writeNamed 59 = .ok (.invokevirtual 297, 3) := by decide +kernel
theorem dX9_writeNamed_62 : decode cX9_writeNamed 62 = .ok (.aload_n 0, 1) := by decide +kernel
theorem dX9_writeNamed_63 : decode cX9_writeNamed 63 = .ok (.getfield 44, 3) := by decide +kernel
theorem dX9_writeNamed_66 : decode cX9_writeNamed 66 = .ok (.iload_n 1, 1) := by decide +kernel
theorem dX9_writeNamed_67 : decode cX9_writeNamed 67 = .ok (.iaload, 1) := by decide +kernel
theorem dX9_writeNamed_68 : decode cX9_writeNamed 68 = .ok (.bipush 9, 2) := by decide +kernel
theorem dX9_writeNamed_70 : decode cX9_writeNamed 70 = .ok (.if_icmp .le 16, 3) := by decide +kernel
theorem dX9_writeNamed_73 : decode cX9_writeNamed 73 = .ok (.aload_n 0, 1) := by decide +kernel
theorem dX9_writeNamed_74 : decode cX9_writeNamed 74 = .ok (.aload_n 0, 1) := by decide +kernel
theorem dX9_writeNamed_75 : decode cX9_writeNamed 75 = .ok (.getfield 44, 3) := by decide +kernel
theorem dX9_writeNamed_78 : decode cX9_writeNamed 78 = .ok (.iload_n 1, 1) := by decide +kernel
theorem dX9_writeNamed_79 : decode cX9_writeNamed 79 = .ok (.iaload, 1) := by decide +kernel
theorem dX9_writeNamed_80 : decode cX9_writeNamed 80 = .ok (.bipush 10, 2) := by decide +kernel
theorem dX9_writeNamed_82 : decode cX9_writeNamed 82 = .ok (.idiv, 1) := by decide +kernel
theorem dX9_writeNamed_83 : decode cX9_writeNamed 83 = .ok (.invokevirtual 324, 3) := by decide +kernel
theorem dX9_writeNamed_86 : decode cX9_writeNamed 86 = .ok (.aload_n 0, 1) := by decide +kernel
theorem dX9_writeNamed_87 : decode cX9_writeNamed 87 = .ok (.aload_n 0, 1) := by decide +kernel
theorem dX9_writeNamed_88 : decode cX9_writeNamed 88 = .ok (.getfield 44, 3) := by decide +kernel
theorem dX9_writeNamed_91 : decode cX9_writeNamed 91 = .ok (.iload_n 1, 1) := by decide +kernel
theorem dX9_writeNamed_92 : decode cX9_writeNamed 92 = .ok (.iaload, 1) := by decide +kernel
theorem dX9_writeNamed_93 : decode cX9_writeNamed 93 = .ok (.bipush 10, 2) := by decide +kernel
theorem dX9_writeNamed_95 : decode cX9_writeNamed 95 = .ok (.irem, 1) := by decide +kernel
theorem dX9_writeNamed_96 : decode cX9_writeNamed 96 = .ok (.invokevirtual 324, 3) := by decide +kernel
theorem dX9_writeNamed_99 : decode cX9_writeNamed 99 = .ok (.aload_n 0, 1) := by decide +kernel
theorem dX9_writeNamed_100 : decode cX9_writeNamed 100 = .ok (.ldc_w 304, 3) := by decide +kernel
theorem dX9_writeNamed_103 : decode cX9_writeNamed 103 = .ok (.invokevirtual 297, 3) := by decide +kernel
theorem dX9_writeNamed_106 : decode cX9_writeNamed 106 = .ok (.return_, 1) := by decide +kernel
theorem dX9_writeNamed_107 : decode cX9_writeNamed 107 = .ok (.aload_n 0, 1) := by decide +kernel
theorem dX9_writeNamed_108 : decode cX9_writeNamed 108 = .ok (.aload_n 0, 1) := by decide +kernel
theorem dX9_writeNamed_109 : decode cX9_writeNamed 109 = .ok (.getfield 38, 3) := by decide +kernel
theorem dX9_writeNamed_112 : decode cX9_writeNamed 112 = .ok (.iload_n 1, 1) := by decide +kernel
theorem dX9_writeNamed_113 : decode cX9_writeNamed 113 = .ok (.iaload, 1) := by decide +kernel
theorem dX9_writeNamed_114 : decode cX9_writeNamed 114 = .ok (.bipush 10, 2) := by decide +kernel
theorem dX9_writeNamed_116 : decode cX9_writeNamed 116 = .ok (.if_icmp .ne 9, 3) := by decide +kernel
theorem dX9_writeNamed_119 : decode cX9_writeNamed 119 = .ok (.ldc_w 327, 3) := by decide +kernel
theorem dX9_writeNamed_122 : decode cX9_writeNamed 122 = .ok (.goto 6, 3) := by decide +kernel
theorem dX9_writeNamed_125 : decode cX9_writeNamed 125 = .ok (.ldc_w 329, 3) := by decide +kernel
theorem dX9_writeNamed_128 : decode cX9_writeNamed 128 = .ok (.invokevirtual 297, 3) := by decide +kernel
theorem dX9_writeNamed_131 : decode cX9_writeNamed 131 = .ok (.aload_n 0, 1) := by decide +kernel
theorem dX9_writeNamed_132 : decode cX9_writeNamed 132 = .ok (.getfield 47, 3) := by decide +kernel
theorem dX9_writeNamed_135 : decode cX9_writeNamed 135 = .ok (.iload_n 1, 1) := by decide +kernel
theorem dX9_writeNamed_136 : decode cX9_writeNamed 136 = .ok (.iaload, 1) := by decide +kernel
theorem dX9_writeNamed_137 : decode cX9_writeNamed 137 = .ok (.istore_n 2, 1) := by decide +kernel
theorem dX9_writeNamed_138 : decode cX9_writeNamed 138 = .ok (.iload_n 2, 1) := by decide +kernel
theorem dX9_writeNamed_139 : decode cX9_writeNamed 139 = .ok (.ifCond .lt 98, 3) := by decide +kernel
theorem dX9_writeNamed_142 : decode cX9_writeNamed 142 = .ok (.aload_n 0, 1) := by decide +kernel
theorem dX9_writeNamed_143 : decode cX9_writeNamed 143 = .ok (.getfield 38, 3) := by decide +kernel
theorem dX9_writeNamed_146 : decode cX9_writeNamed 146 = .ok (.iload_n 1, 1) := by decide +kernel
theorem dX9_writeNamed_147 : decode cX9_writeNamed 147 = .ok (.iaload, 1) := by decide +kernel
theorem dX9_writeNamed_148 : decode cX9_writeNamed 148 = .ok (.bipush 11, 2) := by decide +kernel
theorem dX9_writeNamed_150 : decode cX9_writeNamed 150 = .ok (.if_icmp .ne 10, 3) := by decide +kernel
theorem dX9_writeNamed_153 : decode cX9_writeNamed 153 = .ok (.aload_n 0, 1) := by decide +kernel
theorem dX9_writeNamed_154 : decode cX9_writeNamed 154 = .ok (.ldc_w 320, 3) := by decide +kernel
theorem dX9_writeNamed_157 : decode cX9_writeNamed 157 = .ok (.invokevirtual 297, 3) := by decide +kernel
theorem dX9_writeNamed_160 : decode cX9_writeNamed 160 = .ok (.aload_n 0, 1) := by decide +kernel
theorem dX9_writeNamed_161 : decode cX9_writeNamed 161 = .ok (.aload_n 0, 1) := by decide +kernel
theorem dX9_writeNamed_162 : decode cX9_writeNamed 162 = .ok (.getfield 59, 3) := by decide +kernel
theorem dX9_writeNamed_165 : decode cX9_writeNamed 165 = .ok (.iload_n 2, 1) := by decide +kernel
theorem dX9_writeNamed_166 : decode cX9_writeNamed 166 = .ok (.iaload, 1) := by decide +kernel
theorem dX9_writeNamed_167 : decode cX9_writeNamed 167 = .ok (.invokevirtual 317, 3) := by decide +kernel
theorem dX9_writeNamed_170 : decode cX9_writeNamed 170 = .ok (.aload_n 0, 1) := by decide +kernel
theorem dX9_writeNamed_171 : decode cX9_writeNamed 171 = .ok (.getfield 38, 3) := by decide +kernel
theorem dX9_writeNamed_174 : decode cX9_writeNamed 174 = .ok (.iload_n 1, 1) := by decide +kernel
theorem dX9_writeNamed_175 : decode cX9_writeNamed 175 = .ok (.iaload, 1) := by decide +kernel
theorem dX9_writeNamed_176 : decode cX9_writeNamed 176 = .ok (.bipush 11, 2) := by decide +kernel
theorem dX9_writeNamed_178 : decode cX9_writeNamed 178 = .ok (.if_icmp .ne 27, 3) := by decide +kernel
theorem dX9_writeNamed_181 : decode cX9_writeNamed 181 = .ok (.aload_n 0, 1) := by decide +kernel
theorem dX9_writeNamed_182 : decode cX9_writeNamed 182 = .ok (.ldc_w 331, 3) := by decide +kernel
theorem dX9_writeNamed_185 : decode cX9_writeNamed 185 = .ok (.invokevirtual 297, 3) := by decide +kernel
theorem dX9_writeNamed_188 : decode cX9_writeNamed 188 = .ok (.aload_n 0, 1) := by decide +kernel
theorem dX9_writeNamed_189 : decode cX9_writeNamed 189 = .ok (.aload_n 0, 1) := by decide +kernel
theorem dX9_writeNamed_190 : decode cX9_writeNamed 190 = .ok (.getfield 56, 3) := by decide +kernel
theorem dX9_writeNamed_193 : decode cX9_writeNamed 193 = .ok (.iload_n 2, 1) := by decide +kernel
theorem dX9_writeNamed_194 : decode cX9_writeNamed 194 = .ok (.iaload, 1) := by decide +kernel
theorem dX9_writeNamed_195 : decode cX9_writeNamed 195 = .ok (.invokevirtual 289, 3) := by decide +kernel
theorem dX9_writeNamed_198 : decode cX9_writeNamed 198 = .ok (.aload_n 0, 1) := by decide +kernel
theorem dX9_writeNamed_199 : decode cX9_writeNamed 199 = .ok (.ldc_w 304, 3) := by decide +kernel
theorem dX9_writeNamed_202 : decode cX9_writeNamed 202 = .ok (.invokevirtual 297, 3) := by decide +kernel
theorem dX9_writeNamed_205 : decode cX9_writeNamed 205 = .ok (.aload_n 0, 1) := by decide +kernel
theorem dX9_writeNamed_206 : decode cX9_writeNamed 206 = .ok (.aload_n 0, 1) := by decide +kernel
theorem dX9_writeNamed_207 : decode cX9_writeNamed 207 = .ok (.getfield 65, 3) := by decide +kernel
theorem dX9_writeNamed_210 : decode cX9_writeNamed 210 = .ok (.iload_n 2, 1) := by decide +kernel
theorem dX9_writeNamed_211 : decode cX9_writeNamed 211 = .ok (.iaload, 1) := by decide +kernel
theorem dX9_writeNamed_212 : decode cX9_writeNamed 212 = .ok (.ifCond .lt 9, 3) := by decide +kernel
theorem dX9_writeNamed_215 : decode cX9_writeNamed 215 = .ok (.ldc_w 308, 3) := by decide +kernel
theorem dX9_writeNamed_218 : decode cX9_writeNamed 218 = .ok (.goto 6, 3) := by decide +kernel
theorem dX9_writeNamed_221 : decode cX9_writeNamed 221 = .ok (.ldc_w 310, 3) := by decide +kernel
theorem dX9_writeNamed_224 : decode cX9_writeNamed 224 = .ok (.invokevirtual 297, 3) := by decide +kernel
theorem dX9_writeNamed_227 : decode cX9_writeNamed 227 = .ok (.aload_n 0, 1) := by decide +kernel
theorem dX9_writeNamed_228 : decode cX9_writeNamed 228 = .ok (.getfield 65, 3) := by decide +kernel
theorem dX9_writeNamed_231 : decode cX9_writeNamed 231 = .ok (.iload_n 2, 1) := by decide +kernel
theorem dX9_writeNamed_232 : decode cX9_writeNamed 232 = .ok (.iaload, 1) := by decide +kernel
theorem dX9_writeNamed_233 : decode cX9_writeNamed 233 = .ok (.istore_n 2, 1) := by decide +kernel
theorem dX9_writeNamed_234 : decode cX9_writeNamed 234 = .ok (.goto (-96), 3) := by decide +kernel
theorem dX9_writeNamed_237 : decode cX9_writeNamed 237 = .ok (.aload_n 0, 1) := by decide +kernel
theorem dX9_writeNamed_238 : decode cX9_writeNamed 238 = .ok (.ldc_w 333, 3) := by decide +kernel
theorem dX9_writeNamed_241 : decode cX9_writeNamed 241 = .ok (.invokevirtual 297, 3) := by decide +kernel
theorem dX9_writeNamed_244 : decode cX9_writeNamed 244 = .ok (.return_, 1) := by decide +kernel
def rmX9_writeNamed (d : Nat) (mc ms : Nat) : Room := { frames := 2 * d + 7, cells := mc, slots := ms, locals := 44 * d + 151 }
abbrev cX9_write : ByteArray := prog_13_method_37_code
def yX9_write : MethodName := ⟨RX9, "write", "(I)V"⟩
def wsX9_write : List Cond := .code yX9_write cX9_write 3 none :: sr_G
theorem dX9_write_0 : decode cX9_write 0 = .ok (.aload_n 0, 1) := by decide +kernel
theorem dX9_write_1 : decode cX9_write 1 = .ok (.getfield 38, 3) := by decide +kernel
theorem dX9_write_4 : decode cX9_write 4 = .ok (.iload_n 1, 1) := by decide +kernel
theorem dX9_write_5 : decode cX9_write 5 = .ok (.iaload, 1) := by decide +kernel
theorem dX9_write_6 : decode cX9_write 6 = .ok (.tableswitch 165 6 11 #[38, 38, 87, 157, 157, 157], 38) := by decide +kernel
theorem dX9_write_44 : decode cX9_write 44 = .ok (.aload_n 0, 1) := by decide +kernel
theorem dX9_write_45 : decode cX9_write 45 = .ok (.aload_n 0, 1) := by decide +kernel
theorem dX9_write_46 : decode cX9_write 46 = .ok (.getfield 38, 3) := by decide +kernel
theorem dX9_write_49 : decode cX9_write 49 = .ok (.iload_n 1, 1) := by decide +kernel
theorem dX9_write_50 : decode cX9_write 50 = .ok (.iaload, 1) := by decide +kernel
theorem dX9_write_51 : decode cX9_write 51 = .ok (.bipush 6, 2) := by decide +kernel
theorem dX9_write_53 : decode cX9_write 53 = .ok (.if_icmp .ne 9, 3) := by decide +kernel
theorem dX9_write_56 : decode cX9_write 56 = .ok (.ldc_w 300, 3) := by decide +kernel
theorem dX9_write_59 : decode cX9_write 59 = .ok (.goto 6, 3) := by decide +kernel
theorem dX9_write_62 : decode cX9_write 62 = .ok (.ldc_w 302, 3) := by decide +kernel
theorem dX9_write_65 : decode cX9_write 65 = .ok (.invokevirtual 297, 3) := by decide +kernel
theorem dX9_write_68 : decode cX9_write 68 = .ok (.aload_n 0, 1) := by decide +kernel
theorem dX9_write_69 : decode cX9_write 69 = .ok (.aload_n 0, 1) := by decide +kernel
theorem dX9_write_70 : decode cX9_write 70 = .ok (.getfield 56, 3) := by decide +kernel
theorem dX9_write_73 : decode cX9_write 73 = .ok (.aload_n 0, 1) := by decide +kernel
theorem dX9_write_74 : decode cX9_write 74 = .ok (.getfield 47, 3) := by decide +kernel
theorem dX9_write_77 : decode cX9_write 77 = .ok (.iload_n 1, 1) := by decide +kernel
theorem dX9_write_78 : decode cX9_write 78 = .ok (.iaload, 1) := by decide +kernel
theorem dX9_write_79 : decode cX9_write 79 = .ok (.iaload, 1) := by decide +kernel
theorem dX9_write_80 : decode cX9_write 80 = .ok (.invokevirtual 289, 3) := by decide +kernel
theorem dX9_write_83 : decode cX9_write 83 = .ok (.aload_n 0, 1) := by decide +kernel
theorem dX9_write_84 : decode cX9_write 84 = .ok (.ldc_w 304, 3) := by decide +kernel
theorem dX9_write_87 : decode cX9_write 87 = .ok (.invokevirtual 297, 3) := by decide +kernel
theorem dX9_write_90 : decode cX9_write 90 = .ok (.goto 175, 3) := by decide +kernel
theorem dX9_write_93 : decode cX9_write 93 = .ok (.aload_n 0, 1) := by decide +kernel
theorem dX9_write_94 : decode cX9_write 94 = .ok (.ldc_w 306, 3) := by decide +kernel
theorem dX9_write_97 : decode cX9_write 97 = .ok (.invokevirtual 297, 3) := by decide +kernel
theorem dX9_write_100 : decode cX9_write 100 = .ok (.aload_n 0, 1) := by decide +kernel
theorem dX9_write_101 : decode cX9_write 101 = .ok (.getfield 47, 3) := by decide +kernel
theorem dX9_write_104 : decode cX9_write 104 = .ok (.iload_n 1, 1) := by decide +kernel
theorem dX9_write_105 : decode cX9_write 105 = .ok (.iaload, 1) := by decide +kernel
theorem dX9_write_106 : decode cX9_write 106 = .ok (.istore_n 2, 1) := by decide +kernel
theorem dX9_write_107 : decode cX9_write 107 = .ok (.iload_n 2, 1) := by decide +kernel
theorem dX9_write_108 : decode cX9_write 108 = .ok (.ifCond .lt 45, 3) := by decide +kernel
theorem dX9_write_111 : decode cX9_write 111 = .ok (.aload_n 0, 1) := by decide +kernel
theorem dX9_write_112 : decode cX9_write 112 = .ok (.aload_n 0, 1) := by decide +kernel
theorem dX9_write_113 : decode cX9_write 113 = .ok (.getfield 56, 3) := by decide +kernel
theorem dX9_write_116 : decode cX9_write 116 = .ok (.iload_n 2, 1) := by decide +kernel
theorem dX9_write_117 : decode cX9_write 117 = .ok (.iaload, 1) := by decide +kernel
theorem dX9_write_118 : decode cX9_write 118 = .ok (.invokevirtual 289, 3) := by decide +kernel
theorem dX9_write_121 : decode cX9_write 121 = .ok (.aload_n 0, 1) := by decide +kernel
theorem dX9_write_122 : decode cX9_write 122 = .ok (.aload_n 0, 1) := by decide +kernel
theorem dX9_write_123 : decode cX9_write 123 = .ok (.getfield 65, 3) := by decide +kernel
theorem dX9_write_126 : decode cX9_write 126 = .ok (.iload_n 2, 1) := by decide +kernel
theorem dX9_write_127 : decode cX9_write 127 = .ok (.iaload, 1) := by decide +kernel
theorem dX9_write_128 : decode cX9_write 128 = .ok (.ifCond .lt 9, 3) := by decide +kernel
theorem dX9_write_131 : decode cX9_write 131 = .ok (.ldc_w 308, 3) := by decide +kernel
theorem dX9_write_134 : decode cX9_write 134 = .ok (.goto 6, 3) := by decide +kernel
theorem dX9_write_137 : decode cX9_write 137 = .ok (.ldc_w 310, 3) := by decide +kernel
theorem dX9_write_140 : decode cX9_write 140 = .ok (.invokevirtual 297, 3) := by decide +kernel
theorem dX9_write_143 : decode cX9_write 143 = .ok (.aload_n 0, 1) := by decide +kernel
theorem dX9_write_144 : decode cX9_write 144 = .ok (.getfield 65, 3) := by decide +kernel
theorem dX9_write_147 : decode cX9_write 147 = .ok (.iload_n 2, 1) := by decide +kernel
theorem dX9_write_148 : decode cX9_write 148 = .ok (.iaload, 1) := by decide +kernel
theorem dX9_write_149 : decode cX9_write 149 = .ok (.istore_n 2, 1) := by decide +kernel
theorem dX9_write_150 : decode cX9_write 150 = .ok (.goto (-43), 3) := by decide +kernel
theorem dX9_write_153 : decode cX9_write 153 = .ok (.aload_n 0, 1) := by decide +kernel
theorem dX9_write_154 : decode cX9_write 154 = .ok (.ldc_w 312, 3) := by decide +kernel
theorem dX9_write_157 : decode cX9_write 157 = .ok (.invokevirtual 297, 3) := by decide +kernel
theorem dX9_write_160 : decode cX9_write 160 = .ok (.goto 105, 3) := by decide +kernel
theorem dX9_write_163 : decode cX9_write 163 = .ok (.aload_n 0, 1) := by decide +kernel
theorem dX9_write_164 : decode cX9_write 164 = .ok (.iload_n 1, 1) := by decide +kernel
theorem dX9_write_165 : decode cX9_write 165 = .ok (.invokevirtual 314, 3) := by decide +kernel
theorem dX9_write_168 : decode cX9_write 168 = .ok (.goto 97, 3) := by decide +kernel
theorem dX9_write_171 : decode cX9_write 171 = .ok (.aload_n 0, 1) := by decide +kernel
theorem dX9_write_172 : decode cX9_write 172 = .ok (.ldc_w 295, 3) := by decide +kernel
theorem dX9_write_175 : decode cX9_write 175 = .ok (.invokevirtual 297, 3) := by decide +kernel
theorem dX9_write_178 : decode cX9_write 178 = .ok (.aload_n 0, 1) := by decide +kernel
theorem dX9_write_179 : decode cX9_write 179 = .ok (.aload_n 0, 1) := by decide +kernel
theorem dX9_write_180 : decode cX9_write 180 = .ok (.getfield 38, 3) := by decide +kernel
theorem dX9_write_183 : decode cX9_write 183 = .ok (.iload_n 1, 1) := by decide +kernel
theorem dX9_write_184 : decode cX9_write 184 = .ok (.iaload, 1) := by decide +kernel
theorem dX9_write_185 : decode cX9_write 185 = .ok (.ifCond .ne 8, 3) := by decide +kernel
theorem dX9_write_188 : decode cX9_write 188 = .ok (.ldc 135, 2) := by decide +kernel
theorem dX9_write_190 : decode cX9_write 190 = .ok (.goto 65, 3) := by decide +kernel
theorem dX9_write_193 : decode cX9_write 193 = .ok (.aload_n 0, 1) := by decide +kernel
theorem dX9_write_194 : decode cX9_write 194 = .ok (.getfield 38, 3) := by decide +kernel
theorem dX9_write_197 : decode cX9_write 197 = .ok (.iload_n 1, 1) := by decide +kernel
theorem dX9_write_198 : decode cX9_write 198 = .ok (.iaload, 1) := by decide +kernel
theorem dX9_write_199 : decode cX9_write 199 = .ok (.iconst 1, 1) := by decide +kernel
theorem dX9_write_200 : decode cX9_write 200 = .ok (.if_icmp .ne 8, 3) := by decide +kernel
theorem dX9_write_203 : decode cX9_write 203 = .ok (.ldc 181, 2) := by decide +kernel
theorem dX9_write_205 : decode cX9_write 205 = .ok (.goto 50, 3) := by decide +kernel
theorem dX9_write_208 : decode cX9_write 208 = .ok (.aload_n 0, 1) := by decide +kernel
theorem dX9_write_209 : decode cX9_write 209 = .ok (.getfield 38, 3) := by decide +kernel
theorem dX9_write_212 : decode cX9_write 212 = .ok (.iload_n 1, 1) := by decide +kernel
theorem dX9_write_213 : decode cX9_write 213 = .ok (.iaload, 1) := by decide +kernel
theorem dX9_write_214 : decode cX9_write 214 = .ok (.iconst 2, 1) := by decide +kernel
theorem dX9_write_215 : decode cX9_write 215 = .ok (.if_icmp .ne 8, 3) := by decide +kernel
theorem dX9_write_218 : decode cX9_write 218 = .ok (.ldc 183, 2) := by decide +kernel
theorem dX9_write_220 : decode cX9_write 220 = .ok (.goto 35, 3) := by decide +kernel
theorem dX9_write_223 : decode cX9_write 223 = .ok (.aload_n 0, 1) := by decide +kernel
theorem dX9_write_224 : decode cX9_write 224 = .ok (.getfield 38, 3) := by decide +kernel
theorem dX9_write_227 : decode cX9_write 227 = .ok (.iload_n 1, 1) := by decide +kernel
theorem dX9_write_228 : decode cX9_write 228 = .ok (.iaload, 1) := by decide +kernel
theorem dX9_write_229 : decode cX9_write 229 = .ok (.iconst 3, 1) := by decide +kernel
theorem dX9_write_230 : decode cX9_write 230 = .ok (.if_icmp .ne 8, 3) := by decide +kernel
theorem dX9_write_233 : decode cX9_write 233 = .ok (.ldc 185, 2) := by decide +kernel
theorem dX9_write_235 : decode cX9_write 235 = .ok (.goto 20, 3) := by decide +kernel
theorem dX9_write_238 : decode cX9_write 238 = .ok (.aload_n 0, 1) := by decide +kernel
theorem dX9_write_239 : decode cX9_write 239 = .ok (.getfield 38, 3) := by decide +kernel
theorem dX9_write_242 : decode cX9_write 242 = .ok (.iload_n 1, 1) := by decide +kernel
theorem dX9_write_243 : decode cX9_write 243 = .ok (.iaload, 1) := by decide +kernel
theorem dX9_write_244 : decode cX9_write 244 = .ok (.iconst 4, 1) := by decide +kernel
theorem dX9_write_245 : decode cX9_write 245 = .ok (.if_icmp .ne 8, 3) := by decide +kernel
theorem dX9_write_248 : decode cX9_write 248 = .ok (.ldc 187, 2) := by decide +kernel
theorem dX9_write_250 : decode cX9_write 250 = .ok (.goto 5, 3) := by decide +kernel
theorem dX9_write_253 : decode cX9_write 253 = .ok (.ldc 188, 2) := by decide +kernel
theorem dX9_write_255 : decode cX9_write 255 = .ok (.invokevirtual 297, 3) := by decide +kernel
theorem dX9_write_258 : decode cX9_write 258 = .ok (.aload_n 0, 1) := by decide +kernel
theorem dX9_write_259 : decode cX9_write 259 = .ok (.ldc_w 295, 3) := by decide +kernel
theorem dX9_write_262 : decode cX9_write 262 = .ok (.invokevirtual 297, 3) := by decide +kernel
theorem dX9_write_265 : decode cX9_write 265 = .ok (.return_, 1) := by decide +kernel
def rmX9_write (d : Nat) (mc ms : Nat) : Room := { frames := 2 * d + 6, cells := mc, slots := ms, locals := 44 * d + 129 }
theorem g9_317 (c0 : Cond) : GoodIn (c0 :: sr_G) (wsV RX9 317 RX9 yX9_putName wsX9_putName) := sr_V c0 (sr_ins (by decide +kernel))
theorem g9_289 (c0 : Cond) : GoodIn (c0 :: sr_G) (wsV RX9 289 RX9 yX9_write wsX9_write) := sr_V c0 (sr_ins (by decide +kernel))
theorem g9_324 (c0 : Cond) : GoodIn (c0 :: sr_G) (wsV RX9 324 RX9 yX9_figure wsX9_figure) := sr_V c0 (sr_ins (by decide +kernel))
theorem g9_314 (c0 : Cond) : GoodIn (c0 :: sr_G) (wsV RX9 314 RX9 yX9_writeNamed wsX9_writeNamed) := sr_V c0 (sr_ins (by decide +kernel))
