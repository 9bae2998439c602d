abbrev cX7_readGroup : ByteArray := prog_10_method_26_code
def yX7_readGroup : MethodName := ⟨RX7, "readGroup", "(II)I"⟩
def wsX7_readGroup : List Cond := .code yX7_readGroup cX7_readGroup 10 (some .int) :: sr_G
theorem dX7_readGroup_0 : decode cX7_readGroup 0 = .ok (.iload_n 2, 1) := by decide +kernel
theorem dX7_readGroup_1 : decode cX7_readGroup 1 = .ok (.bipush 24, 2) := by decide +kernel
theorem dX7_readGroup_3 : decode cX7_readGroup 3 = .ok (.if_icmp .lt 9, 3) := by decide +kernel
theorem dX7_readGroup_6 : decode cX7_readGroup 6 = .ok (.aload_n 0, 1) := by decide +kernel
theorem dX7_readGroup_7 : decode cX7_readGroup 7 = .ok (.iload_n 1, 1) := by decide +kernel
theorem dX7_readGroup_8 : decode cX7_readGroup 8 = .ok (.invokevirtual 94, 3) := by decide +kernel
theorem dX7_readGroup_11 : decode cX7_readGroup 11 = .ok (.ireturn, 1) := by decide +kernel
theorem dX7_readGroup_12 : decode cX7_readGroup 12 = .ok (.aload_n 0, 1) := by decide +kernel
theorem dX7_readGroup_13 : decode cX7_readGroup 13 = .ok (.iload_n 1, 1) := by decide +kernel
theorem dX7_readGroup_14 : decode cX7_readGroup 14 = .ok (.invokevirtual 122, 3) := by decide +kernel
theorem dX7_readGroup_17 : decode cX7_readGroup 17 = .ok (.ifCond .eq 8, 3) := by decide +kernel
theorem dX7_readGroup_20 : decode cX7_readGroup 20 = .ok (.bipush 125, 2) := by decide +kernel
theorem dX7_readGroup_22 : decode cX7_readGroup 22 = .ok (.goto 5, 3) := by decide +kernel
theorem dX7_readGroup_25 : decode cX7_readGroup 25 = .ok (.bipush 93, 2) := by decide +kernel
theorem dX7_readGroup_27 : decode cX7_readGroup 27 = .ok (.istore_n 3, 1) := by decide +kernel
theorem dX7_readGroup_28 : decode cX7_readGroup 28 = .ok (.aload_n 0, 1) := by decide +kernel
theorem dX7_readGroup_29 : decode cX7_readGroup 29 = .ok (.getfield 25, 3) := by decide +kernel
theorem dX7_readGroup_32 : decode cX7_readGroup 32 = .ok (.iload_n 1, 1) := by decide +kernel
theorem dX7_readGroup_33 : decode cX7_readGroup 33 = .ok (.iconst 0, 1) := by decide +kernel
theorem dX7_readGroup_34 : decode cX7_readGroup 34 = .ok (.invokestatic 125, 3) := by decide +kernel
theorem dX7_readGroup_37 : decode cX7_readGroup 37 = .ok (.aload_n 0, 1) := by decide +kernel
theorem dX7_readGroup_38 : decode cX7_readGroup 38 = .ok (.getfield 18, 3) := by decide +kernel
theorem dX7_readGroup_41 : decode cX7_readGroup 41 = .ok (.iload_n 1, 1) := by decide +kernel
theorem dX7_readGroup_42 : decode cX7_readGroup 42 = .ok (.iconst (-1), 1) := by decide +kernel
theorem dX7_readGroup_43 : decode cX7_readGroup 43 = .ok (.invokestatic 125, 3) := by decide +kernel
theorem dX7_readGroup_46 : decode cX7_readGroup 46 = .ok (.aload_n 0, 1) := by decide +kernel
theorem dX7_readGroup_47 : decode cX7_readGroup 47 = .ok (.iload_n 1, 1) := by decide +kernel
theorem dX7_readGroup_48 : decode cX7_readGroup 48 = .ok (.iconst 1, 1) := by decide +kernel
theorem dX7_readGroup_49 : decode cX7_readGroup 49 = .ok (.iadd, 1) := by decide +kernel
theorem dX7_readGroup_50 : decode cX7_readGroup 50 = .ok (.invokevirtual 87, 3) := by decide +kernel
theorem dX7_readGroup_53 : decode cX7_readGroup 53 = .ok (.istore 4, 2) := by decide +kernel
theorem dX7_readGroup_55 : decode cX7_readGroup 55 = .ok (.aload_n 0, 1) := by decide +kernel
theorem dX7_readGroup_56 : decode cX7_readGroup 56 = .ok (.iload 4, 2) := by decide +kernel
theorem dX7_readGroup_58 : decode cX7_readGroup 58 = .ok (.invokevirtual 42, 3) := by decide +kernel
theorem dX7_readGroup_61 : decode cX7_readGroup 61 = .ok (.iload_n 3, 1) := by decide +kernel
theorem dX7_readGroup_62 : decode cX7_readGroup 62 = .ok (.if_icmp .ne 8, 3) := by decide +kernel
theorem dX7_readGroup_65 : decode cX7_readGroup 65 = .ok (.iload 4, 2) := by decide +kernel
theorem dX7_readGroup_67 : decode cX7_readGroup 67 = .ok (.iconst 1, 1) := by decide +kernel
theorem dX7_readGroup_68 : decode cX7_readGroup 68 = .ok (.iadd, 1) := by decide +kernel
theorem dX7_readGroup_69 : decode cX7_readGroup 69 = .ok (.ireturn, 1) := by decide +kernel
theorem dX7_readGroup_70 : decode cX7_readGroup 70 = .ok (.iconst (-1), 1) := by decide +kernel
theorem dX7_readGroup_71 : decode cX7_readGroup 71 = .ok (.istore 5, 2) := by decide +kernel
theorem dX7_readGroup_73 : decode cX7_readGroup 73 = .ok (.iconst 1, 1) := by decide +kernel
theorem dX7_readGroup_74 : decode cX7_readGroup 74 = .ok (.istore 6, 2) := by decide +kernel
theorem dX7_readGroup_76 : decode cX7_readGroup 76 = .ok (.iload 6, 2) := by decide +kernel
theorem dX7_readGroup_78 : decode cX7_readGroup 78 = .ok (.aload_n 0, 1) := by decide +kernel
theorem dX7_readGroup_79 : decode cX7_readGroup 79 = .ok (.getfield 35, 3) := by decide +kernel
theorem dX7_readGroup_82 : decode cX7_readGroup 82 = .ok (.if_icmp .gt 134, 3) := by decide +kernel
theorem dX7_readGroup_85 : decode cX7_readGroup 85 = .ok (.aload_n 0, 1) := by decide +kernel
theorem dX7_readGroup_86 : decode cX7_readGroup 86 = .ok (.iload_n 1, 1) := by decide +kernel
theorem dX7_readGroup_87 : decode cX7_readGroup 87 = .ok (.invokevirtual 122, 3) := by decide +kernel
theorem dX7_readGroup_90 : decode cX7_readGroup 90 = .ok (.ifCond .eq 13, 3) := by decide +kernel
theorem dX7_readGroup_93 : decode cX7_readGroup 93 = .ok (.aload_n 0, 1) := by decide +kernel
theorem dX7_readGroup_94 : decode cX7_readGroup 94 = .ok (.iload_n 1, 1) := by decide +kernel
theorem dX7_readGroup_95 : decode cX7_readGroup 95 = .ok (.iload 4, 2) := by decide +kernel
theorem dX7_readGroup_97 : decode cX7_readGroup 97 = .ok (.invokevirtual 129, 3) := by decide +kernel
theorem dX7_readGroup_100 : decode cX7_readGroup 100 = .ok (.goto 5, 3) := by decide +kernel
theorem dX7_readGroup_103 : decode cX7_readGroup 103 = .ok (.iload 4, 2) := by decide +kernel
theorem dX7_readGroup_105 : decode cX7_readGroup 105 = .ok (.istore 7, 2) := by decide +kernel
theorem dX7_readGroup_107 : decode cX7_readGroup 107 = .ok (.iload 7, 2) := by decide +kernel
theorem dX7_readGroup_109 : decode cX7_readGroup 109 = .ok (.iconst (-1), 1) := by decide +kernel
theorem dX7_readGroup_110 : decode cX7_readGroup 110 = .ok (.if_icmp .ne 7, 3) := by decide +kernel
theorem dX7_readGroup_113 : decode cX7_readGroup 113 = .ok (.iconst (-1), 1) := by decide +kernel
theorem dX7_readGroup_114 : decode cX7_readGroup 114 = .ok (.goto 12, 3) := by decide +kernel
theorem dX7_readGroup_117 : decode cX7_readGroup 117 = .ok (.aload_n 0, 1) := by decide +kernel
theorem dX7_readGroup_118 : decode cX7_readGroup 118 = .ok (.iload 7, 2) := by decide +kernel
theorem dX7_readGroup_120 : decode cX7_readGroup 120 = .ok (.iload_n 2, 1) := by decide +kernel
theorem dX7_readGroup_121 : decode cX7_readGroup 121 = .ok (.iconst 1, 1) := by decide +kernel
theorem dX7_readGroup_122 : decode cX7_readGroup 122 = .ok (.iadd, 1) := by decide +kernel
theorem dX7_readGroup_123 : decode cX7_readGroup 123 = .ok (.invokevirtual 90, 3) := by decide +kernel
theorem dX7_readGroup_126 : decode cX7_readGroup 126 = .ok (.istore 8, 2) := by decide +kernel
theorem dX7_readGroup_128 : decode cX7_readGroup 128 = .ok (.iload 8, 2) := by decide +kernel
theorem dX7_readGroup_130 : decode cX7_readGroup 130 = .ok (.iconst (-1), 1) := by decide +kernel
theorem dX7_readGroup_131 : decode cX7_readGroup 131 = .ok (.if_icmp .ne 5, 3) := by decide +kernel
theorem dX7_readGroup_134 : decode cX7_readGroup 134 = .ok (.iconst (-1), 1) := by decide +kernel
theorem dX7_readGroup_135 : decode cX7_readGroup 135 = .ok (.ireturn, 1) := by decide +kernel
theorem dX7_readGroup_136 : decode cX7_readGroup 136 = .ok (.aload_n 0, 1) := by decide +kernel
theorem dX7_readGroup_137 : decode cX7_readGroup 137 = .ok (.iload_n 1, 1) := by decide +kernel
theorem dX7_readGroup_138 : decode cX7_readGroup 138 = .ok (.iload 5, 2) := by decide +kernel
theorem dX7_readGroup_140 : decode cX7_readGroup 140 = .ok (.iload 4, 2) := by decide +kernel
theorem dX7_readGroup_142 : decode cX7_readGroup 142 = .ok (.invokevirtual 132, 3) := by decide +kernel
theorem dX7_readGroup_145 : decode cX7_readGroup 145 = .ok (.aload_n 0, 1) := by decide +kernel
theorem dX7_readGroup_146 : decode cX7_readGroup 146 = .ok (.getfield 25, 3) := by decide +kernel
theorem dX7_readGroup_149 : decode cX7_readGroup 149 = .ok (.iload_n 1, 1) := by decide +kernel
theorem dX7_readGroup_150 : decode cX7_readGroup 150 = .ok (.iload 6, 2) := by decide +kernel
theorem dX7_readGroup_152 : decode cX7_readGroup 152 = .ok (.invokestatic 125, 3) := by decide +kernel
theorem dX7_readGroup_155 : decode cX7_readGroup 155 = .ok (.aload_n 0, 1) := by decide +kernel
theorem dX7_readGroup_156 : decode cX7_readGroup 156 = .ok (.iload 8, 2) := by decide +kernel
theorem dX7_readGroup_158 : decode cX7_readGroup 158 = .ok (.invokevirtual 87, 3) := by decide +kernel
theorem dX7_readGroup_161 : decode cX7_readGroup 161 = .ok (.istore 9, 2) := by decide +kernel
theorem dX7_readGroup_163 : decode cX7_readGroup 163 = .ok (.aload_n 0, 1) := by decide +kernel
theorem dX7_readGroup_164 : decode cX7_readGroup 164 = .ok (.iload 9, 2) := by decide +kernel
theorem dX7_readGroup_166 : decode cX7_readGroup 166 = .ok (.invokevirtual 42, 3) := by decide +kernel
theorem dX7_readGroup_169 : decode cX7_readGroup 169 = .ok (.iload_n 3, 1) := by decide +kernel
theorem dX7_readGroup_170 : decode cX7_readGroup 170 = .ok (.if_icmp .ne 8, 3) := by decide +kernel
theorem dX7_readGroup_173 : decode cX7_readGroup 173 = .ok (.iload 9, 2) := by decide +kernel
theorem dX7_readGroup_175 : decode cX7_readGroup 175 = .ok (.iconst 1, 1) := by decide +kernel
theorem dX7_readGroup_176 : decode cX7_readGroup 176 = .ok (.iadd, 1) := by decide +kernel
theorem dX7_readGroup_177 : decode cX7_readGroup 177 = .ok (.ireturn, 1) := by decide +kernel
theorem dX7_readGroup_178 : decode cX7_readGroup 178 = .ok (.aload_n 0, 1) := by decide +kernel
theorem dX7_readGroup_179 : decode cX7_readGroup 179 = .ok (.iload 9, 2) := by decide +kernel
theorem dX7_readGroup_181 : decode cX7_readGroup 181 = .ok (.invokevirtual 42, 3) := by decide +kernel
theorem dX7_readGroup_184 : decode cX7_readGroup 184 = .ok (.bipush 44, 2) := by decide +kernel
theorem dX7_readGroup_186 : decode cX7_readGroup 186 = .ok (.if_icmp .eq 10, 3) := by decide +kernel
theorem dX7_readGroup_189 : decode cX7_readGroup 189 = .ok (.aload_n 0, 1) := by decide +kernel
theorem dX7_readGroup_190 : decode cX7_readGroup 190 = .ok (.iload 9, 2) := by decide +kernel
theorem dX7_readGroup_192 : decode cX7_readGroup 192 = .ok (.invokevirtual 94, 3) := by decide +kernel
theorem dX7_readGroup_195 : decode cX7_readGroup 195 = .ok (.ireturn, 1) := by decide +kernel
theorem dX7_readGroup_196 : decode cX7_readGroup 196 = .ok (.iload 4, 2) := by decide +kernel
theorem dX7_readGroup_198 : decode cX7_readGroup 198 = .ok (.istore 5, 2) := by decide +kernel
theorem dX7_readGroup_200 : decode cX7_readGroup 200 = .ok (.aload_n 0, 1) := by decide +kernel
theorem dX7_readGroup_201 : decode cX7_readGroup 201 = .ok (.iload 9, 2) := by decide +kernel
theorem dX7_readGroup_203 : decode cX7_readGroup 203 = .ok (.iconst 1, 1) := by decide +kernel
theorem dX7_readGroup_204 : decode cX7_readGroup 204 = .ok (.iadd, 1) := by decide +kernel
theorem dX7_readGroup_205 : decode cX7_readGroup 205 = .ok (.invokevirtual 87, 3) := by decide +kernel
theorem dX7_readGroup_208 : decode cX7_readGroup 208 = .ok (.istore 4, 2) := by decide +kernel
theorem dX7_readGroup_210 : decode cX7_readGroup 210 = .ok (.iinc 6 1, 3) := by decide +kernel
theorem dX7_readGroup_213 : decode cX7_readGroup 213 = .ok (.goto (-137), 3) := by decide +kernel
theorem dX7_readGroup_216 : decode cX7_readGroup 216 = .ok (.aload_n 0, 1) := by decide +kernel
theorem dX7_readGroup_217 : decode cX7_readGroup 217 = .ok (.aload_n 0, 1) := by decide +kernel
theorem dX7_readGroup_218 : decode cX7_readGroup 218 = .ok (.getfield 35, 3) := by decide +kernel
theorem dX7_readGroup_221 : decode cX7_readGroup 221 = .ok (.invokevirtual 94, 3) := by decide +kernel
theorem dX7_readGroup_224 : decode cX7_readGroup 224 = .ok (.ireturn, 1) := by decide +kernel
def rmX7_readGroup (d : Nat) (mc ms : Nat) : Room := { frames := 2 * d + 6, cells := mc, slots := ms, locals := 51 * d + 130 }
abbrev cX7_readValue : ByteArray := prog_10_method_25_code
def yX7_readValue : MethodName := ⟨RX7, "readValue", "(II)I"⟩
def wsX7_readValue : List Cond := .code yX7_readValue cX7_readValue 3 (some .int) :: sr_G
theorem dX7_readValue_0 : decode cX7_readValue 0 = .ok (.aload_n 0, 1) := by decide +kernel
theorem dX7_readValue_1 : decode cX7_readValue 1 = .ok (.iload_n 1, 1) := by decide +kernel
theorem dX7_readValue_2 : decode cX7_readValue 2 = .ok (.invokevirtual 42, 3) := by decide +kernel
theorem dX7_readValue_5 : decode cX7_readValue 5 = .ok (.lookupswitch 96 #[(34, 66), (91, 59), (102, 80), (110, 88), (116, 72), (123, 59)], 59) := by decide +kernel
theorem dX7_readValue_64 : decode cX7_readValue 64 = .ok (.aload_n 0, 1) := by decide +kernel
theorem dX7_readValue_65 : decode cX7_readValue 65 = .ok (.iload_n 1, 1) := by decide +kernel
theorem dX7_readValue_66 : decode cX7_readValue 66 = .ok (.iload_n 2, 1) := by decide +kernel
theorem dX7_readValue_67 : decode cX7_readValue 67 = .ok (.invokevirtual 100, 3) := by decide +kernel
theorem dX7_readValue_70 : decode cX7_readValue 70 = .ok (.ireturn, 1) := by decide +kernel
theorem dX7_readValue_71 : decode cX7_readValue 71 = .ok (.aload_n 0, 1) := by decide +kernel
theorem dX7_readValue_72 : decode cX7_readValue 72 = .ok (.iload_n 1, 1) := by decide +kernel
theorem dX7_readValue_73 : decode cX7_readValue 73 = .ok (.invokevirtual 103, 3) := by decide +kernel
theorem dX7_readValue_76 : decode cX7_readValue 76 = .ok (.ireturn, 1) := by decide +kernel
theorem dX7_readValue_77 : decode cX7_readValue 77 = .ok (.aload_n 0, 1) := by decide +kernel
theorem dX7_readValue_78 : decode cX7_readValue 78 = .ok (.iload_n 1, 1) := by decide +kernel
theorem dX7_readValue_79 : decode cX7_readValue 79 = .ok (.ldc 106, 2) := by decide +kernel
theorem dX7_readValue_81 : decode cX7_readValue 81 = .ok (.invokevirtual 108, 3) := by decide +kernel
theorem dX7_readValue_84 : decode cX7_readValue 84 = .ok (.ireturn, 1) := by decide +kernel
theorem dX7_readValue_85 : decode cX7_readValue 85 = .ok (.aload_n 0, 1) := by decide +kernel
theorem dX7_readValue_86 : decode cX7_readValue 86 = .ok (.iload_n 1, 1) := by decide +kernel
theorem dX7_readValue_87 : decode cX7_readValue 87 = .ok (.ldc 112, 2) := by decide +kernel
theorem dX7_readValue_89 : decode cX7_readValue 89 = .ok (.invokevirtual 108, 3) := by decide +kernel
theorem dX7_readValue_92 : decode cX7_readValue 92 = .ok (.ireturn, 1) := by decide +kernel
theorem dX7_readValue_93 : decode cX7_readValue 93 = .ok (.aload_n 0, 1) := by decide +kernel
theorem dX7_readValue_94 : decode cX7_readValue 94 = .ok (.iload_n 1, 1) := by decide +kernel
theorem dX7_readValue_95 : decode cX7_readValue 95 = .ok (.ldc 114, 2) := by decide +kernel
theorem dX7_readValue_97 : decode cX7_readValue 97 = .ok (.invokevirtual 108, 3) := by decide +kernel
theorem dX7_readValue_100 : decode cX7_readValue 100 = .ok (.ireturn, 1) := by decide +kernel
theorem dX7_readValue_101 : decode cX7_readValue 101 = .ok (.aload_n 0, 1) := by decide +kernel
theorem dX7_readValue_102 : decode cX7_readValue 102 = .ok (.iload_n 1, 1) := by decide +kernel
theorem dX7_readValue_103 : decode cX7_readValue 103 = .ok (.invokevirtual 116, 3) := by decide +kernel
theorem dX7_readValue_106 : decode cX7_readValue 106 = .ok (.ifCond .eq 11, 3) := by decide +kernel
theorem dX7_readValue_109 : decode cX7_readValue 109 = .ok (.aload_n 0, 1) := by decide +kernel
theorem dX7_readValue_110 : decode cX7_readValue 110 = .ok (.iload_n 1, 1) := by decide +kernel
theorem dX7_readValue_111 : decode cX7_readValue 111 = .ok (.invokevirtual 119, 3) := by decide +kernel
theorem dX7_readValue_114 : decode cX7_readValue 114 = .ok (.goto 8, 3) := by decide +kernel
theorem dX7_readValue_117 : decode cX7_readValue 117 = .ok (.aload_n 0, 1) := by decide +kernel
theorem dX7_readValue_118 : decode cX7_readValue 118 = .ok (.iload_n 1, 1) := by decide +kernel
theorem dX7_readValue_119 : decode cX7_readValue 119 = .ok (.invokevirtual 94, 3) := by decide +kernel
theorem dX7_readValue_122 : decode cX7_readValue 122 = .ok (.ireturn, 1) := by decide +kernel
def rmX7_readValue (d : Nat) (mc ms : Nat) : Room := { frames := 2 * d + 5, cells := mc, slots := ms, locals := 51 * d + 108 }
abbrev cX7_read : ByteArray := prog_10_method_21_code
def yX7_read : MethodName := ⟨RX7, "read", "()I"⟩
def wsX7_read : List Cond := .code yX7_read cX7_read 3 (some .int) :: sr_G
theorem dX7_read_0 : decode cX7_read 0 = .ok (.aload_n 0, 1) := by decide +kernel
theorem dX7_read_1 : decode cX7_read 1 = .ok (.getfield 31, 3) := by decide +kernel
theorem dX7_read_4 : decode cX7_read 4 = .ok (.invokevirtual 84, 3) := by decide +kernel
theorem dX7_read_7 : decode cX7_read 7 = .ok (.aload_n 0, 1) := by decide +kernel
theorem dX7_read_8 : decode cX7_read 8 = .ok (.iconst (-1), 1) := by decide +kernel
theorem dX7_read_9 : decode cX7_read 9 = .ok (.putfield 39, 3) := by decide +kernel
theorem dX7_read_12 : decode cX7_read 12 = .ok (.aload_n 0, 1) := by decide +kernel
theorem dX7_read_13 : decode cX7_read 13 = .ok (.iconst 0, 1) := by decide +kernel
theorem dX7_read_14 : decode cX7_read 14 = .ok (.invokevirtual 87, 3) := by decide +kernel
theorem dX7_read_17 : decode cX7_read 17 = .ok (.istore_n 1, 1) := by decide +kernel
theorem dX7_read_18 : decode cX7_read 18 = .ok (.aload_n 0, 1) := by decide +kernel
theorem dX7_read_19 : decode cX7_read 19 = .ok (.iload_n 1, 1) := by decide +kernel
theorem dX7_read_20 : decode cX7_read 20 = .ok (.iconst 0, 1) := by decide +kernel
theorem dX7_read_21 : decode cX7_read 21 = .ok (.invokevirtual 90, 3) := by decide +kernel
theorem dX7_read_24 : decode cX7_read 24 = .ok (.istore_n 2, 1) := by decide +kernel
theorem dX7_read_25 : decode cX7_read 25 = .ok (.iload_n 2, 1) := by decide +kernel
theorem dX7_read_26 : decode cX7_read 26 = .ok (.iconst (-1), 1) := by decide +kernel
theorem dX7_read_27 : decode cX7_read 27 = .ok (.if_icmp .ne 5, 3) := by decide +kernel
theorem dX7_read_30 : decode cX7_read 30 = .ok (.iconst (-1), 1) := by decide +kernel
theorem dX7_read_31 : decode cX7_read 31 = .ok (.ireturn, 1) := by decide +kernel
theorem dX7_read_32 : decode cX7_read 32 = .ok (.aload_n 0, 1) := by decide +kernel
theorem dX7_read_33 : decode cX7_read 33 = .ok (.iload_n 2, 1) := by decide +kernel
theorem dX7_read_34 : decode cX7_read 34 = .ok (.invokevirtual 87, 3) := by decide +kernel
theorem dX7_read_37 : decode cX7_read 37 = .ok (.istore_n 2, 1) := by decide +kernel
theorem dX7_read_38 : decode cX7_read 38 = .ok (.iload_n 2, 1) := by decide +kernel
theorem dX7_read_39 : decode cX7_read 39 = .ok (.aload_n 0, 1) := by decide +kernel
theorem dX7_read_40 : decode cX7_read 40 = .ok (.getfield 35, 3) := by decide +kernel
theorem dX7_read_43 : decode cX7_read 43 = .ok (.if_icmp .ge 11, 3) := by decide +kernel
theorem dX7_read_46 : decode cX7_read 46 = .ok (.aload_n 0, 1) := by decide +kernel
theorem dX7_read_47 : decode cX7_read 47 = .ok (.iload_n 2, 1) := by decide +kernel
theorem dX7_read_48 : decode cX7_read 48 = .ok (.invokevirtual 94, 3) := by decide +kernel
theorem dX7_read_51 : decode cX7_read 51 = .ok (.goto 4, 3) := by decide +kernel
theorem dX7_read_54 : decode cX7_read 54 = .ok (.iload_n 1, 1) := by decide +kernel
theorem dX7_read_55 : decode cX7_read 55 = .ok (.ireturn, 1) := by decide +kernel
def rmX7_read (mc ms : Nat) : Room := { frames := 60, cells := mc, slots := ms, locals := 1507 }
theorem g7_122 (c0 : Cond) : GoodIn (c0 :: sr_G) (wsV RX7 122 RX7 yX7_isObject wsX7_isObject) := sr_V c0 (sr_ins (by decide +kernel))
theorem g7_132 (c0 : Cond) : GoodIn (c0 :: sr_G) (wsV RX7 132 RX7 yX7_join wsX7_join) := sr_V c0 (sr_ins (by decide +kernel))
theorem g7_90 (c0 : Cond) : GoodIn (c0 :: sr_G) (wsV RX7 90 RX7 yX7_readValue wsX7_readValue) := sr_V c0 (sr_ins (by decide +kernel))
theorem g7_129 (c0 : Cond) : GoodIn (c0 :: sr_G) (wsV RX7 129 RX7 yX7_readKey wsX7_readKey) := sr_V c0 (sr_ins (by decide +kernel))
theorem g7_100 (c0 : Cond) : GoodIn (c0 :: sr_G) (wsV RX7 100 RX7 yX7_readGroup wsX7_readGroup) := sr_V c0 (sr_ins (by decide +kernel))
theorem g7_108 (c0 : Cond) : GoodIn (c0 :: sr_G) (wsV RX7 108 RX7 yX7_readWord wsX7_readWord) := sr_V c0 (sr_ins (by decide +kernel))
theorem g7_116 (c0 : Cond) : GoodIn (c0 :: sr_G) (wsV RX7 116 RX7 yX7_isNumber wsX7_isNumber) := sr_V c0 (sr_ins (by decide +kernel))
theorem g7_119 (c0 : Cond) : GoodIn (c0 :: sr_G) (wsV RX7 119 RX7 yX7_readNumber wsX7_readNumber) := sr_V c0 (sr_ins (by decide +kernel))
theorem g7_84 (c0 : Cond) : GoodIn (c0 :: sr_G) (wsV RX7 84 RX2 yX2_clear wsX2_clear) := sr_V c0 (sr_ins (by decide +kernel))
