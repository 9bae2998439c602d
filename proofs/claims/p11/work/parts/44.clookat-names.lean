abbrev cX4_lookAtItems : ByteArray := prog_7_method_11_code
def yX4_lookAtItems : MethodName := ⟨RX4, "lookAtItems", "(IIIILjava/lang/String;)Z"⟩
def wsX4_lookAtItems : List Cond := .code yX4_lookAtItems cX4_lookAtItems 8 (some .boolean) :: sr_G
theorem dX4_lookAtItems_0 : decode cX4_lookAtItems 0 = .ok (.aload_n 0, 1) := by decide +kernel
theorem dX4_lookAtItems_1 : decode cX4_lookAtItems 1 = .ok (.getfield 18, 3) := by decide +kernel
theorem dX4_lookAtItems_4 : decode cX4_lookAtItems 4 = .ok (.iload_n 2, 1) := by decide +kernel
theorem dX4_lookAtItems_5 : decode cX4_lookAtItems 5 = .ok (.aload 5, 2) := by decide +kernel
theorem dX4_lookAtItems_7 : decode cX4_lookAtItems 7 = .ok (.invokevirtual 150, 3) := by decide +kernel
theorem dX4_lookAtItems_10 : decode cX4_lookAtItems 10 = .ok (.istore 6, 2) := by decide +kernel
theorem dX4_lookAtItems_12 : decode cX4_lookAtItems 12 = .ok (.iload 6, 2) := by decide +kernel
theorem dX4_lookAtItems_14 : decode cX4_lookAtItems 14 = .ok (.iconst (-1), 1) := by decide +kernel
theorem dX4_lookAtItems_15 : decode cX4_lookAtItems 15 = .ok (.if_icmp .ne 11, 3) := by decide +kernel
theorem dX4_lookAtItems_18 : decode cX4_lookAtItems 18 = .ok (.aload_n 0, 1) := by decide +kernel
theorem dX4_lookAtItems_19 : decode cX4_lookAtItems 19 = .ok (.bipush 8, 2) := by decide +kernel
theorem dX4_lookAtItems_21 : decode cX4_lookAtItems 21 = .ok (.iload_n 2, 1) := by decide +kernel
theorem dX4_lookAtItems_22 : decode cX4_lookAtItems 22 = .ok (.invokevirtual 49, 3) := by decide +kernel
theorem dX4_lookAtItems_25 : decode cX4_lookAtItems 25 = .ok (.ireturn, 1) := by decide +kernel
theorem dX4_lookAtItems_26 : decode cX4_lookAtItems 26 = .ok (.aload_n 0, 1) := by decide +kernel
theorem dX4_lookAtItems_27 : decode cX4_lookAtItems 27 = .ok (.getfield 22, 3) := by decide +kernel
theorem dX4_lookAtItems_30 : decode cX4_lookAtItems 30 = .ok (.iload_n 1, 1) := by decide +kernel
theorem dX4_lookAtItems_31 : decode cX4_lookAtItems 31 = .ok (.iload 4, 2) := by decide +kernel
theorem dX4_lookAtItems_33 : decode cX4_lookAtItems 33 = .ok (.invokevirtual 109, 3) := by decide +kernel
theorem dX4_lookAtItems_36 : decode cX4_lookAtItems 36 = .ok (.aload_n 0, 1) := by decide +kernel
theorem dX4_lookAtItems_37 : decode cX4_lookAtItems 37 = .ok (.getfield 22, 3) := by decide +kernel
theorem dX4_lookAtItems_40 : decode cX4_lookAtItems 40 = .ok (.iload 4, 2) := by decide +kernel
theorem dX4_lookAtItems_42 : decode cX4_lookAtItems 42 = .ok (.bipush 6, 2) := by decide +kernel
theorem dX4_lookAtItems_44 : decode cX4_lookAtItems 44 = .ok (.if_icmp .ne 8, 3) := by decide +kernel
theorem dX4_lookAtItems_47 : decode cX4_lookAtItems 47 = .ok (.ldc 177, 2) := by decide +kernel
theorem dX4_lookAtItems_49 : decode cX4_lookAtItems 49 = .ok (.goto 5, 3) := by decide +kernel
theorem dX4_lookAtItems_52 : decode cX4_lookAtItems 52 = .ok (.ldc 179, 2) := by decide +kernel
theorem dX4_lookAtItems_54 : decode cX4_lookAtItems 54 = .ok (.invokevirtual 181, 3) := by decide +kernel
theorem dX4_lookAtItems_57 : decode cX4_lookAtItems 57 = .ok (.aload_n 0, 1) := by decide +kernel
theorem dX4_lookAtItems_58 : decode cX4_lookAtItems 58 = .ok (.iload 6, 2) := by decide +kernel
theorem dX4_lookAtItems_60 : decode cX4_lookAtItems 60 = .ok (.iload_n 3, 1) := by decide +kernel
theorem dX4_lookAtItems_61 : decode cX4_lookAtItems 61 = .ok (.iconst 1, 1) := by decide +kernel
theorem dX4_lookAtItems_62 : decode cX4_lookAtItems 62 = .ok (.iadd, 1) := by decide +kernel
theorem dX4_lookAtItems_63 : decode cX4_lookAtItems 63 = .ok (.iconst 0, 1) := by decide +kernel
theorem dX4_lookAtItems_64 : decode cX4_lookAtItems 64 = .ok (.invokevirtual 53, 3) := by decide +kernel
theorem dX4_lookAtItems_67 : decode cX4_lookAtItems 67 = .ok (.istore 7, 2) := by decide +kernel
theorem dX4_lookAtItems_69 : decode cX4_lookAtItems 69 = .ok (.iload 7, 2) := by decide +kernel
theorem dX4_lookAtItems_71 : decode cX4_lookAtItems 71 = .ok (.iconst (-1), 1) := by decide +kernel
theorem dX4_lookAtItems_72 : decode cX4_lookAtItems 72 = .ok (.if_icmp .ne 5, 3) := by decide +kernel
theorem dX4_lookAtItems_75 : decode cX4_lookAtItems 75 = .ok (.iconst 0, 1) := by decide +kernel
theorem dX4_lookAtItems_76 : decode cX4_lookAtItems 76 = .ok (.ireturn, 1) := by decide +kernel
theorem dX4_lookAtItems_77 : decode cX4_lookAtItems 77 = .ok (.aload_n 0, 1) := by decide +kernel
theorem dX4_lookAtItems_78 : decode cX4_lookAtItems 78 = .ok (.getfield 22, 3) := by decide +kernel
theorem dX4_lookAtItems_81 : decode cX4_lookAtItems 81 = .ok (.iload_n 1, 1) := by decide +kernel
theorem dX4_lookAtItems_82 : decode cX4_lookAtItems 82 = .ok (.iconst (-1), 1) := by decide +kernel
theorem dX4_lookAtItems_83 : decode cX4_lookAtItems 83 = .ok (.iload 7, 2) := by decide +kernel
theorem dX4_lookAtItems_85 : decode cX4_lookAtItems 85 = .ok (.invokevirtual 135, 3) := by decide +kernel
theorem dX4_lookAtItems_88 : decode cX4_lookAtItems 88 = .ok (.aload_n 0, 1) := by decide +kernel
theorem dX4_lookAtItems_89 : decode cX4_lookAtItems 89 = .ok (.getfield 22, 3) := by decide +kernel
theorem dX4_lookAtItems_92 : decode cX4_lookAtItems 92 = .ok (.bipush 125, 2) := by decide +kernel
theorem dX4_lookAtItems_94 : decode cX4_lookAtItems 94 = .ok (.invokevirtual 128, 3) := by decide +kernel
theorem dX4_lookAtItems_97 : decode cX4_lookAtItems 97 = .ok (.iconst 1, 1) := by decide +kernel
theorem dX4_lookAtItems_98 : decode cX4_lookAtItems 98 = .ok (.ireturn, 1) := by decide +kernel
def rmX4_lookAtItems (d : Nat) (mc ms : Nat) : Room := { frames := 4 * d + 8, cells := mc, slots := ms, locals := 105 * d + 183 }
abbrev cX4_lookAtUnion : ByteArray := prog_7_method_8_code
def yX4_lookAtUnion : MethodName := ⟨RX4, "lookAtUnion", "(IIIZ)Z"⟩
def wsX4_lookAtUnion : List Cond := .code yX4_lookAtUnion cX4_lookAtUnion 10 (some .boolean) :: sr_G
theorem dX4_lookAtUnion_0 : decode cX4_lookAtUnion 0 = .ok (.iload 4, 2) := by decide +kernel
theorem dX4_lookAtUnion_2 : decode cX4_lookAtUnion 2 = .ok (.ifCond .eq 10, 3) := by decide +kernel
theorem dX4_lookAtUnion_5 : decode cX4_lookAtUnion 5 = .ok (.aload_n 0, 1) := by decide +kernel
theorem dX4_lookAtUnion_6 : decode cX4_lookAtUnion 6 = .ok (.iconst 4, 1) := by decide +kernel
theorem dX4_lookAtUnion_7 : decode cX4_lookAtUnion 7 = .ok (.iload_n 2, 1) := by decide +kernel
theorem dX4_lookAtUnion_8 : decode cX4_lookAtUnion 8 = .ok (.invokevirtual 49, 3) := by decide +kernel
theorem dX4_lookAtUnion_11 : decode cX4_lookAtUnion 11 = .ok (.ireturn, 1) := by decide +kernel
theorem dX4_lookAtUnion_12 : decode cX4_lookAtUnion 12 = .ok (.aload_n 0, 1) := by decide +kernel
theorem dX4_lookAtUnion_13 : decode cX4_lookAtUnion 13 = .ok (.getfield 18, 3) := by decide +kernel
theorem dX4_lookAtUnion_16 : decode cX4_lookAtUnion 16 = .ok (.iload_n 2, 1) := by decide +kernel
theorem dX4_lookAtUnion_17 : decode cX4_lookAtUnion 17 = .ok (.invokevirtual 122, 3) := by decide +kernel
theorem dX4_lookAtUnion_20 : decode cX4_lookAtUnion 20 = .ok (.istore 5, 2) := by decide +kernel
theorem dX4_lookAtUnion_22 : decode cX4_lookAtUnion 22 = .ok (.iload 5, 2) := by decide +kernel
theorem dX4_lookAtUnion_24 : decode cX4_lookAtUnion 24 = .ok (.iconst 1, 1) := by decide +kernel
theorem dX4_lookAtUnion_25 : decode cX4_lookAtUnion 25 = .ok (.if_icmp .lt 10, 3) := by decide +kernel
theorem dX4_lookAtUnion_28 : decode cX4_lookAtUnion 28 = .ok (.iload 5, 2) := by decide +kernel
theorem dX4_lookAtUnion_30 : decode cX4_lookAtUnion 30 = .ok (.bipush 16, 2) := by decide +kernel
theorem dX4_lookAtUnion_32 : decode cX4_lookAtUnion 32 = .ok (.if_icmp .le 10, 3) := by decide +kernel
theorem dX4_lookAtUnion_35 : decode cX4_lookAtUnion 35 = .ok (.aload_n 0, 1) := by decide +kernel
theorem dX4_lookAtUnion_36 : decode cX4_lookAtUnion 36 = .ok (.iconst 5, 1) := by decide +kernel
theorem dX4_lookAtUnion_37 : decode cX4_lookAtUnion 37 = .ok (.iload_n 2, 1) := by decide +kernel
theorem dX4_lookAtUnion_38 : decode cX4_lookAtUnion 38 = .ok (.invokevirtual 49, 3) := by decide +kernel
theorem dX4_lookAtUnion_41 : decode cX4_lookAtUnion 41 = .ok (.ireturn, 1) := by decide +kernel
theorem dX4_lookAtUnion_42 : decode cX4_lookAtUnion 42 = .ok (.aload_n 0, 1) := by decide +kernel
theorem dX4_lookAtUnion_43 : decode cX4_lookAtUnion 43 = .ok (.getfield 22, 3) := by decide +kernel
theorem dX4_lookAtUnion_46 : decode cX4_lookAtUnion 46 = .ok (.iload_n 1, 1) := by decide +kernel
theorem dX4_lookAtUnion_47 : decode cX4_lookAtUnion 47 = .ok (.bipush 11, 2) := by decide +kernel
theorem dX4_lookAtUnion_49 : decode cX4_lookAtUnion 49 = .ok (.invokevirtual 109, 3) := by decide +kernel
theorem dX4_lookAtUnion_52 : decode cX4_lookAtUnion 52 = .ok (.aload_n 0, 1) := by decide +kernel
theorem dX4_lookAtUnion_53 : decode cX4_lookAtUnion 53 = .ok (.getfield 18, 3) := by decide +kernel
theorem dX4_lookAtUnion_56 : decode cX4_lookAtUnion 56 = .ok (.iload_n 2, 1) := by decide +kernel
theorem dX4_lookAtUnion_57 : decode cX4_lookAtUnion 57 = .ok (.invokevirtual 125, 3) := by decide +kernel
theorem dX4_lookAtUnion_60 : decode cX4_lookAtUnion 60 = .ok (.istore 6, 2) := by decide +kernel
theorem dX4_lookAtUnion_62 : decode cX4_lookAtUnion 62 = .ok (.iconst (-1), 1) := by decide +kernel
theorem dX4_lookAtUnion_63 : decode cX4_lookAtUnion 63 = .ok (.istore 7, 2) := by decide +kernel
theorem dX4_lookAtUnion_65 : decode cX4_lookAtUnion 65 = .ok (.iconst 0, 1) := by decide +kernel
theorem dX4_lookAtUnion_66 : decode cX4_lookAtUnion 66 = .ok (.istore 8, 2) := by decide +kernel
theorem dX4_lookAtUnion_68 : decode cX4_lookAtUnion 68 = .ok (.iload 8, 2) := by decide +kernel
theorem dX4_lookAtUnion_70 : decode cX4_lookAtUnion 70 = .ok (.iload 5, 2) := by decide +kernel
theorem dX4_lookAtUnion_72 : decode cX4_lookAtUnion 72 = .ok (.if_icmp .ge 94, 3) := by decide +kernel
theorem dX4_lookAtUnion_75 : decode cX4_lookAtUnion 75 = .ok (.aload_n 0, 1) := by decide +kernel
theorem dX4_lookAtUnion_76 : decode cX4_lookAtUnion 76 = .ok (.getfield 22, 3) := by decide +kernel
theorem dX4_lookAtUnion_79 : decode cX4_lookAtUnion 79 = .ok (.iload 8, 2) := by decide +kernel
theorem dX4_lookAtUnion_81 : decode cX4_lookAtUnion 81 = .ok (.ifCond .ne 8, 3) := by decide +kernel
theorem dX4_lookAtUnion_84 : decode cX4_lookAtUnion 84 = .ok (.bipush 91, 2) := by decide +kernel
theorem dX4_lookAtUnion_86 : decode cX4_lookAtUnion 86 = .ok (.goto 5, 3) := by decide +kernel
theorem dX4_lookAtUnion_89 : decode cX4_lookAtUnion 89 = .ok (.bipush 44, 2) := by decide +kernel
theorem dX4_lookAtUnion_91 : decode cX4_lookAtUnion 91 = .ok (.invokevirtual 128, 3) := by decide +kernel
theorem dX4_lookAtUnion_94 : decode cX4_lookAtUnion 94 = .ok (.aload_n 0, 1) := by decide +kernel
theorem dX4_lookAtUnion_95 : decode cX4_lookAtUnion 95 = .ok (.iload 6, 2) := by decide +kernel
theorem dX4_lookAtUnion_97 : decode cX4_lookAtUnion 97 = .ok (.iload_n 3, 1) := by decide +kernel
theorem dX4_lookAtUnion_98 : decode cX4_lookAtUnion 98 = .ok (.iconst 1, 1) := by decide +kernel
theorem dX4_lookAtUnion_99 : decode cX4_lookAtUnion 99 = .ok (.iadd, 1) := by decide +kernel
theorem dX4_lookAtUnion_100 : decode cX4_lookAtUnion 100 = .ok (.iconst 1, 1) := by decide +kernel
theorem dX4_lookAtUnion_101 : decode cX4_lookAtUnion 101 = .ok (.invokevirtual 53, 3) := by decide +kernel
theorem dX4_lookAtUnion_104 : decode cX4_lookAtUnion 104 = .ok (.istore 9, 2) := by decide +kernel
theorem dX4_lookAtUnion_106 : decode cX4_lookAtUnion 106 = .ok (.iload 9, 2) := by decide +kernel
theorem dX4_lookAtUnion_108 : decode cX4_lookAtUnion 108 = .ok (.iconst (-1), 1) := by decide +kernel
theorem dX4_lookAtUnion_109 : decode cX4_lookAtUnion 109 = .ok (.if_icmp .ne 5, 3) := by decide +kernel
theorem dX4_lookAtUnion_112 : decode cX4_lookAtUnion 112 = .ok (.iconst 0, 1) := by decide +kernel
theorem dX4_lookAtUnion_113 : decode cX4_lookAtUnion 113 = .ok (.ireturn, 1) := by decide +kernel
theorem dX4_lookAtUnion_114 : decode cX4_lookAtUnion 114 = .ok (.aload_n 0, 1) := by decide +kernel
theorem dX4_lookAtUnion_115 : decode cX4_lookAtUnion 115 = .ok (.iload_n 1, 1) := by decide +kernel
theorem dX4_lookAtUnion_116 : decode cX4_lookAtUnion 116 = .ok (.iload 9, 2) := by decide +kernel
theorem dX4_lookAtUnion_118 : decode cX4_lookAtUnion 118 = .ok (.invokevirtual 132, 3) := by decide +kernel
theorem dX4_lookAtUnion_121 : decode cX4_lookAtUnion 121 = .ok (.ifCond .eq 12, 3) := by decide +kernel
theorem dX4_lookAtUnion_124 : decode cX4_lookAtUnion 124 = .ok (.aload_n 0, 1) := by decide +kernel
theorem dX4_lookAtUnion_125 : decode cX4_lookAtUnion 125 = .ok (.bipush 6, 2) := by decide +kernel
theorem dX4_lookAtUnion_127 : decode cX4_lookAtUnion 127 = .ok (.iload 6, 2) := by decide +kernel
theorem dX4_lookAtUnion_129 : decode cX4_lookAtUnion 129 = .ok (.invokevirtual 49, 3) := by decide +kernel
theorem dX4_lookAtUnion_132 : decode cX4_lookAtUnion 132 = .ok (.ireturn, 1) := by decide +kernel
theorem dX4_lookAtUnion_133 : decode cX4_lookAtUnion 133 = .ok (.aload_n 0, 1) := by decide +kernel
theorem dX4_lookAtUnion_134 : decode cX4_lookAtUnion 134 = .ok (.getfield 22, 3) := by decide +kernel
theorem dX4_lookAtUnion_137 : decode cX4_lookAtUnion 137 = .ok (.iload_n 1, 1) := by decide +kernel
theorem dX4_lookAtUnion_138 : decode cX4_lookAtUnion 138 = .ok (.iload 7, 2) := by decide +kernel
theorem dX4_lookAtUnion_140 : decode cX4_lookAtUnion 140 = .ok (.iload 9, 2) := by decide +kernel
theorem dX4_lookAtUnion_142 : decode cX4_lookAtUnion 142 = .ok (.invokevirtual 135, 3) := by decide +kernel
theorem dX4_lookAtUnion_145 : decode cX4_lookAtUnion 145 = .ok (.iload 9, 2) := by decide +kernel
theorem dX4_lookAtUnion_147 : decode cX4_lookAtUnion 147 = .ok (.istore 7, 2) := by decide +kernel
theorem dX4_lookAtUnion_149 : decode cX4_lookAtUnion 149 = .ok (.aload_n 0, 1) := by decide +kernel
theorem dX4_lookAtUnion_150 : decode cX4_lookAtUnion 150 = .ok (.getfield 18, 3) := by decide +kernel
theorem dX4_lookAtUnion_153 : decode cX4_lookAtUnion 153 = .ok (.iload 6, 2) := by decide +kernel
theorem dX4_lookAtUnion_155 : decode cX4_lookAtUnion 155 = .ok (.invokevirtual 139, 3) := by decide +kernel
theorem dX4_lookAtUnion_158 : decode cX4_lookAtUnion 158 = .ok (.istore 6, 2) := by decide +kernel
theorem dX4_lookAtUnion_160 : decode cX4_lookAtUnion 160 = .ok (.iinc 8 1, 3) := by decide +kernel
theorem dX4_lookAtUnion_163 : decode cX4_lookAtUnion 163 = .ok (.goto (-95), 3) := by decide +kernel
theorem dX4_lookAtUnion_166 : decode cX4_lookAtUnion 166 = .ok (.aload_n 0, 1) := by decide +kernel
theorem dX4_lookAtUnion_167 : decode cX4_lookAtUnion 167 = .ok (.getfield 22, 3) := by decide +kernel
theorem dX4_lookAtUnion_170 : decode cX4_lookAtUnion 170 = .ok (.bipush 93, 2) := by decide +kernel
theorem dX4_lookAtUnion_172 : decode cX4_lookAtUnion 172 = .ok (.invokevirtual 128, 3) := by decide +kernel
theorem dX4_lookAtUnion_175 : decode cX4_lookAtUnion 175 = .ok (.iconst 1, 1) := by decide +kernel
theorem dX4_lookAtUnion_176 : decode cX4_lookAtUnion 176 = .ok (.ireturn, 1) := by decide +kernel
def rmX4_lookAtUnion (d : Nat) (mc ms : Nat) : Room := { frames := 4 * d + 8, cells := mc, slots := ms, locals := 105 * d + 183 }
abbrev cX4_lookAtField : ByteArray := prog_7_method_17_code
def yX4_lookAtField : MethodName := ⟨RX4, "lookAtField", "(III)I"⟩
def wsX4_lookAtField : List Cond := .code yX4_lookAtField cX4_lookAtField 7 (some .int) :: sr_G
theorem dX4_lookAtField_0 : decode cX4_lookAtField 0 = .ok (.aload_n 0, 1) := by decide +kernel
theorem dX4_lookAtField_1 : decode cX4_lookAtField 1 = .ok (.iload_n 1, 1) := by decide +kernel
theorem dX4_lookAtField_2 : decode cX4_lookAtField 2 = .ok (.iload_n 2, 1) := by decide +kernel
theorem dX4_lookAtField_3 : decode cX4_lookAtField 3 = .ok (.invokevirtual 251, 3) := by decide +kernel
theorem dX4_lookAtField_6 : decode cX4_lookAtField 6 = .ok (.ifCond .ne 5, 3) := by decide +kernel
theorem dX4_lookAtField_9 : decode cX4_lookAtField 9 = .ok (.iconst (-1), 1) := by decide +kernel
theorem dX4_lookAtField_10 : decode cX4_lookAtField 10 = .ok (.ireturn, 1) := by decide +kernel
theorem dX4_lookAtField_11 : decode cX4_lookAtField 11 = .ok (.aload_n 0, 1) := by decide +kernel
theorem dX4_lookAtField_12 : decode cX4_lookAtField 12 = .ok (.getfield 22, 3) := by decide +kernel
theorem dX4_lookAtField_15 : decode cX4_lookAtField 15 = .ok (.ldc 190, 2) := by decide +kernel
theorem dX4_lookAtField_17 : decode cX4_lookAtField 17 = .ok (.invokevirtual 181, 3) := by decide +kernel
theorem dX4_lookAtField_20 : decode cX4_lookAtField 20 = .ok (.aload_n 0, 1) := by decide +kernel
theorem dX4_lookAtField_21 : decode cX4_lookAtField 21 = .ok (.getfield 22, 3) := by decide +kernel
theorem dX4_lookAtField_24 : decode cX4_lookAtField 24 = .ok (.aload_n 0, 1) := by decide +kernel
theorem dX4_lookAtField_25 : decode cX4_lookAtField 25 = .ok (.getfield 18, 3) := by decide +kernel
theorem dX4_lookAtField_28 : decode cX4_lookAtField 28 = .ok (.aload_n 0, 1) := by decide +kernel
theorem dX4_lookAtField_29 : decode cX4_lookAtField 29 = .ok (.getfield 18, 3) := by decide +kernel
theorem dX4_lookAtField_32 : decode cX4_lookAtField 32 = .ok (.iload_n 2, 1) := by decide +kernel
theorem dX4_lookAtField_33 : decode cX4_lookAtField 33 = .ok (.ldc 185, 2) := by decide +kernel
theorem dX4_lookAtField_35 : decode cX4_lookAtField 35 = .ok (.invokevirtual 150, 3) := by decide +kernel
theorem dX4_lookAtField_38 : decode cX4_lookAtField 38 = .ok (.invokevirtual 119, 3) := by decide +kernel
theorem dX4_lookAtField_41 : decode cX4_lookAtField 41 = .ok (.istore 4, 2) := by decide +kernel
theorem dX4_lookAtField_43 : decode cX4_lookAtField 43 = .ok (.aload_n 0, 1) := by decide +kernel
theorem dX4_lookAtField_44 : decode cX4_lookAtField 44 = .ok (.getfield 22, 3) := by decide +kernel
theorem dX4_lookAtField_47 : decode cX4_lookAtField 47 = .ok (.ldc 254, 2) := by decide +kernel
theorem dX4_lookAtField_49 : decode cX4_lookAtField 49 = .ok (.invokevirtual 181, 3) := by decide +kernel
theorem dX4_lookAtField_52 : decode cX4_lookAtField 52 = .ok (.aload_n 0, 1) := by decide +kernel
theorem dX4_lookAtField_53 : decode cX4_lookAtField 53 = .ok (.aload_n 0, 1) := by decide +kernel
theorem dX4_lookAtField_54 : decode cX4_lookAtField 54 = .ok (.getfield 18, 3) := by decide +kernel
theorem dX4_lookAtField_57 : decode cX4_lookAtField 57 = .ok (.iload_n 2, 1) := by decide +kernel
theorem dX4_lookAtField_58 : decode cX4_lookAtField 58 = .ok (.ldc 148, 2) := by decide +kernel
theorem dX4_lookAtField_60 : decode cX4_lookAtField 60 = .ok (.invokevirtual 150, 3) := by decide +kernel
theorem dX4_lookAtField_63 : decode cX4_lookAtField 63 = .ok (.iload_n 3, 1) := by decide +kernel
theorem dX4_lookAtField_64 : decode cX4_lookAtField 64 = .ok (.iconst 1, 1) := by decide +kernel
theorem dX4_lookAtField_65 : decode cX4_lookAtField 65 = .ok (.iadd, 1) := by decide +kernel
theorem dX4_lookAtField_66 : decode cX4_lookAtField 66 = .ok (.iconst 0, 1) := by decide +kernel
theorem dX4_lookAtField_67 : decode cX4_lookAtField 67 = .ok (.invokevirtual 53, 3) := by decide +kernel
theorem dX4_lookAtField_70 : decode cX4_lookAtField 70 = .ok (.istore 5, 2) := by decide +kernel
theorem dX4_lookAtField_72 : decode cX4_lookAtField 72 = .ok (.iload 5, 2) := by decide +kernel
theorem dX4_lookAtField_74 : decode cX4_lookAtField 74 = .ok (.iconst (-1), 1) := by decide +kernel
theorem dX4_lookAtField_75 : decode cX4_lookAtField 75 = .ok (.if_icmp .ne 5, 3) := by decide +kernel
theorem dX4_lookAtField_78 : decode cX4_lookAtField 78 = .ok (.iconst (-1), 1) := by decide +kernel
theorem dX4_lookAtField_79 : decode cX4_lookAtField 79 = .ok (.ireturn, 1) := by decide +kernel
theorem dX4_lookAtField_80 : decode cX4_lookAtField 80 = .ok (.aload_n 0, 1) := by decide +kernel
theorem dX4_lookAtField_81 : decode cX4_lookAtField 81 = .ok (.getfield 22, 3) := by decide +kernel
theorem dX4_lookAtField_84 : decode cX4_lookAtField 84 = .ok (.bipush 125, 2) := by decide +kernel
theorem dX4_lookAtField_86 : decode cX4_lookAtField 86 = .ok (.invokevirtual 128, 3) := by decide +kernel
theorem dX4_lookAtField_89 : decode cX4_lookAtField 89 = .ok (.aload_n 0, 1) := by decide +kernel
theorem dX4_lookAtField_90 : decode cX4_lookAtField 90 = .ok (.getfield 18, 3) := by decide +kernel
theorem dX4_lookAtField_93 : decode cX4_lookAtField 93 = .ok (.iload_n 2, 1) := by decide +kernel
theorem dX4_lookAtField_94 : decode cX4_lookAtField 94 = .ok (.ldc 236, 2) := by decide +kernel
theorem dX4_lookAtField_96 : decode cX4_lookAtField 96 = .ok (.invokevirtual 150, 3) := by decide +kernel
theorem dX4_lookAtField_99 : decode cX4_lookAtField 99 = .ok (.istore 6, 2) := by decide +kernel
theorem dX4_lookAtField_101 : decode cX4_lookAtField 101 = .ok (.aload_n 0, 1) := by decide +kernel
theorem dX4_lookAtField_102 : decode cX4_lookAtField 102 = .ok (.getfield 22, 3) := by decide +kernel
theorem dX4_lookAtField_105 : decode cX4_lookAtField 105 = .ok (.iload 5, 2) := by decide +kernel
theorem dX4_lookAtField_107 : decode cX4_lookAtField 107 = .ok (.iload 4, 2) := by decide +kernel
theorem dX4_lookAtField_109 : decode cX4_lookAtField 109 = .ok (.iload 6, 2) := by decide +kernel
theorem dX4_lookAtField_111 : decode cX4_lookAtField 111 = .ok (.iconst (-1), 1) := by decide +kernel
theorem dX4_lookAtField_112 : decode cX4_lookAtField 112 = .ok (.if_icmp .eq 7, 3) := by decide +kernel
theorem dX4_lookAtField_115 : decode cX4_lookAtField 115 = .ok (.iconst 1, 1) := by decide +kernel
theorem dX4_lookAtField_116 : decode cX4_lookAtField 116 = .ok (.goto 4, 3) := by decide +kernel
theorem dX4_lookAtField_119 : decode cX4_lookAtField 119 = .ok (.iconst 0, 1) := by decide +kernel
theorem dX4_lookAtField_120 : decode cX4_lookAtField 120 = .ok (.invokevirtual 256, 3) := by decide +kernel
theorem dX4_lookAtField_123 : decode cX4_lookAtField 123 = .ok (.iload 6, 2) := by decide +kernel
theorem dX4_lookAtField_125 : decode cX4_lookAtField 125 = .ok (.iconst (-1), 1) := by decide +kernel
theorem dX4_lookAtField_126 : decode cX4_lookAtField 126 = .ok (.if_icmp .eq 14, 3) := by decide +kernel
theorem dX4_lookAtField_129 : decode cX4_lookAtField 129 = .ok (.aload_n 0, 1) := by decide +kernel
theorem dX4_lookAtField_130 : decode cX4_lookAtField 130 = .ok (.getfield 26, 3) := by decide +kernel
theorem dX4_lookAtField_133 : decode cX4_lookAtField 133 = .ok (.iload 5, 2) := by decide +kernel
theorem dX4_lookAtField_135 : decode cX4_lookAtField 135 = .ok (.iload 6, 2) := by decide +kernel
theorem dX4_lookAtField_137 : decode cX4_lookAtField 137 = .ok (.invokevirtual 260, 3) := by decide +kernel
theorem dX4_lookAtField_140 : decode cX4_lookAtField 140 = .ok (.iload 5, 2) := by decide +kernel
theorem dX4_lookAtField_142 : decode cX4_lookAtField 142 = .ok (.ireturn, 1) := by decide +kernel
def rmX4_lookAtField (d : Nat) (mc ms : Nat) : Room := { frames := 4 * d + 8, cells := mc, slots := ms, locals := 105 * d + 183 }
abbrev cX4_lookAtRecord : ByteArray := prog_7_method_16_code
def yX4_lookAtRecord : MethodName := ⟨RX4, "lookAtRecord", "(III)Z"⟩
def wsX4_lookAtRecord : List Cond := .code yX4_lookAtRecord cX4_lookAtRecord 10 (some .boolean) :: sr_G
theorem dX4_lookAtRecord_0 : decode cX4_lookAtRecord 0 = .ok (.aload_n 0, 1) := by decide +kernel
theorem dX4_lookAtRecord_1 : decode cX4_lookAtRecord 1 = .ok (.getfield 18, 3) := by decide +kernel
theorem dX4_lookAtRecord_4 : decode cX4_lookAtRecord 4 = .ok (.iload_n 2, 1) := by decide +kernel
theorem dX4_lookAtRecord_5 : decode cX4_lookAtRecord 5 = .ok (.ldc 244, 2) := by decide +kernel
theorem dX4_lookAtRecord_7 : decode cX4_lookAtRecord 7 = .ok (.invokevirtual 150, 3) := by decide +kernel
theorem dX4_lookAtRecord_10 : decode cX4_lookAtRecord 10 = .ok (.istore 4, 2) := by decide +kernel
theorem dX4_lookAtRecord_12 : decode cX4_lookAtRecord 12 = .ok (.iload 4, 2) := by decide +kernel
theorem dX4_lookAtRecord_14 : decode cX4_lookAtRecord 14 = .ok (.iconst (-1), 1) := by decide +kernel
theorem dX4_lookAtRecord_15 : decode cX4_lookAtRecord 15 = .ok (.if_icmp .ne 11, 3) := by decide +kernel
theorem dX4_lookAtRecord_18 : decode cX4_lookAtRecord 18 = .ok (.aload_n 0, 1) := by decide +kernel
theorem dX4_lookAtRecord_19 : decode cX4_lookAtRecord 19 = .ok (.bipush 8, 2) := by decide +kernel
theorem dX4_lookAtRecord_21 : decode cX4_lookAtRecord 21 = .ok (.iload_n 2, 1) := by decide +kernel
theorem dX4_lookAtRecord_22 : decode cX4_lookAtRecord 22 = .ok (.invokevirtual 49, 3) := by decide +kernel
theorem dX4_lookAtRecord_25 : decode cX4_lookAtRecord 25 = .ok (.ireturn, 1) := by decide +kernel
theorem dX4_lookAtRecord_26 : decode cX4_lookAtRecord 26 = .ok (.aload_n 0, 1) := by decide +kernel
theorem dX4_lookAtRecord_27 : decode cX4_lookAtRecord 27 = .ok (.getfield 18, 3) := by decide +kernel
theorem dX4_lookAtRecord_30 : decode cX4_lookAtRecord 30 = .ok (.iload 4, 2) := by decide +kernel
theorem dX4_lookAtRecord_32 : decode cX4_lookAtRecord 32 = .ok (.invokevirtual 122, 3) := by decide +kernel
theorem dX4_lookAtRecord_35 : decode cX4_lookAtRecord 35 = .ok (.istore 5, 2) := by decide +kernel
theorem dX4_lookAtRecord_37 : decode cX4_lookAtRecord 37 = .ok (.aload_n 0, 1) := by decide +kernel
theorem dX4_lookAtRecord_38 : decode cX4_lookAtRecord 38 = .ok (.getfield 18, 3) := by decide +kernel
theorem dX4_lookAtRecord_41 : decode cX4_lookAtRecord 41 = .ok (.iload 4, 2) := by decide +kernel
theorem dX4_lookAtRecord_43 : decode cX4_lookAtRecord 43 = .ok (.invokevirtual 89, 3) := by decide +kernel
theorem dX4_lookAtRecord_46 : decode cX4_lookAtRecord 46 = .ok (.ifCond .eq 10, 3) := by decide +kernel
theorem dX4_lookAtRecord_49 : decode cX4_lookAtRecord 49 = .ok (.iload 5, 2) := by decide +kernel
theorem dX4_lookAtRecord_51 : decode cX4_lookAtRecord 51 = .ok (.bipush 32, 2) := by decide +kernel
theorem dX4_lookAtRecord_53 : decode cX4_lookAtRecord 53 = .ok (.if_icmp .le 12, 3) := by decide +kernel
theorem dX4_lookAtRecord_56 : decode cX4_lookAtRecord 56 = .ok (.aload_n 0, 1) := by decide +kernel
theorem dX4_lookAtRecord_57 : decode cX4_lookAtRecord 57 = .ok (.bipush 11, 2) := by decide +kernel
theorem dX4_lookAtRecord_59 : decode cX4_lookAtRecord 59 = .ok (.iload 4, 2) := by decide +kernel
theorem dX4_lookAtRecord_61 : decode cX4_lookAtRecord 61 = .ok (.invokevirtual 49, 3) := by decide +kernel
theorem dX4_lookAtRecord_64 : decode cX4_lookAtRecord 64 = .ok (.ireturn, 1) := by decide +kernel
theorem dX4_lookAtRecord_65 : decode cX4_lookAtRecord 65 = .ok (.aload_n 0, 1) := by decide +kernel
theorem dX4_lookAtRecord_66 : decode cX4_lookAtRecord 66 = .ok (.getfield 22, 3) := by decide +kernel
theorem dX4_lookAtRecord_69 : decode cX4_lookAtRecord 69 = .ok (.ldc 246, 2) := by decide +kernel
theorem dX4_lookAtRecord_71 : decode cX4_lookAtRecord 71 = .ok (.invokevirtual 181, 3) := by decide +kernel
theorem dX4_lookAtRecord_74 : decode cX4_lookAtRecord 74 = .ok (.aload_n 0, 1) := by decide +kernel
theorem dX4_lookAtRecord_75 : decode cX4_lookAtRecord 75 = .ok (.getfield 18, 3) := by decide +kernel
theorem dX4_lookAtRecord_78 : decode cX4_lookAtRecord 78 = .ok (.iload 4, 2) := by decide +kernel
theorem dX4_lookAtRecord_80 : decode cX4_lookAtRecord 80 = .ok (.invokevirtual 125, 3) := by decide +kernel
theorem dX4_lookAtRecord_83 : decode cX4_lookAtRecord 83 = .ok (.istore 6, 2) := by decide +kernel
theorem dX4_lookAtRecord_85 : decode cX4_lookAtRecord 85 = .ok (.iconst (-1), 1) := by decide +kernel
theorem dX4_lookAtRecord_86 : decode cX4_lookAtRecord 86 = .ok (.istore 7, 2) := by decide +kernel
theorem dX4_lookAtRecord_88 : decode cX4_lookAtRecord 88 = .ok (.iconst 0, 1) := by decide +kernel
theorem dX4_lookAtRecord_89 : decode cX4_lookAtRecord 89 = .ok (.istore 8, 2) := by decide +kernel
theorem dX4_lookAtRecord_91 : decode cX4_lookAtRecord 91 = .ok (.iload 8, 2) := by decide +kernel
theorem dX4_lookAtRecord_93 : decode cX4_lookAtRecord 93 = .ok (.iload 5, 2) := by decide +kernel
theorem dX4_lookAtRecord_95 : decode cX4_lookAtRecord 95 = .ok (.if_icmp .ge 68, 3) := by decide +kernel
theorem dX4_lookAtRecord_98 : decode cX4_lookAtRecord 98 = .ok (.iload 8, 2) := by decide +kernel
theorem dX4_lookAtRecord_100 : decode cX4_lookAtRecord 100 = .ok (.ifCond .le 12, 3) := by decide +kernel
theorem dX4_lookAtRecord_103 : decode cX4_lookAtRecord 103 = .ok (.aload_n 0, 1) := by decide +kernel
theorem dX4_lookAtRecord_104 : decode cX4_lookAtRecord 104 = .ok (.getfield 22, 3) := by decide +kernel
theorem dX4_lookAtRecord_107 : decode cX4_lookAtRecord 107 = .ok (.bipush 44, 2) := by decide +kernel
theorem dX4_lookAtRecord_109 : decode cX4_lookAtRecord 109 = .ok (.invokevirtual 128, 3) := by decide +kernel
theorem dX4_lookAtRecord_112 : decode cX4_lookAtRecord 112 = .ok (.aload_n 0, 1) := by decide +kernel
theorem dX4_lookAtRecord_113 : decode cX4_lookAtRecord 113 = .ok (.iload_n 1, 1) := by decide +kernel
theorem dX4_lookAtRecord_114 : decode cX4_lookAtRecord 114 = .ok (.iload 6, 2) := by decide +kernel
theorem dX4_lookAtRecord_116 : decode cX4_lookAtRecord 116 = .ok (.iload_n 3, 1) := by decide +kernel
theorem dX4_lookAtRecord_117 : decode cX4_lookAtRecord 117 = .ok (.invokevirtual 248, 3) := by decide +kernel
theorem dX4_lookAtRecord_120 : decode cX4_lookAtRecord 120 = .ok (.istore 9, 2) := by decide +kernel
theorem dX4_lookAtRecord_122 : decode cX4_lookAtRecord 122 = .ok (.iload 9, 2) := by decide +kernel
theorem dX4_lookAtRecord_124 : decode cX4_lookAtRecord 124 = .ok (.iconst (-1), 1) := by decide +kernel
theorem dX4_lookAtRecord_125 : decode cX4_lookAtRecord 125 = .ok (.if_icmp .ne 5, 3) := by decide +kernel
theorem dX4_lookAtRecord_128 : decode cX4_lookAtRecord 128 = .ok (.iconst 0, 1) := by decide +kernel
theorem dX4_lookAtRecord_129 : decode cX4_lookAtRecord 129 = .ok (.ireturn, 1) := by decide +kernel
theorem dX4_lookAtRecord_130 : decode cX4_lookAtRecord 130 = .ok (.aload_n 0, 1) := by decide +kernel
theorem dX4_lookAtRecord_131 : decode cX4_lookAtRecord 131 = .ok (.getfield 22, 3) := by decide +kernel
theorem dX4_lookAtRecord_134 : decode cX4_lookAtRecord 134 = .ok (.iload_n 1, 1) := by decide +kernel
theorem dX4_lookAtRecord_135 : decode cX4_lookAtRecord 135 = .ok (.iload 7, 2) := by decide +kernel
theorem dX4_lookAtRecord_137 : decode cX4_lookAtRecord 137 = .ok (.iload 9, 2) := by decide +kernel
theorem dX4_lookAtRecord_139 : decode cX4_lookAtRecord 139 = .ok (.invokevirtual 135, 3) := by decide +kernel
theorem dX4_lookAtRecord_142 : decode cX4_lookAtRecord 142 = .ok (.iload 9, 2) := by decide +kernel
theorem dX4_lookAtRecord_144 : decode cX4_lookAtRecord 144 = .ok (.istore 7, 2) := by decide +kernel
theorem dX4_lookAtRecord_146 : decode cX4_lookAtRecord 146 = .ok (.aload_n 0, 1) := by decide +kernel
theorem dX4_lookAtRecord_147 : decode cX4_lookAtRecord 147 = .ok (.getfield 18, 3) := by decide +kernel
theorem dX4_lookAtRecord_150 : decode cX4_lookAtRecord 150 = .ok (.iload 6, 2) := by decide +kernel
theorem dX4_lookAtRecord_152 : decode cX4_lookAtRecord 152 = .ok (.invokevirtual 139, 3) := by decide +kernel
theorem dX4_lookAtRecord_155 : decode cX4_lookAtRecord 155 = .ok (.istore 6, 2) := by decide +kernel
theorem dX4_lookAtRecord_157 : decode cX4_lookAtRecord 157 = .ok (.iinc 8 1, 3) := by decide +kernel
theorem dX4_lookAtRecord_160 : decode cX4_lookAtRecord 160 = .ok (.goto (-69), 3) := by decide +kernel
theorem dX4_lookAtRecord_163 : decode cX4_lookAtRecord 163 = .ok (.aload_n 0, 1) := by decide +kernel
theorem dX4_lookAtRecord_164 : decode cX4_lookAtRecord 164 = .ok (.getfield 22, 3) := by decide +kernel
theorem dX4_lookAtRecord_167 : decode cX4_lookAtRecord 167 = .ok (.ldc 234, 2) := by decide +kernel
theorem dX4_lookAtRecord_169 : decode cX4_lookAtRecord 169 = .ok (.invokevirtual 181, 3) := by decide +kernel
theorem dX4_lookAtRecord_172 : decode cX4_lookAtRecord 172 = .ok (.iconst 1, 1) := by decide +kernel
theorem dX4_lookAtRecord_173 : decode cX4_lookAtRecord 173 = .ok (.ireturn, 1) := by decide +kernel
def rmX4_lookAtRecord (d : Nat) (mc ms : Nat) : Room := { frames := 4 * d + 9, cells := mc, slots := ms, locals := 105 * d + 209 }
abbrev cX4_lookAtObject : ByteArray := prog_7_method_10_code
def yX4_lookAtObject : MethodName := ⟨RX4, "lookAtObject", "(III)Z"⟩
def wsX4_lookAtObject : List Cond := .code yX4_lookAtObject cX4_lookAtObject 6 (some .boolean) :: sr_G
theorem dX4_lookAtObject_0 : decode cX4_lookAtObject 0 = .ok (.aload_n 0, 1) := by decide +kernel
theorem dX4_lookAtObject_1 : decode cX4_lookAtObject 1 = .ok (.getfield 18, 3) := by decide +kernel
theorem dX4_lookAtObject_4 : decode cX4_lookAtObject 4 = .ok (.iload_n 2, 1) := by decide +kernel
theorem dX4_lookAtObject_5 : decode cX4_lookAtObject 5 = .ok (.ldc 148, 2) := by decide +kernel
theorem dX4_lookAtObject_7 : decode cX4_lookAtObject 7 = .ok (.invokevirtual 150, 3) := by decide +kernel
theorem dX4_lookAtObject_10 : decode cX4_lookAtObject 10 = .ok (.istore 4, 2) := by decide +kernel
theorem dX4_lookAtObject_12 : decode cX4_lookAtObject 12 = .ok (.aload_n 0, 1) := by decide +kernel
theorem dX4_lookAtObject_13 : decode cX4_lookAtObject 13 = .ok (.getfield 18, 3) := by decide +kernel
theorem dX4_lookAtObject_16 : decode cX4_lookAtObject 16 = .ok (.iload 4, 2) := by decide +kernel
theorem dX4_lookAtObject_18 : decode cX4_lookAtObject 18 = .ok (.invokevirtual 82, 3) := by decide +kernel
theorem dX4_lookAtObject_21 : decode cX4_lookAtObject 21 = .ok (.ifCond .ne 11, 3) := by decide +kernel
theorem dX4_lookAtObject_24 : decode cX4_lookAtObject 24 = .ok (.aload_n 0, 1) := by decide +kernel
theorem dX4_lookAtObject_25 : decode cX4_lookAtObject 25 = .ok (.bipush 7, 2) := by decide +kernel
theorem dX4_lookAtObject_27 : decode cX4_lookAtObject 27 = .ok (.iload_n 2, 1) := by decide +kernel
theorem dX4_lookAtObject_28 : decode cX4_lookAtObject 28 = .ok (.invokevirtual 49, 3) := by decide +kernel
theorem dX4_lookAtObject_31 : decode cX4_lookAtObject 31 = .ok (.ireturn, 1) := by decide +kernel
theorem dX4_lookAtObject_32 : decode cX4_lookAtObject 32 = .ok (.aload_n 0, 1) := by decide +kernel
theorem dX4_lookAtObject_33 : decode cX4_lookAtObject 33 = .ok (.getfield 18, 3) := by decide +kernel
theorem dX4_lookAtObject_36 : decode cX4_lookAtObject 36 = .ok (.iload 4, 2) := by decide +kernel
theorem dX4_lookAtObject_38 : decode cX4_lookAtObject 38 = .ok (.invokestatic 103, 3) := by decide +kernel
theorem dX4_lookAtObject_41 : decode cX4_lookAtObject 41 = .ok (.istore 5, 2) := by decide +kernel
theorem dX4_lookAtObject_43 : decode cX4_lookAtObject 43 = .ok (.iload 5, 2) := by decide +kernel
theorem dX4_lookAtObject_45 : decode cX4_lookAtObject 45 = .ok (.bipush 6, 2) := by decide +kernel
theorem dX4_lookAtObject_47 : decode cX4_lookAtObject 47 = .ok (.if_icmp .ne 15, 3) := by decide +kernel
theorem dX4_lookAtObject_50 : decode cX4_lookAtObject 50 = .ok (.aload_n 0, 1) := by decide +kernel
theorem dX4_lookAtObject_51 : decode cX4_lookAtObject 51 = .ok (.iload_n 1, 1) := by decide +kernel
theorem dX4_lookAtObject_52 : decode cX4_lookAtObject 52 = .ok (.iload_n 2, 1) := by decide +kernel
theorem dX4_lookAtObject_53 : decode cX4_lookAtObject 53 = .ok (.iload_n 3, 1) := by decide +kernel
theorem dX4_lookAtObject_54 : decode cX4_lookAtObject 54 = .ok (.iload 5, 2) := by decide +kernel
theorem dX4_lookAtObject_56 : decode cX4_lookAtObject 56 = .ok (.ldc 154, 2) := by decide +kernel
theorem dX4_lookAtObject_58 : decode cX4_lookAtObject 58 = .ok (.invokevirtual 156, 3) := by decide +kernel
theorem dX4_lookAtObject_61 : decode cX4_lookAtObject 61 = .ok (.ireturn, 1) := by decide +kernel
theorem dX4_lookAtObject_62 : decode cX4_lookAtObject 62 = .ok (.iload 5, 2) := by decide +kernel
theorem dX4_lookAtObject_64 : decode cX4_lookAtObject 64 = .ok (.bipush 7, 2) := by decide +kernel
theorem dX4_lookAtObject_66 : decode cX4_lookAtObject 66 = .ok (.if_icmp .ne 15, 3) := by decide +kernel
theorem dX4_lookAtObject_69 : decode cX4_lookAtObject 69 = .ok (.aload_n 0, 1) := by decide +kernel
theorem dX4_lookAtObject_70 : decode cX4_lookAtObject 70 = .ok (.iload_n 1, 1) := by decide +kernel
theorem dX4_lookAtObject_71 : decode cX4_lookAtObject 71 = .ok (.iload_n 2, 1) := by decide +kernel
theorem dX4_lookAtObject_72 : decode cX4_lookAtObject 72 = .ok (.iload_n 3, 1) := by decide +kernel
theorem dX4_lookAtObject_73 : decode cX4_lookAtObject 73 = .ok (.iload 5, 2) := by decide +kernel
theorem dX4_lookAtObject_75 : decode cX4_lookAtObject 75 = .ok (.ldc 160, 2) := by decide +kernel
theorem dX4_lookAtObject_77 : decode cX4_lookAtObject 77 = .ok (.invokevirtual 156, 3) := by decide +kernel
theorem dX4_lookAtObject_80 : decode cX4_lookAtObject 80 = .ok (.ireturn, 1) := by decide +kernel
theorem dX4_lookAtObject_81 : decode cX4_lookAtObject 81 = .ok (.iload 5, 2) := by decide +kernel
theorem dX4_lookAtObject_83 : decode cX4_lookAtObject 83 = .ok (.invokestatic 162, 3) := by decide +kernel
theorem dX4_lookAtObject_86 : decode cX4_lookAtObject 86 = .ok (.ifCond .ne 11, 3) := by decide +kernel
theorem dX4_lookAtObject_89 : decode cX4_lookAtObject 89 = .ok (.aload_n 0, 1) := by decide +kernel
theorem dX4_lookAtObject_90 : decode cX4_lookAtObject 90 = .ok (.iload_n 1, 1) := by decide +kernel
theorem dX4_lookAtObject_91 : decode cX4_lookAtObject 91 = .ok (.iload 4, 2) := by decide +kernel
theorem dX4_lookAtObject_93 : decode cX4_lookAtObject 93 = .ok (.invokevirtual 86, 3) := by decide +kernel
theorem dX4_lookAtObject_96 : decode cX4_lookAtObject 96 = .ok (.ireturn, 1) := by decide +kernel
theorem dX4_lookAtObject_97 : decode cX4_lookAtObject 97 = .ok (.aload_n 0, 1) := by decide +kernel
theorem dX4_lookAtObject_98 : decode cX4_lookAtObject 98 = .ok (.iload_n 1, 1) := by decide +kernel
theorem dX4_lookAtObject_99 : decode cX4_lookAtObject 99 = .ok (.iload_n 2, 1) := by decide +kernel
theorem dX4_lookAtObject_100 : decode cX4_lookAtObject 100 = .ok (.iload 5, 2) := by decide +kernel
theorem dX4_lookAtObject_102 : decode cX4_lookAtObject 102 = .ok (.invokevirtual 165, 3) := by decide +kernel
theorem dX4_lookAtObject_105 : decode cX4_lookAtObject 105 = .ok (.ifCond .ne 5, 3) := by decide +kernel
theorem dX4_lookAtObject_108 : decode cX4_lookAtObject 108 = .ok (.iconst 0, 1) := by decide +kernel
theorem dX4_lookAtObject_109 : decode cX4_lookAtObject 109 = .ok (.ireturn, 1) := by decide +kernel
theorem dX4_lookAtObject_110 : decode cX4_lookAtObject 110 = .ok (.iload 5, 2) := by decide +kernel
theorem dX4_lookAtObject_112 : decode cX4_lookAtObject 112 = .ok (.bipush 8, 2) := by decide +kernel
theorem dX4_lookAtObject_114 : decode cX4_lookAtObject 114 = .ok (.if_icmp .ne 10, 3) := by decide +kernel
theorem dX4_lookAtObject_117 : decode cX4_lookAtObject 117 = .ok (.aload_n 0, 1) := by decide +kernel
theorem dX4_lookAtObject_118 : decode cX4_lookAtObject 118 = .ok (.iload_n 1, 1) := by decide +kernel
theorem dX4_lookAtObject_119 : decode cX4_lookAtObject 119 = .ok (.iload_n 2, 1) := by decide +kernel
theorem dX4_lookAtObject_120 : decode cX4_lookAtObject 120 = .ok (.invokevirtual 168, 3) := by decide +kernel
theorem dX4_lookAtObject_123 : decode cX4_lookAtObject 123 = .ok (.ireturn, 1) := by decide +kernel
theorem dX4_lookAtObject_124 : decode cX4_lookAtObject 124 = .ok (.iload 5, 2) := by decide +kernel
theorem dX4_lookAtObject_126 : decode cX4_lookAtObject 126 = .ok (.bipush 9, 2) := by decide +kernel
theorem dX4_lookAtObject_128 : decode cX4_lookAtObject 128 = .ok (.if_icmp .ne 12, 3) := by decide +kernel
theorem dX4_lookAtObject_131 : decode cX4_lookAtObject 131 = .ok (.aload_n 0, 1) := by decide +kernel
theorem dX4_lookAtObject_132 : decode cX4_lookAtObject 132 = .ok (.iload_n 1, 1) := by decide +kernel
theorem dX4_lookAtObject_133 : decode cX4_lookAtObject 133 = .ok (.iload_n 2, 1) := by decide +kernel
theorem dX4_lookAtObject_134 : decode cX4_lookAtObject 134 = .ok (.invokevirtual 171, 3) := by decide +kernel
theorem dX4_lookAtObject_137 : decode cX4_lookAtObject 137 = .ok (.goto 10, 3) := by decide +kernel
theorem dX4_lookAtObject_140 : decode cX4_lookAtObject 140 = .ok (.aload_n 0, 1) := by decide +kernel
theorem dX4_lookAtObject_141 : decode cX4_lookAtObject 141 = .ok (.iload_n 1, 1) := by decide +kernel
theorem dX4_lookAtObject_142 : decode cX4_lookAtObject 142 = .ok (.iload_n 2, 1) := by decide +kernel
theorem dX4_lookAtObject_143 : decode cX4_lookAtObject 143 = .ok (.iload_n 3, 1) := by decide +kernel
theorem dX4_lookAtObject_144 : decode cX4_lookAtObject 144 = .ok (.invokevirtual 174, 3) := by decide +kernel
theorem dX4_lookAtObject_147 : decode cX4_lookAtObject 147 = .ok (.ireturn, 1) := by decide +kernel
def rmX4_lookAtObject (d : Nat) (mc ms : Nat) : Room := { frames := 4 * d + 10, cells := mc, slots := ms, locals := 105 * d + 238 }
abbrev cX4_lookAt : ByteArray := prog_7_method_6_code
def yX4_lookAt : MethodName := ⟨RX4, "lookAt", "(IIZ)I"⟩
def wsX4_lookAt : List Cond := .code yX4_lookAt cX4_lookAt 6 (some .int) :: sr_G
theorem dX4_lookAt_0 : decode cX4_lookAt 0 = .ok (.aload_n 0, 1) := by decide +kernel
theorem dX4_lookAt_1 : decode cX4_lookAt 1 = .ok (.getfield 22, 3) := by decide +kernel
theorem dX4_lookAt_4 : decode cX4_lookAt 4 = .ok (.invokevirtual 79, 3) := by decide +kernel
theorem dX4_lookAt_7 : decode cX4_lookAt 7 = .ok (.istore 4, 2) := by decide +kernel
theorem dX4_lookAt_9 : decode cX4_lookAt 9 = .ok (.iload 4, 2) := by decide +kernel
theorem dX4_lookAt_11 : decode cX4_lookAt 11 = .ok (.iconst (-1), 1) := by decide +kernel
theorem dX4_lookAt_12 : decode cX4_lookAt 12 = .ok (.if_icmp .ne 15, 3) := by decide +kernel
theorem dX4_lookAt_15 : decode cX4_lookAt 15 = .ok (.aload_n 0, 1) := by decide +kernel
theorem dX4_lookAt_16 : decode cX4_lookAt 16 = .ok (.bipush 13, 2) := by decide +kernel
theorem dX4_lookAt_18 : decode cX4_lookAt 18 = .ok (.iload_n 1, 1) := by decide +kernel
theorem dX4_lookAt_19 : decode cX4_lookAt 19 = .ok (.invokevirtual 49, 3) := by decide +kernel
theorem dX4_lookAt_22 : decode cX4_lookAt 22 = .ok (.istore 5, 2) := by decide +kernel
theorem dX4_lookAt_24 : decode cX4_lookAt 24 = .ok (.goto 101, 3) := by decide +kernel
theorem dX4_lookAt_27 : decode cX4_lookAt 27 = .ok (.iload_n 2, 1) := by decide +kernel
theorem dX4_lookAt_28 : decode cX4_lookAt 28 = .ok (.bipush 16, 2) := by decide +kernel
theorem dX4_lookAt_30 : decode cX4_lookAt 30 = .ok (.if_icmp .lt 15, 3) := by decide +kernel
theorem dX4_lookAt_33 : decode cX4_lookAt 33 = .ok (.aload_n 0, 1) := by decide +kernel
theorem dX4_lookAt_34 : decode cX4_lookAt 34 = .ok (.bipush 14, 2) := by decide +kernel
theorem dX4_lookAt_36 : decode cX4_lookAt 36 = .ok (.iload_n 1, 1) := by decide +kernel
theorem dX4_lookAt_37 : decode cX4_lookAt 37 = .ok (.invokevirtual 49, 3) := by decide +kernel
theorem dX4_lookAt_40 : decode cX4_lookAt 40 = .ok (.istore 5, 2) := by decide +kernel
theorem dX4_lookAt_42 : decode cX4_lookAt 42 = .ok (.goto 83, 3) := by decide +kernel
theorem dX4_lookAt_45 : decode cX4_lookAt 45 = .ok (.aload_n 0, 1) := by decide +kernel
theorem dX4_lookAt_46 : decode cX4_lookAt 46 = .ok (.getfield 18, 3) := by decide +kernel
theorem dX4_lookAt_49 : decode cX4_lookAt 49 = .ok (.iload_n 1, 1) := by decide +kernel
theorem dX4_lookAt_50 : decode cX4_lookAt 50 = .ok (.invokevirtual 82, 3) := by decide +kernel
theorem dX4_lookAt_53 : decode cX4_lookAt 53 = .ok (.ifCond .eq 15, 3) := by decide +kernel
theorem dX4_lookAt_56 : decode cX4_lookAt 56 = .ok (.aload_n 0, 1) := by decide +kernel
theorem dX4_lookAt_57 : decode cX4_lookAt 57 = .ok (.iload 4, 2) := by decide +kernel
theorem dX4_lookAt_59 : decode cX4_lookAt 59 = .ok (.iload_n 1, 1) := by decide +kernel
theorem dX4_lookAt_60 : decode cX4_lookAt 60 = .ok (.invokevirtual 86, 3) := by decide +kernel
theorem dX4_lookAt_63 : decode cX4_lookAt 63 = .ok (.istore 5, 2) := by decide +kernel
theorem dX4_lookAt_65 : decode cX4_lookAt 65 = .ok (.goto 60, 3) := by decide +kernel
theorem dX4_lookAt_68 : decode cX4_lookAt 68 = .ok (.aload_n 0, 1) := by decide +kernel
theorem dX4_lookAt_69 : decode cX4_lookAt 69 = .ok (.getfield 18, 3) := by decide +kernel
theorem dX4_lookAt_72 : decode cX4_lookAt 72 = .ok (.iload_n 1, 1) := by decide +kernel
theorem dX4_lookAt_73 : decode cX4_lookAt 73 = .ok (.invokevirtual 89, 3) := by decide +kernel
theorem dX4_lookAt_76 : decode cX4_lookAt 76 = .ok (.ifCond .eq 17, 3) := by decide +kernel
theorem dX4_lookAt_79 : decode cX4_lookAt 79 = .ok (.aload_n 0, 1) := by decide +kernel
theorem dX4_lookAt_80 : decode cX4_lookAt 80 = .ok (.iload 4, 2) := by decide +kernel
theorem dX4_lookAt_82 : decode cX4_lookAt 82 = .ok (.iload_n 1, 1) := by decide +kernel
theorem dX4_lookAt_83 : decode cX4_lookAt 83 = .ok (.iload_n 2, 1) := by decide +kernel
theorem dX4_lookAt_84 : decode cX4_lookAt 84 = .ok (.iload_n 3, 1) := by decide +kernel
theorem dX4_lookAt_85 : decode cX4_lookAt 85 = .ok (.invokevirtual 92, 3) := by decide +kernel
theorem dX4_lookAt_88 : decode cX4_lookAt 88 = .ok (.istore 5, 2) := by decide +kernel
theorem dX4_lookAt_90 : decode cX4_lookAt 90 = .ok (.goto 35, 3) := by decide +kernel
theorem dX4_lookAt_93 : decode cX4_lookAt 93 = .ok (.aload_n 0, 1) := by decide +kernel
theorem dX4_lookAt_94 : decode cX4_lookAt 94 = .ok (.getfield 18, 3) := by decide +kernel
theorem dX4_lookAt_97 : decode cX4_lookAt 97 = .ok (.iload_n 1, 1) := by decide +kernel
theorem dX4_lookAt_98 : decode cX4_lookAt 98 = .ok (.invokevirtual 96, 3) := by decide +kernel
theorem dX4_lookAt_101 : decode cX4_lookAt 101 = .ok (.ifCond .eq 16, 3) := by decide +kernel
theorem dX4_lookAt_104 : decode cX4_lookAt 104 = .ok (.aload_n 0, 1) := by decide +kernel
theorem dX4_lookAt_105 : decode cX4_lookAt 105 = .ok (.iload 4, 2) := by decide +kernel
theorem dX4_lookAt_107 : decode cX4_lookAt 107 = .ok (.iload_n 1, 1) := by decide +kernel
theorem dX4_lookAt_108 : decode cX4_lookAt 108 = .ok (.iload_n 2, 1) := by decide +kernel
theorem dX4_lookAt_109 : decode cX4_lookAt 109 = .ok (.invokevirtual 99, 3) := by decide +kernel
theorem dX4_lookAt_112 : decode cX4_lookAt 112 = .ok (.istore 5, 2) := by decide +kernel
theorem dX4_lookAt_114 : decode cX4_lookAt 114 = .ok (.goto 11, 3) := by decide +kernel
theorem dX4_lookAt_117 : decode cX4_lookAt 117 = .ok (.aload_n 0, 1) := by decide +kernel
theorem dX4_lookAt_118 : decode cX4_lookAt 118 = .ok (.iconst 2, 1) := by decide +kernel
theorem dX4_lookAt_119 : decode cX4_lookAt 119 = .ok (.iload_n 1, 1) := by decide +kernel
theorem dX4_lookAt_120 : decode cX4_lookAt 120 = .ok (.invokevirtual 49, 3) := by decide +kernel
theorem dX4_lookAt_123 : decode cX4_lookAt 123 = .ok (.istore 5, 2) := by decide +kernel
theorem dX4_lookAt_125 : decode cX4_lookAt 125 = .ok (.iload 5, 2) := by decide +kernel
theorem dX4_lookAt_127 : decode cX4_lookAt 127 = .ok (.ifCond .eq 8, 3) := by decide +kernel
theorem dX4_lookAt_130 : decode cX4_lookAt 130 = .ok (.iload 4, 2) := by decide +kernel
theorem dX4_lookAt_132 : decode cX4_lookAt 132 = .ok (.goto 4, 3) := by decide +kernel
theorem dX4_lookAt_135 : decode cX4_lookAt 135 = .ok (.iconst (-1), 1) := by decide +kernel
theorem dX4_lookAt_136 : decode cX4_lookAt 136 = .ok (.ireturn, 1) := by decide +kernel
def rmX4_lookAt (d : Nat) (mc ms : Nat) : Room := { frames := 4 * d + 7, cells := mc, slots := ms, locals := 105 * d + 158 }
theorem g4_53 (c0 : Cond) : GoodIn (c0 :: sr_G) (wsV RX4 53 RX4 yX4_lookAt wsX4_lookAt) := sr_V c0 (sr_ins (by decide +kernel))
theorem g4_135 (c0 : Cond) : GoodIn (c0 :: sr_G) (wsV RX4 135 RX6 yX6_join wsX6_join) := sr_V c0 (sr_ins (by decide +kernel))
theorem g4_132 (c0 : Cond) : GoodIn (c0 :: sr_G) (wsV RX4 132 RX4 yX4_hasAlike wsX4_hasAlike) := sr_V c0 (sr_ins (by decide +kernel))
theorem g4_251 (c0 : Cond) : GoodIn (c0 :: sr_G) (wsV RX4 251 RX4 yX4_isGoodField wsX4_isGoodField) := sr_V c0 (sr_ins (by decide +kernel))
theorem g4_256 (c0 : Cond) : GoodIn (c0 :: sr_G) (wsV RX4 256 RX6 yX6_setField wsX6_setField) := sr_V c0 (sr_ins (by decide +kernel))
theorem g4_260 (c0 : Cond) : GoodIn (c0 :: sr_G) (wsV RX4 260 RX11 yX11_add wsX11_add) := sr_V c0 (sr_ins (by decide +kernel))
theorem g4_248 (c0 : Cond) : GoodIn (c0 :: sr_G) (wsV RX4 248 RX4 yX4_lookAtField wsX4_lookAtField) := sr_V c0 (sr_ins (by decide +kernel))
theorem g4_162 (c0 : Cond) : GoodIn (c0 :: sr_G) (va_wsS RX4 162 yX3_isNamed wsX3_isNamed) := sr_S c0 (sr_ins (by decide +kernel))
theorem g4_165 (c0 : Cond) : GoodIn (c0 :: sr_G) (wsV RX4 165 RX4 yX4_define wsX4_define) := sr_V c0 (sr_ins (by decide +kernel))
theorem g4_174 (c0 : Cond) : GoodIn (c0 :: sr_G) (wsV RX4 174 RX4 yX4_lookAtRecord wsX4_lookAtRecord) := sr_V c0 (sr_ins (by decide +kernel))
theorem g4_171 (c0 : Cond) : GoodIn (c0 :: sr_G) (wsV RX4 171 RX4 yX4_lookAtEnum wsX4_lookAtEnum) := sr_V c0 (sr_ins (by decide +kernel))
theorem g4_168 (c0 : Cond) : GoodIn (c0 :: sr_G) (wsV RX4 168 RX4 yX4_lookAtFixed wsX4_lookAtFixed) := sr_V c0 (sr_ins (by decide +kernel))
theorem g4_86 (c0 : Cond) : GoodIn (c0 :: sr_G) (wsV RX4 86 RX4 yX4_lookAtWord wsX4_lookAtWord) := sr_V c0 (sr_ins (by decide +kernel))
theorem g4_156 (c0 : Cond) : GoodIn (c0 :: sr_G) (wsV RX4 156 RX4 yX4_lookAtItems wsX4_lookAtItems) := sr_V c0 (sr_ins (by decide +kernel))
theorem g4_79 (c0 : Cond) : GoodIn (c0 :: sr_G) (wsV RX4 79 RX6 yX6_open wsX6_open) := sr_V c0 (sr_ins (by decide +kernel))
theorem g4_99 (c0 : Cond) : GoodIn (c0 :: sr_G) (wsV RX4 99 RX4 yX4_lookAtObject wsX4_lookAtObject) := sr_V c0 (sr_ins (by decide +kernel))
theorem g4_92 (c0 : Cond) : GoodIn (c0 :: sr_G) (wsV RX4 92 RX4 yX4_lookAtUnion wsX4_lookAtUnion) := sr_V c0 (sr_ins (by decide +kernel))
