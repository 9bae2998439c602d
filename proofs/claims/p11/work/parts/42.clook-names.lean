abbrev cX4_faultPlace : ByteArray := prog_7_method_2_code
def yX4_faultPlace : MethodName := ⟨RX4, "faultPlace", "()I"⟩
def wsX4_faultPlace : List Cond := .code yX4_faultPlace cX4_faultPlace 1 (some .int) :: sr_G
theorem dX4_faultPlace_0 : decode cX4_faultPlace 0 = .ok (.aload_n 0, 1) := by decide +kernel
theorem dX4_faultPlace_1 : decode cX4_faultPlace 1 = .ok (.getfield 15, 3) := by decide +kernel
theorem dX4_faultPlace_4 : decode cX4_faultPlace 4 = .ok (.ireturn, 1) := by decide +kernel
def rmX4_faultPlace (mc ms : Nat) : Room := { frames := 0, cells := mc, slots := ms, locals := 0 }
abbrev cX4_refuse : ByteArray := prog_7_method_4_code
def yX4_refuse : MethodName := ⟨RX4, "refuse", "(II)Z"⟩
def wsX4_refuse : List Cond := .code yX4_refuse cX4_refuse 3 (some .boolean) :: sr_G
theorem dX4_refuse_0 : decode cX4_refuse 0 = .ok (.aload_n 0, 1) := by decide +kernel
theorem dX4_refuse_1 : decode cX4_refuse 1 = .ok (.iload_n 1, 1) := by decide +kernel
theorem dX4_refuse_2 : decode cX4_refuse 2 = .ok (.putfield 9, 3) := by decide +kernel
theorem dX4_refuse_5 : decode cX4_refuse 5 = .ok (.aload_n 0, 1) := by decide +kernel
theorem dX4_refuse_6 : decode cX4_refuse 6 = .ok (.iload_n 2, 1) := by decide +kernel
theorem dX4_refuse_7 : decode cX4_refuse 7 = .ok (.putfield 15, 3) := by decide +kernel
theorem dX4_refuse_10 : decode cX4_refuse 10 = .ok (.iconst 0, 1) := by decide +kernel
theorem dX4_refuse_11 : decode cX4_refuse 11 = .ok (.ireturn, 1) := by decide +kernel
def rmX4_refuse (mc ms : Nat) : Room := { frames := 0, cells := mc, slots := ms, locals := 0 }
abbrev cX4_lookAtWord : ByteArray := prog_7_method_7_code
def yX4_lookAtWord : MethodName := ⟨RX4, "lookAtWord", "(II)Z"⟩
def wsX4_lookAtWord : List Cond := .code yX4_lookAtWord cX4_lookAtWord 5 (some .boolean) :: sr_G
theorem dX4_lookAtWord_0 : decode cX4_lookAtWord 0 = .ok (.aload_n 0, 1) := by decide +kernel
theorem dX4_lookAtWord_1 : decode cX4_lookAtWord 1 = .ok (.getfield 18, 3) := by decide +kernel
theorem dX4_lookAtWord_4 : decode cX4_lookAtWord 4 = .ok (.iload_n 2, 1) := by decide +kernel
theorem dX4_lookAtWord_5 : decode cX4_lookAtWord 5 = .ok (.invokestatic 103, 3) := by decide +kernel
theorem dX4_lookAtWord_8 : decode cX4_lookAtWord 8 = .ok (.istore_n 3, 1) := by decide +kernel
theorem dX4_lookAtWord_9 : decode cX4_lookAtWord 9 = .ok (.iload_n 3, 1) := by decide +kernel
theorem dX4_lookAtWord_10 : decode cX4_lookAtWord 10 = .ok (.iconst (-1), 1) := by decide +kernel
theorem dX4_lookAtWord_11 : decode cX4_lookAtWord 11 = .ok (.if_icmp .eq 20, 3) := by decide +kernel
theorem dX4_lookAtWord_14 : decode cX4_lookAtWord 14 = .ok (.iload_n 3, 1) := by decide +kernel
theorem dX4_lookAtWord_15 : decode cX4_lookAtWord 15 = .ok (.iconst 5, 1) := by decide +kernel
theorem dX4_lookAtWord_16 : decode cX4_lookAtWord 16 = .ok (.if_icmp .gt 15, 3) := by decide +kernel
theorem dX4_lookAtWord_19 : decode cX4_lookAtWord 19 = .ok (.aload_n 0, 1) := by decide +kernel
theorem dX4_lookAtWord_20 : decode cX4_lookAtWord 20 = .ok (.getfield 22, 3) := by decide +kernel
theorem dX4_lookAtWord_23 : decode cX4_lookAtWord 23 = .ok (.iload_n 1, 1) := by decide +kernel
theorem dX4_lookAtWord_24 : decode cX4_lookAtWord 24 = .ok (.iload_n 3, 1) := by decide +kernel
theorem dX4_lookAtWord_25 : decode cX4_lookAtWord 25 = .ok (.invokevirtual 109, 3) := by decide +kernel
theorem dX4_lookAtWord_28 : decode cX4_lookAtWord 28 = .ok (.goto 40, 3) := by decide +kernel
theorem dX4_lookAtWord_31 : decode cX4_lookAtWord 31 = .ok (.aload_n 0, 1) := by decide +kernel
theorem dX4_lookAtWord_32 : decode cX4_lookAtWord 32 = .ok (.getfield 22, 3) := by decide +kernel
theorem dX4_lookAtWord_35 : decode cX4_lookAtWord 35 = .ok (.aload_n 0, 1) := by decide +kernel
theorem dX4_lookAtWord_36 : decode cX4_lookAtWord 36 = .ok (.getfield 18, 3) := by decide +kernel
theorem dX4_lookAtWord_39 : decode cX4_lookAtWord 39 = .ok (.iload_n 2, 1) := by decide +kernel
theorem dX4_lookAtWord_40 : decode cX4_lookAtWord 40 = .ok (.invokevirtual 113, 3) := by decide +kernel
theorem dX4_lookAtWord_43 : decode cX4_lookAtWord 43 = .ok (.istore 4, 2) := by decide +kernel
theorem dX4_lookAtWord_45 : decode cX4_lookAtWord 45 = .ok (.iload 4, 2) := by decide +kernel
theorem dX4_lookAtWord_47 : decode cX4_lookAtWord 47 = .ok (.iconst (-1), 1) := by decide +kernel
theorem dX4_lookAtWord_48 : decode cX4_lookAtWord 48 = .ok (.if_icmp .ne 10, 3) := by decide +kernel
theorem dX4_lookAtWord_51 : decode cX4_lookAtWord 51 = .ok (.aload_n 0, 1) := by decide +kernel
theorem dX4_lookAtWord_52 : decode cX4_lookAtWord 52 = .ok (.iconst 3, 1) := by decide +kernel
theorem dX4_lookAtWord_53 : decode cX4_lookAtWord 53 = .ok (.iload_n 2, 1) := by decide +kernel
theorem dX4_lookAtWord_54 : decode cX4_lookAtWord 54 = .ok (.invokevirtual 49, 3) := by decide +kernel
theorem dX4_lookAtWord_57 : decode cX4_lookAtWord 57 = .ok (.ireturn, 1) := by decide +kernel
theorem dX4_lookAtWord_58 : decode cX4_lookAtWord 58 = .ok (.aload_n 0, 1) := by decide +kernel
theorem dX4_lookAtWord_59 : decode cX4_lookAtWord 59 = .ok (.getfield 22, 3) := by decide +kernel
theorem dX4_lookAtWord_62 : decode cX4_lookAtWord 62 = .ok (.iload_n 1, 1) := by decide +kernel
theorem dX4_lookAtWord_63 : decode cX4_lookAtWord 63 = .ok (.iload 4, 2) := by decide +kernel
theorem dX4_lookAtWord_65 : decode cX4_lookAtWord 65 = .ok (.invokevirtual 116, 3) := by decide +kernel
theorem dX4_lookAtWord_68 : decode cX4_lookAtWord 68 = .ok (.aload_n 0, 1) := by decide +kernel
theorem dX4_lookAtWord_69 : decode cX4_lookAtWord 69 = .ok (.getfield 22, 3) := by decide +kernel
theorem dX4_lookAtWord_72 : decode cX4_lookAtWord 72 = .ok (.aload_n 0, 1) := by decide +kernel
theorem dX4_lookAtWord_73 : decode cX4_lookAtWord 73 = .ok (.getfield 18, 3) := by decide +kernel
theorem dX4_lookAtWord_76 : decode cX4_lookAtWord 76 = .ok (.iload_n 2, 1) := by decide +kernel
theorem dX4_lookAtWord_77 : decode cX4_lookAtWord 77 = .ok (.invokevirtual 119, 3) := by decide +kernel
theorem dX4_lookAtWord_80 : decode cX4_lookAtWord 80 = .ok (.pop, 1) := by decide +kernel
theorem dX4_lookAtWord_81 : decode cX4_lookAtWord 81 = .ok (.iconst 1, 1) := by decide +kernel
theorem dX4_lookAtWord_82 : decode cX4_lookAtWord 82 = .ok (.ireturn, 1) := by decide +kernel
def rmX4_lookAtWord (mc ms : Nat) : Room := { frames := 6, cells := mc, slots := ms, locals := 130 }
abbrev cX4_hasAlike : ByteArray := prog_7_method_9_code
def yX4_hasAlike : MethodName := ⟨RX4, "hasAlike", "(II)Z"⟩
def wsX4_hasAlike : List Cond := .code yX4_hasAlike cX4_hasAlike 5 (some .boolean) :: sr_G
theorem dX4_hasAlike_0 : decode cX4_hasAlike 0 = .ok (.aload_n 0, 1) := by decide +kernel
theorem dX4_hasAlike_1 : decode cX4_hasAlike 1 = .ok (.getfield 22, 3) := by decide +kernel
theorem dX4_hasAlike_4 : decode cX4_hasAlike 4 = .ok (.iload_n 1, 1) := by decide +kernel
theorem dX4_hasAlike_5 : decode cX4_hasAlike 5 = .ok (.invokevirtual 142, 3) := by decide +kernel
theorem dX4_hasAlike_8 : decode cX4_hasAlike 8 = .ok (.istore_n 3, 1) := by decide +kernel
theorem dX4_hasAlike_9 : decode cX4_hasAlike 9 = .ok (.iconst 0, 1) := by decide +kernel
theorem dX4_hasAlike_10 : decode cX4_hasAlike 10 = .ok (.istore 4, 2) := by decide +kernel
theorem dX4_hasAlike_12 : decode cX4_hasAlike 12 = .ok (.iload 4, 2) := by decide +kernel
theorem dX4_hasAlike_14 : decode cX4_hasAlike 14 = .ok (.aload_n 0, 1) := by decide +kernel
theorem dX4_hasAlike_15 : decode cX4_hasAlike 15 = .ok (.getfield 22, 3) := by decide +kernel
theorem dX4_hasAlike_18 : decode cX4_hasAlike 18 = .ok (.iload_n 1, 1) := by decide +kernel
theorem dX4_hasAlike_19 : decode cX4_hasAlike 19 = .ok (.invokevirtual 143, 3) := by decide +kernel
theorem dX4_hasAlike_22 : decode cX4_hasAlike 22 = .ok (.if_icmp .ge 32, 3) := by decide +kernel
theorem dX4_hasAlike_25 : decode cX4_hasAlike 25 = .ok (.aload_n 0, 1) := by decide +kernel
theorem dX4_hasAlike_26 : decode cX4_hasAlike 26 = .ok (.getfield 22, 3) := by decide +kernel
theorem dX4_hasAlike_29 : decode cX4_hasAlike 29 = .ok (.iload_n 3, 1) := by decide +kernel
theorem dX4_hasAlike_30 : decode cX4_hasAlike 30 = .ok (.iload_n 2, 1) := by decide +kernel
theorem dX4_hasAlike_31 : decode cX4_hasAlike 31 = .ok (.invokevirtual 144, 3) := by decide +kernel
theorem dX4_hasAlike_34 : decode cX4_hasAlike 34 = .ok (.ifCond .eq 5, 3) := by decide +kernel
theorem dX4_hasAlike_37 : decode cX4_hasAlike 37 = .ok (.iconst 1, 1) := by decide +kernel
theorem dX4_hasAlike_38 : decode cX4_hasAlike 38 = .ok (.ireturn, 1) := by decide +kernel
theorem dX4_hasAlike_39 : decode cX4_hasAlike 39 = .ok (.aload_n 0, 1) := by decide +kernel
theorem dX4_hasAlike_40 : decode cX4_hasAlike 40 = .ok (.getfield 22, 3) := by decide +kernel
theorem dX4_hasAlike_43 : decode cX4_hasAlike 43 = .ok (.iload_n 3, 1) := by decide +kernel
theorem dX4_hasAlike_44 : decode cX4_hasAlike 44 = .ok (.invokevirtual 147, 3) := by decide +kernel
theorem dX4_hasAlike_47 : decode cX4_hasAlike 47 = .ok (.istore_n 3, 1) := by decide +kernel
theorem dX4_hasAlike_48 : decode cX4_hasAlike 48 = .ok (.iinc 4 1, 3) := by decide +kernel
theorem dX4_hasAlike_51 : decode cX4_hasAlike 51 = .ok (.goto (-39), 3) := by decide +kernel
theorem dX4_hasAlike_54 : decode cX4_hasAlike 54 = .ok (.iconst 0, 1) := by decide +kernel
theorem dX4_hasAlike_55 : decode cX4_hasAlike 55 = .ok (.ireturn, 1) := by decide +kernel
def rmX4_hasAlike (mc ms : Nat) : Room := { frames := 3, cells := mc, slots := ms, locals := 64 }
abbrev cX4_define : ByteArray := prog_7_method_12_code
def yX4_define : MethodName := ⟨RX4, "define", "(III)Z"⟩
def wsX4_define : List Cond := .code yX4_define cX4_define 5 (some .boolean) :: sr_G
theorem dX4_define_0 : decode cX4_define 0 = .ok (.aload_n 0, 1) := by decide +kernel
theorem dX4_define_1 : decode cX4_define 1 = .ok (.getfield 18, 3) := by decide +kernel
theorem dX4_define_4 : decode cX4_define 4 = .ok (.iload_n 2, 1) := by decide +kernel
theorem dX4_define_5 : decode cX4_define 5 = .ok (.ldc 185, 2) := by decide +kernel
theorem dX4_define_7 : decode cX4_define 7 = .ok (.invokevirtual 150, 3) := by decide +kernel
theorem dX4_define_10 : decode cX4_define 10 = .ok (.istore 4, 2) := by decide +kernel
theorem dX4_define_12 : decode cX4_define 12 = .ok (.aload_n 0, 1) := by decide +kernel
theorem dX4_define_13 : decode cX4_define 13 = .ok (.getfield 18, 3) := by decide +kernel
theorem dX4_define_16 : decode cX4_define 16 = .ok (.iload 4, 2) := by decide +kernel
theorem dX4_define_18 : decode cX4_define 18 = .ok (.invokevirtual 82, 3) := by decide +kernel
theorem dX4_define_21 : decode cX4_define 21 = .ok (.ifCond .ne 11, 3) := by decide +kernel
theorem dX4_define_24 : decode cX4_define 24 = .ok (.aload_n 0, 1) := by decide +kernel
theorem dX4_define_25 : decode cX4_define 25 = .ok (.bipush 8, 2) := by decide +kernel
theorem dX4_define_27 : decode cX4_define 27 = .ok (.iload_n 2, 1) := by decide +kernel
theorem dX4_define_28 : decode cX4_define 28 = .ok (.invokevirtual 49, 3) := by decide +kernel
theorem dX4_define_31 : decode cX4_define 31 = .ok (.ireturn, 1) := by decide +kernel
theorem dX4_define_32 : decode cX4_define 32 = .ok (.aload_n 0, 1) := by decide +kernel
theorem dX4_define_33 : decode cX4_define 33 = .ok (.getfield 18, 3) := by decide +kernel
theorem dX4_define_36 : decode cX4_define 36 = .ok (.iload 4, 2) := by decide +kernel
theorem dX4_define_38 : decode cX4_define 38 = .ok (.invokevirtual 187, 3) := by decide +kernel
theorem dX4_define_41 : decode cX4_define 41 = .ok (.ifCond .eq 33, 3) := by decide +kernel
theorem dX4_define_44 : decode cX4_define 44 = .ok (.aload_n 0, 1) := by decide +kernel
theorem dX4_define_45 : decode cX4_define 45 = .ok (.getfield 18, 3) := by decide +kernel
theorem dX4_define_48 : decode cX4_define 48 = .ok (.iload 4, 2) := by decide +kernel
theorem dX4_define_50 : decode cX4_define 50 = .ok (.invokestatic 103, 3) := by decide +kernel
theorem dX4_define_53 : decode cX4_define 53 = .ok (.iconst (-1), 1) := by decide +kernel
theorem dX4_define_54 : decode cX4_define 54 = .ok (.if_icmp .ne 20, 3) := by decide +kernel
theorem dX4_define_57 : decode cX4_define 57 = .ok (.aload_n 0, 1) := by decide +kernel
theorem dX4_define_58 : decode cX4_define 58 = .ok (.getfield 22, 3) := by decide +kernel
theorem dX4_define_61 : decode cX4_define 61 = .ok (.aload_n 0, 1) := by decide +kernel
theorem dX4_define_62 : decode cX4_define 62 = .ok (.getfield 18, 3) := by decide +kernel
theorem dX4_define_65 : decode cX4_define 65 = .ok (.iload 4, 2) := by decide +kernel
theorem dX4_define_67 : decode cX4_define 67 = .ok (.invokevirtual 113, 3) := by decide +kernel
theorem dX4_define_70 : decode cX4_define 70 = .ok (.iconst (-1), 1) := by decide +kernel
theorem dX4_define_71 : decode cX4_define 71 = .ok (.if_icmp .eq 12, 3) := by decide +kernel
theorem dX4_define_74 : decode cX4_define 74 = .ok (.aload_n 0, 1) := by decide +kernel
theorem dX4_define_75 : decode cX4_define 75 = .ok (.bipush 9, 2) := by decide +kernel
theorem dX4_define_77 : decode cX4_define 77 = .ok (.iload 4, 2) := by decide +kernel
theorem dX4_define_79 : decode cX4_define 79 = .ok (.invokevirtual 49, 3) := by decide +kernel
theorem dX4_define_82 : decode cX4_define 82 = .ok (.ireturn, 1) := by decide +kernel
theorem dX4_define_83 : decode cX4_define 83 = .ok (.aload_n 0, 1) := by decide +kernel
theorem dX4_define_84 : decode cX4_define 84 = .ok (.getfield 22, 3) := by decide +kernel
theorem dX4_define_87 : decode cX4_define 87 = .ok (.iload_n 1, 1) := by decide +kernel
theorem dX4_define_88 : decode cX4_define 88 = .ok (.iload_n 3, 1) := by decide +kernel
theorem dX4_define_89 : decode cX4_define 89 = .ok (.invokevirtual 109, 3) := by decide +kernel
theorem dX4_define_92 : decode cX4_define 92 = .ok (.aload_n 0, 1) := by decide +kernel
theorem dX4_define_93 : decode cX4_define 93 = .ok (.getfield 22, 3) := by decide +kernel
theorem dX4_define_96 : decode cX4_define 96 = .ok (.ldc 190, 2) := by decide +kernel
theorem dX4_define_98 : decode cX4_define 98 = .ok (.invokevirtual 181, 3) := by decide +kernel
theorem dX4_define_101 : decode cX4_define 101 = .ok (.aload_n 0, 1) := by decide +kernel
theorem dX4_define_102 : decode cX4_define 102 = .ok (.getfield 22, 3) := by decide +kernel
theorem dX4_define_105 : decode cX4_define 105 = .ok (.iload_n 1, 1) := by decide +kernel
theorem dX4_define_106 : decode cX4_define 106 = .ok (.aload_n 0, 1) := by decide +kernel
theorem dX4_define_107 : decode cX4_define 107 = .ok (.getfield 22, 3) := by decide +kernel
theorem dX4_define_110 : decode cX4_define 110 = .ok (.aload_n 0, 1) := by decide +kernel
theorem dX4_define_111 : decode cX4_define 111 = .ok (.getfield 18, 3) := by decide +kernel
theorem dX4_define_114 : decode cX4_define 114 = .ok (.iload 4, 2) := by decide +kernel
theorem dX4_define_116 : decode cX4_define 116 = .ok (.invokevirtual 119, 3) := by decide +kernel
theorem dX4_define_119 : decode cX4_define 119 = .ok (.invokevirtual 192, 3) := by decide +kernel
theorem dX4_define_122 : decode cX4_define 122 = .ok (.aload_n 0, 1) := by decide +kernel
theorem dX4_define_123 : decode cX4_define 123 = .ok (.getfield 22, 3) := by decide +kernel
theorem dX4_define_126 : decode cX4_define 126 = .ok (.ldc 195, 2) := by decide +kernel
theorem dX4_define_128 : decode cX4_define 128 = .ok (.invokevirtual 181, 3) := by decide +kernel
theorem dX4_define_131 : decode cX4_define 131 = .ok (.aload_n 0, 1) := by decide +kernel
theorem dX4_define_132 : decode cX4_define 132 = .ok (.getfield 22, 3) := by decide +kernel
theorem dX4_define_135 : decode cX4_define 135 = .ok (.iload_n 3, 1) := by decide +kernel
theorem dX4_define_136 : decode cX4_define 136 = .ok (.invokestatic 197, 3) := by decide +kernel
theorem dX4_define_139 : decode cX4_define 139 = .ok (.invokevirtual 181, 3) := by decide +kernel
theorem dX4_define_142 : decode cX4_define 142 = .ok (.aload_n 0, 1) := by decide +kernel
theorem dX4_define_143 : decode cX4_define 143 = .ok (.getfield 22, 3) := by decide +kernel
theorem dX4_define_146 : decode cX4_define 146 = .ok (.bipush 34, 2) := by decide +kernel
theorem dX4_define_148 : decode cX4_define 148 = .ok (.invokevirtual 128, 3) := by decide +kernel
theorem dX4_define_151 : decode cX4_define 151 = .ok (.iconst 1, 1) := by decide +kernel
theorem dX4_define_152 : decode cX4_define 152 = .ok (.ireturn, 1) := by decide +kernel
def rmX4_define (mc ms : Nat) : Room := { frames := 6, cells := mc, slots := ms, locals := 132 }
abbrev cX4_lookAtFixed : ByteArray := prog_7_method_13_code
def yX4_lookAtFixed : MethodName := ⟨RX4, "lookAtFixed", "(II)Z"⟩
def wsX4_lookAtFixed : List Cond := .code yX4_lookAtFixed cX4_lookAtFixed 6 (some .boolean) :: sr_G
theorem dX4_lookAtFixed_0 : decode cX4_lookAtFixed 0 = .ok (.aload_n 0, 1) := by decide +kernel
theorem dX4_lookAtFixed_1 : decode cX4_lookAtFixed 1 = .ok (.getfield 18, 3) := by decide +kernel
theorem dX4_lookAtFixed_4 : decode cX4_lookAtFixed 4 = .ok (.iload_n 2, 1) := by decide +kernel
theorem dX4_lookAtFixed_5 : decode cX4_lookAtFixed 5 = .ok (.ldc 201, 2) := by decide +kernel
theorem dX4_lookAtFixed_7 : decode cX4_lookAtFixed 7 = .ok (.invokevirtual 150, 3) := by decide +kernel
theorem dX4_lookAtFixed_10 : decode cX4_lookAtFixed 10 = .ok (.istore_n 3, 1) := by decide +kernel
theorem dX4_lookAtFixed_11 : decode cX4_lookAtFixed 11 = .ok (.iload_n 3, 1) := by decide +kernel
theorem dX4_lookAtFixed_12 : decode cX4_lookAtFixed 12 = .ok (.iconst (-1), 1) := by decide +kernel
theorem dX4_lookAtFixed_13 : decode cX4_lookAtFixed 13 = .ok (.if_icmp .ne 11, 3) := by decide +kernel
theorem dX4_lookAtFixed_16 : decode cX4_lookAtFixed 16 = .ok (.aload_n 0, 1) := by decide +kernel
theorem dX4_lookAtFixed_17 : decode cX4_lookAtFixed 17 = .ok (.bipush 8, 2) := by decide +kernel
theorem dX4_lookAtFixed_19 : decode cX4_lookAtFixed 19 = .ok (.iload_n 2, 1) := by decide +kernel
theorem dX4_lookAtFixed_20 : decode cX4_lookAtFixed 20 = .ok (.invokevirtual 49, 3) := by decide +kernel
theorem dX4_lookAtFixed_23 : decode cX4_lookAtFixed 23 = .ok (.ireturn, 1) := by decide +kernel
theorem dX4_lookAtFixed_24 : decode cX4_lookAtFixed 24 = .ok (.aload_n 0, 1) := by decide +kernel
theorem dX4_lookAtFixed_25 : decode cX4_lookAtFixed 25 = .ok (.getfield 18, 3) := by decide +kernel
theorem dX4_lookAtFixed_28 : decode cX4_lookAtFixed 28 = .ok (.iload_n 3, 1) := by decide +kernel
theorem dX4_lookAtFixed_29 : decode cX4_lookAtFixed 29 = .ok (.invokevirtual 203, 3) := by decide +kernel
theorem dX4_lookAtFixed_32 : decode cX4_lookAtFixed 32 = .ok (.ifCond .eq 14, 3) := by decide +kernel
theorem dX4_lookAtFixed_35 : decode cX4_lookAtFixed 35 = .ok (.aload_n 0, 1) := by decide +kernel
theorem dX4_lookAtFixed_36 : decode cX4_lookAtFixed 36 = .ok (.getfield 18, 3) := by decide +kernel
theorem dX4_lookAtFixed_39 : decode cX4_lookAtFixed 39 = .ok (.iload_n 3, 1) := by decide +kernel
theorem dX4_lookAtFixed_40 : decode cX4_lookAtFixed 40 = .ok (.invokevirtual 206, 3) := by decide +kernel
theorem dX4_lookAtFixed_43 : decode cX4_lookAtFixed 43 = .ok (.goto 6, 3) := by decide +kernel
theorem dX4_lookAtFixed_46 : decode cX4_lookAtFixed 46 = .ok (.ldc2_w 210, 3) := by decide +kernel
theorem dX4_lookAtFixed_49 : decode cX4_lookAtFixed 49 = .ok (.lstore 4, 2) := by decide +kernel
theorem dX4_lookAtFixed_51 : decode cX4_lookAtFixed 51 = .ok (.lload 4, 2) := by decide +kernel
theorem dX4_lookAtFixed_53 : decode cX4_lookAtFixed 53 = .ok (.lconst 0, 1) := by decide +kernel
theorem dX4_lookAtFixed_54 : decode cX4_lookAtFixed 54 = .ok (.lcmp, 1) := by decide +kernel
theorem dX4_lookAtFixed_55 : decode cX4_lookAtFixed 55 = .ok (.ifCond .lt 12, 3) := by decide +kernel
theorem dX4_lookAtFixed_58 : decode cX4_lookAtFixed 58 = .ok (.lload 4, 2) := by decide +kernel
theorem dX4_lookAtFixed_60 : decode cX4_lookAtFixed 60 = .ok (.ldc2_w 212, 3) := by decide +kernel
theorem dX4_lookAtFixed_63 : decode cX4_lookAtFixed 63 = .ok (.lcmp, 1) := by decide +kernel
theorem dX4_lookAtFixed_64 : decode cX4_lookAtFixed 64 = .ok (.ifCond .le 11, 3) := by decide +kernel
theorem dX4_lookAtFixed_67 : decode cX4_lookAtFixed 67 = .ok (.aload_n 0, 1) := by decide +kernel
theorem dX4_lookAtFixed_68 : decode cX4_lookAtFixed 68 = .ok (.bipush 10, 2) := by decide +kernel
theorem dX4_lookAtFixed_70 : decode cX4_lookAtFixed 70 = .ok (.iload_n 3, 1) := by decide +kernel
theorem dX4_lookAtFixed_71 : decode cX4_lookAtFixed 71 = .ok (.invokevirtual 49, 3) := by decide +kernel
theorem dX4_lookAtFixed_74 : decode cX4_lookAtFixed 74 = .ok (.ireturn, 1) := by decide +kernel
theorem dX4_lookAtFixed_75 : decode cX4_lookAtFixed 75 = .ok (.aload_n 0, 1) := by decide +kernel
theorem dX4_lookAtFixed_76 : decode cX4_lookAtFixed 76 = .ok (.getfield 22, 3) := by decide +kernel
theorem dX4_lookAtFixed_79 : decode cX4_lookAtFixed 79 = .ok (.iload_n 1, 1) := by decide +kernel
theorem dX4_lookAtFixed_80 : decode cX4_lookAtFixed 80 = .ok (.lload 4, 2) := by decide +kernel
theorem dX4_lookAtFixed_82 : decode cX4_lookAtFixed 82 = .ok (.l2i, 1) := by decide +kernel
theorem dX4_lookAtFixed_83 : decode cX4_lookAtFixed 83 = .ok (.invokevirtual 214, 3) := by decide +kernel
theorem dX4_lookAtFixed_86 : decode cX4_lookAtFixed 86 = .ok (.aload_n 0, 1) := by decide +kernel
theorem dX4_lookAtFixed_87 : decode cX4_lookAtFixed 87 = .ok (.getfield 22, 3) := by decide +kernel
theorem dX4_lookAtFixed_90 : decode cX4_lookAtFixed 90 = .ok (.ldc 217, 2) := by decide +kernel
theorem dX4_lookAtFixed_92 : decode cX4_lookAtFixed 92 = .ok (.invokevirtual 181, 3) := by decide +kernel
theorem dX4_lookAtFixed_95 : decode cX4_lookAtFixed 95 = .ok (.aload_n 0, 1) := by decide +kernel
theorem dX4_lookAtFixed_96 : decode cX4_lookAtFixed 96 = .ok (.getfield 22, 3) := by decide +kernel
theorem dX4_lookAtFixed_99 : decode cX4_lookAtFixed 99 = .ok (.lload 4, 2) := by decide +kernel
theorem dX4_lookAtFixed_101 : decode cX4_lookAtFixed 101 = .ok (.l2i, 1) := by decide +kernel
theorem dX4_lookAtFixed_102 : decode cX4_lookAtFixed 102 = .ok (.invokevirtual 219, 3) := by decide +kernel
theorem dX4_lookAtFixed_105 : decode cX4_lookAtFixed 105 = .ok (.aload_n 0, 1) := by decide +kernel
theorem dX4_lookAtFixed_106 : decode cX4_lookAtFixed 106 = .ok (.getfield 22, 3) := by decide +kernel
theorem dX4_lookAtFixed_109 : decode cX4_lookAtFixed 109 = .ok (.bipush 125, 2) := by decide +kernel
theorem dX4_lookAtFixed_111 : decode cX4_lookAtFixed 111 = .ok (.invokevirtual 128, 3) := by decide +kernel
theorem dX4_lookAtFixed_114 : decode cX4_lookAtFixed 114 = .ok (.iconst 1, 1) := by decide +kernel
theorem dX4_lookAtFixed_115 : decode cX4_lookAtFixed 115 = .ok (.ireturn, 1) := by decide +kernel
def rmX4_lookAtFixed (mc ms : Nat) : Room := { frames := 6, cells := mc, slots := ms, locals := 132 }
abbrev cX4_lookAtEnumDefault : ByteArray := prog_7_method_15_code
def yX4_lookAtEnumDefault : MethodName := ⟨RX4, "lookAtEnumDefault", "(II)Z"⟩
def wsX4_lookAtEnumDefault : List Cond := .code yX4_lookAtEnumDefault cX4_lookAtEnumDefault 3 (some .boolean) :: sr_G
theorem dX4_lookAtEnumDefault_0 : decode cX4_lookAtEnumDefault 0 = .ok (.iload_n 2, 1) := by decide +kernel
theorem dX4_lookAtEnumDefault_1 : decode cX4_lookAtEnumDefault 1 = .ok (.iconst (-1), 1) := by decide +kernel
theorem dX4_lookAtEnumDefault_2 : decode cX4_lookAtEnumDefault 2 = .ok (.if_icmp .ne 5, 3) := by decide +kernel
theorem dX4_lookAtEnumDefault_5 : decode cX4_lookAtEnumDefault 5 = .ok (.iconst 1, 1) := by decide +kernel
theorem dX4_lookAtEnumDefault_6 : decode cX4_lookAtEnumDefault 6 = .ok (.ireturn, 1) := by decide +kernel
theorem dX4_lookAtEnumDefault_7 : decode cX4_lookAtEnumDefault 7 = .ok (.aload_n 0, 1) := by decide +kernel
theorem dX4_lookAtEnumDefault_8 : decode cX4_lookAtEnumDefault 8 = .ok (.getfield 18, 3) := by decide +kernel
theorem dX4_lookAtEnumDefault_11 : decode cX4_lookAtEnumDefault 11 = .ok (.iload_n 2, 1) := by decide +kernel
theorem dX4_lookAtEnumDefault_12 : decode cX4_lookAtEnumDefault 12 = .ok (.invokevirtual 82, 3) := by decide +kernel
theorem dX4_lookAtEnumDefault_15 : decode cX4_lookAtEnumDefault 15 = .ok (.ifCond .eq 19, 3) := by decide +kernel
theorem dX4_lookAtEnumDefault_18 : decode cX4_lookAtEnumDefault 18 = .ok (.aload_n 0, 1) := by decide +kernel
theorem dX4_lookAtEnumDefault_19 : decode cX4_lookAtEnumDefault 19 = .ok (.getfield 22, 3) := by decide +kernel
theorem dX4_lookAtEnumDefault_22 : decode cX4_lookAtEnumDefault 22 = .ok (.iload_n 1, 1) := by decide +kernel
theorem dX4_lookAtEnumDefault_23 : decode cX4_lookAtEnumDefault 23 = .ok (.aload_n 0, 1) := by decide +kernel
theorem dX4_lookAtEnumDefault_24 : decode cX4_lookAtEnumDefault 24 = .ok (.getfield 18, 3) := by decide +kernel
theorem dX4_lookAtEnumDefault_27 : decode cX4_lookAtEnumDefault 27 = .ok (.iload_n 2, 1) := by decide +kernel
theorem dX4_lookAtEnumDefault_28 : decode cX4_lookAtEnumDefault 28 = .ok (.invokevirtual 226, 3) := by decide +kernel
theorem dX4_lookAtEnumDefault_31 : decode cX4_lookAtEnumDefault 31 = .ok (.ifCond .ne 11, 3) := by decide +kernel
theorem dX4_lookAtEnumDefault_34 : decode cX4_lookAtEnumDefault 34 = .ok (.aload_n 0, 1) := by decide +kernel
theorem dX4_lookAtEnumDefault_35 : decode cX4_lookAtEnumDefault 35 = .ok (.bipush 12, 2) := by decide +kernel
theorem dX4_lookAtEnumDefault_37 : decode cX4_lookAtEnumDefault 37 = .ok (.iload_n 2, 1) := by decide +kernel
theorem dX4_lookAtEnumDefault_38 : decode cX4_lookAtEnumDefault 38 = .ok (.invokevirtual 49, 3) := by decide +kernel
theorem dX4_lookAtEnumDefault_41 : decode cX4_lookAtEnumDefault 41 = .ok (.ireturn, 1) := by decide +kernel
theorem dX4_lookAtEnumDefault_42 : decode cX4_lookAtEnumDefault 42 = .ok (.aload_n 0, 1) := by decide +kernel
theorem dX4_lookAtEnumDefault_43 : decode cX4_lookAtEnumDefault 43 = .ok (.getfield 22, 3) := by decide +kernel
theorem dX4_lookAtEnumDefault_46 : decode cX4_lookAtEnumDefault 46 = .ok (.iload_n 1, 1) := by decide +kernel
theorem dX4_lookAtEnumDefault_47 : decode cX4_lookAtEnumDefault 47 = .ok (.invokevirtual 241, 3) := by decide +kernel
theorem dX4_lookAtEnumDefault_50 : decode cX4_lookAtEnumDefault 50 = .ok (.iconst 1, 1) := by decide +kernel
theorem dX4_lookAtEnumDefault_51 : decode cX4_lookAtEnumDefault 51 = .ok (.ireturn, 1) := by decide +kernel
def rmX4_lookAtEnumDefault (mc ms : Nat) : Room := { frames := 4, cells := mc, slots := ms, locals := 93 }
abbrev cX4_lookAtEnum : ByteArray := prog_7_method_14_code
def yX4_lookAtEnum : MethodName := ⟨RX4, "lookAtEnum", "(II)Z"⟩
def wsX4_lookAtEnum : List Cond := .code yX4_lookAtEnum cX4_lookAtEnum 7 (some .boolean) :: sr_G
theorem dX4_lookAtEnum_0 : decode cX4_lookAtEnum 0 = .ok (.aload_n 0, 1) := by decide +kernel
theorem dX4_lookAtEnum_1 : decode cX4_lookAtEnum 1 = .ok (.getfield 18, 3) := by decide +kernel
theorem dX4_lookAtEnum_4 : decode cX4_lookAtEnum 4 = .ok (.iload_n 2, 1) := by decide +kernel
theorem dX4_lookAtEnum_5 : decode cX4_lookAtEnum 5 = .ok (.ldc 222, 2) := by decide +kernel
theorem dX4_lookAtEnum_7 : decode cX4_lookAtEnum 7 = .ok (.invokevirtual 150, 3) := by decide +kernel
theorem dX4_lookAtEnum_10 : decode cX4_lookAtEnum 10 = .ok (.istore_n 3, 1) := by decide +kernel
theorem dX4_lookAtEnum_11 : decode cX4_lookAtEnum 11 = .ok (.iload_n 3, 1) := by decide +kernel
theorem dX4_lookAtEnum_12 : decode cX4_lookAtEnum 12 = .ok (.iconst (-1), 1) := by decide +kernel
theorem dX4_lookAtEnum_13 : decode cX4_lookAtEnum 13 = .ok (.if_icmp .ne 11, 3) := by decide +kernel
theorem dX4_lookAtEnum_16 : decode cX4_lookAtEnum 16 = .ok (.aload_n 0, 1) := by decide +kernel
theorem dX4_lookAtEnum_17 : decode cX4_lookAtEnum 17 = .ok (.bipush 8, 2) := by decide +kernel
theorem dX4_lookAtEnum_19 : decode cX4_lookAtEnum 19 = .ok (.iload_n 2, 1) := by decide +kernel
theorem dX4_lookAtEnum_20 : decode cX4_lookAtEnum 20 = .ok (.invokevirtual 49, 3) := by decide +kernel
theorem dX4_lookAtEnum_23 : decode cX4_lookAtEnum 23 = .ok (.ireturn, 1) := by decide +kernel
theorem dX4_lookAtEnum_24 : decode cX4_lookAtEnum 24 = .ok (.aload_n 0, 1) := by decide +kernel
theorem dX4_lookAtEnum_25 : decode cX4_lookAtEnum 25 = .ok (.getfield 18, 3) := by decide +kernel
theorem dX4_lookAtEnum_28 : decode cX4_lookAtEnum 28 = .ok (.iload_n 3, 1) := by decide +kernel
theorem dX4_lookAtEnum_29 : decode cX4_lookAtEnum 29 = .ok (.invokevirtual 122, 3) := by decide +kernel
theorem dX4_lookAtEnum_32 : decode cX4_lookAtEnum 32 = .ok (.istore 4, 2) := by decide +kernel
theorem dX4_lookAtEnum_34 : decode cX4_lookAtEnum 34 = .ok (.aload_n 0, 1) := by decide +kernel
theorem dX4_lookAtEnum_35 : decode cX4_lookAtEnum 35 = .ok (.getfield 18, 3) := by decide +kernel
theorem dX4_lookAtEnum_38 : decode cX4_lookAtEnum 38 = .ok (.iload_n 3, 1) := by decide +kernel
theorem dX4_lookAtEnum_39 : decode cX4_lookAtEnum 39 = .ok (.invokevirtual 89, 3) := by decide +kernel
theorem dX4_lookAtEnum_42 : decode cX4_lookAtEnum 42 = .ok (.ifCond .eq 16, 3) := by decide +kernel
theorem dX4_lookAtEnum_45 : decode cX4_lookAtEnum 45 = .ok (.iload 4, 2) := by decide +kernel
theorem dX4_lookAtEnum_47 : decode cX4_lookAtEnum 47 = .ok (.iconst 1, 1) := by decide +kernel
theorem dX4_lookAtEnum_48 : decode cX4_lookAtEnum 48 = .ok (.if_icmp .lt 10, 3) := by decide +kernel
theorem dX4_lookAtEnum_51 : decode cX4_lookAtEnum 51 = .ok (.iload 4, 2) := by decide +kernel
theorem dX4_lookAtEnum_53 : decode cX4_lookAtEnum 53 = .ok (.bipush 32, 2) := by decide +kernel
theorem dX4_lookAtEnum_55 : decode cX4_lookAtEnum 55 = .ok (.if_icmp .le 11, 3) := by decide +kernel
theorem dX4_lookAtEnum_58 : decode cX4_lookAtEnum 58 = .ok (.aload_n 0, 1) := by decide +kernel
theorem dX4_lookAtEnum_59 : decode cX4_lookAtEnum 59 = .ok (.bipush 11, 2) := by decide +kernel
theorem dX4_lookAtEnum_61 : decode cX4_lookAtEnum 61 = .ok (.iload_n 3, 1) := by decide +kernel
theorem dX4_lookAtEnum_62 : decode cX4_lookAtEnum 62 = .ok (.invokevirtual 49, 3) := by decide +kernel
theorem dX4_lookAtEnum_65 : decode cX4_lookAtEnum 65 = .ok (.ireturn, 1) := by decide +kernel
theorem dX4_lookAtEnum_66 : decode cX4_lookAtEnum 66 = .ok (.aload_n 0, 1) := by decide +kernel
theorem dX4_lookAtEnum_67 : decode cX4_lookAtEnum 67 = .ok (.getfield 22, 3) := by decide +kernel
theorem dX4_lookAtEnum_70 : decode cX4_lookAtEnum 70 = .ok (.ldc 224, 2) := by decide +kernel
theorem dX4_lookAtEnum_72 : decode cX4_lookAtEnum 72 = .ok (.invokevirtual 181, 3) := by decide +kernel
theorem dX4_lookAtEnum_75 : decode cX4_lookAtEnum 75 = .ok (.aload_n 0, 1) := by decide +kernel
theorem dX4_lookAtEnum_76 : decode cX4_lookAtEnum 76 = .ok (.getfield 18, 3) := by decide +kernel
theorem dX4_lookAtEnum_79 : decode cX4_lookAtEnum 79 = .ok (.iload_n 3, 1) := by decide +kernel
theorem dX4_lookAtEnum_80 : decode cX4_lookAtEnum 80 = .ok (.invokevirtual 125, 3) := by decide +kernel
theorem dX4_lookAtEnum_83 : decode cX4_lookAtEnum 83 = .ok (.istore 5, 2) := by decide +kernel
theorem dX4_lookAtEnum_85 : decode cX4_lookAtEnum 85 = .ok (.iconst 0, 1) := by decide +kernel
theorem dX4_lookAtEnum_86 : decode cX4_lookAtEnum 86 = .ok (.istore 6, 2) := by decide +kernel
theorem dX4_lookAtEnum_88 : decode cX4_lookAtEnum 88 = .ok (.iload 6, 2) := by decide +kernel
theorem dX4_lookAtEnum_90 : decode cX4_lookAtEnum 90 = .ok (.iload 4, 2) := by decide +kernel
theorem dX4_lookAtEnum_92 : decode cX4_lookAtEnum 92 = .ok (.if_icmp .ge 72, 3) := by decide +kernel
theorem dX4_lookAtEnum_95 : decode cX4_lookAtEnum 95 = .ok (.aload_n 0, 1) := by decide +kernel
theorem dX4_lookAtEnum_96 : decode cX4_lookAtEnum 96 = .ok (.getfield 18, 3) := by decide +kernel
theorem dX4_lookAtEnum_99 : decode cX4_lookAtEnum 99 = .ok (.iload 5, 2) := by decide +kernel
theorem dX4_lookAtEnum_101 : decode cX4_lookAtEnum 101 = .ok (.invokevirtual 187, 3) := by decide +kernel
theorem dX4_lookAtEnum_104 : decode cX4_lookAtEnum 104 = .ok (.ifCond .eq 20, 3) := by decide +kernel
theorem dX4_lookAtEnum_107 : decode cX4_lookAtEnum 107 = .ok (.aload_n 0, 1) := by decide +kernel
theorem dX4_lookAtEnum_108 : decode cX4_lookAtEnum 108 = .ok (.getfield 22, 3) := by decide +kernel
theorem dX4_lookAtEnum_111 : decode cX4_lookAtEnum 111 = .ok (.iload_n 1, 1) := by decide +kernel
theorem dX4_lookAtEnum_112 : decode cX4_lookAtEnum 112 = .ok (.aload_n 0, 1) := by decide +kernel
theorem dX4_lookAtEnum_113 : decode cX4_lookAtEnum 113 = .ok (.getfield 18, 3) := by decide +kernel
theorem dX4_lookAtEnum_116 : decode cX4_lookAtEnum 116 = .ok (.iload 5, 2) := by decide +kernel
theorem dX4_lookAtEnum_118 : decode cX4_lookAtEnum 118 = .ok (.invokevirtual 226, 3) := by decide +kernel
theorem dX4_lookAtEnum_121 : decode cX4_lookAtEnum 121 = .ok (.ifCond .eq 12, 3) := by decide +kernel
theorem dX4_lookAtEnum_124 : decode cX4_lookAtEnum 124 = .ok (.aload_n 0, 1) := by decide +kernel
theorem dX4_lookAtEnum_125 : decode cX4_lookAtEnum 125 = .ok (.bipush 11, 2) := by decide +kernel
theorem dX4_lookAtEnum_127 : decode cX4_lookAtEnum 127 = .ok (.iload 5, 2) := by decide +kernel
theorem dX4_lookAtEnum_129 : decode cX4_lookAtEnum 129 = .ok (.invokevirtual 49, 3) := by decide +kernel
theorem dX4_lookAtEnum_132 : decode cX4_lookAtEnum 132 = .ok (.ireturn, 1) := by decide +kernel
theorem dX4_lookAtEnum_133 : decode cX4_lookAtEnum 133 = .ok (.aload_n 0, 1) := by decide +kernel
theorem dX4_lookAtEnum_134 : decode cX4_lookAtEnum 134 = .ok (.getfield 22, 3) := by decide +kernel
theorem dX4_lookAtEnum_137 : decode cX4_lookAtEnum 137 = .ok (.iload_n 1, 1) := by decide +kernel
theorem dX4_lookAtEnum_138 : decode cX4_lookAtEnum 138 = .ok (.aload_n 0, 1) := by decide +kernel
theorem dX4_lookAtEnum_139 : decode cX4_lookAtEnum 139 = .ok (.getfield 18, 3) := by decide +kernel
theorem dX4_lookAtEnum_142 : decode cX4_lookAtEnum 142 = .ok (.iload 5, 2) := by decide +kernel
theorem dX4_lookAtEnum_144 : decode cX4_lookAtEnum 144 = .ok (.invokevirtual 230, 3) := by decide +kernel
theorem dX4_lookAtEnum_147 : decode cX4_lookAtEnum 147 = .ok (.aload_n 0, 1) := by decide +kernel
theorem dX4_lookAtEnum_148 : decode cX4_lookAtEnum 148 = .ok (.getfield 18, 3) := by decide +kernel
theorem dX4_lookAtEnum_151 : decode cX4_lookAtEnum 151 = .ok (.iload 5, 2) := by decide +kernel
theorem dX4_lookAtEnum_153 : decode cX4_lookAtEnum 153 = .ok (.invokevirtual 139, 3) := by decide +kernel
theorem dX4_lookAtEnum_156 : decode cX4_lookAtEnum 156 = .ok (.istore 5, 2) := by decide +kernel
theorem dX4_lookAtEnum_158 : decode cX4_lookAtEnum 158 = .ok (.iinc 6 1, 3) := by decide +kernel
theorem dX4_lookAtEnum_161 : decode cX4_lookAtEnum 161 = .ok (.goto (-73), 3) := by decide +kernel
theorem dX4_lookAtEnum_164 : decode cX4_lookAtEnum 164 = .ok (.aload_n 0, 1) := by decide +kernel
theorem dX4_lookAtEnum_165 : decode cX4_lookAtEnum 165 = .ok (.getfield 22, 3) := by decide +kernel
theorem dX4_lookAtEnum_168 : decode cX4_lookAtEnum 168 = .ok (.ldc 234, 2) := by decide +kernel
theorem dX4_lookAtEnum_170 : decode cX4_lookAtEnum 170 = .ok (.invokevirtual 181, 3) := by decide +kernel
theorem dX4_lookAtEnum_173 : decode cX4_lookAtEnum 173 = .ok (.aload_n 0, 1) := by decide +kernel
theorem dX4_lookAtEnum_174 : decode cX4_lookAtEnum 174 = .ok (.iload_n 1, 1) := by decide +kernel
theorem dX4_lookAtEnum_175 : decode cX4_lookAtEnum 175 = .ok (.aload_n 0, 1) := by decide +kernel
theorem dX4_lookAtEnum_176 : decode cX4_lookAtEnum 176 = .ok (.getfield 18, 3) := by decide +kernel
theorem dX4_lookAtEnum_179 : decode cX4_lookAtEnum 179 = .ok (.iload_n 2, 1) := by decide +kernel
theorem dX4_lookAtEnum_180 : decode cX4_lookAtEnum 180 = .ok (.ldc 236, 2) := by decide +kernel
theorem dX4_lookAtEnum_182 : decode cX4_lookAtEnum 182 = .ok (.invokevirtual 150, 3) := by decide +kernel
theorem dX4_lookAtEnum_185 : decode cX4_lookAtEnum 185 = .ok (.invokevirtual 238, 3) := by decide +kernel
theorem dX4_lookAtEnum_188 : decode cX4_lookAtEnum 188 = .ok (.ireturn, 1) := by decide +kernel
def rmX4_lookAtEnum (mc ms : Nat) : Room := { frames := 6, cells := mc, slots := ms, locals := 132 }
abbrev cX4_isGoodField : ByteArray := prog_7_method_18_code
def yX4_isGoodField : MethodName := ⟨RX4, "isGoodField", "(II)Z"⟩
def wsX4_isGoodField : List Cond := .code yX4_isGoodField cX4_isGoodField 4 (some .boolean) :: sr_G
theorem dX4_isGoodField_0 : decode cX4_isGoodField 0 = .ok (.aload_n 0, 1) := by decide +kernel
theorem dX4_isGoodField_1 : decode cX4_isGoodField 1 = .ok (.getfield 18, 3) := by decide +kernel
theorem dX4_isGoodField_4 : decode cX4_isGoodField 4 = .ok (.iload_n 2, 1) := by decide +kernel
theorem dX4_isGoodField_5 : decode cX4_isGoodField 5 = .ok (.invokevirtual 96, 3) := by decide +kernel
theorem dX4_isGoodField_8 : decode cX4_isGoodField 8 = .ok (.ifCond .ne 11, 3) := by decide +kernel
theorem dX4_isGoodField_11 : decode cX4_isGoodField 11 = .ok (.aload_n 0, 1) := by decide +kernel
theorem dX4_isGoodField_12 : decode cX4_isGoodField 12 = .ok (.bipush 11, 2) := by decide +kernel
theorem dX4_isGoodField_14 : decode cX4_isGoodField 14 = .ok (.iload_n 2, 1) := by decide +kernel
theorem dX4_isGoodField_15 : decode cX4_isGoodField 15 = .ok (.invokevirtual 49, 3) := by decide +kernel
theorem dX4_isGoodField_18 : decode cX4_isGoodField 18 = .ok (.ireturn, 1) := by decide +kernel
theorem dX4_isGoodField_19 : decode cX4_isGoodField 19 = .ok (.aload_n 0, 1) := by decide +kernel
theorem dX4_isGoodField_20 : decode cX4_isGoodField 20 = .ok (.getfield 18, 3) := by decide +kernel
theorem dX4_isGoodField_23 : decode cX4_isGoodField 23 = .ok (.iload_n 2, 1) := by decide +kernel
theorem dX4_isGoodField_24 : decode cX4_isGoodField 24 = .ok (.ldc 185, 2) := by decide +kernel
theorem dX4_isGoodField_26 : decode cX4_isGoodField 26 = .ok (.invokevirtual 150, 3) := by decide +kernel
theorem dX4_isGoodField_29 : decode cX4_isGoodField 29 = .ok (.istore_n 3, 1) := by decide +kernel
theorem dX4_isGoodField_30 : decode cX4_isGoodField 30 = .ok (.aload_n 0, 1) := by decide +kernel
theorem dX4_isGoodField_31 : decode cX4_isGoodField 31 = .ok (.getfield 18, 3) := by decide +kernel
theorem dX4_isGoodField_34 : decode cX4_isGoodField 34 = .ok (.iload_n 3, 1) := by decide +kernel
theorem dX4_isGoodField_35 : decode cX4_isGoodField 35 = .ok (.invokevirtual 82, 3) := by decide +kernel
theorem dX4_isGoodField_38 : decode cX4_isGoodField 38 = .ok (.ifCond .ne 11, 3) := by decide +kernel
theorem dX4_isGoodField_41 : decode cX4_isGoodField 41 = .ok (.aload_n 0, 1) := by decide +kernel
theorem dX4_isGoodField_42 : decode cX4_isGoodField 42 = .ok (.bipush 8, 2) := by decide +kernel
theorem dX4_isGoodField_44 : decode cX4_isGoodField 44 = .ok (.iload_n 2, 1) := by decide +kernel
theorem dX4_isGoodField_45 : decode cX4_isGoodField 45 = .ok (.invokevirtual 49, 3) := by decide +kernel
theorem dX4_isGoodField_48 : decode cX4_isGoodField 48 = .ok (.ireturn, 1) := by decide +kernel
theorem dX4_isGoodField_49 : decode cX4_isGoodField 49 = .ok (.aload_n 0, 1) := by decide +kernel
theorem dX4_isGoodField_50 : decode cX4_isGoodField 50 = .ok (.getfield 18, 3) := by decide +kernel
theorem dX4_isGoodField_53 : decode cX4_isGoodField 53 = .ok (.iload_n 3, 1) := by decide +kernel
theorem dX4_isGoodField_54 : decode cX4_isGoodField 54 = .ok (.invokevirtual 187, 3) := by decide +kernel
theorem dX4_isGoodField_57 : decode cX4_isGoodField 57 = .ok (.ifCond .eq 19, 3) := by decide +kernel
theorem dX4_isGoodField_60 : decode cX4_isGoodField 60 = .ok (.aload_n 0, 1) := by decide +kernel
theorem dX4_isGoodField_61 : decode cX4_isGoodField 61 = .ok (.getfield 22, 3) := by decide +kernel
theorem dX4_isGoodField_64 : decode cX4_isGoodField 64 = .ok (.iload_n 1, 1) := by decide +kernel
theorem dX4_isGoodField_65 : decode cX4_isGoodField 65 = .ok (.aload_n 0, 1) := by decide +kernel
theorem dX4_isGoodField_66 : decode cX4_isGoodField 66 = .ok (.getfield 18, 3) := by decide +kernel
theorem dX4_isGoodField_69 : decode cX4_isGoodField 69 = .ok (.iload_n 3, 1) := by decide +kernel
theorem dX4_isGoodField_70 : decode cX4_isGoodField 70 = .ok (.invokevirtual 263, 3) := by decide +kernel
theorem dX4_isGoodField_73 : decode cX4_isGoodField 73 = .ok (.ifCond .eq 11, 3) := by decide +kernel
theorem dX4_isGoodField_76 : decode cX4_isGoodField 76 = .ok (.aload_n 0, 1) := by decide +kernel
theorem dX4_isGoodField_77 : decode cX4_isGoodField 77 = .ok (.bipush 9, 2) := by decide +kernel
theorem dX4_isGoodField_79 : decode cX4_isGoodField 79 = .ok (.iload_n 3, 1) := by decide +kernel
theorem dX4_isGoodField_80 : decode cX4_isGoodField 80 = .ok (.invokevirtual 49, 3) := by decide +kernel
theorem dX4_isGoodField_83 : decode cX4_isGoodField 83 = .ok (.ireturn, 1) := by decide +kernel
theorem dX4_isGoodField_84 : decode cX4_isGoodField 84 = .ok (.aload_n 0, 1) := by decide +kernel
theorem dX4_isGoodField_85 : decode cX4_isGoodField 85 = .ok (.getfield 18, 3) := by decide +kernel
theorem dX4_isGoodField_88 : decode cX4_isGoodField 88 = .ok (.iload_n 2, 1) := by decide +kernel
theorem dX4_isGoodField_89 : decode cX4_isGoodField 89 = .ok (.ldc 148, 2) := by decide +kernel
theorem dX4_isGoodField_91 : decode cX4_isGoodField 91 = .ok (.invokevirtual 150, 3) := by decide +kernel
theorem dX4_isGoodField_94 : decode cX4_isGoodField 94 = .ok (.iconst (-1), 1) := by decide +kernel
theorem dX4_isGoodField_95 : decode cX4_isGoodField 95 = .ok (.if_icmp .ne 11, 3) := by decide +kernel
theorem dX4_isGoodField_98 : decode cX4_isGoodField 98 = .ok (.aload_n 0, 1) := by decide +kernel
theorem dX4_isGoodField_99 : decode cX4_isGoodField 99 = .ok (.bipush 8, 2) := by decide +kernel
theorem dX4_isGoodField_101 : decode cX4_isGoodField 101 = .ok (.iload_n 2, 1) := by decide +kernel
theorem dX4_isGoodField_102 : decode cX4_isGoodField 102 = .ok (.invokevirtual 49, 3) := by decide +kernel
theorem dX4_isGoodField_105 : decode cX4_isGoodField 105 = .ok (.ireturn, 1) := by decide +kernel
theorem dX4_isGoodField_106 : decode cX4_isGoodField 106 = .ok (.iconst 1, 1) := by decide +kernel
theorem dX4_isGoodField_107 : decode cX4_isGoodField 107 = .ok (.ireturn, 1) := by decide +kernel
def rmX4_isGoodField (mc ms : Nat) : Room := { frames := 6, cells := mc, slots := ms, locals := 132 }
theorem g4_103 (c0 : Cond) : GoodIn (c0 :: sr_G) (va_wsS RX4 103 yX3_said wsX3_said) := sr_S c0 (sr_ins (by decide +kernel))
theorem g4_119 (c0 : Cond) : GoodIn (c0 :: sr_G) (wsV RX4 119 RX6 yX6_writeSaid wsX6_writeSaid) := sr_V c0 (sr_ins (by decide +kernel))
theorem g4_113 (c0 : Cond) : GoodIn (c0 :: sr_G) (wsV RX4 113 RX6 yX6_definition wsX6_definition) := sr_V c0 (sr_ins (by decide +kernel))
theorem g4_116 (c0 : Cond) : GoodIn (c0 :: sr_G) (wsV RX4 116 RX6 yX6_setMeant wsX6_setMeant) := sr_V c0 (sr_ins (by decide +kernel))
theorem g4_49 (c0 : Cond) : GoodIn (c0 :: sr_G) (wsV RX4 49 RX4 yX4_refuse wsX4_refuse) := sr_V c0 (sr_ins (by decide +kernel))
theorem g4_109 (c0 : Cond) : GoodIn (c0 :: sr_G) (wsV RX4 109 RX6 yX6_setKind wsX6_setKind) := sr_V c0 (sr_ins (by decide +kernel))
theorem g4_142 (c0 : Cond) : GoodIn (c0 :: sr_G) (wsV RX4 142 RX6 yX6_first wsX6_first) := sr_V c0 (sr_ins (by decide +kernel))
theorem g4_143 (c0 : Cond) : GoodIn (c0 :: sr_G) (wsV RX4 143 RX6 yX6_amount wsX6_amount) := sr_V c0 (sr_ins (by decide +kernel))
theorem g4_144 (c0 : Cond) : GoodIn (c0 :: sr_G) (wsV RX4 144 RX6 yX6_isAlike wsX6_isAlike) := sr_V c0 (sr_ins (by decide +kernel))
theorem g4_147 (c0 : Cond) : GoodIn (c0 :: sr_G) (wsV RX4 147 RX6 yX6_next wsX6_next) := sr_V c0 (sr_ins (by decide +kernel))
theorem g4_150 (c0 : Cond) : GoodIn (c0 :: sr_G) (wsV RX4 150 RX7 yX7_member wsX7_member) := sr_V c0 (sr_ins (by decide +kernel))
theorem g4_82 (c0 : Cond) : GoodIn (c0 :: sr_G) (wsV RX4 82 RX7 yX7_isString wsX7_isString) := sr_V c0 (sr_ins (by decide +kernel))
theorem g4_187 (c0 : Cond) : GoodIn (c0 :: sr_G) (wsV RX4 187 RX7 yX7_saysName wsX7_saysName) := sr_V c0 (sr_ins (by decide +kernel))
theorem g4_181 (c0 : Cond) : GoodIn (c0 :: sr_G) (wsV RX4 181 RX6 yX6_write wsX6_write) := sr_V c0 (sr_ins (by decide +kernel))
theorem g4_192 (c0 : Cond) : GoodIn (c0 :: sr_G) (wsV RX4 192 RX6 yX6_setName wsX6_setName) := sr_V c0 (sr_ins (by decide +kernel))
theorem g4_197 (c0 : Cond) : GoodIn (c0 :: sr_G) (va_wsS RX4 197 yX3_word wsX3_word) := sr_S c0 (sr_ins (by decide +kernel))
theorem g4_128 (c0 : Cond) : GoodIn (c0 :: sr_G) (wsV RX4 128 RX6 yX6_writeByte wsX6_writeByte) := sr_V c0 (sr_ins (by decide +kernel))
theorem g4_203 (c0 : Cond) : GoodIn (c0 :: sr_G) (wsV RX4 203 RX7 yX7_isNumber wsX7_isNumber) := sr_V c0 (sr_ins (by decide +kernel))
theorem g4_214 (c0 : Cond) : GoodIn (c0 :: sr_G) (wsV RX4 214 RX6 yX6_setAmount wsX6_setAmount) := sr_V c0 (sr_ins (by decide +kernel))
theorem g4_219 (c0 : Cond) : GoodIn (c0 :: sr_G) (wsV RX4 219 RX6 yX6_writeNumber wsX6_writeNumber) := sr_V c0 (sr_ins (by decide +kernel))
theorem g4_206 (c0 : Cond) : GoodIn (c0 :: sr_G) (wsV RX4 206 RX7 yX7_numberAt wsX7_numberAt) := sr_V c0 (sr_ins (by decide +kernel))
theorem g4_226 (c0 : Cond) : GoodIn (c0 :: sr_G) (wsV RX4 226 RX6 yX6_hasSymbol wsX6_hasSymbol) := sr_V c0 (sr_ins (by decide +kernel))
theorem g4_241 (c0 : Cond) : GoodIn (c0 :: sr_G) (wsV RX4 241 RX6 yX6_setEnumDefault wsX6_setEnumDefault) := sr_V c0 (sr_ins (by decide +kernel))
theorem g4_122 (c0 : Cond) : GoodIn (c0 :: sr_G) (wsV RX4 122 RX7 yX7_amount wsX7_amount) := sr_V c0 (sr_ins (by decide +kernel))
theorem g4_89 (c0 : Cond) : GoodIn (c0 :: sr_G) (wsV RX4 89 RX7 yX7_isList wsX7_isList) := sr_V c0 (sr_ins (by decide +kernel))
theorem g4_125 (c0 : Cond) : GoodIn (c0 :: sr_G) (wsV RX4 125 RX7 yX7_inner wsX7_inner) := sr_V c0 (sr_ins (by decide +kernel))
theorem g4_238 (c0 : Cond) : GoodIn (c0 :: sr_G) (wsV RX4 238 RX4 yX4_lookAtEnumDefault wsX4_lookAtEnumDefault) := sr_V c0 (sr_ins (by decide +kernel))
theorem g4_230 (c0 : Cond) : GoodIn (c0 :: sr_G) (wsV RX4 230 RX6 yX6_addSymbol wsX6_addSymbol) := sr_V c0 (sr_ins (by decide +kernel))
theorem g4_139 (c0 : Cond) : GoodIn (c0 :: sr_G) (wsV RX4 139 RX7 yX7_next wsX7_next) := sr_V c0 (sr_ins (by decide +kernel))
theorem g4_96 (c0 : Cond) : GoodIn (c0 :: sr_G) (wsV RX4 96 RX7 yX7_isObject wsX7_isObject) := sr_V c0 (sr_ins (by decide +kernel))
theorem g4_263 (c0 : Cond) : GoodIn (c0 :: sr_G) (wsV RX4 263 RX6 yX6_hasField wsX6_hasField) := sr_V c0 (sr_ins (by decide +kernel))
