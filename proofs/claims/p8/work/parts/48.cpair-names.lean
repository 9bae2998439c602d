abbrev cX5_isSame : ByteArray := prog_8_method_3_code
def yX5_isSame : MethodName := ⟨RX5, "isSame", "(II)Z"⟩
def wsX5_isSame : List Cond := .code yX5_isSame cX5_isSame 5 (some .boolean) :: sr_G
theorem dX5_isSame_0 : decode cX5_isSame 0 = .ok (.aload_n 0, 1) := by decide +kernel
theorem dX5_isSame_1 : decode cX5_isSame 1 = .ok (.getfield 11, 3) := by decide +kernel
theorem dX5_isSame_4 : decode cX5_isSame 4 = .ok (.iload_n 1, 1) := by decide +kernel
theorem dX5_isSame_5 : decode cX5_isSame 5 = .ok (.invokevirtual 24, 3) := by decide +kernel
theorem dX5_isSame_8 : decode cX5_isSame 8 = .ok (.istore_n 3, 1) := by decide +kernel
theorem dX5_isSame_9 : decode cX5_isSame 9 = .ok (.aload_n 0, 1) := by decide +kernel
theorem dX5_isSame_10 : decode cX5_isSame 10 = .ok (.getfield 17, 3) := by decide +kernel
theorem dX5_isSame_13 : decode cX5_isSame 13 = .ok (.iload_n 2, 1) := by decide +kernel
theorem dX5_isSame_14 : decode cX5_isSame 14 = .ok (.invokevirtual 24, 3) := by decide +kernel
theorem dX5_isSame_17 : decode cX5_isSame 17 = .ok (.istore 4, 2) := by decide +kernel
theorem dX5_isSame_19 : decode cX5_isSame 19 = .ok (.iload_n 3, 1) := by decide +kernel
theorem dX5_isSame_20 : decode cX5_isSame 20 = .ok (.iload 4, 2) := by decide +kernel
theorem dX5_isSame_22 : decode cX5_isSame 22 = .ok (.if_icmp .eq 42, 3) := by decide +kernel
theorem dX5_isSame_25 : decode cX5_isSame 25 = .ok (.iload_n 3, 1) := by decide +kernel
theorem dX5_isSame_26 : decode cX5_isSame 26 = .ok (.iconst 2, 1) := by decide +kernel
theorem dX5_isSame_27 : decode cX5_isSame 27 = .ok (.if_icmp .ne 9, 3) := by decide +kernel
theorem dX5_isSame_30 : decode cX5_isSame 30 = .ok (.iload 4, 2) := by decide +kernel
theorem dX5_isSame_32 : decode cX5_isSame 32 = .ok (.iconst 3, 1) := by decide +kernel
theorem dX5_isSame_33 : decode cX5_isSame 33 = .ok (.if_icmp .eq 25, 3) := by decide +kernel
theorem dX5_isSame_36 : decode cX5_isSame 36 = .ok (.iload_n 3, 1) := by decide +kernel
theorem dX5_isSame_37 : decode cX5_isSame 37 = .ok (.iconst 4, 1) := by decide +kernel
theorem dX5_isSame_38 : decode cX5_isSame 38 = .ok (.if_icmp .ne 9, 3) := by decide +kernel
theorem dX5_isSame_41 : decode cX5_isSame 41 = .ok (.iload 4, 2) := by decide +kernel
theorem dX5_isSame_43 : decode cX5_isSame 43 = .ok (.iconst 5, 1) := by decide +kernel
theorem dX5_isSame_44 : decode cX5_isSame 44 = .ok (.if_icmp .eq 14, 3) := by decide +kernel
theorem dX5_isSame_47 : decode cX5_isSame 47 = .ok (.iload_n 3, 1) := by decide +kernel
theorem dX5_isSame_48 : decode cX5_isSame 48 = .ok (.iconst 5, 1) := by decide +kernel
theorem dX5_isSame_49 : decode cX5_isSame 49 = .ok (.if_icmp .ne 13, 3) := by decide +kernel
theorem dX5_isSame_52 : decode cX5_isSame 52 = .ok (.iload 4, 2) := by decide +kernel
theorem dX5_isSame_54 : decode cX5_isSame 54 = .ok (.iconst 4, 1) := by decide +kernel
theorem dX5_isSame_55 : decode cX5_isSame 55 = .ok (.if_icmp .ne 7, 3) := by decide +kernel
theorem dX5_isSame_58 : decode cX5_isSame 58 = .ok (.iconst 1, 1) := by decide +kernel
theorem dX5_isSame_59 : decode cX5_isSame 59 = .ok (.goto 4, 3) := by decide +kernel
theorem dX5_isSame_62 : decode cX5_isSame 62 = .ok (.iconst 0, 1) := by decide +kernel
theorem dX5_isSame_63 : decode cX5_isSame 63 = .ok (.ireturn, 1) := by decide +kernel
theorem dX5_isSame_64 : decode cX5_isSame 64 = .ok (.iload_n 3, 1) := by decide +kernel
theorem dX5_isSame_65 : decode cX5_isSame 65 = .ok (.invokestatic 37, 3) := by decide +kernel
theorem dX5_isSame_68 : decode cX5_isSame 68 = .ok (.ifCond .ne 5, 3) := by decide +kernel
theorem dX5_isSame_71 : decode cX5_isSame 71 = .ok (.iconst 1, 1) := by decide +kernel
theorem dX5_isSame_72 : decode cX5_isSame 72 = .ok (.ireturn, 1) := by decide +kernel
theorem dX5_isSame_73 : decode cX5_isSame 73 = .ok (.iload_n 3, 1) := by decide +kernel
theorem dX5_isSame_74 : decode cX5_isSame 74 = .ok (.bipush 8, 2) := by decide +kernel
theorem dX5_isSame_76 : decode cX5_isSame 76 = .ok (.if_icmp .ne 24, 3) := by decide +kernel
theorem dX5_isSame_79 : decode cX5_isSame 79 = .ok (.aload_n 0, 1) := by decide +kernel
theorem dX5_isSame_80 : decode cX5_isSame 80 = .ok (.getfield 11, 3) := by decide +kernel
theorem dX5_isSame_83 : decode cX5_isSame 83 = .ok (.iload_n 1, 1) := by decide +kernel
theorem dX5_isSame_84 : decode cX5_isSame 84 = .ok (.invokevirtual 41, 3) := by decide +kernel
theorem dX5_isSame_87 : decode cX5_isSame 87 = .ok (.aload_n 0, 1) := by decide +kernel
theorem dX5_isSame_88 : decode cX5_isSame 88 = .ok (.getfield 17, 3) := by decide +kernel
theorem dX5_isSame_91 : decode cX5_isSame 91 = .ok (.iload_n 2, 1) := by decide +kernel
theorem dX5_isSame_92 : decode cX5_isSame 92 = .ok (.invokevirtual 41, 3) := by decide +kernel
theorem dX5_isSame_95 : decode cX5_isSame 95 = .ok (.if_icmp .eq 5, 3) := by decide +kernel
theorem dX5_isSame_98 : decode cX5_isSame 98 = .ok (.iconst 0, 1) := by decide +kernel
theorem dX5_isSame_99 : decode cX5_isSame 99 = .ok (.ireturn, 1) := by decide +kernel
theorem dX5_isSame_100 : decode cX5_isSame 100 = .ok (.aload_n 0, 1) := by decide +kernel
theorem dX5_isSame_101 : decode cX5_isSame 101 = .ok (.getfield 11, 3) := by decide +kernel
theorem dX5_isSame_104 : decode cX5_isSame 104 = .ok (.aload_n 0, 1) := by decide +kernel
theorem dX5_isSame_105 : decode cX5_isSame 105 = .ok (.getfield 11, 3) := by decide +kernel
theorem dX5_isSame_108 : decode cX5_isSame 108 = .ok (.iload_n 1, 1) := by decide +kernel
theorem dX5_isSame_109 : decode cX5_isSame 109 = .ok (.invokevirtual 44, 3) := by decide +kernel
theorem dX5_isSame_112 : decode cX5_isSame 112 = .ok (.aload_n 0, 1) := by decide +kernel
theorem dX5_isSame_113 : decode cX5_isSame 113 = .ok (.getfield 17, 3) := by decide +kernel
theorem dX5_isSame_116 : decode cX5_isSame 116 = .ok (.aload_n 0, 1) := by decide +kernel
theorem dX5_isSame_117 : decode cX5_isSame 117 = .ok (.getfield 17, 3) := by decide +kernel
theorem dX5_isSame_120 : decode cX5_isSame 120 = .ok (.iload_n 2, 1) := by decide +kernel
theorem dX5_isSame_121 : decode cX5_isSame 121 = .ok (.invokevirtual 44, 3) := by decide +kernel
theorem dX5_isSame_124 : decode cX5_isSame 124 = .ok (.invokestatic 47, 3) := by decide +kernel
theorem dX5_isSame_127 : decode cX5_isSame 127 = .ok (.ireturn, 1) := by decide +kernel
def rmX5_isSame (mc ms : Nat) : Room := { frames := 2, cells := mc, slots := ms, locals := 42 }
abbrev cX5_isMatch : ByteArray := prog_8_method_2_code
def yX5_isMatch : MethodName := ⟨RX5, "isMatch", "(II)Z"⟩
def wsX5_isMatch : List Cond := .code yX5_isMatch cX5_isMatch 7 (some .boolean) :: sr_G
theorem dX5_isMatch_0 : decode cX5_isMatch 0 = .ok (.iload_n 1, 1) := by decide +kernel
theorem dX5_isMatch_1 : decode cX5_isMatch 1 = .ok (.istore_n 3, 1) := by decide +kernel
theorem dX5_isMatch_2 : decode cX5_isMatch 2 = .ok (.iload_n 2, 1) := by decide +kernel
theorem dX5_isMatch_3 : decode cX5_isMatch 3 = .ok (.istore 4, 2) := by decide +kernel
theorem dX5_isMatch_5 : decode cX5_isMatch 5 = .ok (.iconst 0, 1) := by decide +kernel
theorem dX5_isMatch_6 : decode cX5_isMatch 6 = .ok (.istore 5, 2) := by decide +kernel
theorem dX5_isMatch_8 : decode cX5_isMatch 8 = .ok (.iload 5, 2) := by decide +kernel
theorem dX5_isMatch_10 : decode cX5_isMatch 10 = .ok (.bipush 16, 2) := by decide +kernel
theorem dX5_isMatch_12 : decode cX5_isMatch 12 = .ok (.if_icmp .gt 98, 3) := by decide +kernel
theorem dX5_isMatch_15 : decode cX5_isMatch 15 = .ok (.aload_n 0, 1) := by decide +kernel
theorem dX5_isMatch_16 : decode cX5_isMatch 16 = .ok (.getfield 11, 3) := by decide +kernel
theorem dX5_isMatch_19 : decode cX5_isMatch 19 = .ok (.iload_n 3, 1) := by decide +kernel
theorem dX5_isMatch_20 : decode cX5_isMatch 20 = .ok (.invokevirtual 24, 3) := by decide +kernel
theorem dX5_isMatch_23 : decode cX5_isMatch 23 = .ok (.istore 6, 2) := by decide +kernel
theorem dX5_isMatch_25 : decode cX5_isMatch 25 = .ok (.iload 6, 2) := by decide +kernel
theorem dX5_isMatch_27 : decode cX5_isMatch 27 = .ok (.bipush 11, 2) := by decide +kernel
theorem dX5_isMatch_29 : decode cX5_isMatch 29 = .ok (.if_icmp .eq 17, 3) := by decide +kernel
theorem dX5_isMatch_32 : decode cX5_isMatch 32 = .ok (.aload_n 0, 1) := by decide +kernel
theorem dX5_isMatch_33 : decode cX5_isMatch 33 = .ok (.getfield 17, 3) := by decide +kernel
theorem dX5_isMatch_36 : decode cX5_isMatch 36 = .ok (.iload 4, 2) := by decide +kernel
theorem dX5_isMatch_38 : decode cX5_isMatch 38 = .ok (.invokevirtual 24, 3) := by decide +kernel
theorem dX5_isMatch_41 : decode cX5_isMatch 41 = .ok (.bipush 11, 2) := by decide +kernel
theorem dX5_isMatch_43 : decode cX5_isMatch 43 = .ok (.if_icmp .ne 5, 3) := by decide +kernel
theorem dX5_isMatch_46 : decode cX5_isMatch 46 = .ok (.iconst 1, 1) := by decide +kernel
theorem dX5_isMatch_47 : decode cX5_isMatch 47 = .ok (.ireturn, 1) := by decide +kernel
theorem dX5_isMatch_48 : decode cX5_isMatch 48 = .ok (.iload 6, 2) := by decide +kernel
theorem dX5_isMatch_50 : decode cX5_isMatch 50 = .ok (.aload_n 0, 1) := by decide +kernel
theorem dX5_isMatch_51 : decode cX5_isMatch 51 = .ok (.getfield 17, 3) := by decide +kernel
theorem dX5_isMatch_54 : decode cX5_isMatch 54 = .ok (.iload 4, 2) := by decide +kernel
theorem dX5_isMatch_56 : decode cX5_isMatch 56 = .ok (.invokevirtual 24, 3) := by decide +kernel
theorem dX5_isMatch_59 : decode cX5_isMatch 59 = .ok (.if_icmp .ne 17, 3) := by decide +kernel
theorem dX5_isMatch_62 : decode cX5_isMatch 62 = .ok (.iload 6, 2) := by decide +kernel
theorem dX5_isMatch_64 : decode cX5_isMatch 64 = .ok (.bipush 6, 2) := by decide +kernel
theorem dX5_isMatch_66 : decode cX5_isMatch 66 = .ok (.if_icmp .eq 18, 3) := by decide +kernel
theorem dX5_isMatch_69 : decode cX5_isMatch 69 = .ok (.iload 6, 2) := by decide +kernel
theorem dX5_isMatch_71 : decode cX5_isMatch 71 = .ok (.bipush 7, 2) := by decide +kernel
theorem dX5_isMatch_73 : decode cX5_isMatch 73 = .ok (.if_icmp .eq 11, 3) := by decide +kernel
theorem dX5_isMatch_76 : decode cX5_isMatch 76 = .ok (.aload_n 0, 1) := by decide +kernel
theorem dX5_isMatch_77 : decode cX5_isMatch 77 = .ok (.iload_n 3, 1) := by decide +kernel
theorem dX5_isMatch_78 : decode cX5_isMatch 78 = .ok (.iload 4, 2) := by decide +kernel
theorem dX5_isMatch_80 : decode cX5_isMatch 80 = .ok (.invokevirtual 30, 3) := by decide +kernel
theorem dX5_isMatch_83 : decode cX5_isMatch 83 = .ok (.ireturn, 1) := by decide +kernel
theorem dX5_isMatch_84 : decode cX5_isMatch 84 = .ok (.aload_n 0, 1) := by decide +kernel
theorem dX5_isMatch_85 : decode cX5_isMatch 85 = .ok (.getfield 11, 3) := by decide +kernel
theorem dX5_isMatch_88 : decode cX5_isMatch 88 = .ok (.iload_n 3, 1) := by decide +kernel
theorem dX5_isMatch_89 : decode cX5_isMatch 89 = .ok (.invokevirtual 34, 3) := by decide +kernel
theorem dX5_isMatch_92 : decode cX5_isMatch 92 = .ok (.istore_n 3, 1) := by decide +kernel
theorem dX5_isMatch_93 : decode cX5_isMatch 93 = .ok (.aload_n 0, 1) := by decide +kernel
theorem dX5_isMatch_94 : decode cX5_isMatch 94 = .ok (.getfield 17, 3) := by decide +kernel
theorem dX5_isMatch_97 : decode cX5_isMatch 97 = .ok (.iload 4, 2) := by decide +kernel
theorem dX5_isMatch_99 : decode cX5_isMatch 99 = .ok (.invokevirtual 34, 3) := by decide +kernel
theorem dX5_isMatch_102 : decode cX5_isMatch 102 = .ok (.istore 4, 2) := by decide +kernel
theorem dX5_isMatch_104 : decode cX5_isMatch 104 = .ok (.iinc 5 1, 3) := by decide +kernel
theorem dX5_isMatch_107 : decode cX5_isMatch 107 = .ok (.goto (-99), 3) := by decide +kernel
theorem dX5_isMatch_110 : decode cX5_isMatch 110 = .ok (.iconst 0, 1) := by decide +kernel
theorem dX5_isMatch_111 : decode cX5_isMatch 111 = .ok (.ireturn, 1) := by decide +kernel
def rmX5_isMatch (mc ms : Nat) : Room := { frames := 3, cells := mc, slots := ms, locals := 66 }
abbrev cX5_firstMatch : ByteArray := prog_8_method_7_code
def yX5_firstMatch : MethodName := ⟨RX5, "firstMatch", "(II)I"⟩
def wsX5_firstMatch : List Cond := .code yX5_firstMatch cX5_firstMatch 5 (some .int) :: sr_G
theorem dX5_firstMatch_0 : decode cX5_firstMatch 0 = .ok (.aload_n 0, 1) := by decide +kernel
theorem dX5_firstMatch_1 : decode cX5_firstMatch 1 = .ok (.getfield 17, 3) := by decide +kernel
theorem dX5_firstMatch_4 : decode cX5_firstMatch 4 = .ok (.iload_n 2, 1) := by decide +kernel
theorem dX5_firstMatch_5 : decode cX5_firstMatch 5 = .ok (.invokevirtual 34, 3) := by decide +kernel
theorem dX5_firstMatch_8 : decode cX5_firstMatch 8 = .ok (.istore_n 3, 1) := by decide +kernel
theorem dX5_firstMatch_9 : decode cX5_firstMatch 9 = .ok (.iconst 0, 1) := by decide +kernel
theorem dX5_firstMatch_10 : decode cX5_firstMatch 10 = .ok (.istore 4, 2) := by decide +kernel
theorem dX5_firstMatch_12 : decode cX5_firstMatch 12 = .ok (.iload 4, 2) := by decide +kernel
theorem dX5_firstMatch_14 : decode cX5_firstMatch 14 = .ok (.aload_n 0, 1) := by decide +kernel
theorem dX5_firstMatch_15 : decode cX5_firstMatch 15 = .ok (.getfield 17, 3) := by decide +kernel
theorem dX5_firstMatch_18 : decode cX5_firstMatch 18 = .ok (.iload_n 2, 1) := by decide +kernel
theorem dX5_firstMatch_19 : decode cX5_firstMatch 19 = .ok (.invokevirtual 41, 3) := by decide +kernel
theorem dX5_firstMatch_22 : decode cX5_firstMatch 22 = .ok (.if_icmp .ge 29, 3) := by decide +kernel
theorem dX5_firstMatch_25 : decode cX5_firstMatch 25 = .ok (.aload_n 0, 1) := by decide +kernel
theorem dX5_firstMatch_26 : decode cX5_firstMatch 26 = .ok (.iload_n 1, 1) := by decide +kernel
theorem dX5_firstMatch_27 : decode cX5_firstMatch 27 = .ok (.iload_n 3, 1) := by decide +kernel
theorem dX5_firstMatch_28 : decode cX5_firstMatch 28 = .ok (.invokevirtual 94, 3) := by decide +kernel
theorem dX5_firstMatch_31 : decode cX5_firstMatch 31 = .ok (.ifCond .eq 5, 3) := by decide +kernel
theorem dX5_firstMatch_34 : decode cX5_firstMatch 34 = .ok (.iload_n 3, 1) := by decide +kernel
theorem dX5_firstMatch_35 : decode cX5_firstMatch 35 = .ok (.ireturn, 1) := by decide +kernel
theorem dX5_firstMatch_36 : decode cX5_firstMatch 36 = .ok (.aload_n 0, 1) := by decide +kernel
theorem dX5_firstMatch_37 : decode cX5_firstMatch 37 = .ok (.getfield 17, 3) := by decide +kernel
theorem dX5_firstMatch_40 : decode cX5_firstMatch 40 = .ok (.iload_n 3, 1) := by decide +kernel
theorem dX5_firstMatch_41 : decode cX5_firstMatch 41 = .ok (.invokevirtual 91, 3) := by decide +kernel
theorem dX5_firstMatch_44 : decode cX5_firstMatch 44 = .ok (.istore_n 3, 1) := by decide +kernel
theorem dX5_firstMatch_45 : decode cX5_firstMatch 45 = .ok (.iinc 4 1, 3) := by decide +kernel
theorem dX5_firstMatch_48 : decode cX5_firstMatch 48 = .ok (.goto (-36), 3) := by decide +kernel
theorem dX5_firstMatch_51 : decode cX5_firstMatch 51 = .ok (.iconst (-1), 1) := by decide +kernel
theorem dX5_firstMatch_52 : decode cX5_firstMatch 52 = .ok (.ireturn, 1) := by decide +kernel
def rmX5_firstMatch (mc ms : Nat) : Room := { frames := 4, cells := mc, slots := ms, locals := 92 }
abbrev cX5_hasSymbol : ByteArray := prog_8_method_9_code
def yX5_hasSymbol : MethodName := ⟨RX5, "hasSymbol", "(II)Z"⟩
def wsX5_hasSymbol : List Cond := .code yX5_hasSymbol cX5_hasSymbol 5 (some .boolean) :: sr_G
theorem dX5_hasSymbol_0 : decode cX5_hasSymbol 0 = .ok (.aload_n 0, 1) := by decide +kernel
theorem dX5_hasSymbol_1 : decode cX5_hasSymbol 1 = .ok (.getfield 17, 3) := by decide +kernel
theorem dX5_hasSymbol_4 : decode cX5_hasSymbol 4 = .ok (.iload_n 1, 1) := by decide +kernel
theorem dX5_hasSymbol_5 : decode cX5_hasSymbol 5 = .ok (.invokevirtual 34, 3) := by decide +kernel
theorem dX5_hasSymbol_8 : decode cX5_hasSymbol 8 = .ok (.istore_n 3, 1) := by decide +kernel
theorem dX5_hasSymbol_9 : decode cX5_hasSymbol 9 = .ok (.iconst 0, 1) := by decide +kernel
theorem dX5_hasSymbol_10 : decode cX5_hasSymbol 10 = .ok (.istore 4, 2) := by decide +kernel
theorem dX5_hasSymbol_12 : decode cX5_hasSymbol 12 = .ok (.iload 4, 2) := by decide +kernel
theorem dX5_hasSymbol_14 : decode cX5_hasSymbol 14 = .ok (.aload_n 0, 1) := by decide +kernel
theorem dX5_hasSymbol_15 : decode cX5_hasSymbol 15 = .ok (.getfield 17, 3) := by decide +kernel
theorem dX5_hasSymbol_18 : decode cX5_hasSymbol 18 = .ok (.iload_n 1, 1) := by decide +kernel
theorem dX5_hasSymbol_19 : decode cX5_hasSymbol 19 = .ok (.invokevirtual 41, 3) := by decide +kernel
theorem dX5_hasSymbol_22 : decode cX5_hasSymbol 22 = .ok (.if_icmp .ge 36, 3) := by decide +kernel
theorem dX5_hasSymbol_25 : decode cX5_hasSymbol 25 = .ok (.aload_n 0, 1) := by decide +kernel
theorem dX5_hasSymbol_26 : decode cX5_hasSymbol 26 = .ok (.getfield 11, 3) := by decide +kernel
theorem dX5_hasSymbol_29 : decode cX5_hasSymbol 29 = .ok (.iload_n 2, 1) := by decide +kernel
theorem dX5_hasSymbol_30 : decode cX5_hasSymbol 30 = .ok (.aload_n 0, 1) := by decide +kernel
theorem dX5_hasSymbol_31 : decode cX5_hasSymbol 31 = .ok (.getfield 17, 3) := by decide +kernel
theorem dX5_hasSymbol_34 : decode cX5_hasSymbol 34 = .ok (.iload_n 3, 1) := by decide +kernel
theorem dX5_hasSymbol_35 : decode cX5_hasSymbol 35 = .ok (.invokestatic 47, 3) := by decide +kernel
theorem dX5_hasSymbol_38 : decode cX5_hasSymbol 38 = .ok (.ifCond .eq 5, 3) := by decide +kernel
theorem dX5_hasSymbol_41 : decode cX5_hasSymbol 41 = .ok (.iconst 1, 1) := by decide +kernel
theorem dX5_hasSymbol_42 : decode cX5_hasSymbol 42 = .ok (.ireturn, 1) := by decide +kernel
theorem dX5_hasSymbol_43 : decode cX5_hasSymbol 43 = .ok (.aload_n 0, 1) := by decide +kernel
theorem dX5_hasSymbol_44 : decode cX5_hasSymbol 44 = .ok (.getfield 17, 3) := by decide +kernel
theorem dX5_hasSymbol_47 : decode cX5_hasSymbol 47 = .ok (.iload_n 3, 1) := by decide +kernel
theorem dX5_hasSymbol_48 : decode cX5_hasSymbol 48 = .ok (.invokevirtual 100, 3) := by decide +kernel
theorem dX5_hasSymbol_51 : decode cX5_hasSymbol 51 = .ok (.istore_n 3, 1) := by decide +kernel
theorem dX5_hasSymbol_52 : decode cX5_hasSymbol 52 = .ok (.iinc 4 1, 3) := by decide +kernel
theorem dX5_hasSymbol_55 : decode cX5_hasSymbol 55 = .ok (.goto (-43), 3) := by decide +kernel
theorem dX5_hasSymbol_58 : decode cX5_hasSymbol 58 = .ok (.iconst 0, 1) := by decide +kernel
theorem dX5_hasSymbol_59 : decode cX5_hasSymbol 59 = .ok (.ireturn, 1) := by decide +kernel
def rmX5_hasSymbol (mc ms : Nat) : Room := { frames := 2, cells := mc, slots := ms, locals := 43 }
abbrev cX5_hasAllSymbols : ByteArray := prog_8_method_8_code
def yX5_hasAllSymbols : MethodName := ⟨RX5, "hasAllSymbols", "(II)Z"⟩
def wsX5_hasAllSymbols : List Cond := .code yX5_hasAllSymbols cX5_hasAllSymbols 5 (some .boolean) :: sr_G
theorem dX5_hasAllSymbols_0 : decode cX5_hasAllSymbols 0 = .ok (.aload_n 0, 1) := by decide +kernel
theorem dX5_hasAllSymbols_1 : decode cX5_hasAllSymbols 1 = .ok (.getfield 11, 3) := by decide +kernel
theorem dX5_hasAllSymbols_4 : decode cX5_hasAllSymbols 4 = .ok (.iload_n 1, 1) := by decide +kernel
theorem dX5_hasAllSymbols_5 : decode cX5_hasAllSymbols 5 = .ok (.invokevirtual 34, 3) := by decide +kernel
theorem dX5_hasAllSymbols_8 : decode cX5_hasAllSymbols 8 = .ok (.istore_n 3, 1) := by decide +kernel
theorem dX5_hasAllSymbols_9 : decode cX5_hasAllSymbols 9 = .ok (.iconst 0, 1) := by decide +kernel
theorem dX5_hasAllSymbols_10 : decode cX5_hasAllSymbols 10 = .ok (.istore 4, 2) := by decide +kernel
theorem dX5_hasAllSymbols_12 : decode cX5_hasAllSymbols 12 = .ok (.iload 4, 2) := by decide +kernel
theorem dX5_hasAllSymbols_14 : decode cX5_hasAllSymbols 14 = .ok (.aload_n 0, 1) := by decide +kernel
theorem dX5_hasAllSymbols_15 : decode cX5_hasAllSymbols 15 = .ok (.getfield 11, 3) := by decide +kernel
theorem dX5_hasAllSymbols_18 : decode cX5_hasAllSymbols 18 = .ok (.iload_n 1, 1) := by decide +kernel
theorem dX5_hasAllSymbols_19 : decode cX5_hasAllSymbols 19 = .ok (.invokevirtual 41, 3) := by decide +kernel
theorem dX5_hasAllSymbols_22 : decode cX5_hasAllSymbols 22 = .ok (.if_icmp .ge 29, 3) := by decide +kernel
theorem dX5_hasAllSymbols_25 : decode cX5_hasAllSymbols 25 = .ok (.aload_n 0, 1) := by decide +kernel
theorem dX5_hasAllSymbols_26 : decode cX5_hasAllSymbols 26 = .ok (.iload_n 2, 1) := by decide +kernel
theorem dX5_hasAllSymbols_27 : decode cX5_hasAllSymbols 27 = .ok (.iload_n 3, 1) := by decide +kernel
theorem dX5_hasAllSymbols_28 : decode cX5_hasAllSymbols 28 = .ok (.invokevirtual 97, 3) := by decide +kernel
theorem dX5_hasAllSymbols_31 : decode cX5_hasAllSymbols 31 = .ok (.ifCond .ne 5, 3) := by decide +kernel
theorem dX5_hasAllSymbols_34 : decode cX5_hasAllSymbols 34 = .ok (.iconst 0, 1) := by decide +kernel
theorem dX5_hasAllSymbols_35 : decode cX5_hasAllSymbols 35 = .ok (.ireturn, 1) := by decide +kernel
theorem dX5_hasAllSymbols_36 : decode cX5_hasAllSymbols 36 = .ok (.aload_n 0, 1) := by decide +kernel
theorem dX5_hasAllSymbols_37 : decode cX5_hasAllSymbols 37 = .ok (.getfield 11, 3) := by decide +kernel
theorem dX5_hasAllSymbols_40 : decode cX5_hasAllSymbols 40 = .ok (.iload_n 3, 1) := by decide +kernel
theorem dX5_hasAllSymbols_41 : decode cX5_hasAllSymbols 41 = .ok (.invokevirtual 100, 3) := by decide +kernel
theorem dX5_hasAllSymbols_44 : decode cX5_hasAllSymbols 44 = .ok (.istore_n 3, 1) := by decide +kernel
theorem dX5_hasAllSymbols_45 : decode cX5_hasAllSymbols 45 = .ok (.iinc 4 1, 3) := by decide +kernel
theorem dX5_hasAllSymbols_48 : decode cX5_hasAllSymbols 48 = .ok (.goto (-36), 3) := by decide +kernel
theorem dX5_hasAllSymbols_51 : decode cX5_hasAllSymbols 51 = .ok (.iconst 1, 1) := by decide +kernel
theorem dX5_hasAllSymbols_52 : decode cX5_hasAllSymbols 52 = .ok (.ireturn, 1) := by decide +kernel
def rmX5_hasAllSymbols (mc ms : Nat) : Room := { frames := 3, cells := mc, slots := ms, locals := 67 }
abbrev cX5_ask : ByteArray := prog_8_method_10_code
def yX5_ask : MethodName := ⟨RX5, "ask", "(II)V"⟩
def wsX5_ask : List Cond := .code yX5_ask cX5_ask 3 none :: sr_G
theorem dX5_ask_0 : decode cX5_ask 0 = .ok (.aload_n 0, 1) := by decide +kernel
theorem dX5_ask_1 : decode cX5_ask 1 = .ok (.getfield 20, 3) := by decide +kernel
theorem dX5_ask_4 : decode cX5_ask 4 = .ok (.iload_n 1, 1) := by decide +kernel
theorem dX5_ask_5 : decode cX5_ask 5 = .ok (.iload_n 2, 1) := by decide +kernel
theorem dX5_ask_6 : decode cX5_ask 6 = .ok (.invokevirtual 103, 3) := by decide +kernel
theorem dX5_ask_9 : decode cX5_ask 9 = .ok (.ifCond .ne 12, 3) := by decide +kernel
theorem dX5_ask_12 : decode cX5_ask 12 = .ok (.aload_n 0, 1) := by decide +kernel
theorem dX5_ask_13 : decode cX5_ask 13 = .ok (.getfield 20, 3) := by decide +kernel
theorem dX5_ask_16 : decode cX5_ask 16 = .ok (.iload_n 1, 1) := by decide +kernel
theorem dX5_ask_17 : decode cX5_ask 17 = .ok (.iload_n 2, 1) := by decide +kernel
theorem dX5_ask_18 : decode cX5_ask 18 = .ok (.invokevirtual 106, 3) := by decide +kernel
theorem dX5_ask_21 : decode cX5_ask 21 = .ok (.return_, 1) := by decide +kernel
def rmX5_ask (mc ms : Nat) : Room := { frames := 2, cells := mc, slots := ms, locals := 44 }
abbrev cX5_writerField : ByteArray := prog_8_method_12_code
def yX5_writerField : MethodName := ⟨RX5, "writerField", "(II)I"⟩
def wsX5_writerField : List Cond := .code yX5_writerField cX5_writerField 5 (some .int) :: sr_G
theorem dX5_writerField_0 : decode cX5_writerField 0 = .ok (.aload_n 0, 1) := by decide +kernel
theorem dX5_writerField_1 : decode cX5_writerField 1 = .ok (.getfield 11, 3) := by decide +kernel
theorem dX5_writerField_4 : decode cX5_writerField 4 = .ok (.iload_n 1, 1) := by decide +kernel
theorem dX5_writerField_5 : decode cX5_writerField 5 = .ok (.invokevirtual 34, 3) := by decide +kernel
theorem dX5_writerField_8 : decode cX5_writerField 8 = .ok (.istore_n 3, 1) := by decide +kernel
theorem dX5_writerField_9 : decode cX5_writerField 9 = .ok (.iconst 0, 1) := by decide +kernel
theorem dX5_writerField_10 : decode cX5_writerField 10 = .ok (.istore 4, 2) := by decide +kernel
theorem dX5_writerField_12 : decode cX5_writerField 12 = .ok (.iload 4, 2) := by decide +kernel
theorem dX5_writerField_14 : decode cX5_writerField 14 = .ok (.aload_n 0, 1) := by decide +kernel
theorem dX5_writerField_15 : decode cX5_writerField 15 = .ok (.getfield 11, 3) := by decide +kernel
theorem dX5_writerField_18 : decode cX5_writerField 18 = .ok (.iload_n 1, 1) := by decide +kernel
theorem dX5_writerField_19 : decode cX5_writerField 19 = .ok (.invokevirtual 41, 3) := by decide +kernel
theorem dX5_writerField_22 : decode cX5_writerField 22 = .ok (.if_icmp .ge 43, 3) := by decide +kernel
theorem dX5_writerField_25 : decode cX5_writerField 25 = .ok (.aload_n 0, 1) := by decide +kernel
theorem dX5_writerField_26 : decode cX5_writerField 26 = .ok (.getfield 11, 3) := by decide +kernel
theorem dX5_writerField_29 : decode cX5_writerField 29 = .ok (.aload_n 0, 1) := by decide +kernel
theorem dX5_writerField_30 : decode cX5_writerField 30 = .ok (.getfield 11, 3) := by decide +kernel
theorem dX5_writerField_33 : decode cX5_writerField 33 = .ok (.iload_n 3, 1) := by decide +kernel
theorem dX5_writerField_34 : decode cX5_writerField 34 = .ok (.invokevirtual 112, 3) := by decide +kernel
theorem dX5_writerField_37 : decode cX5_writerField 37 = .ok (.aload_n 0, 1) := by decide +kernel
theorem dX5_writerField_38 : decode cX5_writerField 38 = .ok (.getfield 17, 3) := by decide +kernel
theorem dX5_writerField_41 : decode cX5_writerField 41 = .ok (.iload_n 2, 1) := by decide +kernel
theorem dX5_writerField_42 : decode cX5_writerField 42 = .ok (.invokestatic 47, 3) := by decide +kernel
theorem dX5_writerField_45 : decode cX5_writerField 45 = .ok (.ifCond .eq 5, 3) := by decide +kernel
theorem dX5_writerField_48 : decode cX5_writerField 48 = .ok (.iload_n 3, 1) := by decide +kernel
theorem dX5_writerField_49 : decode cX5_writerField 49 = .ok (.ireturn, 1) := by decide +kernel
theorem dX5_writerField_50 : decode cX5_writerField 50 = .ok (.aload_n 0, 1) := by decide +kernel
theorem dX5_writerField_51 : decode cX5_writerField 51 = .ok (.getfield 11, 3) := by decide +kernel
theorem dX5_writerField_54 : decode cX5_writerField 54 = .ok (.iload_n 3, 1) := by decide +kernel
theorem dX5_writerField_55 : decode cX5_writerField 55 = .ok (.invokevirtual 91, 3) := by decide +kernel
theorem dX5_writerField_58 : decode cX5_writerField 58 = .ok (.istore_n 3, 1) := by decide +kernel
theorem dX5_writerField_59 : decode cX5_writerField 59 = .ok (.iinc 4 1, 3) := by decide +kernel
theorem dX5_writerField_62 : decode cX5_writerField 62 = .ok (.goto (-50), 3) := by decide +kernel
theorem dX5_writerField_65 : decode cX5_writerField 65 = .ok (.iconst (-1), 1) := by decide +kernel
theorem dX5_writerField_66 : decode cX5_writerField 66 = .ok (.ireturn, 1) := by decide +kernel
def rmX5_writerField (mc ms : Nat) : Room := { frames := 2, cells := mc, slots := ms, locals := 42 }
abbrev cX5_isEveryBranchFit : ByteArray := prog_8_method_6_code
def yX5_isEveryBranchFit : MethodName := ⟨RX5, "isEveryBranchFit", "(III)Z"⟩
def wsX5_isEveryBranchFit : List Cond := .code yX5_isEveryBranchFit cX5_isEveryBranchFit 6 (some .boolean) :: sr_G
theorem dX5_isEveryBranchFit_0 : decode cX5_isEveryBranchFit 0 = .ok (.aload_n 0, 1) := by decide +kernel
theorem dX5_isEveryBranchFit_1 : decode cX5_isEveryBranchFit 1 = .ok (.getfield 11, 3) := by decide +kernel
theorem dX5_isEveryBranchFit_4 : decode cX5_isEveryBranchFit 4 = .ok (.iload_n 1, 1) := by decide +kernel
theorem dX5_isEveryBranchFit_5 : decode cX5_isEveryBranchFit 5 = .ok (.invokevirtual 34, 3) := by decide +kernel
theorem dX5_isEveryBranchFit_8 : decode cX5_isEveryBranchFit 8 = .ok (.istore 4, 2) := by decide +kernel
theorem dX5_isEveryBranchFit_10 : decode cX5_isEveryBranchFit 10 = .ok (.iconst 0, 1) := by decide +kernel
theorem dX5_isEveryBranchFit_11 : decode cX5_isEveryBranchFit 11 = .ok (.istore 5, 2) := by decide +kernel
theorem dX5_isEveryBranchFit_13 : decode cX5_isEveryBranchFit 13 = .ok (.iload 5, 2) := by decide +kernel
theorem dX5_isEveryBranchFit_15 : decode cX5_isEveryBranchFit 15 = .ok (.aload_n 0, 1) := by decide +kernel
theorem dX5_isEveryBranchFit_16 : decode cX5_isEveryBranchFit 16 = .ok (.getfield 11, 3) := by decide +kernel
theorem dX5_isEveryBranchFit_19 : decode cX5_isEveryBranchFit 19 = .ok (.iload_n 1, 1) := by decide +kernel
theorem dX5_isEveryBranchFit_20 : decode cX5_isEveryBranchFit 20 = .ok (.invokevirtual 41, 3) := by decide +kernel
theorem dX5_isEveryBranchFit_23 : decode cX5_isEveryBranchFit 23 = .ok (.if_icmp .ge 35, 3) := by decide +kernel
theorem dX5_isEveryBranchFit_26 : decode cX5_isEveryBranchFit 26 = .ok (.aload_n 0, 1) := by decide +kernel
theorem dX5_isEveryBranchFit_27 : decode cX5_isEveryBranchFit 27 = .ok (.iload 4, 2) := by decide +kernel
theorem dX5_isEveryBranchFit_29 : decode cX5_isEveryBranchFit 29 = .ok (.iload_n 2, 1) := by decide +kernel
theorem dX5_isEveryBranchFit_30 : decode cX5_isEveryBranchFit 30 = .ok (.iload_n 3, 1) := by decide +kernel
theorem dX5_isEveryBranchFit_31 : decode cX5_isEveryBranchFit 31 = .ok (.iconst 1, 1) := by decide +kernel
theorem dX5_isEveryBranchFit_32 : decode cX5_isEveryBranchFit 32 = .ok (.iadd, 1) := by decide +kernel
theorem dX5_isEveryBranchFit_33 : decode cX5_isEveryBranchFit 33 = .ok (.invokevirtual 56, 3) := by decide +kernel
theorem dX5_isEveryBranchFit_36 : decode cX5_isEveryBranchFit 36 = .ok (.ifCond .ne 5, 3) := by decide +kernel
theorem dX5_isEveryBranchFit_39 : decode cX5_isEveryBranchFit 39 = .ok (.iconst 0, 1) := by decide +kernel
theorem dX5_isEveryBranchFit_40 : decode cX5_isEveryBranchFit 40 = .ok (.ireturn, 1) := by decide +kernel
theorem dX5_isEveryBranchFit_41 : decode cX5_isEveryBranchFit 41 = .ok (.aload_n 0, 1) := by decide +kernel
theorem dX5_isEveryBranchFit_42 : decode cX5_isEveryBranchFit 42 = .ok (.getfield 11, 3) := by decide +kernel
theorem dX5_isEveryBranchFit_45 : decode cX5_isEveryBranchFit 45 = .ok (.iload 4, 2) := by decide +kernel
theorem dX5_isEveryBranchFit_47 : decode cX5_isEveryBranchFit 47 = .ok (.invokevirtual 91, 3) := by decide +kernel
theorem dX5_isEveryBranchFit_50 : decode cX5_isEveryBranchFit 50 = .ok (.istore 4, 2) := by decide +kernel
theorem dX5_isEveryBranchFit_52 : decode cX5_isEveryBranchFit 52 = .ok (.iinc 5 1, 3) := by decide +kernel
theorem dX5_isEveryBranchFit_55 : decode cX5_isEveryBranchFit 55 = .ok (.goto (-42), 3) := by decide +kernel
theorem dX5_isEveryBranchFit_58 : decode cX5_isEveryBranchFit 58 = .ok (.iconst 1, 1) := by decide +kernel
theorem dX5_isEveryBranchFit_59 : decode cX5_isEveryBranchFit 59 = .ok (.ireturn, 1) := by decide +kernel
def rmX5_isEveryBranchFit (d : Nat) (mc ms : Nat) : Room := { frames := 2 * d + 6, cells := mc, slots := ms, locals := 50 * d + 141 }
abbrev cX5_isFit : ByteArray := prog_8_method_5_code
def yX5_isFit : MethodName := ⟨RX5, "isFit", "(III)Z"⟩
def wsX5_isFit : List Cond := .code yX5_isFit cX5_isFit 6 (some .boolean) :: sr_G
theorem dX5_isFit_0 : decode cX5_isFit 0 = .ok (.iload_n 3, 1) := by decide +kernel
theorem dX5_isFit_1 : decode cX5_isFit 1 = .ok (.bipush 34, 2) := by decide +kernel
theorem dX5_isFit_3 : decode cX5_isFit 3 = .ok (.if_icmp .le 5, 3) := by decide +kernel
theorem dX5_isFit_6 : decode cX5_isFit 6 = .ok (.iconst 0, 1) := by decide +kernel
theorem dX5_isFit_7 : decode cX5_isFit 7 = .ok (.ireturn, 1) := by decide +kernel
theorem dX5_isFit_8 : decode cX5_isFit 8 = .ok (.aload_n 0, 1) := by decide +kernel
theorem dX5_isFit_9 : decode cX5_isFit 9 = .ok (.getfield 11, 3) := by decide +kernel
theorem dX5_isFit_12 : decode cX5_isFit 12 = .ok (.iload_n 1, 1) := by decide +kernel
theorem dX5_isFit_13 : decode cX5_isFit 13 = .ok (.invokevirtual 24, 3) := by decide +kernel
theorem dX5_isFit_16 : decode cX5_isFit 16 = .ok (.istore 4, 2) := by decide +kernel
theorem dX5_isFit_18 : decode cX5_isFit 18 = .ok (.iload 4, 2) := by decide +kernel
theorem dX5_isFit_20 : decode cX5_isFit 20 = .ok (.bipush 11, 2) := by decide +kernel
theorem dX5_isFit_22 : decode cX5_isFit 22 = .ok (.if_icmp .ne 11, 3) := by decide +kernel
theorem dX5_isFit_25 : decode cX5_isFit 25 = .ok (.aload_n 0, 1) := by decide +kernel
theorem dX5_isFit_26 : decode cX5_isFit 26 = .ok (.iload_n 1, 1) := by decide +kernel
theorem dX5_isFit_27 : decode cX5_isFit 27 = .ok (.iload_n 2, 1) := by decide +kernel
theorem dX5_isFit_28 : decode cX5_isFit 28 = .ok (.iload_n 3, 1) := by decide +kernel
theorem dX5_isFit_29 : decode cX5_isFit 29 = .ok (.invokevirtual 71, 3) := by decide +kernel
theorem dX5_isFit_32 : decode cX5_isFit 32 = .ok (.ireturn, 1) := by decide +kernel
theorem dX5_isFit_33 : decode cX5_isFit 33 = .ok (.aload_n 0, 1) := by decide +kernel
theorem dX5_isFit_34 : decode cX5_isFit 34 = .ok (.getfield 17, 3) := by decide +kernel
theorem dX5_isFit_37 : decode cX5_isFit 37 = .ok (.iload_n 2, 1) := by decide +kernel
theorem dX5_isFit_38 : decode cX5_isFit 38 = .ok (.invokevirtual 24, 3) := by decide +kernel
theorem dX5_isFit_41 : decode cX5_isFit 41 = .ok (.bipush 11, 2) := by decide +kernel
theorem dX5_isFit_43 : decode cX5_isFit 43 = .ok (.if_icmp .ne 36, 3) := by decide +kernel
theorem dX5_isFit_46 : decode cX5_isFit 46 = .ok (.aload_n 0, 1) := by decide +kernel
theorem dX5_isFit_47 : decode cX5_isFit 47 = .ok (.iload_n 1, 1) := by decide +kernel
theorem dX5_isFit_48 : decode cX5_isFit 48 = .ok (.iload_n 2, 1) := by decide +kernel
theorem dX5_isFit_49 : decode cX5_isFit 49 = .ok (.invokevirtual 74, 3) := by decide +kernel
theorem dX5_isFit_52 : decode cX5_isFit 52 = .ok (.istore 5, 2) := by decide +kernel
theorem dX5_isFit_54 : decode cX5_isFit 54 = .ok (.iload 5, 2) := by decide +kernel
theorem dX5_isFit_56 : decode cX5_isFit 56 = .ok (.iconst (-1), 1) := by decide +kernel
theorem dX5_isFit_57 : decode cX5_isFit 57 = .ok (.if_icmp .eq 20, 3) := by decide +kernel
theorem dX5_isFit_60 : decode cX5_isFit 60 = .ok (.aload_n 0, 1) := by decide +kernel
theorem dX5_isFit_61 : decode cX5_isFit 61 = .ok (.iload_n 1, 1) := by decide +kernel
theorem dX5_isFit_62 : decode cX5_isFit 62 = .ok (.iload 5, 2) := by decide +kernel
theorem dX5_isFit_64 : decode cX5_isFit 64 = .ok (.iload_n 3, 1) := by decide +kernel
theorem dX5_isFit_65 : decode cX5_isFit 65 = .ok (.iconst 1, 1) := by decide +kernel
theorem dX5_isFit_66 : decode cX5_isFit 66 = .ok (.iadd, 1) := by decide +kernel
theorem dX5_isFit_67 : decode cX5_isFit 67 = .ok (.invokevirtual 56, 3) := by decide +kernel
theorem dX5_isFit_70 : decode cX5_isFit 70 = .ok (.ifCond .eq 7, 3) := by decide +kernel
theorem dX5_isFit_73 : decode cX5_isFit 73 = .ok (.iconst 1, 1) := by decide +kernel
theorem dX5_isFit_74 : decode cX5_isFit 74 = .ok (.goto 4, 3) := by decide +kernel
theorem dX5_isFit_77 : decode cX5_isFit 77 = .ok (.iconst 0, 1) := by decide +kernel
theorem dX5_isFit_78 : decode cX5_isFit 78 = .ok (.ireturn, 1) := by decide +kernel
theorem dX5_isFit_79 : decode cX5_isFit 79 = .ok (.iload 4, 2) := by decide +kernel
theorem dX5_isFit_81 : decode cX5_isFit 81 = .ok (.aload_n 0, 1) := by decide +kernel
theorem dX5_isFit_82 : decode cX5_isFit 82 = .ok (.getfield 17, 3) := by decide +kernel
theorem dX5_isFit_85 : decode cX5_isFit 85 = .ok (.iload_n 2, 1) := by decide +kernel
theorem dX5_isFit_86 : decode cX5_isFit 86 = .ok (.invokevirtual 24, 3) := by decide +kernel
theorem dX5_isFit_89 : decode cX5_isFit 89 = .ok (.if_icmp .ne 41, 3) := by decide +kernel
theorem dX5_isFit_92 : decode cX5_isFit 92 = .ok (.iload 4, 2) := by decide +kernel
theorem dX5_isFit_94 : decode cX5_isFit 94 = .ok (.bipush 6, 2) := by decide +kernel
theorem dX5_isFit_96 : decode cX5_isFit 96 = .ok (.if_icmp .eq 10, 3) := by decide +kernel
theorem dX5_isFit_99 : decode cX5_isFit 99 = .ok (.iload 4, 2) := by decide +kernel
theorem dX5_isFit_101 : decode cX5_isFit 101 = .ok (.bipush 7, 2) := by decide +kernel
theorem dX5_isFit_103 : decode cX5_isFit 103 = .ok (.if_icmp .ne 27, 3) := by decide +kernel
theorem dX5_isFit_106 : decode cX5_isFit 106 = .ok (.aload_n 0, 1) := by decide +kernel
theorem dX5_isFit_107 : decode cX5_isFit 107 = .ok (.aload_n 0, 1) := by decide +kernel
theorem dX5_isFit_108 : decode cX5_isFit 108 = .ok (.getfield 11, 3) := by decide +kernel
theorem dX5_isFit_111 : decode cX5_isFit 111 = .ok (.iload_n 1, 1) := by decide +kernel
theorem dX5_isFit_112 : decode cX5_isFit 112 = .ok (.invokevirtual 34, 3) := by decide +kernel
theorem dX5_isFit_115 : decode cX5_isFit 115 = .ok (.aload_n 0, 1) := by decide +kernel
theorem dX5_isFit_116 : decode cX5_isFit 116 = .ok (.getfield 17, 3) := by decide +kernel
theorem dX5_isFit_119 : decode cX5_isFit 119 = .ok (.iload_n 2, 1) := by decide +kernel
theorem dX5_isFit_120 : decode cX5_isFit 120 = .ok (.invokevirtual 34, 3) := by decide +kernel
theorem dX5_isFit_123 : decode cX5_isFit 123 = .ok (.iload_n 3, 1) := by decide +kernel
theorem dX5_isFit_124 : decode cX5_isFit 124 = .ok (.iconst 1, 1) := by decide +kernel
theorem dX5_isFit_125 : decode cX5_isFit 125 = .ok (.iadd, 1) := by decide +kernel
theorem dX5_isFit_126 : decode cX5_isFit 126 = .ok (.invokevirtual 56, 3) := by decide +kernel
theorem dX5_isFit_129 : decode cX5_isFit 129 = .ok (.ireturn, 1) := by decide +kernel
theorem dX5_isFit_130 : decode cX5_isFit 130 = .ok (.aload_n 0, 1) := by decide +kernel
theorem dX5_isFit_131 : decode cX5_isFit 131 = .ok (.iload_n 1, 1) := by decide +kernel
theorem dX5_isFit_132 : decode cX5_isFit 132 = .ok (.iload_n 2, 1) := by decide +kernel
theorem dX5_isFit_133 : decode cX5_isFit 133 = .ok (.invokevirtual 30, 3) := by decide +kernel
theorem dX5_isFit_136 : decode cX5_isFit 136 = .ok (.ifCond .ne 5, 3) := by decide +kernel
theorem dX5_isFit_139 : decode cX5_isFit 139 = .ok (.iconst 0, 1) := by decide +kernel
theorem dX5_isFit_140 : decode cX5_isFit 140 = .ok (.ireturn, 1) := by decide +kernel
theorem dX5_isFit_141 : decode cX5_isFit 141 = .ok (.iload 4, 2) := by decide +kernel
theorem dX5_isFit_143 : decode cX5_isFit 143 = .ok (.bipush 10, 2) := by decide +kernel
theorem dX5_isFit_145 : decode cX5_isFit 145 = .ok (.if_icmp .ne 23, 3) := by decide +kernel
theorem dX5_isFit_148 : decode cX5_isFit 148 = .ok (.aload_n 0, 1) := by decide +kernel
theorem dX5_isFit_149 : decode cX5_isFit 149 = .ok (.aload_n 0, 1) := by decide +kernel
theorem dX5_isFit_150 : decode cX5_isFit 150 = .ok (.getfield 11, 3) := by decide +kernel
theorem dX5_isFit_153 : decode cX5_isFit 153 = .ok (.iload_n 1, 1) := by decide +kernel
theorem dX5_isFit_154 : decode cX5_isFit 154 = .ok (.invokevirtual 78, 3) := by decide +kernel
theorem dX5_isFit_157 : decode cX5_isFit 157 = .ok (.aload_n 0, 1) := by decide +kernel
theorem dX5_isFit_158 : decode cX5_isFit 158 = .ok (.getfield 17, 3) := by decide +kernel
theorem dX5_isFit_161 : decode cX5_isFit 161 = .ok (.iload_n 2, 1) := by decide +kernel
theorem dX5_isFit_162 : decode cX5_isFit 162 = .ok (.invokevirtual 78, 3) := by decide +kernel
theorem dX5_isFit_165 : decode cX5_isFit 165 = .ok (.invokevirtual 81, 3) := by decide +kernel
theorem dX5_isFit_168 : decode cX5_isFit 168 = .ok (.iload 4, 2) := by decide +kernel
theorem dX5_isFit_170 : decode cX5_isFit 170 = .ok (.bipush 9, 2) := by decide +kernel
theorem dX5_isFit_172 : decode cX5_isFit 172 = .ok (.if_icmp .ne 23, 3) := by decide +kernel
theorem dX5_isFit_175 : decode cX5_isFit 175 = .ok (.aload_n 0, 1) := by decide +kernel
theorem dX5_isFit_176 : decode cX5_isFit 176 = .ok (.getfield 17, 3) := by decide +kernel
theorem dX5_isFit_179 : decode cX5_isFit 179 = .ok (.iload_n 2, 1) := by decide +kernel
theorem dX5_isFit_180 : decode cX5_isFit 180 = .ok (.invokevirtual 85, 3) := by decide +kernel
theorem dX5_isFit_183 : decode cX5_isFit 183 = .ok (.ifCond .ne 12, 3) := by decide +kernel
theorem dX5_isFit_186 : decode cX5_isFit 186 = .ok (.aload_n 0, 1) := by decide +kernel
theorem dX5_isFit_187 : decode cX5_isFit 187 = .ok (.iload_n 1, 1) := by decide +kernel
theorem dX5_isFit_188 : decode cX5_isFit 188 = .ok (.iload_n 2, 1) := by decide +kernel
theorem dX5_isFit_189 : decode cX5_isFit 189 = .ok (.invokevirtual 88, 3) := by decide +kernel
theorem dX5_isFit_192 : decode cX5_isFit 192 = .ok (.ifCond .eq 7, 3) := by decide +kernel
theorem dX5_isFit_195 : decode cX5_isFit 195 = .ok (.iconst 1, 1) := by decide +kernel
theorem dX5_isFit_196 : decode cX5_isFit 196 = .ok (.goto 4, 3) := by decide +kernel
theorem dX5_isFit_199 : decode cX5_isFit 199 = .ok (.iconst 0, 1) := by decide +kernel
theorem dX5_isFit_200 : decode cX5_isFit 200 = .ok (.ireturn, 1) := by decide +kernel
def rmX5_isFit (d : Nat) (mc ms : Nat) : Room := { frames := 2 * d + 5, cells := mc, slots := ms, locals := 50 * d + 116 }
abbrev cX5_isFieldsFit : ByteArray := prog_8_method_11_code
def yX5_isFieldsFit : MethodName := ⟨RX5, "isFieldsFit", "(II)Z"⟩
def wsX5_isFieldsFit : List Cond := .code yX5_isFieldsFit cX5_isFieldsFit 6 (some .boolean) :: sr_G
theorem dX5_isFieldsFit_0 : decode cX5_isFieldsFit 0 = .ok (.aload_n 0, 1) := by decide +kernel
theorem dX5_isFieldsFit_1 : decode cX5_isFieldsFit 1 = .ok (.getfield 17, 3) := by decide +kernel
theorem dX5_isFieldsFit_4 : decode cX5_isFieldsFit 4 = .ok (.iload_n 2, 1) := by decide +kernel
theorem dX5_isFieldsFit_5 : decode cX5_isFieldsFit 5 = .ok (.invokevirtual 34, 3) := by decide +kernel
theorem dX5_isFieldsFit_8 : decode cX5_isFieldsFit 8 = .ok (.istore_n 3, 1) := by decide +kernel
theorem dX5_isFieldsFit_9 : decode cX5_isFieldsFit 9 = .ok (.iconst 0, 1) := by decide +kernel
theorem dX5_isFieldsFit_10 : decode cX5_isFieldsFit 10 = .ok (.istore 4, 2) := by decide +kernel
theorem dX5_isFieldsFit_12 : decode cX5_isFieldsFit 12 = .ok (.iload 4, 2) := by decide +kernel
theorem dX5_isFieldsFit_14 : decode cX5_isFieldsFit 14 = .ok (.aload_n 0, 1) := by decide +kernel
theorem dX5_isFieldsFit_15 : decode cX5_isFieldsFit 15 = .ok (.getfield 17, 3) := by decide +kernel
theorem dX5_isFieldsFit_18 : decode cX5_isFieldsFit 18 = .ok (.iload_n 2, 1) := by decide +kernel
theorem dX5_isFieldsFit_19 : decode cX5_isFieldsFit 19 = .ok (.invokevirtual 41, 3) := by decide +kernel
theorem dX5_isFieldsFit_22 : decode cX5_isFieldsFit 22 = .ok (.if_icmp .ge 63, 3) := by decide +kernel
theorem dX5_isFieldsFit_25 : decode cX5_isFieldsFit 25 = .ok (.aload_n 0, 1) := by decide +kernel
theorem dX5_isFieldsFit_26 : decode cX5_isFieldsFit 26 = .ok (.getfield 17, 3) := by decide +kernel
theorem dX5_isFieldsFit_29 : decode cX5_isFieldsFit 29 = .ok (.iload_n 3, 1) := by decide +kernel
theorem dX5_isFieldsFit_30 : decode cX5_isFieldsFit 30 = .ok (.invokevirtual 109, 3) := by decide +kernel
theorem dX5_isFieldsFit_33 : decode cX5_isFieldsFit 33 = .ok (.ifCond .ne 37, 3) := by decide +kernel
theorem dX5_isFieldsFit_36 : decode cX5_isFieldsFit 36 = .ok (.aload_n 0, 1) := by decide +kernel
theorem dX5_isFieldsFit_37 : decode cX5_isFieldsFit 37 = .ok (.iload_n 1, 1) := by decide +kernel
theorem dX5_isFieldsFit_38 : decode cX5_isFieldsFit 38 = .ok (.aload_n 0, 1) := by decide +kernel
theorem dX5_isFieldsFit_39 : decode cX5_isFieldsFit 39 = .ok (.getfield 17, 3) := by decide +kernel
theorem dX5_isFieldsFit_42 : decode cX5_isFieldsFit 42 = .ok (.iload_n 3, 1) := by decide +kernel
theorem dX5_isFieldsFit_43 : decode cX5_isFieldsFit 43 = .ok (.invokevirtual 112, 3) := by decide +kernel
theorem dX5_isFieldsFit_46 : decode cX5_isFieldsFit 46 = .ok (.invokevirtual 115, 3) := by decide +kernel
theorem dX5_isFieldsFit_49 : decode cX5_isFieldsFit 49 = .ok (.istore 5, 2) := by decide +kernel
theorem dX5_isFieldsFit_51 : decode cX5_isFieldsFit 51 = .ok (.iload 5, 2) := by decide +kernel
theorem dX5_isFieldsFit_53 : decode cX5_isFieldsFit 53 = .ok (.iconst (-1), 1) := by decide +kernel
theorem dX5_isFieldsFit_54 : decode cX5_isFieldsFit 54 = .ok (.if_icmp .eq 14, 3) := by decide +kernel
theorem dX5_isFieldsFit_57 : decode cX5_isFieldsFit 57 = .ok (.aload_n 0, 1) := by decide +kernel
theorem dX5_isFieldsFit_58 : decode cX5_isFieldsFit 58 = .ok (.iload 5, 2) := by decide +kernel
theorem dX5_isFieldsFit_60 : decode cX5_isFieldsFit 60 = .ok (.iload_n 3, 1) := by decide +kernel
theorem dX5_isFieldsFit_61 : decode cX5_isFieldsFit 61 = .ok (.iconst 0, 1) := by decide +kernel
theorem dX5_isFieldsFit_62 : decode cX5_isFieldsFit 62 = .ok (.invokevirtual 56, 3) := by decide +kernel
theorem dX5_isFieldsFit_65 : decode cX5_isFieldsFit 65 = .ok (.ifCond .ne 5, 3) := by decide +kernel
theorem dX5_isFieldsFit_68 : decode cX5_isFieldsFit 68 = .ok (.iconst 0, 1) := by decide +kernel
theorem dX5_isFieldsFit_69 : decode cX5_isFieldsFit 69 = .ok (.ireturn, 1) := by decide +kernel
theorem dX5_isFieldsFit_70 : decode cX5_isFieldsFit 70 = .ok (.aload_n 0, 1) := by decide +kernel
theorem dX5_isFieldsFit_71 : decode cX5_isFieldsFit 71 = .ok (.getfield 17, 3) := by decide +kernel
theorem dX5_isFieldsFit_74 : decode cX5_isFieldsFit 74 = .ok (.iload_n 3, 1) := by decide +kernel
theorem dX5_isFieldsFit_75 : decode cX5_isFieldsFit 75 = .ok (.invokevirtual 91, 3) := by decide +kernel
theorem dX5_isFieldsFit_78 : decode cX5_isFieldsFit 78 = .ok (.istore_n 3, 1) := by decide +kernel
theorem dX5_isFieldsFit_79 : decode cX5_isFieldsFit 79 = .ok (.iinc 4 1, 3) := by decide +kernel
theorem dX5_isFieldsFit_82 : decode cX5_isFieldsFit 82 = .ok (.goto (-70), 3) := by decide +kernel
theorem dX5_isFieldsFit_85 : decode cX5_isFieldsFit 85 = .ok (.iconst 1, 1) := by decide +kernel
theorem dX5_isFieldsFit_86 : decode cX5_isFieldsFit 86 = .ok (.ireturn, 1) := by decide +kernel
def rmX5_isFieldsFit (mc ms : Nat) : Room := { frames := 80, cells := mc, slots := ms, locals := 1991 }
abbrev cX5_isWholeFit : ByteArray := prog_8_method_4_code
def yX5_isWholeFit : MethodName := ⟨RX5, "isWholeFit", "()Z"⟩
def wsX5_isWholeFit : List Cond := .code yX5_isWholeFit cX5_isWholeFit 2 (some .boolean) :: sr_G
theorem dX5_isWholeFit_0 : decode cX5_isWholeFit 0 = .ok (.aload_n 0, 1) := by decide +kernel
theorem dX5_isWholeFit_1 : decode cX5_isWholeFit 1 = .ok (.getfield 20, 3) := by decide +kernel
theorem dX5_isWholeFit_4 : decode cX5_isWholeFit 4 = .ok (.invokevirtual 51, 3) := by decide +kernel
theorem dX5_isWholeFit_7 : decode cX5_isWholeFit 7 = .ok (.aload_n 0, 1) := by decide +kernel
theorem dX5_isWholeFit_8 : decode cX5_isWholeFit 8 = .ok (.iconst 0, 1) := by decide +kernel
theorem dX5_isWholeFit_9 : decode cX5_isWholeFit 9 = .ok (.iconst 0, 1) := by decide +kernel
theorem dX5_isWholeFit_10 : decode cX5_isWholeFit 10 = .ok (.iconst 0, 1) := by decide +kernel
theorem dX5_isWholeFit_11 : decode cX5_isWholeFit 11 = .ok (.invokevirtual 56, 3) := by decide +kernel
theorem dX5_isWholeFit_14 : decode cX5_isWholeFit 14 = .ok (.ifCond .ne 5, 3) := by decide +kernel
theorem dX5_isWholeFit_17 : decode cX5_isWholeFit 17 = .ok (.iconst 0, 1) := by decide +kernel
theorem dX5_isWholeFit_18 : decode cX5_isWholeFit 18 = .ok (.ireturn, 1) := by decide +kernel
theorem dX5_isWholeFit_19 : decode cX5_isWholeFit 19 = .ok (.iconst 0, 1) := by decide +kernel
theorem dX5_isWholeFit_20 : decode cX5_isWholeFit 20 = .ok (.istore_n 1, 1) := by decide +kernel
theorem dX5_isWholeFit_21 : decode cX5_isWholeFit 21 = .ok (.iload_n 1, 1) := by decide +kernel
theorem dX5_isWholeFit_22 : decode cX5_isWholeFit 22 = .ok (.aload_n 0, 1) := by decide +kernel
theorem dX5_isWholeFit_23 : decode cX5_isWholeFit 23 = .ok (.getfield 20, 3) := by decide +kernel
theorem dX5_isWholeFit_26 : decode cX5_isWholeFit 26 = .ok (.invokevirtual 60, 3) := by decide +kernel
theorem dX5_isWholeFit_29 : decode cX5_isWholeFit 29 = .ok (.if_icmp .ge 41, 3) := by decide +kernel
theorem dX5_isWholeFit_32 : decode cX5_isWholeFit 32 = .ok (.iload_n 1, 1) := by decide +kernel
theorem dX5_isWholeFit_33 : decode cX5_isWholeFit 33 = .ok (.sipush 128, 3) := by decide +kernel
theorem dX5_isWholeFit_36 : decode cX5_isWholeFit 36 = .ok (.if_icmp .ge 34, 3) := by decide +kernel
theorem dX5_isWholeFit_39 : decode cX5_isWholeFit 39 = .ok (.aload_n 0, 1) := by decide +kernel
theorem dX5_isWholeFit_40 : decode cX5_isWholeFit 40 = .ok (.aload_n 0, 1) := by decide +kernel
theorem dX5_isWholeFit_41 : decode cX5_isWholeFit 41 = .ok (.getfield 20, 3) := by decide +kernel
theorem dX5_isWholeFit_44 : decode cX5_isWholeFit 44 = .ok (.iload_n 1, 1) := by decide +kernel
theorem dX5_isWholeFit_45 : decode cX5_isWholeFit 45 = .ok (.invokevirtual 64, 3) := by decide +kernel
theorem dX5_isWholeFit_48 : decode cX5_isWholeFit 48 = .ok (.aload_n 0, 1) := by decide +kernel
theorem dX5_isWholeFit_49 : decode cX5_isWholeFit 49 = .ok (.getfield 20, 3) := by decide +kernel
theorem dX5_isWholeFit_52 : decode cX5_isWholeFit 52 = .ok (.iload_n 1, 1) := by decide +kernel
theorem dX5_isWholeFit_53 : decode cX5_isWholeFit 53 = .ok (.invokevirtual 65, 3) := by decide +kernel
theorem dX5_isWholeFit_56 : decode cX5_isWholeFit 56 = .ok (.invokevirtual 68, 3) := by decide +kernel
theorem dX5_isWholeFit_59 : decode cX5_isWholeFit 59 = .ok (.ifCond .ne 5, 3) := by decide +kernel
theorem dX5_isWholeFit_62 : decode cX5_isWholeFit 62 = .ok (.iconst 0, 1) := by decide +kernel
theorem dX5_isWholeFit_63 : decode cX5_isWholeFit 63 = .ok (.ireturn, 1) := by decide +kernel
theorem dX5_isWholeFit_64 : decode cX5_isWholeFit 64 = .ok (.iinc 1 1, 3) := by decide +kernel
theorem dX5_isWholeFit_67 : decode cX5_isWholeFit 67 = .ok (.goto (-46), 3) := by decide +kernel
theorem dX5_isWholeFit_70 : decode cX5_isWholeFit 70 = .ok (.iconst 1, 1) := by decide +kernel
theorem dX5_isWholeFit_71 : decode cX5_isWholeFit 71 = .ok (.ireturn, 1) := by decide +kernel
def rmX5_isWholeFit (mc ms : Nat) : Room := { frames := 81, cells := mc, slots := ms, locals := 2016 }
theorem g5_24 (c0 : Cond) : GoodIn (c0 :: sr_G) (wsV RX5 24 RX6 yX6_kind wsX6_kind) := sr_V c0 (sr_ins (by decide +kernel))
theorem g5_37 (c0 : Cond) : GoodIn (c0 :: sr_G) (va_wsS RX5 37 yX3_isNamed wsX3_isNamed) := sr_S c0 (sr_ins (by decide +kernel))
theorem g5_44 (c0 : Cond) : GoodIn (c0 :: sr_G) (wsV RX5 44 RX6 yX6_name wsX6_name) := sr_V c0 (sr_ins (by decide +kernel))
theorem g5_47 (c0 : Cond) : GoodIn (c0 :: sr_G) (va_wsS RX5 47 yX6_isSameName wsX6_isSameName) := sr_S c0 (sr_ins (by decide +kernel))
theorem g5_41 (c0 : Cond) : GoodIn (c0 :: sr_G) (wsV RX5 41 RX6 yX6_amount wsX6_amount) := sr_V c0 (sr_ins (by decide +kernel))
theorem g5_30 (c0 : Cond) : GoodIn (c0 :: sr_G) (wsV RX5 30 RX5 yX5_isSame wsX5_isSame) := sr_V c0 (sr_ins (by decide +kernel))
theorem g5_34 (c0 : Cond) : GoodIn (c0 :: sr_G) (wsV RX5 34 RX6 yX6_first wsX6_first) := sr_V c0 (sr_ins (by decide +kernel))
theorem g5_94 (c0 : Cond) : GoodIn (c0 :: sr_G) (wsV RX5 94 RX5 yX5_isMatch wsX5_isMatch) := sr_V c0 (sr_ins (by decide +kernel))
theorem g5_91 (c0 : Cond) : GoodIn (c0 :: sr_G) (wsV RX5 91 RX6 yX6_next wsX6_next) := sr_V c0 (sr_ins (by decide +kernel))
theorem g5_100 (c0 : Cond) : GoodIn (c0 :: sr_G) (wsV RX5 100 RX6 yX6_nextSymbol wsX6_nextSymbol) := sr_V c0 (sr_ins (by decide +kernel))
theorem g5_97 (c0 : Cond) : GoodIn (c0 :: sr_G) (wsV RX5 97 RX5 yX5_hasSymbol wsX5_hasSymbol) := sr_V c0 (sr_ins (by decide +kernel))
theorem g5_103 (c0 : Cond) : GoodIn (c0 :: sr_G) (wsV RX5 103 RX11 yX11_has wsX11_has) := sr_V c0 (sr_ins (by decide +kernel))
theorem g5_106 (c0 : Cond) : GoodIn (c0 :: sr_G) (wsV RX5 106 RX11 yX11_add wsX11_add) := sr_V c0 (sr_ins (by decide +kernel))
theorem g5_112 (c0 : Cond) : GoodIn (c0 :: sr_G) (wsV RX5 112 RX6 yX6_fieldName wsX6_fieldName) := sr_V c0 (sr_ins (by decide +kernel))
theorem g5_56 (c0 : Cond) : GoodIn (c0 :: sr_G) (wsV RX5 56 RX5 yX5_isFit wsX5_isFit) := sr_V c0 (sr_ins (by decide +kernel))
theorem g5_85 (c0 : Cond) : GoodIn (c0 :: sr_G) (wsV RX5 85 RX6 yX6_hasEnumDefault wsX6_hasEnumDefault) := sr_V c0 (sr_ins (by decide +kernel))
theorem g5_88 (c0 : Cond) : GoodIn (c0 :: sr_G) (wsV RX5 88 RX5 yX5_hasAllSymbols wsX5_hasAllSymbols) := sr_V c0 (sr_ins (by decide +kernel))
theorem g5_78 (c0 : Cond) : GoodIn (c0 :: sr_G) (wsV RX5 78 RX6 yX6_meant wsX6_meant) := sr_V c0 (sr_ins (by decide +kernel))
theorem g5_81 (c0 : Cond) : GoodIn (c0 :: sr_G) (wsV RX5 81 RX5 yX5_ask wsX5_ask) := sr_V c0 (sr_ins (by decide +kernel))
theorem g5_74 (c0 : Cond) : GoodIn (c0 :: sr_G) (wsV RX5 74 RX5 yX5_firstMatch wsX5_firstMatch) := sr_V c0 (sr_ins (by decide +kernel))
theorem g5_71 (c0 : Cond) : GoodIn (c0 :: sr_G) (wsV RX5 71 RX5 yX5_isEveryBranchFit wsX5_isEveryBranchFit) := sr_V c0 (sr_ins (by decide +kernel))
theorem g5_109 (c0 : Cond) : GoodIn (c0 :: sr_G) (wsV RX5 109 RX6 yX6_hasFieldDefault wsX6_hasFieldDefault) := sr_V c0 (sr_ins (by decide +kernel))
theorem g5_115 (c0 : Cond) : GoodIn (c0 :: sr_G) (wsV RX5 115 RX5 yX5_writerField wsX5_writerField) := sr_V c0 (sr_ins (by decide +kernel))
theorem g5_51 (c0 : Cond) : GoodIn (c0 :: sr_G) (wsV RX5 51 RX11 yX11_clear wsX11_clear) := sr_V c0 (sr_ins (by decide +kernel))
theorem g5_60 (c0 : Cond) : GoodIn (c0 :: sr_G) (wsV RX5 60 RX11 yX11_count wsX11_count) := sr_V c0 (sr_ins (by decide +kernel))
theorem g5_64 (c0 : Cond) : GoodIn (c0 :: sr_G) (wsV RX5 64 RX11 yX11_first wsX11_first) := sr_V c0 (sr_ins (by decide +kernel))
theorem g5_65 (c0 : Cond) : GoodIn (c0 :: sr_G) (wsV RX5 65 RX11 yX11_second wsX11_second) := sr_V c0 (sr_ins (by decide +kernel))
theorem g5_68 (c0 : Cond) : GoodIn (c0 :: sr_G) (wsV RX5 68 RX5 yX5_isFieldsFit wsX5_isFieldsFit) := sr_V c0 (sr_ins (by decide +kernel))
