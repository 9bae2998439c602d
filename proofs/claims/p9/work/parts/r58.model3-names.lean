abbrev cX10_schema : ByteArray := prog_12_method_9_code
def yX10_schema : MethodName := ⟨RX10, "schema", "()I"⟩
def wsX10_schema : List Cond := .code yX10_schema cX10_schema 2 (some .int) :: sr_G
theorem dX10_schema_0 : decode cX10_schema 0 = .ok (.aload_n 0, 1) := by decide +kernel
theorem dX10_schema_1 : decode cX10_schema 1 = .ok (.iconst 0, 1) := by decide +kernel
theorem dX10_schema_2 : decode cX10_schema 2 = .ok (.putfield 45, 3) := by decide +kernel
theorem dX10_schema_5 : decode cX10_schema 5 = .ok (.aload_n 0, 1) := by decide +kernel
theorem dX10_schema_6 : decode cX10_schema 6 = .ok (.getfield 16, 3) := by decide +kernel
theorem dX10_schema_9 : decode cX10_schema 9 = .ok (.aload_n 0, 1) := by decide +kernel
theorem dX10_schema_10 : decode cX10_schema 10 = .ok (.getfield 7, 3) := by decide +kernel
theorem dX10_schema_13 : decode cX10_schema 13 = .ok (.iconst 0, 1) := by decide +kernel
theorem dX10_schema_14 : decode cX10_schema 14 = .ok (.aload_n 0, 1) := by decide +kernel
theorem dX10_schema_15 : decode cX10_schema 15 = .ok (.getfield 48, 3) := by decide +kernel
theorem dX10_schema_18 : decode cX10_schema 18 = .ok (.invokevirtual 63, 3) := by decide +kernel
theorem dX10_schema_21 : decode cX10_schema 21 = .ok (.istore_n 1, 1) := by decide +kernel
theorem dX10_schema_22 : decode cX10_schema 22 = .ok (.aload_n 0, 1) := by decide +kernel
theorem dX10_schema_23 : decode cX10_schema 23 = .ok (.iload_n 1, 1) := by decide +kernel
theorem dX10_schema_24 : decode cX10_schema 24 = .ok (.ifCond .ne 7, 3) := by decide +kernel
theorem dX10_schema_27 : decode cX10_schema 27 = .ok (.iconst 1, 1) := by decide +kernel
theorem dX10_schema_28 : decode cX10_schema 28 = .ok (.goto 4, 3) := by decide +kernel
theorem dX10_schema_31 : decode cX10_schema 31 = .ok (.iconst 0, 1) := by decide +kernel
theorem dX10_schema_32 : decode cX10_schema 32 = .ok (.putfield 67, 3) := by decide +kernel
theorem dX10_schema_35 : decode cX10_schema 35 = .ok (.aload_n 0, 1) := by decide +kernel
theorem dX10_schema_36 : decode cX10_schema 36 = .ok (.aload_n 0, 1) := by decide +kernel
theorem dX10_schema_37 : decode cX10_schema 37 = .ok (.getfield 67, 3) := by decide +kernel
theorem dX10_schema_40 : decode cX10_schema 40 = .ok (.ifCond .eq 7, 3) := by decide +kernel
theorem dX10_schema_43 : decode cX10_schema 43 = .ok (.iconst (-1), 1) := by decide +kernel
theorem dX10_schema_44 : decode cX10_schema 44 = .ok (.goto 10, 3) := by decide +kernel
theorem dX10_schema_47 : decode cX10_schema 47 = .ok (.aload_n 0, 1) := by decide +kernel
theorem dX10_schema_48 : decode cX10_schema 48 = .ok (.getfield 16, 3) := by decide +kernel
theorem dX10_schema_51 : decode cX10_schema 51 = .ok (.getfield 71, 3) := by decide +kernel
theorem dX10_schema_54 : decode cX10_schema 54 = .ok (.putfield 26, 3) := by decide +kernel
theorem dX10_schema_57 : decode cX10_schema 57 = .ok (.iload_n 1, 1) := by decide +kernel
theorem dX10_schema_58 : decode cX10_schema 58 = .ok (.ireturn, 1) := by decide +kernel
def rmX10_schema (mc ms : Nat) : Room := { frames := 88, cells := mc, slots := ms, locals := 1935 }
abbrev cX10_take : ByteArray := prog_12_method_15_code
def yX10_take : MethodName := ⟨RX10, "take", "(II)Z"⟩
def wsX10_take : List Cond := .code yX10_take cX10_take 3 (some .boolean) :: sr_G
theorem dX10_take_0 : decode cX10_take 0 = .ok (.aload_n 0, 1) := by decide +kernel
theorem dX10_take_1 : decode cX10_take 1 = .ok (.iload_n 1, 1) := by decide +kernel
theorem dX10_take_2 : decode cX10_take 2 = .ok (.invokestatic 82, 3) := by decide +kernel
theorem dX10_take_5 : decode cX10_take 5 = .ok (.ifCond .eq 10, 3) := by decide +kernel
theorem dX10_take_8 : decode cX10_take 8 = .ok (.iload_n 2, 1) := by decide +kernel
theorem dX10_take_9 : decode cX10_take 9 = .ok (.invokestatic 82, 3) := by decide +kernel
theorem dX10_take_12 : decode cX10_take 12 = .ok (.ifCond .ne 7, 3) := by decide +kernel
theorem dX10_take_15 : decode cX10_take 15 = .ok (.iconst 1, 1) := by decide +kernel
theorem dX10_take_16 : decode cX10_take 16 = .ok (.goto 4, 3) := by decide +kernel
theorem dX10_take_19 : decode cX10_take 19 = .ok (.iconst 0, 1) := by decide +kernel
theorem dX10_take_20 : decode cX10_take 20 = .ok (.iload_n 1, 1) := by decide +kernel
theorem dX10_take_21 : decode cX10_take 21 = .ok (.invokestatic 82, 3) := by decide +kernel
theorem dX10_take_24 : decode cX10_take 24 = .ok (.ifCond .eq 32, 3) := by decide +kernel
theorem dX10_take_27 : decode cX10_take 27 = .ok (.iload_n 2, 1) := by decide +kernel
theorem dX10_take_28 : decode cX10_take 28 = .ok (.invokestatic 82, 3) := by decide +kernel
theorem dX10_take_31 : decode cX10_take 31 = .ok (.ifCond .eq 25, 3) := by decide +kernel
theorem dX10_take_34 : decode cX10_take 34 = .ok (.aload_n 0, 1) := by decide +kernel
theorem dX10_take_35 : decode cX10_take 35 = .ok (.getfield 34, 3) := by decide +kernel
theorem dX10_take_38 : decode cX10_take 38 = .ok (.iload_n 1, 1) := by decide +kernel
theorem dX10_take_39 : decode cX10_take 39 = .ok (.iaload, 1) := by decide +kernel
theorem dX10_take_40 : decode cX10_take 40 = .ok (.ifCond .lt 12, 3) := by decide +kernel
theorem dX10_take_43 : decode cX10_take 43 = .ok (.aload_n 0, 1) := by decide +kernel
theorem dX10_take_44 : decode cX10_take 44 = .ok (.getfield 34, 3) := by decide +kernel
theorem dX10_take_47 : decode cX10_take 47 = .ok (.iload_n 2, 1) := by decide +kernel
theorem dX10_take_48 : decode cX10_take 48 = .ok (.iaload, 1) := by decide +kernel
theorem dX10_take_49 : decode cX10_take 49 = .ok (.ifCond .ge 7, 3) := by decide +kernel
theorem dX10_take_52 : decode cX10_take 52 = .ok (.iconst 1, 1) := by decide +kernel
theorem dX10_take_53 : decode cX10_take 53 = .ok (.goto 4, 3) := by decide +kernel
theorem dX10_take_56 : decode cX10_take 56 = .ok (.iconst 0, 1) := by decide +kernel
theorem dX10_take_57 : decode cX10_take 57 = .ok (.invokevirtual 51, 3) := by decide +kernel
theorem dX10_take_60 : decode cX10_take 60 = .ok (.ifCond .eq 5, 3) := by decide +kernel
theorem dX10_take_63 : decode cX10_take 63 = .ok (.iconst 0, 1) := by decide +kernel
theorem dX10_take_64 : decode cX10_take 64 = .ok (.ireturn, 1) := by decide +kernel
theorem dX10_take_65 : decode cX10_take 65 = .ok (.aload_n 0, 1) := by decide +kernel
theorem dX10_take_66 : decode cX10_take 66 = .ok (.getfield 20, 3) := by decide +kernel
theorem dX10_take_69 : decode cX10_take 69 = .ok (.aload_n 0, 1) := by decide +kernel
theorem dX10_take_70 : decode cX10_take 70 = .ok (.getfield 31, 3) := by decide +kernel
theorem dX10_take_73 : decode cX10_take 73 = .ok (.sipush 4096, 3) := by decide +kernel
theorem dX10_take_76 : decode cX10_take 76 = .ok (.iload_n 1, 1) := by decide +kernel
theorem dX10_take_77 : decode cX10_take 77 = .ok (.imul, 1) := by decide +kernel
theorem dX10_take_78 : decode cX10_take 78 = .ok (.aload_n 0, 1) := by decide +kernel
theorem dX10_take_79 : decode cX10_take 79 = .ok (.getfield 34, 3) := by decide +kernel
theorem dX10_take_82 : decode cX10_take 82 = .ok (.iload_n 1, 1) := by decide +kernel
theorem dX10_take_83 : decode cX10_take 83 = .ok (.iaload, 1) := by decide +kernel
theorem dX10_take_84 : decode cX10_take 84 = .ok (.invokevirtual 63, 3) := by decide +kernel
theorem dX10_take_87 : decode cX10_take 87 = .ok (.pop, 1) := by decide +kernel
theorem dX10_take_88 : decode cX10_take 88 = .ok (.aload_n 0, 1) := by decide +kernel
theorem dX10_take_89 : decode cX10_take 89 = .ok (.getfield 23, 3) := by decide +kernel
theorem dX10_take_92 : decode cX10_take 92 = .ok (.aload_n 0, 1) := by decide +kernel
theorem dX10_take_93 : decode cX10_take 93 = .ok (.getfield 31, 3) := by decide +kernel
theorem dX10_take_96 : decode cX10_take 96 = .ok (.sipush 4096, 3) := by decide +kernel
theorem dX10_take_99 : decode cX10_take 99 = .ok (.iload_n 2, 1) := by decide +kernel
theorem dX10_take_100 : decode cX10_take 100 = .ok (.imul, 1) := by decide +kernel
theorem dX10_take_101 : decode cX10_take 101 = .ok (.aload_n 0, 1) := by decide +kernel
theorem dX10_take_102 : decode cX10_take 102 = .ok (.getfield 34, 3) := by decide +kernel
theorem dX10_take_105 : decode cX10_take 105 = .ok (.iload_n 2, 1) := by decide +kernel
theorem dX10_take_106 : decode cX10_take 106 = .ok (.iaload, 1) := by decide +kernel
theorem dX10_take_107 : decode cX10_take 107 = .ok (.invokevirtual 63, 3) := by decide +kernel
theorem dX10_take_110 : decode cX10_take 110 = .ok (.pop, 1) := by decide +kernel
theorem dX10_take_111 : decode cX10_take 111 = .ok (.iconst 1, 1) := by decide +kernel
theorem dX10_take_112 : decode cX10_take 112 = .ok (.ireturn, 1) := by decide +kernel
def rmX10_take (mc ms : Nat) : Room := { frames := 88, cells := mc, slots := ms, locals := 1935 }
abbrev cX10_matches : ByteArray := prog_12_method_25_code
def yX10_matches : MethodName := ⟨RX10, "matches", "(II)Z"⟩
def wsX10_matches : List Cond := .code yX10_matches cX10_matches 3 (some .boolean) :: sr_G
theorem dX10_matches_0 : decode cX10_matches 0 = .ok (.aload_n 0, 1) := by decide +kernel
theorem dX10_matches_1 : decode cX10_matches 1 = .ok (.iload_n 1, 1) := by decide +kernel
theorem dX10_matches_2 : decode cX10_matches 2 = .ok (.iload_n 2, 1) := by decide +kernel
theorem dX10_matches_3 : decode cX10_matches 3 = .ok (.invokevirtual 158, 3) := by decide +kernel
theorem dX10_matches_6 : decode cX10_matches 6 = .ok (.ifCond .eq 35, 3) := by decide +kernel
theorem dX10_matches_9 : decode cX10_matches 9 = .ok (.aload_n 0, 1) := by decide +kernel
theorem dX10_matches_10 : decode cX10_matches 10 = .ok (.getfield 20, 3) := by decide +kernel
theorem dX10_matches_13 : decode cX10_matches 13 = .ok (.aload_n 0, 1) := by decide +kernel
theorem dX10_matches_14 : decode cX10_matches 14 = .ok (.getfield 20, 3) := by decide +kernel
theorem dX10_matches_17 : decode cX10_matches 17 = .ok (.getfield 128, 3) := by decide +kernel
theorem dX10_matches_20 : decode cX10_matches 20 = .ok (.aload_n 0, 1) := by decide +kernel
theorem dX10_matches_21 : decode cX10_matches 21 = .ok (.getfield 23, 3) := by decide +kernel
theorem dX10_matches_24 : decode cX10_matches 24 = .ok (.aload_n 0, 1) := by decide +kernel
theorem dX10_matches_25 : decode cX10_matches 25 = .ok (.getfield 23, 3) := by decide +kernel
theorem dX10_matches_28 : decode cX10_matches 28 = .ok (.getfield 128, 3) := by decide +kernel
theorem dX10_matches_31 : decode cX10_matches 31 = .ok (.invokestatic 108, 3) := by decide +kernel
theorem dX10_matches_34 : decode cX10_matches 34 = .ok (.ifCond .eq 7, 3) := by decide +kernel
theorem dX10_matches_37 : decode cX10_matches 37 = .ok (.iconst 1, 1) := by decide +kernel
theorem dX10_matches_38 : decode cX10_matches 38 = .ok (.goto 4, 3) := by decide +kernel
theorem dX10_matches_41 : decode cX10_matches 41 = .ok (.iconst 0, 1) := by decide +kernel
theorem dX10_matches_42 : decode cX10_matches 42 = .ok (.ireturn, 1) := by decide +kernel
def rmX10_matches (mc ms : Nat) : Room := { frames := 152, cells := mc, slots := ms, locals := 3799 }
theorem g10_63 (c0 : Cond) : GoodIn (c0 :: sr_G) (wsV RX10 63 RX9 yX9_read wsX9_read) := sr_V c0 (sr_ins (by decide +kernel))
theorem g10_158 (c0 : Cond) : GoodIn (c0 :: sr_G) (wsV RX10 158 RX10 yX10_take wsX10_take) := sr_V c0 (sr_ins (by decide +kernel))
theorem gw10_63 : ∀ w ∈ ([.codeWith yX9_read cX9_read 5 (some .int) [(130, 134, 137, 85)], .initialized yX9_read.cls, .methodLink RX10 63 yX9_read, .instanceMethod yX9_read, .selects RX9 yX9_read yX9_read] : List Cond), w ∈ sr_G := sr_ins (by decide +kernel)
