abbrev cX3_isNamed : ByteArray := prog_6_method_2_code
def yX3_isNamed : MethodName := ⟨RX3, "isNamed", "(I)Z"⟩
def wsX3_isNamed : List Cond := .code yX3_isNamed cX3_isNamed 1 (some .boolean) :: sr_G
theorem dX3_isNamed_0 : decode cX3_isNamed 0 = .ok (.iload_n 0, 1) := by decide +kernel
theorem dX3_isNamed_1 : decode cX3_isNamed 1 = .ok (.bipush 8, 2) := by decide +kernel
theorem dX3_isNamed_3 : decode cX3_isNamed 3 = .ok (.if_icmp .eq 15, 3) := by decide +kernel
theorem dX3_isNamed_6 : decode cX3_isNamed 6 = .ok (.iload_n 0, 1) := by decide +kernel
theorem dX3_isNamed_7 : decode cX3_isNamed 7 = .ok (.bipush 9, 2) := by decide +kernel
theorem dX3_isNamed_9 : decode cX3_isNamed 9 = .ok (.if_icmp .eq 9, 3) := by decide +kernel
theorem dX3_isNamed_12 : decode cX3_isNamed 12 = .ok (.iload_n 0, 1) := by decide +kernel
theorem dX3_isNamed_13 : decode cX3_isNamed 13 = .ok (.bipush 10, 2) := by decide +kernel
theorem dX3_isNamed_15 : decode cX3_isNamed 15 = .ok (.if_icmp .ne 7, 3) := by decide +kernel
theorem dX3_isNamed_18 : decode cX3_isNamed 18 = .ok (.iconst 1, 1) := by decide +kernel
theorem dX3_isNamed_19 : decode cX3_isNamed 19 = .ok (.goto 4, 3) := by decide +kernel
theorem dX3_isNamed_22 : decode cX3_isNamed 22 = .ok (.iconst 0, 1) := by decide +kernel
theorem dX3_isNamed_23 : decode cX3_isNamed 23 = .ok (.ireturn, 1) := by decide +kernel
def rmX3_isNamed (mc ms : Nat) : Room := { frames := 0, cells := mc, slots := ms, locals := 0 }
abbrev cX3_word : ByteArray := prog_6_method_3_code
def yX3_word : MethodName := ⟨RX3, "word", "(I)Ljava/lang/String;"⟩
def wsX3_word : List Cond := .code yX3_word cX3_word 1 (some (.object "java/lang/String")) :: sr_G
theorem dX3_word_0 : decode cX3_word 0 = .ok (.iload_n 0, 1) := by decide +kernel
theorem dX3_word_1 : decode cX3_word 1 = .ok (.tableswitch 92 0 10 #[59, 62, 65, 68, 71, 74, 77, 80, 83, 86, 89], 59) := by decide +kernel
theorem dX3_word_60 : decode cX3_word 60 = .ok (.ldc 11, 2) := by decide +kernel
theorem dX3_word_62 : decode cX3_word 62 = .ok (.areturn, 1) := by decide +kernel
theorem dX3_word_63 : decode cX3_word 63 = .ok (.ldc 13, 2) := by decide +kernel
theorem dX3_word_65 : decode cX3_word 65 = .ok (.areturn, 1) := by decide +kernel
theorem dX3_word_66 : decode cX3_word 66 = .ok (.ldc 15, 2) := by decide +kernel
theorem dX3_word_68 : decode cX3_word 68 = .ok (.areturn, 1) := by decide +kernel
theorem dX3_word_69 : decode cX3_word 69 = .ok (.ldc 17, 2) := by decide +kernel
theorem dX3_word_71 : decode cX3_word 71 = .ok (.areturn, 1) := by decide +kernel
theorem dX3_word_72 : decode cX3_word 72 = .ok (.ldc 19, 2) := by decide +kernel
theorem dX3_word_74 : decode cX3_word 74 = .ok (.areturn, 1) := by decide +kernel
theorem dX3_word_75 : decode cX3_word 75 = .ok (.ldc 21, 2) := by decide +kernel
theorem dX3_word_77 : decode cX3_word 77 = .ok (.areturn, 1) := by decide +kernel
theorem dX3_word_78 : decode cX3_word 78 = .ok (.ldc 23, 2) := by decide +kernel
theorem dX3_word_80 : decode cX3_word 80 = .ok (.areturn, 1) := by decide +kernel
theorem dX3_word_81 : decode cX3_word 81 = .ok (.ldc 25, 2) := by decide +kernel
theorem dX3_word_83 : decode cX3_word 83 = .ok (.areturn, 1) := by decide +kernel
theorem dX3_word_84 : decode cX3_word 84 = .ok (.ldc 27, 2) := by decide +kernel
theorem dX3_word_86 : decode cX3_word 86 = .ok (.areturn, 1) := by decide +kernel
theorem dX3_word_87 : decode cX3_word 87 = .ok (.ldc 29, 2) := by decide +kernel
theorem dX3_word_89 : decode cX3_word 89 = .ok (.areturn, 1) := by decide +kernel
theorem dX3_word_90 : decode cX3_word 90 = .ok (.ldc 31, 2) := by decide +kernel
theorem dX3_word_92 : decode cX3_word 92 = .ok (.areturn, 1) := by decide +kernel
theorem dX3_word_93 : decode cX3_word 93 = .ok (.ldc 33, 2) := by decide +kernel
theorem dX3_word_95 : decode cX3_word 95 = .ok (.areturn, 1) := by decide +kernel
def rmX3_word (mc ms : Nat) : Room := { frames := 0, cells := mc, slots := ms, locals := 0 }
abbrev cX3_said : ByteArray := prog_6_method_4_code
def yX3_said : MethodName := ⟨RX3, "said", "(LSchemaReader$Text;I)I"⟩
def wsX3_said : List Cond := .code yX3_said cX3_said 3 (some .int) :: sr_G
theorem dX3_said_0 : decode cX3_said 0 = .ok (.iconst 0, 1) := by decide +kernel
theorem dX3_said_1 : decode cX3_said 1 = .ok (.istore_n 2, 1) := by decide +kernel
theorem dX3_said_2 : decode cX3_said 2 = .ok (.iload_n 2, 1) := by decide +kernel
theorem dX3_said_3 : decode cX3_said 3 = .ok (.bipush 10, 2) := by decide +kernel
theorem dX3_said_5 : decode cX3_said 5 = .ok (.if_icmp .gt 23, 3) := by decide +kernel
theorem dX3_said_8 : decode cX3_said 8 = .ok (.aload_n 0, 1) := by decide +kernel
theorem dX3_said_9 : decode cX3_said 9 = .ok (.iload_n 1, 1) := by decide +kernel
theorem dX3_said_10 : decode cX3_said 10 = .ok (.iload_n 2, 1) := by decide +kernel
theorem dX3_said_11 : decode cX3_said 11 = .ok (.invokestatic 35, 3) := by decide +kernel
theorem dX3_said_14 : decode cX3_said 14 = .ok (.invokevirtual 39, 3) := by decide +kernel
theorem dX3_said_17 : decode cX3_said 17 = .ok (.ifCond .eq 5, 3) := by decide +kernel
theorem dX3_said_20 : decode cX3_said 20 = .ok (.iload_n 2, 1) := by decide +kernel
theorem dX3_said_21 : decode cX3_said 21 = .ok (.ireturn, 1) := by decide +kernel
theorem dX3_said_22 : decode cX3_said 22 = .ok (.iinc 2 1, 3) := by decide +kernel
theorem dX3_said_25 : decode cX3_said 25 = .ok (.goto (-23), 3) := by decide +kernel
theorem dX3_said_28 : decode cX3_said 28 = .ok (.iconst (-1), 1) := by decide +kernel
theorem dX3_said_29 : decode cX3_said 29 = .ok (.ireturn, 1) := by decide +kernel
def rmX3_said (mc ms : Nat) : Room := { frames := 5, cells := mc, slots := ms, locals := 108 }
abbrev cX6_isSlot : ByteArray := prog_9_method_6_code
def yX6_isSlot : MethodName := ⟨RX6, "isSlot", "(I)Z"⟩
def wsX6_isSlot : List Cond := .code yX6_isSlot cX6_isSlot 1 (some .boolean) :: sr_G
theorem dX6_isSlot_0 : decode cX6_isSlot 0 = .ok (.iload_n 0, 1) := by decide +kernel
theorem dX6_isSlot_1 : decode cX6_isSlot 1 = .ok (.ifCond .lt 14, 3) := by decide +kernel
theorem dX6_isSlot_4 : decode cX6_isSlot 4 = .ok (.iload_n 0, 1) := by decide +kernel
theorem dX6_isSlot_5 : decode cX6_isSlot 5 = .ok (.sipush 128, 3) := by decide +kernel
theorem dX6_isSlot_8 : decode cX6_isSlot 8 = .ok (.if_icmp .ge 7, 3) := by decide +kernel
theorem dX6_isSlot_11 : decode cX6_isSlot 11 = .ok (.iconst 1, 1) := by decide +kernel
theorem dX6_isSlot_12 : decode cX6_isSlot 12 = .ok (.goto 4, 3) := by decide +kernel
theorem dX6_isSlot_15 : decode cX6_isSlot 15 = .ok (.iconst 0, 1) := by decide +kernel
theorem dX6_isSlot_16 : decode cX6_isSlot 16 = .ok (.ireturn, 1) := by decide +kernel
def rmX6_isSlot (mc ms : Nat) : Room := { frames := 0, cells := mc, slots := ms, locals := 0 }
abbrev cX6_clear : ByteArray := prog_9_method_2_code
def yX6_clear : MethodName := ⟨RX6, "clear", "()V"⟩
def wsX6_clear : List Cond := .code yX6_clear cX6_clear 1 none :: sr_G
theorem dX6_clear_0 : decode cX6_clear 0 = .ok (.aload_n 0, 1) := by decide +kernel
theorem dX6_clear_1 : decode cX6_clear 1 = .ok (.iconst 0, 1) := by decide +kernel
theorem dX6_clear_2 : decode cX6_clear 2 = .ok (.putfield 44, 3) := by decide +kernel
theorem dX6_clear_5 : decode cX6_clear 5 = .ok (.aload_n 0, 1) := by decide +kernel
theorem dX6_clear_6 : decode cX6_clear 6 = .ok (.iconst 0, 1) := by decide +kernel
theorem dX6_clear_7 : decode cX6_clear 7 = .ok (.putfield 48, 3) := by decide +kernel
theorem dX6_clear_10 : decode cX6_clear 10 = .ok (.return_, 1) := by decide +kernel
def rmX6_clear (mc ms : Nat) : Room := { frames := 0, cells := mc, slots := ms, locals := 0 }
abbrev cX6_letterCount : ByteArray := prog_9_method_3_code
def yX6_letterCount : MethodName := ⟨RX6, "letterCount", "()I"⟩
def wsX6_letterCount : List Cond := .code yX6_letterCount cX6_letterCount 1 (some .int) :: sr_G
theorem dX6_letterCount_0 : decode cX6_letterCount 0 = .ok (.aload_n 0, 1) := by decide +kernel
theorem dX6_letterCount_1 : decode cX6_letterCount 1 = .ok (.getfield 44, 3) := by decide +kernel
theorem dX6_letterCount_4 : decode cX6_letterCount 4 = .ok (.ireturn, 1) := by decide +kernel
def rmX6_letterCount (mc ms : Nat) : Room := { frames := 0, cells := mc, slots := ms, locals := 0 }
abbrev cX6_letterAt : ByteArray := prog_9_method_4_code
def yX6_letterAt : MethodName := ⟨RX6, "letterAt", "(I)I"⟩
def wsX6_letterAt : List Cond := .code yX6_letterAt cX6_letterAt 2 (some .int) :: sr_G
theorem dX6_letterAt_0 : decode cX6_letterAt 0 = .ok (.iload_n 1, 1) := by decide +kernel
theorem dX6_letterAt_1 : decode cX6_letterAt 1 = .ok (.ifCond .lt 24, 3) := by decide +kernel
theorem dX6_letterAt_4 : decode cX6_letterAt 4 = .ok (.iload_n 1, 1) := by decide +kernel
theorem dX6_letterAt_5 : decode cX6_letterAt 5 = .ok (.aload_n 0, 1) := by decide +kernel
theorem dX6_letterAt_6 : decode cX6_letterAt 6 = .ok (.getfield 44, 3) := by decide +kernel
theorem dX6_letterAt_9 : decode cX6_letterAt 9 = .ok (.if_icmp .ge 16, 3) := by decide +kernel
theorem dX6_letterAt_12 : decode cX6_letterAt 12 = .ok (.aload_n 0, 1) := by decide +kernel
theorem dX6_letterAt_13 : decode cX6_letterAt 13 = .ok (.getfield 9, 3) := by decide +kernel
theorem dX6_letterAt_16 : decode cX6_letterAt 16 = .ok (.iload_n 1, 1) := by decide +kernel
theorem dX6_letterAt_17 : decode cX6_letterAt 17 = .ok (.baload, 1) := by decide +kernel
theorem dX6_letterAt_18 : decode cX6_letterAt 18 = .ok (.sipush 255, 3) := by decide +kernel
theorem dX6_letterAt_21 : decode cX6_letterAt 21 = .ok (.iand, 1) := by decide +kernel
theorem dX6_letterAt_22 : decode cX6_letterAt 22 = .ok (.goto 4, 3) := by decide +kernel
theorem dX6_letterAt_25 : decode cX6_letterAt 25 = .ok (.iconst (-1), 1) := by decide +kernel
theorem dX6_letterAt_26 : decode cX6_letterAt 26 = .ok (.ireturn, 1) := by decide +kernel
def rmX6_letterAt (mc ms : Nat) : Room := { frames := 0, cells := mc, slots := ms, locals := 0 }
abbrev cX6_open : ByteArray := prog_9_method_5_code
def yX6_open : MethodName := ⟨RX6, "open", "()I"⟩
def wsX6_open : List Cond := .code yX6_open cX6_open 2 (some .int) :: sr_G
theorem dX6_open_0 : decode cX6_open 0 = .ok (.aload_n 0, 1) := by decide +kernel
theorem dX6_open_1 : decode cX6_open 1 = .ok (.getfield 48, 3) := by decide +kernel
theorem dX6_open_4 : decode cX6_open 4 = .ok (.sipush 128, 3) := by decide +kernel
theorem dX6_open_7 : decode cX6_open 7 = .ok (.if_icmp .lt 5, 3) := by decide +kernel
theorem dX6_open_10 : decode cX6_open 10 = .ok (.iconst (-1), 1) := by decide +kernel
theorem dX6_open_11 : decode cX6_open 11 = .ok (.ireturn, 1) := by decide +kernel
theorem dX6_open_12 : decode cX6_open 12 = .ok (.aload_n 0, 1) := by decide +kernel
theorem dX6_open_13 : decode cX6_open 13 = .ok (.getfield 48, 3) := by decide +kernel
theorem dX6_open_16 : decode cX6_open 16 = .ok (.istore_n 1, 1) := by decide +kernel
theorem dX6_open_17 : decode cX6_open 17 = .ok (.aload_n 0, 1) := by decide +kernel
theorem dX6_open_18 : decode cX6_open 18 = .ok (.dup, 1) := by decide +kernel
theorem dX6_open_19 : decode cX6_open 19 = .ok (.getfield 48, 3) := by decide +kernel
theorem dX6_open_22 : decode cX6_open 22 = .ok (.iconst 1, 1) := by decide +kernel
theorem dX6_open_23 : decode cX6_open 23 = .ok (.iadd, 1) := by decide +kernel
theorem dX6_open_24 : decode cX6_open 24 = .ok (.putfield 48, 3) := by decide +kernel
theorem dX6_open_27 : decode cX6_open 27 = .ok (.aload_n 0, 1) := by decide +kernel
theorem dX6_open_28 : decode cX6_open 28 = .ok (.getfield 15, 3) := by decide +kernel
theorem dX6_open_31 : decode cX6_open 31 = .ok (.iload_n 1, 1) := by decide +kernel
theorem dX6_open_32 : decode cX6_open 32 = .ok (.iconst (-1), 1) := by decide +kernel
theorem dX6_open_33 : decode cX6_open 33 = .ok (.iastore, 1) := by decide +kernel
theorem dX6_open_34 : decode cX6_open 34 = .ok (.aload_n 0, 1) := by decide +kernel
theorem dX6_open_35 : decode cX6_open 35 = .ok (.getfield 19, 3) := by decide +kernel
theorem dX6_open_38 : decode cX6_open 38 = .ok (.iload_n 1, 1) := by decide +kernel
theorem dX6_open_39 : decode cX6_open 39 = .ok (.iload_n 1, 1) := by decide +kernel
theorem dX6_open_40 : decode cX6_open 40 = .ok (.iastore, 1) := by decide +kernel
theorem dX6_open_41 : decode cX6_open 41 = .ok (.aload_n 0, 1) := by decide +kernel
theorem dX6_open_42 : decode cX6_open 42 = .ok (.getfield 22, 3) := by decide +kernel
theorem dX6_open_45 : decode cX6_open 45 = .ok (.iload_n 1, 1) := by decide +kernel
theorem dX6_open_46 : decode cX6_open 46 = .ok (.iconst (-1), 1) := by decide +kernel
theorem dX6_open_47 : decode cX6_open 47 = .ok (.iastore, 1) := by decide +kernel
theorem dX6_open_48 : decode cX6_open 48 = .ok (.aload_n 0, 1) := by decide +kernel
theorem dX6_open_49 : decode cX6_open 49 = .ok (.getfield 25, 3) := by decide +kernel
theorem dX6_open_52 : decode cX6_open 52 = .ok (.iload_n 1, 1) := by decide +kernel
theorem dX6_open_53 : decode cX6_open 53 = .ok (.iconst (-1), 1) := by decide +kernel
theorem dX6_open_54 : decode cX6_open 54 = .ok (.iastore, 1) := by decide +kernel
theorem dX6_open_55 : decode cX6_open 55 = .ok (.aload_n 0, 1) := by decide +kernel
theorem dX6_open_56 : decode cX6_open 56 = .ok (.getfield 28, 3) := by decide +kernel
theorem dX6_open_59 : decode cX6_open 59 = .ok (.iload_n 1, 1) := by decide +kernel
theorem dX6_open_60 : decode cX6_open 60 = .ok (.iconst (-1), 1) := by decide +kernel
theorem dX6_open_61 : decode cX6_open 61 = .ok (.iastore, 1) := by decide +kernel
theorem dX6_open_62 : decode cX6_open 62 = .ok (.aload_n 0, 1) := by decide +kernel
theorem dX6_open_63 : decode cX6_open 63 = .ok (.getfield 31, 3) := by decide +kernel
theorem dX6_open_66 : decode cX6_open 66 = .ok (.iload_n 1, 1) := by decide +kernel
theorem dX6_open_67 : decode cX6_open 67 = .ok (.iconst (-1), 1) := by decide +kernel
theorem dX6_open_68 : decode cX6_open 68 = .ok (.iastore, 1) := by decide +kernel
theorem dX6_open_69 : decode cX6_open 69 = .ok (.aload_n 0, 1) := by decide +kernel
theorem dX6_open_70 : decode cX6_open 70 = .ok (.getfield 34, 3) := by decide +kernel
theorem dX6_open_73 : decode cX6_open 73 = .ok (.iload_n 1, 1) := by decide +kernel
theorem dX6_open_74 : decode cX6_open 74 = .ok (.iconst 0, 1) := by decide +kernel
theorem dX6_open_75 : decode cX6_open 75 = .ok (.iastore, 1) := by decide +kernel
theorem dX6_open_76 : decode cX6_open 76 = .ok (.aload_n 0, 1) := by decide +kernel
theorem dX6_open_77 : decode cX6_open 77 = .ok (.getfield 37, 3) := by decide +kernel
theorem dX6_open_80 : decode cX6_open 80 = .ok (.iload_n 1, 1) := by decide +kernel
theorem dX6_open_81 : decode cX6_open 81 = .ok (.iconst 0, 1) := by decide +kernel
theorem dX6_open_82 : decode cX6_open 82 = .ok (.bastore, 1) := by decide +kernel
theorem dX6_open_83 : decode cX6_open 83 = .ok (.aload_n 0, 1) := by decide +kernel
theorem dX6_open_84 : decode cX6_open 84 = .ok (.getfield 41, 3) := by decide +kernel
theorem dX6_open_87 : decode cX6_open 87 = .ok (.iload_n 1, 1) := by decide +kernel
theorem dX6_open_88 : decode cX6_open 88 = .ok (.iconst 0, 1) := by decide +kernel
theorem dX6_open_89 : decode cX6_open 89 = .ok (.bastore, 1) := by decide +kernel
theorem dX6_open_90 : decode cX6_open 90 = .ok (.iload_n 1, 1) := by decide +kernel
theorem dX6_open_91 : decode cX6_open 91 = .ok (.ireturn, 1) := by decide +kernel
def rmX6_open (mc ms : Nat) : Room := { frames := 0, cells := mc, slots := ms, locals := 0 }
abbrev cX6_meant : ByteArray := prog_9_method_7_code
def yX6_meant : MethodName := ⟨RX6, "meant", "(I)I"⟩
def wsX6_meant : List Cond := .code yX6_meant cX6_meant 2 (some .int) :: sr_G
theorem dX6_meant_0 : decode cX6_meant 0 = .ok (.aload_n 0, 1) := by decide +kernel
theorem dX6_meant_1 : decode cX6_meant 1 = .ok (.getfield 19, 3) := by decide +kernel
theorem dX6_meant_4 : decode cX6_meant 4 = .ok (.iload_n 1, 1) := by decide +kernel
theorem dX6_meant_5 : decode cX6_meant 5 = .ok (.invokestatic 51, 3) := by decide +kernel
theorem dX6_meant_8 : decode cX6_meant 8 = .ok (.ireturn, 1) := by decide +kernel
def rmX6_meant (mc ms : Nat) : Room := { frames := 1, cells := mc, slots := ms, locals := 21 }
abbrev cX6_kind : ByteArray := prog_9_method_8_code
def yX6_kind : MethodName := ⟨RX6, "kind", "(I)I"⟩
def wsX6_kind : List Cond := .code yX6_kind cX6_kind 2 (some .int) :: sr_G
theorem dX6_kind_0 : decode cX6_kind 0 = .ok (.aload_n 0, 1) := by decide +kernel
theorem dX6_kind_1 : decode cX6_kind 1 = .ok (.getfield 15, 3) := by decide +kernel
theorem dX6_kind_4 : decode cX6_kind 4 = .ok (.aload_n 0, 1) := by decide +kernel
theorem dX6_kind_5 : decode cX6_kind 5 = .ok (.getfield 19, 3) := by decide +kernel
theorem dX6_kind_8 : decode cX6_kind 8 = .ok (.iload_n 1, 1) := by decide +kernel
theorem dX6_kind_9 : decode cX6_kind 9 = .ok (.invokestatic 51, 3) := by decide +kernel
theorem dX6_kind_12 : decode cX6_kind 12 = .ok (.invokestatic 51, 3) := by decide +kernel
theorem dX6_kind_15 : decode cX6_kind 15 = .ok (.ireturn, 1) := by decide +kernel
def rmX6_kind (mc ms : Nat) : Room := { frames := 1, cells := mc, slots := ms, locals := 21 }
abbrev cX6_first : ByteArray := prog_9_method_9_code
def yX6_first : MethodName := ⟨RX6, "first", "(I)I"⟩
def wsX6_first : List Cond := .code yX6_first cX6_first 2 (some .int) :: sr_G
theorem dX6_first_0 : decode cX6_first 0 = .ok (.aload_n 0, 1) := by decide +kernel
theorem dX6_first_1 : decode cX6_first 1 = .ok (.getfield 22, 3) := by decide +kernel
theorem dX6_first_4 : decode cX6_first 4 = .ok (.aload_n 0, 1) := by decide +kernel
theorem dX6_first_5 : decode cX6_first 5 = .ok (.getfield 19, 3) := by decide +kernel
theorem dX6_first_8 : decode cX6_first 8 = .ok (.iload_n 1, 1) := by decide +kernel
theorem dX6_first_9 : decode cX6_first 9 = .ok (.invokestatic 51, 3) := by decide +kernel
theorem dX6_first_12 : decode cX6_first 12 = .ok (.invokestatic 51, 3) := by decide +kernel
theorem dX6_first_15 : decode cX6_first 15 = .ok (.ireturn, 1) := by decide +kernel
def rmX6_first (mc ms : Nat) : Room := { frames := 1, cells := mc, slots := ms, locals := 21 }
abbrev cX6_next : ByteArray := prog_9_method_10_code
def yX6_next : MethodName := ⟨RX6, "next", "(I)I"⟩
def wsX6_next : List Cond := .code yX6_next cX6_next 2 (some .int) :: sr_G
theorem dX6_next_0 : decode cX6_next 0 = .ok (.aload_n 0, 1) := by decide +kernel
theorem dX6_next_1 : decode cX6_next 1 = .ok (.getfield 25, 3) := by decide +kernel
theorem dX6_next_4 : decode cX6_next 4 = .ok (.iload_n 1, 1) := by decide +kernel
theorem dX6_next_5 : decode cX6_next 5 = .ok (.invokestatic 51, 3) := by decide +kernel
theorem dX6_next_8 : decode cX6_next 8 = .ok (.ireturn, 1) := by decide +kernel
def rmX6_next (mc ms : Nat) : Room := { frames := 1, cells := mc, slots := ms, locals := 21 }
abbrev cX6_amount : ByteArray := prog_9_method_11_code
def yX6_amount : MethodName := ⟨RX6, "amount", "(I)I"⟩
def wsX6_amount : List Cond := .code yX6_amount cX6_amount 2 (some .int) :: sr_G
theorem dX6_amount_0 : decode cX6_amount 0 = .ok (.aload_n 0, 1) := by decide +kernel
theorem dX6_amount_1 : decode cX6_amount 1 = .ok (.getfield 34, 3) := by decide +kernel
theorem dX6_amount_4 : decode cX6_amount 4 = .ok (.aload_n 0, 1) := by decide +kernel
theorem dX6_amount_5 : decode cX6_amount 5 = .ok (.getfield 19, 3) := by decide +kernel
theorem dX6_amount_8 : decode cX6_amount 8 = .ok (.iload_n 1, 1) := by decide +kernel
theorem dX6_amount_9 : decode cX6_amount 9 = .ok (.invokestatic 51, 3) := by decide +kernel
theorem dX6_amount_12 : decode cX6_amount 12 = .ok (.invokestatic 51, 3) := by decide +kernel
theorem dX6_amount_15 : decode cX6_amount 15 = .ok (.ireturn, 1) := by decide +kernel
def rmX6_amount (mc ms : Nat) : Room := { frames := 1, cells := mc, slots := ms, locals := 21 }
abbrev cX6_name : ByteArray := prog_9_method_12_code
def yX6_name : MethodName := ⟨RX6, "name", "(I)I"⟩
def wsX6_name : List Cond := .code yX6_name cX6_name 2 (some .int) :: sr_G
theorem dX6_name_0 : decode cX6_name 0 = .ok (.aload_n 0, 1) := by decide +kernel
theorem dX6_name_1 : decode cX6_name 1 = .ok (.getfield 28, 3) := by decide +kernel
theorem dX6_name_4 : decode cX6_name 4 = .ok (.aload_n 0, 1) := by decide +kernel
theorem dX6_name_5 : decode cX6_name 5 = .ok (.getfield 19, 3) := by decide +kernel
theorem dX6_name_8 : decode cX6_name 8 = .ok (.iload_n 1, 1) := by decide +kernel
theorem dX6_name_9 : decode cX6_name 9 = .ok (.invokestatic 51, 3) := by decide +kernel
theorem dX6_name_12 : decode cX6_name 12 = .ok (.invokestatic 51, 3) := by decide +kernel
theorem dX6_name_15 : decode cX6_name 15 = .ok (.ireturn, 1) := by decide +kernel
def rmX6_name (mc ms : Nat) : Room := { frames := 1, cells := mc, slots := ms, locals := 21 }
abbrev cX6_fieldName : ByteArray := prog_9_method_13_code
def yX6_fieldName : MethodName := ⟨RX6, "fieldName", "(I)I"⟩
def wsX6_fieldName : List Cond := .code yX6_fieldName cX6_fieldName 2 (some .int) :: sr_G
theorem dX6_fieldName_0 : decode cX6_fieldName 0 = .ok (.aload_n 0, 1) := by decide +kernel
theorem dX6_fieldName_1 : decode cX6_fieldName 1 = .ok (.getfield 31, 3) := by decide +kernel
theorem dX6_fieldName_4 : decode cX6_fieldName 4 = .ok (.iload_n 1, 1) := by decide +kernel
theorem dX6_fieldName_5 : decode cX6_fieldName 5 = .ok (.invokestatic 51, 3) := by decide +kernel
theorem dX6_fieldName_8 : decode cX6_fieldName 8 = .ok (.ireturn, 1) := by decide +kernel
def rmX6_fieldName (mc ms : Nat) : Room := { frames := 1, cells := mc, slots := ms, locals := 21 }
abbrev cX6_hasFieldDefault : ByteArray := prog_9_method_14_code
def yX6_hasFieldDefault : MethodName := ⟨RX6, "hasFieldDefault", "(I)Z"⟩
def wsX6_hasFieldDefault : List Cond := .code yX6_hasFieldDefault cX6_hasFieldDefault 2 (some .boolean) :: sr_G
theorem dX6_hasFieldDefault_0 : decode cX6_hasFieldDefault 0 = .ok (.iload_n 1, 1) := by decide +kernel
theorem dX6_hasFieldDefault_1 : decode cX6_hasFieldDefault 1 = .ok (.invokestatic 55, 3) := by decide +kernel
theorem dX6_hasFieldDefault_4 : decode cX6_hasFieldDefault 4 = .ok (.ifCond .eq 16, 3) := by decide +kernel
theorem dX6_hasFieldDefault_7 : decode cX6_hasFieldDefault 7 = .ok (.aload_n 0, 1) := by decide +kernel
theorem dX6_hasFieldDefault_8 : decode cX6_hasFieldDefault 8 = .ok (.getfield 37, 3) := by decide +kernel
theorem dX6_hasFieldDefault_11 : decode cX6_hasFieldDefault 11 = .ok (.iload_n 1, 1) := by decide +kernel
theorem dX6_hasFieldDefault_12 : decode cX6_hasFieldDefault 12 = .ok (.baload, 1) := by decide +kernel
theorem dX6_hasFieldDefault_13 : decode cX6_hasFieldDefault 13 = .ok (.ifCond .eq 7, 3) := by decide +kernel
theorem dX6_hasFieldDefault_16 : decode cX6_hasFieldDefault 16 = .ok (.iconst 1, 1) := by decide +kernel
theorem dX6_hasFieldDefault_17 : decode cX6_hasFieldDefault 17 = .ok (.goto 4, 3) := by decide +kernel
theorem dX6_hasFieldDefault_20 : decode cX6_hasFieldDefault 20 = .ok (.iconst 0, 1) := by decide +kernel
theorem dX6_hasFieldDefault_21 : decode cX6_hasFieldDefault 21 = .ok (.ireturn, 1) := by decide +kernel
def rmX6_hasFieldDefault (mc ms : Nat) : Room := { frames := 1, cells := mc, slots := ms, locals := 20 }
abbrev cX6_hasEnumDefault : ByteArray := prog_9_method_15_code
def yX6_hasEnumDefault : MethodName := ⟨RX6, "hasEnumDefault", "(I)Z"⟩
def wsX6_hasEnumDefault : List Cond := .code yX6_hasEnumDefault cX6_hasEnumDefault 3 (some .boolean) :: sr_G
theorem dX6_hasEnumDefault_0 : decode cX6_hasEnumDefault 0 = .ok (.aload_n 0, 1) := by decide +kernel
theorem dX6_hasEnumDefault_1 : decode cX6_hasEnumDefault 1 = .ok (.iload_n 1, 1) := by decide +kernel
theorem dX6_hasEnumDefault_2 : decode cX6_hasEnumDefault 2 = .ok (.invokevirtual 59, 3) := by decide +kernel
theorem dX6_hasEnumDefault_5 : decode cX6_hasEnumDefault 5 = .ok (.istore_n 2, 1) := by decide +kernel
theorem dX6_hasEnumDefault_6 : decode cX6_hasEnumDefault 6 = .ok (.iload_n 2, 1) := by decide +kernel
theorem dX6_hasEnumDefault_7 : decode cX6_hasEnumDefault 7 = .ok (.invokestatic 55, 3) := by decide +kernel
theorem dX6_hasEnumDefault_10 : decode cX6_hasEnumDefault 10 = .ok (.ifCond .eq 16, 3) := by decide +kernel
theorem dX6_hasEnumDefault_13 : decode cX6_hasEnumDefault 13 = .ok (.aload_n 0, 1) := by decide +kernel
theorem dX6_hasEnumDefault_14 : decode cX6_hasEnumDefault 14 = .ok (.getfield 41, 3) := by decide +kernel
theorem dX6_hasEnumDefault_17 : decode cX6_hasEnumDefault 17 = .ok (.iload_n 2, 1) := by decide +kernel
theorem dX6_hasEnumDefault_18 : decode cX6_hasEnumDefault 18 = .ok (.baload, 1) := by decide +kernel
theorem dX6_hasEnumDefault_19 : decode cX6_hasEnumDefault 19 = .ok (.ifCond .eq 7, 3) := by decide +kernel
theorem dX6_hasEnumDefault_22 : decode cX6_hasEnumDefault 22 = .ok (.iconst 1, 1) := by decide +kernel
theorem dX6_hasEnumDefault_23 : decode cX6_hasEnumDefault 23 = .ok (.goto 4, 3) := by decide +kernel
theorem dX6_hasEnumDefault_26 : decode cX6_hasEnumDefault 26 = .ok (.iconst 0, 1) := by decide +kernel
theorem dX6_hasEnumDefault_27 : decode cX6_hasEnumDefault 27 = .ok (.ireturn, 1) := by decide +kernel
def rmX6_hasEnumDefault (mc ms : Nat) : Room := { frames := 2, cells := mc, slots := ms, locals := 42 }
abbrev cX6_setKind : ByteArray := prog_9_method_16_code
def yX6_setKind : MethodName := ⟨RX6, "setKind", "(II)V"⟩
def wsX6_setKind : List Cond := .code yX6_setKind cX6_setKind 3 none :: sr_G
theorem dX6_setKind_0 : decode cX6_setKind 0 = .ok (.iload_n 1, 1) := by decide +kernel
theorem dX6_setKind_1 : decode cX6_setKind 1 = .ok (.invokestatic 55, 3) := by decide +kernel
theorem dX6_setKind_4 : decode cX6_setKind 4 = .ok (.ifCond .eq 10, 3) := by decide +kernel
theorem dX6_setKind_7 : decode cX6_setKind 7 = .ok (.aload_n 0, 1) := by decide +kernel
theorem dX6_setKind_8 : decode cX6_setKind 8 = .ok (.getfield 15, 3) := by decide +kernel
theorem dX6_setKind_11 : decode cX6_setKind 11 = .ok (.iload_n 1, 1) := by decide +kernel
theorem dX6_setKind_12 : decode cX6_setKind 12 = .ok (.iload_n 2, 1) := by decide +kernel
theorem dX6_setKind_13 : decode cX6_setKind 13 = .ok (.iastore, 1) := by decide +kernel
theorem dX6_setKind_14 : decode cX6_setKind 14 = .ok (.return_, 1) := by decide +kernel
def rmX6_setKind (mc ms : Nat) : Room := { frames := 1, cells := mc, slots := ms, locals := 20 }
abbrev cX6_setMeant : ByteArray := prog_9_method_17_code
def yX6_setMeant : MethodName := ⟨RX6, "setMeant", "(II)V"⟩
def wsX6_setMeant : List Cond := .code yX6_setMeant cX6_setMeant 3 none :: sr_G
theorem dX6_setMeant_0 : decode cX6_setMeant 0 = .ok (.iload_n 1, 1) := by decide +kernel
theorem dX6_setMeant_1 : decode cX6_setMeant 1 = .ok (.invokestatic 55, 3) := by decide +kernel
theorem dX6_setMeant_4 : decode cX6_setMeant 4 = .ok (.ifCond .eq 10, 3) := by decide +kernel
theorem dX6_setMeant_7 : decode cX6_setMeant 7 = .ok (.aload_n 0, 1) := by decide +kernel
theorem dX6_setMeant_8 : decode cX6_setMeant 8 = .ok (.getfield 19, 3) := by decide +kernel
theorem dX6_setMeant_11 : decode cX6_setMeant 11 = .ok (.iload_n 1, 1) := by decide +kernel
theorem dX6_setMeant_12 : decode cX6_setMeant 12 = .ok (.iload_n 2, 1) := by decide +kernel
theorem dX6_setMeant_13 : decode cX6_setMeant 13 = .ok (.iastore, 1) := by decide +kernel
theorem dX6_setMeant_14 : decode cX6_setMeant 14 = .ok (.return_, 1) := by decide +kernel
def rmX6_setMeant (mc ms : Nat) : Room := { frames := 1, cells := mc, slots := ms, locals := 20 }
abbrev cX6_setName : ByteArray := prog_9_method_18_code
def yX6_setName : MethodName := ⟨RX6, "setName", "(II)V"⟩
def wsX6_setName : List Cond := .code yX6_setName cX6_setName 3 none :: sr_G
theorem dX6_setName_0 : decode cX6_setName 0 = .ok (.iload_n 1, 1) := by decide +kernel
theorem dX6_setName_1 : decode cX6_setName 1 = .ok (.invokestatic 55, 3) := by decide +kernel
theorem dX6_setName_4 : decode cX6_setName 4 = .ok (.ifCond .eq 10, 3) := by decide +kernel
theorem dX6_setName_7 : decode cX6_setName 7 = .ok (.aload_n 0, 1) := by decide +kernel
theorem dX6_setName_8 : decode cX6_setName 8 = .ok (.getfield 28, 3) := by decide +kernel
theorem dX6_setName_11 : decode cX6_setName 11 = .ok (.iload_n 1, 1) := by decide +kernel
theorem dX6_setName_12 : decode cX6_setName 12 = .ok (.iload_n 2, 1) := by decide +kernel
theorem dX6_setName_13 : decode cX6_setName 13 = .ok (.iastore, 1) := by decide +kernel
theorem dX6_setName_14 : decode cX6_setName 14 = .ok (.return_, 1) := by decide +kernel
def rmX6_setName (mc ms : Nat) : Room := { frames := 1, cells := mc, slots := ms, locals := 20 }
abbrev cX6_setAmount : ByteArray := prog_9_method_19_code
def yX6_setAmount : MethodName := ⟨RX6, "setAmount", "(II)V"⟩
def wsX6_setAmount : List Cond := .code yX6_setAmount cX6_setAmount 3 none :: sr_G
theorem dX6_setAmount_0 : decode cX6_setAmount 0 = .ok (.iload_n 1, 1) := by decide +kernel
theorem dX6_setAmount_1 : decode cX6_setAmount 1 = .ok (.invokestatic 55, 3) := by decide +kernel
theorem dX6_setAmount_4 : decode cX6_setAmount 4 = .ok (.ifCond .eq 10, 3) := by decide +kernel
theorem dX6_setAmount_7 : decode cX6_setAmount 7 = .ok (.aload_n 0, 1) := by decide +kernel
theorem dX6_setAmount_8 : decode cX6_setAmount 8 = .ok (.getfield 34, 3) := by decide +kernel
theorem dX6_setAmount_11 : decode cX6_setAmount 11 = .ok (.iload_n 1, 1) := by decide +kernel
theorem dX6_setAmount_12 : decode cX6_setAmount 12 = .ok (.iload_n 2, 1) := by decide +kernel
theorem dX6_setAmount_13 : decode cX6_setAmount 13 = .ok (.iastore, 1) := by decide +kernel
theorem dX6_setAmount_14 : decode cX6_setAmount 14 = .ok (.return_, 1) := by decide +kernel
def rmX6_setAmount (mc ms : Nat) : Room := { frames := 1, cells := mc, slots := ms, locals := 20 }
abbrev cX6_setField : ByteArray := prog_9_method_20_code
def yX6_setField : MethodName := ⟨RX6, "setField", "(IIZ)V"⟩
def wsX6_setField : List Cond := .code yX6_setField cX6_setField 4 none :: sr_G
theorem dX6_setField_0 : decode cX6_setField 0 = .ok (.iload_n 1, 1) := by decide +kernel
theorem dX6_setField_1 : decode cX6_setField 1 = .ok (.invokestatic 55, 3) := by decide +kernel
theorem dX6_setField_4 : decode cX6_setField 4 = .ok (.ifCond .eq 17, 3) := by decide +kernel
theorem dX6_setField_7 : decode cX6_setField 7 = .ok (.aload_n 0, 1) := by decide +kernel
theorem dX6_setField_8 : decode cX6_setField 8 = .ok (.getfield 31, 3) := by decide +kernel
theorem dX6_setField_11 : decode cX6_setField 11 = .ok (.iload_n 1, 1) := by decide +kernel
theorem dX6_setField_12 : decode cX6_setField 12 = .ok (.iload_n 2, 1) := by decide +kernel
theorem dX6_setField_13 : decode cX6_setField 13 = .ok (.iastore, 1) := by decide +kernel
theorem dX6_setField_14 : decode cX6_setField 14 = .ok (.aload_n 0, 1) := by decide +kernel
theorem dX6_setField_15 : decode cX6_setField 15 = .ok (.getfield 37, 3) := by decide +kernel
theorem dX6_setField_18 : decode cX6_setField 18 = .ok (.iload_n 1, 1) := by decide +kernel
theorem dX6_setField_19 : decode cX6_setField 19 = .ok (.iload_n 3, 1) := by decide +kernel
theorem dX6_setField_20 : decode cX6_setField 20 = .ok (.bastore, 1) := by decide +kernel
theorem dX6_setField_21 : decode cX6_setField 21 = .ok (.return_, 1) := by decide +kernel
def rmX6_setField (mc ms : Nat) : Room := { frames := 1, cells := mc, slots := ms, locals := 20 }
abbrev cX6_setEnumDefault : ByteArray := prog_9_method_21_code
def yX6_setEnumDefault : MethodName := ⟨RX6, "setEnumDefault", "(I)V"⟩
def wsX6_setEnumDefault : List Cond := .code yX6_setEnumDefault cX6_setEnumDefault 2 none :: sr_G
theorem dX6_setEnumDefault_0 : decode cX6_setEnumDefault 0 = .ok (.iload_n 1, 1) := by decide +kernel
theorem dX6_setEnumDefault_1 : decode cX6_setEnumDefault 1 = .ok (.invokestatic 55, 3) := by decide +kernel
theorem dX6_setEnumDefault_4 : decode cX6_setEnumDefault 4 = .ok (.ifCond .eq 10, 3) := by decide +kernel
theorem dX6_setEnumDefault_7 : decode cX6_setEnumDefault 7 = .ok (.aload_n 0, 1) := by decide +kernel
theorem dX6_setEnumDefault_8 : decode cX6_setEnumDefault 8 = .ok (.getfield 41, 3) := by decide +kernel
theorem dX6_setEnumDefault_11 : decode cX6_setEnumDefault 11 = .ok (.iload_n 1, 1) := by decide +kernel
theorem dX6_setEnumDefault_12 : decode cX6_setEnumDefault 12 = .ok (.iconst 1, 1) := by decide +kernel
theorem dX6_setEnumDefault_13 : decode cX6_setEnumDefault 13 = .ok (.bastore, 1) := by decide +kernel
theorem dX6_setEnumDefault_14 : decode cX6_setEnumDefault 14 = .ok (.return_, 1) := by decide +kernel
def rmX6_setEnumDefault (mc ms : Nat) : Room := { frames := 1, cells := mc, slots := ms, locals := 20 }
abbrev cX6_join : ByteArray := prog_9_method_22_code
def yX6_join : MethodName := ⟨RX6, "join", "(III)V"⟩
def wsX6_join : List Cond := .code yX6_join cX6_join 4 none :: sr_G
theorem dX6_join_0 : decode cX6_join 0 = .ok (.iload_n 1, 1) := by decide +kernel
theorem dX6_join_1 : decode cX6_join 1 = .ok (.invokestatic 55, 3) := by decide +kernel
theorem dX6_join_4 : decode cX6_join 4 = .ok (.ifCond .ne 4, 3) := by decide +kernel
theorem dX6_join_7 : decode cX6_join 7 = .ok (.return_, 1) := by decide +kernel
theorem dX6_join_8 : decode cX6_join 8 = .ok (.iload_n 2, 1) := by decide +kernel
theorem dX6_join_9 : decode cX6_join 9 = .ok (.invokestatic 55, 3) := by decide +kernel
theorem dX6_join_12 : decode cX6_join 12 = .ok (.ifCond .eq 13, 3) := by decide +kernel
theorem dX6_join_15 : decode cX6_join 15 = .ok (.aload_n 0, 1) := by decide +kernel
theorem dX6_join_16 : decode cX6_join 16 = .ok (.getfield 25, 3) := by decide +kernel
theorem dX6_join_19 : decode cX6_join 19 = .ok (.iload_n 2, 1) := by decide +kernel
theorem dX6_join_20 : decode cX6_join 20 = .ok (.iload_n 3, 1) := by decide +kernel
theorem dX6_join_21 : decode cX6_join 21 = .ok (.iastore, 1) := by decide +kernel
theorem dX6_join_22 : decode cX6_join 22 = .ok (.goto 10, 3) := by decide +kernel
theorem dX6_join_25 : decode cX6_join 25 = .ok (.aload_n 0, 1) := by decide +kernel
theorem dX6_join_26 : decode cX6_join 26 = .ok (.getfield 22, 3) := by decide +kernel
theorem dX6_join_29 : decode cX6_join 29 = .ok (.iload_n 1, 1) := by decide +kernel
theorem dX6_join_30 : decode cX6_join 30 = .ok (.iload_n 3, 1) := by decide +kernel
theorem dX6_join_31 : decode cX6_join 31 = .ok (.iastore, 1) := by decide +kernel
theorem dX6_join_32 : decode cX6_join 32 = .ok (.aload_n 0, 1) := by decide +kernel
theorem dX6_join_33 : decode cX6_join 33 = .ok (.getfield 34, 3) := by decide +kernel
theorem dX6_join_36 : decode cX6_join 36 = .ok (.iload_n 1, 1) := by decide +kernel
theorem dX6_join_37 : decode cX6_join 37 = .ok (.dup2, 1) := by decide +kernel
theorem dX6_join_38 : decode cX6_join 38 = .ok (.iaload, 1) := by decide +kernel
theorem dX6_join_39 : decode cX6_join 39 = .ok (.iconst 1, 1) := by decide +kernel
theorem dX6_join_40 : decode cX6_join 40 = .ok (.iadd, 1) := by decide +kernel
theorem dX6_join_41 : decode cX6_join 41 = .ok (.iastore, 1) := by decide +kernel
theorem dX6_join_42 : decode cX6_join 42 = .ok (.return_, 1) := by decide +kernel
def rmX6_join (mc ms : Nat) : Room := { frames := 1, cells := mc, slots := ms, locals := 20 }
abbrev cX6_writeByte : ByteArray := prog_9_method_23_code
def yX6_writeByte : MethodName := ⟨RX6, "writeByte", "(I)V"⟩
def wsX6_writeByte : List Cond := .code yX6_writeByte cX6_writeByte 2 none :: sr_G
theorem dX6_writeByte_0 : decode cX6_writeByte 0 = .ok (.aload_n 0, 1) := by decide +kernel
theorem dX6_writeByte_1 : decode cX6_writeByte 1 = .ok (.getfield 44, 3) := by decide +kernel
theorem dX6_writeByte_4 : decode cX6_writeByte 4 = .ok (.aload_n 0, 1) := by decide +kernel
theorem dX6_writeByte_5 : decode cX6_writeByte 5 = .ok (.getfield 9, 3) := by decide +kernel
theorem dX6_writeByte_8 : decode cX6_writeByte 8 = .ok (.arraylength, 1) := by decide +kernel
theorem dX6_writeByte_9 : decode cX6_writeByte 9 = .ok (.if_icmp .ge 24, 3) := by decide +kernel
theorem dX6_writeByte_12 : decode cX6_writeByte 12 = .ok (.aload_n 0, 1) := by decide +kernel
theorem dX6_writeByte_13 : decode cX6_writeByte 13 = .ok (.getfield 9, 3) := by decide +kernel
theorem dX6_writeByte_16 : decode cX6_writeByte 16 = .ok (.aload_n 0, 1) := by decide +kernel
theorem dX6_writeByte_17 : decode cX6_writeByte 17 = .ok (.getfield 44, 3) := by decide +kernel
theorem dX6_writeByte_20 : decode cX6_writeByte 20 = .ok (.iload_n 1, 1) := by decide +kernel
theorem dX6_writeByte_21 : decode cX6_writeByte 21 = .ok (.i2b, 1) := by decide +kernel
theorem dX6_writeByte_22 : decode cX6_writeByte 22 = .ok (.bastore, 1) := by decide +kernel
theorem dX6_writeByte_23 : decode cX6_writeByte 23 = .ok (.aload_n 0, 1) := by decide +kernel
theorem dX6_writeByte_24 : decode cX6_writeByte 24 = .ok (.dup, 1) := by decide +kernel
theorem dX6_writeByte_25 : decode cX6_writeByte 25 = .ok (.getfield 44, 3) := by decide +kernel
theorem dX6_writeByte_28 : decode cX6_writeByte 28 = .ok (.iconst 1, 1) := by decide +kernel
theorem dX6_writeByte_29 : decode cX6_writeByte 29 = .ok (.iadd, 1) := by decide +kernel
theorem dX6_writeByte_30 : decode cX6_writeByte 30 = .ok (.putfield 44, 3) := by decide +kernel
theorem dX6_writeByte_33 : decode cX6_writeByte 33 = .ok (.return_, 1) := by decide +kernel
def rmX6_writeByte (mc ms : Nat) : Room := { frames := 0, cells := mc, slots := ms, locals := 0 }
abbrev cX6_write : ByteArray := prog_9_method_24_code
def yX6_write : MethodName := ⟨RX6, "write", "(Ljava/lang/String;)V"⟩
def wsX6_write : List Cond := .code yX6_write cX6_write 3 none :: sr_G
theorem dX6_write_0 : decode cX6_write 0 = .ok (.iconst 0, 1) := by decide +kernel
theorem dX6_write_1 : decode cX6_write 1 = .ok (.istore_n 2, 1) := by decide +kernel
theorem dX6_write_2 : decode cX6_write 2 = .ok (.iload_n 2, 1) := by decide +kernel
theorem dX6_write_3 : decode cX6_write 3 = .ok (.aload_n 1, 1) := by decide +kernel
theorem dX6_write_4 : decode cX6_write 4 = .ok (.invokevirtual 62, 3) := by decide +kernel
theorem dX6_write_7 : decode cX6_write 7 = .ok (.if_icmp .ge 18, 3) := by decide +kernel
theorem dX6_write_10 : decode cX6_write 10 = .ok (.aload_n 0, 1) := by decide +kernel
theorem dX6_write_11 : decode cX6_write 11 = .ok (.aload_n 1, 1) := by decide +kernel
theorem dX6_write_12 : decode cX6_write 12 = .ok (.iload_n 2, 1) := by decide +kernel
theorem dX6_write_13 : decode cX6_write 13 = .ok (.invokevirtual 68, 3) := by decide +kernel
theorem dX6_write_16 : decode cX6_write 16 = .ok (.invokevirtual 72, 3) := by decide +kernel
theorem dX6_write_19 : decode cX6_write 19 = .ok (.iinc 2 1, 3) := by decide +kernel
theorem dX6_write_22 : decode cX6_write 22 = .ok (.goto (-20), 3) := by decide +kernel
theorem dX6_write_25 : decode cX6_write 25 = .ok (.return_, 1) := by decide +kernel
def rmX6_write (mc ms : Nat) : Room := { frames := 4, cells := mc, slots := ms, locals := 85 }
abbrev cX6_writeSaid : ByteArray := prog_9_method_25_code
def yX6_writeSaid : MethodName := ⟨RX6, "writeSaid", "(LSchemaReader$Text;I)I"⟩
def wsX6_writeSaid : List Cond := .code yX6_writeSaid cX6_writeSaid 5 (some .int) :: sr_G
theorem dX6_writeSaid_0 : decode cX6_writeSaid 0 = .ok (.aload_n 0, 1) := by decide +kernel
theorem dX6_writeSaid_1 : decode cX6_writeSaid 1 = .ok (.bipush 34, 2) := by decide +kernel
theorem dX6_writeSaid_3 : decode cX6_writeSaid 3 = .ok (.invokevirtual 72, 3) := by decide +kernel
theorem dX6_writeSaid_6 : decode cX6_writeSaid 6 = .ok (.aload_n 0, 1) := by decide +kernel
theorem dX6_writeSaid_7 : decode cX6_writeSaid 7 = .ok (.getfield 44, 3) := by decide +kernel
theorem dX6_writeSaid_10 : decode cX6_writeSaid 10 = .ok (.istore_n 3, 1) := by decide +kernel
theorem dX6_writeSaid_11 : decode cX6_writeSaid 11 = .ok (.iconst 0, 1) := by decide +kernel
theorem dX6_writeSaid_12 : decode cX6_writeSaid 12 = .ok (.istore 4, 2) := by decide +kernel
theorem dX6_writeSaid_14 : decode cX6_writeSaid 14 = .ok (.iload 4, 2) := by decide +kernel
theorem dX6_writeSaid_16 : decode cX6_writeSaid 16 = .ok (.aload_n 1, 1) := by decide +kernel
theorem dX6_writeSaid_17 : decode cX6_writeSaid 17 = .ok (.iload_n 2, 1) := by decide +kernel
theorem dX6_writeSaid_18 : decode cX6_writeSaid 18 = .ok (.invokevirtual 76, 3) := by decide +kernel
theorem dX6_writeSaid_21 : decode cX6_writeSaid 21 = .ok (.if_icmp .ge 21, 3) := by decide +kernel
theorem dX6_writeSaid_24 : decode cX6_writeSaid 24 = .ok (.aload_n 0, 1) := by decide +kernel
theorem dX6_writeSaid_25 : decode cX6_writeSaid 25 = .ok (.aload_n 1, 1) := by decide +kernel
theorem dX6_writeSaid_26 : decode cX6_writeSaid 26 = .ok (.iload_n 2, 1) := by decide +kernel
theorem dX6_writeSaid_27 : decode cX6_writeSaid 27 = .ok (.iload 4, 2) := by decide +kernel
theorem dX6_writeSaid_29 : decode cX6_writeSaid 29 = .ok (.iadd, 1) := by decide +kernel
theorem dX6_writeSaid_30 : decode cX6_writeSaid 30 = .ok (.invokevirtual 81, 3) := by decide +kernel
theorem dX6_writeSaid_33 : decode cX6_writeSaid 33 = .ok (.invokevirtual 72, 3) := by decide +kernel
theorem dX6_writeSaid_36 : decode cX6_writeSaid 36 = .ok (.iinc 4 1, 3) := by decide +kernel
theorem dX6_writeSaid_39 : decode cX6_writeSaid 39 = .ok (.goto (-25), 3) := by decide +kernel
theorem dX6_writeSaid_42 : decode cX6_writeSaid 42 = .ok (.aload_n 0, 1) := by decide +kernel
theorem dX6_writeSaid_43 : decode cX6_writeSaid 43 = .ok (.bipush 34, 2) := by decide +kernel
theorem dX6_writeSaid_45 : decode cX6_writeSaid 45 = .ok (.invokevirtual 72, 3) := by decide +kernel
theorem dX6_writeSaid_48 : decode cX6_writeSaid 48 = .ok (.iload_n 3, 1) := by decide +kernel
theorem dX6_writeSaid_49 : decode cX6_writeSaid 49 = .ok (.ireturn, 1) := by decide +kernel
def rmX6_writeSaid (mc ms : Nat) : Room := { frames := 2, cells := mc, slots := ms, locals := 42 }
abbrev cX6_writeNumber : ByteArray := prog_9_method_26_code
def yX6_writeNumber : MethodName := ⟨RX6, "writeNumber", "(I)V"⟩
def wsX6_writeNumber : List Cond := .code yX6_writeNumber cX6_writeNumber 2 none :: sr_G
theorem dX6_writeNumber_0 : decode cX6_writeNumber 0 = .ok (.iload_n 1, 1) := by decide +kernel
theorem dX6_writeNumber_1 : decode cX6_writeNumber 1 = .ok (.bipush 10, 2) := by decide +kernel
theorem dX6_writeNumber_3 : decode cX6_writeNumber 3 = .ok (.if_icmp .lt 14, 3) := by decide +kernel
theorem dX6_writeNumber_6 : decode cX6_writeNumber 6 = .ok (.aload_n 0, 1) := by decide +kernel
theorem dX6_writeNumber_7 : decode cX6_writeNumber 7 = .ok (.bipush 48, 2) := by decide +kernel
theorem dX6_writeNumber_9 : decode cX6_writeNumber 9 = .ok (.iload_n 1, 1) := by decide +kernel
theorem dX6_writeNumber_10 : decode cX6_writeNumber 10 = .ok (.bipush 10, 2) := by decide +kernel
theorem dX6_writeNumber_12 : decode cX6_writeNumber 12 = .ok (.idiv, 1) := by decide +kernel
theorem dX6_writeNumber_13 : decode cX6_writeNumber 13 = .ok (.iadd, 1) := by decide +kernel
theorem dX6_writeNumber_14 : decode cX6_writeNumber 14 = .ok (.invokevirtual 72, 3) := by decide +kernel
theorem dX6_writeNumber_17 : decode cX6_writeNumber 17 = .ok (.aload_n 0, 1) := by decide +kernel
theorem dX6_writeNumber_18 : decode cX6_writeNumber 18 = .ok (.bipush 48, 2) := by decide +kernel
theorem dX6_writeNumber_20 : decode cX6_writeNumber 20 = .ok (.iload_n 1, 1) := by decide +kernel
theorem dX6_writeNumber_21 : decode cX6_writeNumber 21 = .ok (.bipush 10, 2) := by decide +kernel
theorem dX6_writeNumber_23 : decode cX6_writeNumber 23 = .ok (.irem, 1) := by decide +kernel
theorem dX6_writeNumber_24 : decode cX6_writeNumber 24 = .ok (.iadd, 1) := by decide +kernel
theorem dX6_writeNumber_25 : decode cX6_writeNumber 25 = .ok (.invokevirtual 72, 3) := by decide +kernel
theorem dX6_writeNumber_28 : decode cX6_writeNumber 28 = .ok (.return_, 1) := by decide +kernel
def rmX6_writeNumber (mc ms : Nat) : Room := { frames := 1, cells := mc, slots := ms, locals := 21 }
abbrev cX6_isSaid : ByteArray := prog_9_method_27_code
def yX6_isSaid : MethodName := ⟨RX6, "isSaid", "(ILSchemaReader$Text;I)Z"⟩
def wsX6_isSaid : List Cond := .code yX6_isSaid cX6_isSaid 7 (some .boolean) :: sr_G
theorem dX6_isSaid_0 : decode cX6_isSaid 0 = .ok (.aload_n 2, 1) := by decide +kernel
theorem dX6_isSaid_1 : decode cX6_isSaid 1 = .ok (.iload_n 3, 1) := by decide +kernel
theorem dX6_isSaid_2 : decode cX6_isSaid 2 = .ok (.invokevirtual 76, 3) := by decide +kernel
theorem dX6_isSaid_5 : decode cX6_isSaid 5 = .ok (.istore 4, 2) := by decide +kernel
theorem dX6_isSaid_7 : decode cX6_isSaid 7 = .ok (.iload 4, 2) := by decide +kernel
theorem dX6_isSaid_9 : decode cX6_isSaid 9 = .ok (.iconst 1, 1) := by decide +kernel
theorem dX6_isSaid_10 : decode cX6_isSaid 10 = .ok (.if_icmp .lt 10, 3) := by decide +kernel
theorem dX6_isSaid_13 : decode cX6_isSaid 13 = .ok (.iload 4, 2) := by decide +kernel
theorem dX6_isSaid_15 : decode cX6_isSaid 15 = .ok (.bipush 32, 2) := by decide +kernel
theorem dX6_isSaid_17 : decode cX6_isSaid 17 = .ok (.if_icmp .le 5, 3) := by decide +kernel
theorem dX6_isSaid_20 : decode cX6_isSaid 20 = .ok (.iconst 0, 1) := by decide +kernel
theorem dX6_isSaid_21 : decode cX6_isSaid 21 = .ok (.ireturn, 1) := by decide +kernel
theorem dX6_isSaid_22 : decode cX6_isSaid 22 = .ok (.iconst 0, 1) := by decide +kernel
theorem dX6_isSaid_23 : decode cX6_isSaid 23 = .ok (.istore 5, 2) := by decide +kernel
theorem dX6_isSaid_25 : decode cX6_isSaid 25 = .ok (.iload 5, 2) := by decide +kernel
theorem dX6_isSaid_27 : decode cX6_isSaid 27 = .ok (.iload 4, 2) := by decide +kernel
theorem dX6_isSaid_29 : decode cX6_isSaid 29 = .ok (.if_icmp .ge 41, 3) := by decide +kernel
theorem dX6_isSaid_32 : decode cX6_isSaid 32 = .ok (.aload_n 0, 1) := by decide +kernel
theorem dX6_isSaid_33 : decode cX6_isSaid 33 = .ok (.iload_n 1, 1) := by decide +kernel
theorem dX6_isSaid_34 : decode cX6_isSaid 34 = .ok (.iload 5, 2) := by decide +kernel
theorem dX6_isSaid_36 : decode cX6_isSaid 36 = .ok (.iadd, 1) := by decide +kernel
theorem dX6_isSaid_37 : decode cX6_isSaid 37 = .ok (.invokevirtual 84, 3) := by decide +kernel
theorem dX6_isSaid_40 : decode cX6_isSaid 40 = .ok (.istore 6, 2) := by decide +kernel
theorem dX6_isSaid_42 : decode cX6_isSaid 42 = .ok (.iload 6, 2) := by decide +kernel
theorem dX6_isSaid_44 : decode cX6_isSaid 44 = .ok (.bipush 34, 2) := by decide +kernel
theorem dX6_isSaid_46 : decode cX6_isSaid 46 = .ok (.if_icmp .eq 16, 3) := by decide +kernel
theorem dX6_isSaid_49 : decode cX6_isSaid 49 = .ok (.iload 6, 2) := by decide +kernel
theorem dX6_isSaid_51 : decode cX6_isSaid 51 = .ok (.aload_n 2, 1) := by decide +kernel
theorem dX6_isSaid_52 : decode cX6_isSaid 52 = .ok (.iload_n 3, 1) := by decide +kernel
theorem dX6_isSaid_53 : decode cX6_isSaid 53 = .ok (.iload 5, 2) := by decide +kernel
theorem dX6_isSaid_55 : decode cX6_isSaid 55 = .ok (.iadd, 1) := by decide +kernel
theorem dX6_isSaid_56 : decode cX6_isSaid 56 = .ok (.invokevirtual 81, 3) := by decide +kernel
theorem dX6_isSaid_59 : decode cX6_isSaid 59 = .ok (.if_icmp .eq 5, 3) := by decide +kernel
theorem dX6_isSaid_62 : decode cX6_isSaid 62 = .ok (.iconst 0, 1) := by decide +kernel
theorem dX6_isSaid_63 : decode cX6_isSaid 63 = .ok (.ireturn, 1) := by decide +kernel
theorem dX6_isSaid_64 : decode cX6_isSaid 64 = .ok (.iinc 5 1, 3) := by decide +kernel
theorem dX6_isSaid_67 : decode cX6_isSaid 67 = .ok (.goto (-42), 3) := by decide +kernel
theorem dX6_isSaid_70 : decode cX6_isSaid 70 = .ok (.aload_n 0, 1) := by decide +kernel
theorem dX6_isSaid_71 : decode cX6_isSaid 71 = .ok (.iload_n 1, 1) := by decide +kernel
theorem dX6_isSaid_72 : decode cX6_isSaid 72 = .ok (.iload 4, 2) := by decide +kernel
theorem dX6_isSaid_74 : decode cX6_isSaid 74 = .ok (.iadd, 1) := by decide +kernel
theorem dX6_isSaid_75 : decode cX6_isSaid 75 = .ok (.invokevirtual 84, 3) := by decide +kernel
theorem dX6_isSaid_78 : decode cX6_isSaid 78 = .ok (.bipush 34, 2) := by decide +kernel
theorem dX6_isSaid_80 : decode cX6_isSaid 80 = .ok (.if_icmp .ne 7, 3) := by decide +kernel
theorem dX6_isSaid_83 : decode cX6_isSaid 83 = .ok (.iconst 1, 1) := by decide +kernel
theorem dX6_isSaid_84 : decode cX6_isSaid 84 = .ok (.goto 4, 3) := by decide +kernel
theorem dX6_isSaid_87 : decode cX6_isSaid 87 = .ok (.iconst 0, 1) := by decide +kernel
theorem dX6_isSaid_88 : decode cX6_isSaid 88 = .ok (.ireturn, 1) := by decide +kernel
def rmX6_isSaid (mc ms : Nat) : Room := { frames := 2, cells := mc, slots := ms, locals := 42 }
abbrev cX6_definition : ByteArray := prog_9_method_28_code
def yX6_definition : MethodName := ⟨RX6, "definition", "(LSchemaReader$Text;I)I"⟩
def wsX6_definition : List Cond := .code yX6_definition cX6_definition 4 (some .int) :: sr_G
theorem dX6_definition_0 : decode cX6_definition 0 = .ok (.iconst 0, 1) := by decide +kernel
theorem dX6_definition_1 : decode cX6_definition 1 = .ok (.istore_n 3, 1) := by decide +kernel
theorem dX6_definition_2 : decode cX6_definition 2 = .ok (.iload_n 3, 1) := by decide +kernel
theorem dX6_definition_3 : decode cX6_definition 3 = .ok (.aload_n 0, 1) := by decide +kernel
theorem dX6_definition_4 : decode cX6_definition 4 = .ok (.getfield 48, 3) := by decide +kernel
theorem dX6_definition_7 : decode cX6_definition 7 = .ok (.if_icmp .ge 36, 3) := by decide +kernel
theorem dX6_definition_10 : decode cX6_definition 10 = .ok (.aload_n 0, 1) := by decide +kernel
theorem dX6_definition_11 : decode cX6_definition 11 = .ok (.getfield 28, 3) := by decide +kernel
theorem dX6_definition_14 : decode cX6_definition 14 = .ok (.iload_n 3, 1) := by decide +kernel
theorem dX6_definition_15 : decode cX6_definition 15 = .ok (.iaload, 1) := by decide +kernel
theorem dX6_definition_16 : decode cX6_definition 16 = .ok (.iconst (-1), 1) := by decide +kernel
theorem dX6_definition_17 : decode cX6_definition 17 = .ok (.if_icmp .eq 20, 3) := by decide +kernel
theorem dX6_definition_20 : decode cX6_definition 20 = .ok (.aload_n 0, 1) := by decide +kernel
theorem dX6_definition_21 : decode cX6_definition 21 = .ok (.aload_n 0, 1) := by decide +kernel
theorem dX6_definition_22 : decode cX6_definition 22 = .ok (.getfield 28, 3) := by decide +kernel
theorem dX6_definition_25 : decode cX6_definition 25 = .ok (.iload_n 3, 1) := by decide +kernel
theorem dX6_definition_26 : decode cX6_definition 26 = .ok (.iaload, 1) := by decide +kernel
theorem dX6_definition_27 : decode cX6_definition 27 = .ok (.aload_n 1, 1) := by decide +kernel
theorem dX6_definition_28 : decode cX6_definition 28 = .ok (.iload_n 2, 1) := by decide +kernel
theorem dX6_definition_29 : decode cX6_definition 29 = .ok (.invokevirtual 87, 3) := by decide +kernel
theorem dX6_definition_32 : decode cX6_definition 32 = .ok (.ifCond .eq 5, 3) := by decide +kernel
theorem dX6_definition_35 : decode cX6_definition 35 = .ok (.iload_n 3, 1) := by decide +kernel
theorem dX6_definition_36 : decode cX6_definition 36 = .ok (.ireturn, 1) := by decide +kernel
theorem dX6_definition_37 : decode cX6_definition 37 = .ok (.iinc 3 1, 3) := by decide +kernel
theorem dX6_definition_40 : decode cX6_definition 40 = .ok (.goto (-38), 3) := by decide +kernel
theorem dX6_definition_43 : decode cX6_definition 43 = .ok (.iconst (-1), 1) := by decide +kernel
theorem dX6_definition_44 : decode cX6_definition 44 = .ok (.ireturn, 1) := by decide +kernel
def rmX6_definition (mc ms : Nat) : Room := { frames := 3, cells := mc, slots := ms, locals := 68 }
abbrev cX6_hasField : ByteArray := prog_9_method_29_code
def yX6_hasField : MethodName := ⟨RX6, "hasField", "(ILSchemaReader$Text;I)Z"⟩
def wsX6_hasField : List Cond := .code yX6_hasField cX6_hasField 6 (some .boolean) :: sr_G
theorem dX6_hasField_0 : decode cX6_hasField 0 = .ok (.aload_n 0, 1) := by decide +kernel
theorem dX6_hasField_1 : decode cX6_hasField 1 = .ok (.iload_n 1, 1) := by decide +kernel
theorem dX6_hasField_2 : decode cX6_hasField 2 = .ok (.invokevirtual 91, 3) := by decide +kernel
theorem dX6_hasField_5 : decode cX6_hasField 5 = .ok (.istore 4, 2) := by decide +kernel
theorem dX6_hasField_7 : decode cX6_hasField 7 = .ok (.iconst 0, 1) := by decide +kernel
theorem dX6_hasField_8 : decode cX6_hasField 8 = .ok (.istore 5, 2) := by decide +kernel
theorem dX6_hasField_10 : decode cX6_hasField 10 = .ok (.iload 5, 2) := by decide +kernel
theorem dX6_hasField_12 : decode cX6_hasField 12 = .ok (.aload_n 0, 1) := by decide +kernel
theorem dX6_hasField_13 : decode cX6_hasField 13 = .ok (.iload_n 1, 1) := by decide +kernel
theorem dX6_hasField_14 : decode cX6_hasField 14 = .ok (.invokevirtual 94, 3) := by decide +kernel
theorem dX6_hasField_17 : decode cX6_hasField 17 = .ok (.if_icmp .ge 34, 3) := by decide +kernel
theorem dX6_hasField_20 : decode cX6_hasField 20 = .ok (.aload_n 0, 1) := by decide +kernel
theorem dX6_hasField_21 : decode cX6_hasField 21 = .ok (.aload_n 0, 1) := by decide +kernel
theorem dX6_hasField_22 : decode cX6_hasField 22 = .ok (.iload 4, 2) := by decide +kernel
theorem dX6_hasField_24 : decode cX6_hasField 24 = .ok (.invokevirtual 95, 3) := by decide +kernel
theorem dX6_hasField_27 : decode cX6_hasField 27 = .ok (.aload_n 2, 1) := by decide +kernel
theorem dX6_hasField_28 : decode cX6_hasField 28 = .ok (.iload_n 3, 1) := by decide +kernel
theorem dX6_hasField_29 : decode cX6_hasField 29 = .ok (.invokevirtual 87, 3) := by decide +kernel
theorem dX6_hasField_32 : decode cX6_hasField 32 = .ok (.ifCond .eq 5, 3) := by decide +kernel
theorem dX6_hasField_35 : decode cX6_hasField 35 = .ok (.iconst 1, 1) := by decide +kernel
theorem dX6_hasField_36 : decode cX6_hasField 36 = .ok (.ireturn, 1) := by decide +kernel
theorem dX6_hasField_37 : decode cX6_hasField 37 = .ok (.aload_n 0, 1) := by decide +kernel
theorem dX6_hasField_38 : decode cX6_hasField 38 = .ok (.iload 4, 2) := by decide +kernel
theorem dX6_hasField_40 : decode cX6_hasField 40 = .ok (.invokevirtual 98, 3) := by decide +kernel
theorem dX6_hasField_43 : decode cX6_hasField 43 = .ok (.istore 4, 2) := by decide +kernel
theorem dX6_hasField_45 : decode cX6_hasField 45 = .ok (.iinc 5 1, 3) := by decide +kernel
theorem dX6_hasField_48 : decode cX6_hasField 48 = .ok (.goto (-38), 3) := by decide +kernel
theorem dX6_hasField_51 : decode cX6_hasField 51 = .ok (.iconst 0, 1) := by decide +kernel
theorem dX6_hasField_52 : decode cX6_hasField 52 = .ok (.ireturn, 1) := by decide +kernel
def rmX6_hasField (mc ms : Nat) : Room := { frames := 3, cells := mc, slots := ms, locals := 68 }
abbrev cX6_nextSymbol : ByteArray := prog_9_method_30_code
def yX6_nextSymbol : MethodName := ⟨RX6, "nextSymbol", "(I)I"⟩
def wsX6_nextSymbol : List Cond := .code yX6_nextSymbol cX6_nextSymbol 3 (some .int) :: sr_G
theorem dX6_nextSymbol_0 : decode cX6_nextSymbol 0 = .ok (.iload_n 1, 1) := by decide +kernel
theorem dX6_nextSymbol_1 : decode cX6_nextSymbol 1 = .ok (.istore_n 2, 1) := by decide +kernel
theorem dX6_nextSymbol_2 : decode cX6_nextSymbol 2 = .ok (.iload_n 2, 1) := by decide +kernel
theorem dX6_nextSymbol_3 : decode cX6_nextSymbol 3 = .ok (.aload_n 0, 1) := by decide +kernel
theorem dX6_nextSymbol_4 : decode cX6_nextSymbol 4 = .ok (.getfield 44, 3) := by decide +kernel
theorem dX6_nextSymbol_7 : decode cX6_nextSymbol 7 = .ok (.if_icmp .ge 19, 3) := by decide +kernel
theorem dX6_nextSymbol_10 : decode cX6_nextSymbol 10 = .ok (.aload_n 0, 1) := by decide +kernel
theorem dX6_nextSymbol_11 : decode cX6_nextSymbol 11 = .ok (.iload_n 2, 1) := by decide +kernel
theorem dX6_nextSymbol_12 : decode cX6_nextSymbol 12 = .ok (.invokevirtual 84, 3) := by decide +kernel
theorem dX6_nextSymbol_15 : decode cX6_nextSymbol 15 = .ok (.bipush 34, 2) := by decide +kernel
theorem dX6_nextSymbol_17 : decode cX6_nextSymbol 17 = .ok (.if_icmp .eq 9, 3) := by decide +kernel
theorem dX6_nextSymbol_20 : decode cX6_nextSymbol 20 = .ok (.iinc 2 1, 3) := by decide +kernel
theorem dX6_nextSymbol_23 : decode cX6_nextSymbol 23 = .ok (.goto (-21), 3) := by decide +kernel
theorem dX6_nextSymbol_26 : decode cX6_nextSymbol 26 = .ok (.iload_n 2, 1) := by decide +kernel
theorem dX6_nextSymbol_27 : decode cX6_nextSymbol 27 = .ok (.iconst 3, 1) := by decide +kernel
theorem dX6_nextSymbol_28 : decode cX6_nextSymbol 28 = .ok (.iadd, 1) := by decide +kernel
theorem dX6_nextSymbol_29 : decode cX6_nextSymbol 29 = .ok (.ireturn, 1) := by decide +kernel
def rmX6_nextSymbol (mc ms : Nat) : Room := { frames := 1, cells := mc, slots := ms, locals := 21 }
abbrev cX6_hasSymbol : ByteArray := prog_9_method_31_code
def yX6_hasSymbol : MethodName := ⟨RX6, "hasSymbol", "(ILSchemaReader$Text;I)Z"⟩
def wsX6_hasSymbol : List Cond := .code yX6_hasSymbol cX6_hasSymbol 6 (some .boolean) :: sr_G
theorem dX6_hasSymbol_0 : decode cX6_hasSymbol 0 = .ok (.aload_n 0, 1) := by decide +kernel
theorem dX6_hasSymbol_1 : decode cX6_hasSymbol 1 = .ok (.iload_n 1, 1) := by decide +kernel
theorem dX6_hasSymbol_2 : decode cX6_hasSymbol 2 = .ok (.invokevirtual 91, 3) := by decide +kernel
theorem dX6_hasSymbol_5 : decode cX6_hasSymbol 5 = .ok (.istore 4, 2) := by decide +kernel
theorem dX6_hasSymbol_7 : decode cX6_hasSymbol 7 = .ok (.iconst 0, 1) := by decide +kernel
theorem dX6_hasSymbol_8 : decode cX6_hasSymbol 8 = .ok (.istore 5, 2) := by decide +kernel
theorem dX6_hasSymbol_10 : decode cX6_hasSymbol 10 = .ok (.iload 5, 2) := by decide +kernel
theorem dX6_hasSymbol_12 : decode cX6_hasSymbol 12 = .ok (.aload_n 0, 1) := by decide +kernel
theorem dX6_hasSymbol_13 : decode cX6_hasSymbol 13 = .ok (.iload_n 1, 1) := by decide +kernel
theorem dX6_hasSymbol_14 : decode cX6_hasSymbol 14 = .ok (.invokevirtual 94, 3) := by decide +kernel
theorem dX6_hasSymbol_17 : decode cX6_hasSymbol 17 = .ok (.if_icmp .ge 30, 3) := by decide +kernel
theorem dX6_hasSymbol_20 : decode cX6_hasSymbol 20 = .ok (.aload_n 0, 1) := by decide +kernel
theorem dX6_hasSymbol_21 : decode cX6_hasSymbol 21 = .ok (.iload 4, 2) := by decide +kernel
theorem dX6_hasSymbol_23 : decode cX6_hasSymbol 23 = .ok (.aload_n 2, 1) := by decide +kernel
theorem dX6_hasSymbol_24 : decode cX6_hasSymbol 24 = .ok (.iload_n 3, 1) := by decide +kernel
theorem dX6_hasSymbol_25 : decode cX6_hasSymbol 25 = .ok (.invokevirtual 87, 3) := by decide +kernel
theorem dX6_hasSymbol_28 : decode cX6_hasSymbol 28 = .ok (.ifCond .eq 5, 3) := by decide +kernel
theorem dX6_hasSymbol_31 : decode cX6_hasSymbol 31 = .ok (.iconst 1, 1) := by decide +kernel
theorem dX6_hasSymbol_32 : decode cX6_hasSymbol 32 = .ok (.ireturn, 1) := by decide +kernel
theorem dX6_hasSymbol_33 : decode cX6_hasSymbol 33 = .ok (.aload_n 0, 1) := by decide +kernel
theorem dX6_hasSymbol_34 : decode cX6_hasSymbol 34 = .ok (.iload 4, 2) := by decide +kernel
theorem dX6_hasSymbol_36 : decode cX6_hasSymbol 36 = .ok (.invokevirtual 101, 3) := by decide +kernel
theorem dX6_hasSymbol_39 : decode cX6_hasSymbol 39 = .ok (.istore 4, 2) := by decide +kernel
theorem dX6_hasSymbol_41 : decode cX6_hasSymbol 41 = .ok (.iinc 5 1, 3) := by decide +kernel
theorem dX6_hasSymbol_44 : decode cX6_hasSymbol 44 = .ok (.goto (-34), 3) := by decide +kernel
theorem dX6_hasSymbol_47 : decode cX6_hasSymbol 47 = .ok (.iconst 0, 1) := by decide +kernel
theorem dX6_hasSymbol_48 : decode cX6_hasSymbol 48 = .ok (.ireturn, 1) := by decide +kernel
def rmX6_hasSymbol (mc ms : Nat) : Room := { frames := 3, cells := mc, slots := ms, locals := 68 }
abbrev cX6_addSymbol : ByteArray := prog_9_method_32_code
def yX6_addSymbol : MethodName := ⟨RX6, "addSymbol", "(ILSchemaReader$Text;I)V"⟩
def wsX6_addSymbol : List Cond := .code yX6_addSymbol cX6_addSymbol 5 none :: sr_G
theorem dX6_addSymbol_0 : decode cX6_addSymbol 0 = .ok (.iload_n 1, 1) := by decide +kernel
theorem dX6_addSymbol_1 : decode cX6_addSymbol 1 = .ok (.invokestatic 55, 3) := by decide +kernel
theorem dX6_addSymbol_4 : decode cX6_addSymbol 4 = .ok (.ifCond .ne 4, 3) := by decide +kernel
theorem dX6_addSymbol_7 : decode cX6_addSymbol 7 = .ok (.return_, 1) := by decide +kernel
theorem dX6_addSymbol_8 : decode cX6_addSymbol 8 = .ok (.aload_n 0, 1) := by decide +kernel
theorem dX6_addSymbol_9 : decode cX6_addSymbol 9 = .ok (.getfield 34, 3) := by decide +kernel
theorem dX6_addSymbol_12 : decode cX6_addSymbol 12 = .ok (.iload_n 1, 1) := by decide +kernel
theorem dX6_addSymbol_13 : decode cX6_addSymbol 13 = .ok (.iaload, 1) := by decide +kernel
theorem dX6_addSymbol_14 : decode cX6_addSymbol 14 = .ok (.ifCond .le 9, 3) := by decide +kernel
theorem dX6_addSymbol_17 : decode cX6_addSymbol 17 = .ok (.aload_n 0, 1) := by decide +kernel
theorem dX6_addSymbol_18 : decode cX6_addSymbol 18 = .ok (.bipush 44, 2) := by decide +kernel
theorem dX6_addSymbol_20 : decode cX6_addSymbol 20 = .ok (.invokevirtual 72, 3) := by decide +kernel
theorem dX6_addSymbol_23 : decode cX6_addSymbol 23 = .ok (.aload_n 0, 1) := by decide +kernel
theorem dX6_addSymbol_24 : decode cX6_addSymbol 24 = .ok (.aload_n 2, 1) := by decide +kernel
theorem dX6_addSymbol_25 : decode cX6_addSymbol 25 = .ok (.iload_n 3, 1) := by decide +kernel
theorem dX6_addSymbol_26 : decode cX6_addSymbol 26 = .ok (.invokevirtual 104, 3) := by decide +kernel
theorem dX6_addSymbol_29 : decode cX6_addSymbol 29 = .ok (.istore 4, 2) := by decide +kernel
theorem dX6_addSymbol_31 : decode cX6_addSymbol 31 = .ok (.aload_n 0, 1) := by decide +kernel
theorem dX6_addSymbol_32 : decode cX6_addSymbol 32 = .ok (.getfield 34, 3) := by decide +kernel
theorem dX6_addSymbol_35 : decode cX6_addSymbol 35 = .ok (.iload_n 1, 1) := by decide +kernel
theorem dX6_addSymbol_36 : decode cX6_addSymbol 36 = .ok (.iaload, 1) := by decide +kernel
theorem dX6_addSymbol_37 : decode cX6_addSymbol 37 = .ok (.ifCond .ne 11, 3) := by decide +kernel
theorem dX6_addSymbol_40 : decode cX6_addSymbol 40 = .ok (.aload_n 0, 1) := by decide +kernel
theorem dX6_addSymbol_41 : decode cX6_addSymbol 41 = .ok (.getfield 22, 3) := by decide +kernel
theorem dX6_addSymbol_44 : decode cX6_addSymbol 44 = .ok (.iload_n 1, 1) := by decide +kernel
theorem dX6_addSymbol_45 : decode cX6_addSymbol 45 = .ok (.iload 4, 2) := by decide +kernel
theorem dX6_addSymbol_47 : decode cX6_addSymbol 47 = .ok (.iastore, 1) := by decide +kernel
theorem dX6_addSymbol_48 : decode cX6_addSymbol 48 = .ok (.aload_n 0, 1) := by decide +kernel
theorem dX6_addSymbol_49 : decode cX6_addSymbol 49 = .ok (.getfield 34, 3) := by decide +kernel
theorem dX6_addSymbol_52 : decode cX6_addSymbol 52 = .ok (.iload_n 1, 1) := by decide +kernel
theorem dX6_addSymbol_53 : decode cX6_addSymbol 53 = .ok (.dup2, 1) := by decide +kernel
theorem dX6_addSymbol_54 : decode cX6_addSymbol 54 = .ok (.iaload, 1) := by decide +kernel
theorem dX6_addSymbol_55 : decode cX6_addSymbol 55 = .ok (.iconst 1, 1) := by decide +kernel
theorem dX6_addSymbol_56 : decode cX6_addSymbol 56 = .ok (.iadd, 1) := by decide +kernel
theorem dX6_addSymbol_57 : decode cX6_addSymbol 57 = .ok (.iastore, 1) := by decide +kernel
theorem dX6_addSymbol_58 : decode cX6_addSymbol 58 = .ok (.return_, 1) := by decide +kernel
def rmX6_addSymbol (mc ms : Nat) : Room := { frames := 3, cells := mc, slots := ms, locals := 66 }
abbrev cX6_isAlike : ByteArray := prog_9_method_33_code
def yX6_isAlike : MethodName := ⟨RX6, "isAlike", "(II)Z"⟩
def wsX6_isAlike : List Cond := .code yX6_isAlike cX6_isAlike 3 (some .boolean) :: sr_G
theorem dX6_isAlike_0 : decode cX6_isAlike 0 = .ok (.aload_n 0, 1) := by decide +kernel
theorem dX6_isAlike_1 : decode cX6_isAlike 1 = .ok (.iload_n 1, 1) := by decide +kernel
theorem dX6_isAlike_2 : decode cX6_isAlike 2 = .ok (.invokevirtual 108, 3) := by decide +kernel
theorem dX6_isAlike_5 : decode cX6_isAlike 5 = .ok (.aload_n 0, 1) := by decide +kernel
theorem dX6_isAlike_6 : decode cX6_isAlike 6 = .ok (.iload_n 2, 1) := by decide +kernel
theorem dX6_isAlike_7 : decode cX6_isAlike 7 = .ok (.invokevirtual 108, 3) := by decide +kernel
theorem dX6_isAlike_10 : decode cX6_isAlike 10 = .ok (.if_icmp .eq 5, 3) := by decide +kernel
theorem dX6_isAlike_13 : decode cX6_isAlike 13 = .ok (.iconst 0, 1) := by decide +kernel
theorem dX6_isAlike_14 : decode cX6_isAlike 14 = .ok (.ireturn, 1) := by decide +kernel
theorem dX6_isAlike_15 : decode cX6_isAlike 15 = .ok (.aload_n 0, 1) := by decide +kernel
theorem dX6_isAlike_16 : decode cX6_isAlike 16 = .ok (.iload_n 1, 1) := by decide +kernel
theorem dX6_isAlike_17 : decode cX6_isAlike 17 = .ok (.invokevirtual 108, 3) := by decide +kernel
theorem dX6_isAlike_20 : decode cX6_isAlike 20 = .ok (.invokestatic 111, 3) := by decide +kernel
theorem dX6_isAlike_23 : decode cX6_isAlike 23 = .ok (.ifCond .eq 16, 3) := by decide +kernel
theorem dX6_isAlike_26 : decode cX6_isAlike 26 = .ok (.aload_n 0, 1) := by decide +kernel
theorem dX6_isAlike_27 : decode cX6_isAlike 27 = .ok (.iload_n 1, 1) := by decide +kernel
theorem dX6_isAlike_28 : decode cX6_isAlike 28 = .ok (.invokevirtual 59, 3) := by decide +kernel
theorem dX6_isAlike_31 : decode cX6_isAlike 31 = .ok (.aload_n 0, 1) := by decide +kernel
theorem dX6_isAlike_32 : decode cX6_isAlike 32 = .ok (.iload_n 2, 1) := by decide +kernel
theorem dX6_isAlike_33 : decode cX6_isAlike 33 = .ok (.invokevirtual 59, 3) := by decide +kernel
theorem dX6_isAlike_36 : decode cX6_isAlike 36 = .ok (.if_icmp .ne 7, 3) := by decide +kernel
theorem dX6_isAlike_39 : decode cX6_isAlike 39 = .ok (.iconst 1, 1) := by decide +kernel
theorem dX6_isAlike_40 : decode cX6_isAlike 40 = .ok (.goto 4, 3) := by decide +kernel
theorem dX6_isAlike_43 : decode cX6_isAlike 43 = .ok (.iconst 0, 1) := by decide +kernel
theorem dX6_isAlike_44 : decode cX6_isAlike 44 = .ok (.ireturn, 1) := by decide +kernel
def rmX6_isAlike (mc ms : Nat) : Room := { frames := 2, cells := mc, slots := ms, locals := 42 }
abbrev cX6_isSameName : ByteArray := prog_9_method_34_code
def yX6_isSameName : MethodName := ⟨RX6, "isSameName", "(LSchemaReader$Schema;ILSchemaReader$Schema;I)Z"⟩
def wsX6_isSameName : List Cond := .code yX6_isSameName cX6_isSameName 7 (some .boolean) :: sr_G
theorem dX6_isSameName_0 : decode cX6_isSameName 0 = .ok (.iload_n 1, 1) := by decide +kernel
theorem dX6_isSameName_1 : decode cX6_isSameName 1 = .ok (.ifCond .lt 7, 3) := by decide +kernel
theorem dX6_isSameName_4 : decode cX6_isSameName 4 = .ok (.iload_n 3, 1) := by decide +kernel
theorem dX6_isSameName_5 : decode cX6_isSameName 5 = .ok (.ifCond .ge 5, 3) := by decide +kernel
theorem dX6_isSameName_8 : decode cX6_isSameName 8 = .ok (.iconst 0, 1) := by decide +kernel
theorem dX6_isSameName_9 : decode cX6_isSameName 9 = .ok (.ireturn, 1) := by decide +kernel
theorem dX6_isSameName_10 : decode cX6_isSameName 10 = .ok (.iconst 0, 1) := by decide +kernel
theorem dX6_isSameName_11 : decode cX6_isSameName 11 = .ok (.istore 4, 2) := by decide +kernel
theorem dX6_isSameName_13 : decode cX6_isSameName 13 = .ok (.iload 4, 2) := by decide +kernel
theorem dX6_isSameName_15 : decode cX6_isSameName 15 = .ok (.bipush 32, 2) := by decide +kernel
theorem dX6_isSameName_17 : decode cX6_isSameName 17 = .ok (.if_icmp .gt 72, 3) := by decide +kernel
theorem dX6_isSameName_20 : decode cX6_isSameName 20 = .ok (.iload_n 1, 1) := by decide +kernel
theorem dX6_isSameName_21 : decode cX6_isSameName 21 = .ok (.iload 4, 2) := by decide +kernel
theorem dX6_isSameName_23 : decode cX6_isSameName 23 = .ok (.iadd, 1) := by decide +kernel
theorem dX6_isSameName_24 : decode cX6_isSameName 24 = .ok (.istore 5, 2) := by decide +kernel
theorem dX6_isSameName_26 : decode cX6_isSameName 26 = .ok (.iload_n 3, 1) := by decide +kernel
theorem dX6_isSameName_27 : decode cX6_isSameName 27 = .ok (.iload 4, 2) := by decide +kernel
theorem dX6_isSameName_29 : decode cX6_isSameName 29 = .ok (.iadd, 1) := by decide +kernel
theorem dX6_isSameName_30 : decode cX6_isSameName 30 = .ok (.istore 6, 2) := by decide +kernel
theorem dX6_isSameName_32 : decode cX6_isSameName 32 = .ok (.iload 5, 2) := by decide +kernel
theorem dX6_isSameName_34 : decode cX6_isSameName 34 = .ok (.aload_n 0, 1) := by decide +kernel
theorem dX6_isSameName_35 : decode cX6_isSameName 35 = .ok (.getfield 44, 3) := by decide +kernel
theorem dX6_isSameName_38 : decode cX6_isSameName 38 = .ok (.if_icmp .ge 29, 3) := by decide +kernel
theorem dX6_isSameName_41 : decode cX6_isSameName 41 = .ok (.iload 6, 2) := by decide +kernel
theorem dX6_isSameName_43 : decode cX6_isSameName 43 = .ok (.aload_n 2, 1) := by decide +kernel
theorem dX6_isSameName_44 : decode cX6_isSameName 44 = .ok (.getfield 44, 3) := by decide +kernel
theorem dX6_isSameName_47 : decode cX6_isSameName 47 = .ok (.if_icmp .ge 20, 3) := by decide +kernel
theorem dX6_isSameName_50 : decode cX6_isSameName 50 = .ok (.aload_n 0, 1) := by decide +kernel
theorem dX6_isSameName_51 : decode cX6_isSameName 51 = .ok (.getfield 9, 3) := by decide +kernel
theorem dX6_isSameName_54 : decode cX6_isSameName 54 = .ok (.iload 5, 2) := by decide +kernel
theorem dX6_isSameName_56 : decode cX6_isSameName 56 = .ok (.baload, 1) := by decide +kernel
theorem dX6_isSameName_57 : decode cX6_isSameName 57 = .ok (.aload_n 2, 1) := by decide +kernel
theorem dX6_isSameName_58 : decode cX6_isSameName 58 = .ok (.getfield 9, 3) := by decide +kernel
theorem dX6_isSameName_61 : decode cX6_isSameName 61 = .ok (.iload 6, 2) := by decide +kernel
theorem dX6_isSameName_63 : decode cX6_isSameName 63 = .ok (.baload, 1) := by decide +kernel
theorem dX6_isSameName_64 : decode cX6_isSameName 64 = .ok (.if_icmp .eq 5, 3) := by decide +kernel
theorem dX6_isSameName_67 : decode cX6_isSameName 67 = .ok (.iconst 0, 1) := by decide +kernel
theorem dX6_isSameName_68 : decode cX6_isSameName 68 = .ok (.ireturn, 1) := by decide +kernel
theorem dX6_isSameName_69 : decode cX6_isSameName 69 = .ok (.aload_n 0, 1) := by decide +kernel
theorem dX6_isSameName_70 : decode cX6_isSameName 70 = .ok (.getfield 9, 3) := by decide +kernel
theorem dX6_isSameName_73 : decode cX6_isSameName 73 = .ok (.iload 5, 2) := by decide +kernel
theorem dX6_isSameName_75 : decode cX6_isSameName 75 = .ok (.baload, 1) := by decide +kernel
theorem dX6_isSameName_76 : decode cX6_isSameName 76 = .ok (.bipush 34, 2) := by decide +kernel
theorem dX6_isSameName_78 : decode cX6_isSameName 78 = .ok (.if_icmp .ne 5, 3) := by decide +kernel
theorem dX6_isSameName_81 : decode cX6_isSameName 81 = .ok (.iconst 1, 1) := by decide +kernel
theorem dX6_isSameName_82 : decode cX6_isSameName 82 = .ok (.ireturn, 1) := by decide +kernel
theorem dX6_isSameName_83 : decode cX6_isSameName 83 = .ok (.iinc 4 1, 3) := by decide +kernel
theorem dX6_isSameName_86 : decode cX6_isSameName 86 = .ok (.goto (-73), 3) := by decide +kernel
theorem dX6_isSameName_89 : decode cX6_isSameName 89 = .ok (.iconst 0, 1) := by decide +kernel
theorem dX6_isSameName_90 : decode cX6_isSameName 90 = .ok (.ireturn, 1) := by decide +kernel
def rmX6_isSameName (mc ms : Nat) : Room := { frames := 0, cells := mc, slots := ms, locals := 0 }
theorem g3_35 (c0 : Cond) : GoodIn (c0 :: sr_G) (va_wsS RX3 35 yX3_word wsX3_word) := sr_S c0 (sr_ins (by decide +kernel))
theorem g3_39 (c0 : Cond) : GoodIn (c0 :: sr_G) (wsV RX3 39 RX7 yX7_says wsX7_says) := sr_V c0 (sr_ins (by decide +kernel))
theorem g6_55 (c0 : Cond) : GoodIn (c0 :: sr_G) (va_wsS RX6 55 yX6_isSlot wsX6_isSlot) := sr_S c0 (sr_ins (by decide +kernel))
theorem g6_59 (c0 : Cond) : GoodIn (c0 :: sr_G) (wsV RX6 59 RX6 yX6_meant wsX6_meant) := sr_V c0 (sr_ins (by decide +kernel))
theorem g6_62 (c0 : Cond) : GoodIn (c0 :: sr_G) (wsV RX6 62 RX20 yX20_length wsX20_length) := sr_V c0 (sr_ins (by decide +kernel))
theorem g6_68 (c0 : Cond) : GoodIn (c0 :: sr_G) (wsV RX6 68 RX20 yX20_charAt wsX20_charAt) := sr_V c0 (sr_ins (by decide +kernel))
theorem g6_72 (c0 : Cond) : GoodIn (c0 :: sr_G) (wsV RX6 72 RX6 yX6_writeByte wsX6_writeByte) := sr_V c0 (sr_ins (by decide +kernel))
theorem g6_76 (c0 : Cond) : GoodIn (c0 :: sr_G) (wsV RX6 76 RX7 yX7_amount wsX7_amount) := sr_V c0 (sr_ins (by decide +kernel))
theorem g6_81 (c0 : Cond) : GoodIn (c0 :: sr_G) (wsV RX6 81 RX7 yX7_saidAt wsX7_saidAt) := sr_V c0 (sr_ins (by decide +kernel))
theorem g6_84 (c0 : Cond) : GoodIn (c0 :: sr_G) (wsV RX6 84 RX6 yX6_letterAt wsX6_letterAt) := sr_V c0 (sr_ins (by decide +kernel))
theorem g6_87 (c0 : Cond) : GoodIn (c0 :: sr_G) (wsV RX6 87 RX6 yX6_isSaid wsX6_isSaid) := sr_V c0 (sr_ins (by decide +kernel))
theorem g6_91 (c0 : Cond) : GoodIn (c0 :: sr_G) (wsV RX6 91 RX6 yX6_first wsX6_first) := sr_V c0 (sr_ins (by decide +kernel))
theorem g6_94 (c0 : Cond) : GoodIn (c0 :: sr_G) (wsV RX6 94 RX6 yX6_amount wsX6_amount) := sr_V c0 (sr_ins (by decide +kernel))
theorem g6_95 (c0 : Cond) : GoodIn (c0 :: sr_G) (wsV RX6 95 RX6 yX6_fieldName wsX6_fieldName) := sr_V c0 (sr_ins (by decide +kernel))
theorem g6_98 (c0 : Cond) : GoodIn (c0 :: sr_G) (wsV RX6 98 RX6 yX6_next wsX6_next) := sr_V c0 (sr_ins (by decide +kernel))
theorem g6_101 (c0 : Cond) : GoodIn (c0 :: sr_G) (wsV RX6 101 RX6 yX6_nextSymbol wsX6_nextSymbol) := sr_V c0 (sr_ins (by decide +kernel))
theorem g6_104 (c0 : Cond) : GoodIn (c0 :: sr_G) (wsV RX6 104 RX6 yX6_writeSaid wsX6_writeSaid) := sr_V c0 (sr_ins (by decide +kernel))
theorem g6_108 (c0 : Cond) : GoodIn (c0 :: sr_G) (wsV RX6 108 RX6 yX6_kind wsX6_kind) := sr_V c0 (sr_ins (by decide +kernel))
theorem g6_111 (c0 : Cond) : GoodIn (c0 :: sr_G) (va_wsS RX6 111 yX3_isNamed wsX3_isNamed) := sr_S c0 (sr_ins (by decide +kernel))
theorem gn6_51 : (∀ w ∈ ([.static yX8_entry, .initialized yX8_entry.cls, .code yX8_entry cX8_entry 2 (some .int)] : List Cond), w ∈ sr_G) ∧ (.methodLinkNest RX6 51 yX8_entry "SchemaReader" : Cond) ∈ sr_N := ⟨sr_ins (by decide +kernel), List.mem_filter.mpr ⟨in_tables_1_3 _ (List.mem_of_getElem? (i := 0) rfl), rfl⟩⟩
