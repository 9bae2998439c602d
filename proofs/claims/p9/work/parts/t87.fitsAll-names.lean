abbrev cX10_fitsAll : ByteArray := prog_12_method_21_code
def yX10_fitsAll : MethodName := ⟨RX10, "fitsAll", "(LSchemaReaderModel$Text;LSchemaReaderModel$Text;)Z"⟩
def wsX10_fitsAll : List Cond := .code yX10_fitsAll cX10_fitsAll 5 (some .boolean) :: sr_G
theorem dX10_fitsAll_0 : decode cX10_fitsAll 0 = .ok (.iconst 0, 1) := by decide +kernel
theorem dX10_fitsAll_1 : decode cX10_fitsAll 1 = .ok (.istore_n 3, 1) := by decide +kernel
theorem dX10_fitsAll_2 : decode cX10_fitsAll 2 = .ok (.iload_n 3, 1) := by decide +kernel
theorem dX10_fitsAll_3 : decode cX10_fitsAll 3 = .ok (.sipush 19600, 3) := by decide +kernel
theorem dX10_fitsAll_6 : decode cX10_fitsAll 6 = .ok (.if_icmp .ge 16, 3) := by decide +kernel
theorem dX10_fitsAll_9 : decode cX10_fitsAll 9 = .ok (.aload_n 0, 1) := by decide +kernel
theorem dX10_fitsAll_10 : decode cX10_fitsAll 10 = .ok (.getfield 38, 3) := by decide +kernel
theorem dX10_fitsAll_13 : decode cX10_fitsAll 13 = .ok (.iload_n 3, 1) := by decide +kernel
theorem dX10_fitsAll_14 : decode cX10_fitsAll 14 = .ok (.iconst 0, 1) := by decide +kernel
theorem dX10_fitsAll_15 : decode cX10_fitsAll 15 = .ok (.bastore, 1) := by decide +kernel
theorem dX10_fitsAll_16 : decode cX10_fitsAll 16 = .ok (.iinc 3 1, 3) := by decide +kernel
theorem dX10_fitsAll_19 : decode cX10_fitsAll 19 = .ok (.goto (-17), 3) := by decide +kernel
theorem dX10_fitsAll_22 : decode cX10_fitsAll 22 = .ok (.aload_n 0, 1) := by decide +kernel
theorem dX10_fitsAll_23 : decode cX10_fitsAll 23 = .ok (.iconst 0, 1) := by decide +kernel
theorem dX10_fitsAll_24 : decode cX10_fitsAll 24 = .ok (.putfield 125, 3) := by decide +kernel
theorem dX10_fitsAll_27 : decode cX10_fitsAll 27 = .ok (.aload_n 0, 1) := by decide +kernel
theorem dX10_fitsAll_28 : decode cX10_fitsAll 28 = .ok (.aload_n 1, 1) := by decide +kernel
theorem dX10_fitsAll_29 : decode cX10_fitsAll 29 = .ok (.getfield 128, 3) := by decide +kernel
theorem dX10_fitsAll_32 : decode cX10_fitsAll 32 = .ok (.aload_n 2, 1) := by decide +kernel
theorem dX10_fitsAll_33 : decode cX10_fitsAll 33 = .ok (.getfield 128, 3) := by decide +kernel
theorem dX10_fitsAll_36 : decode cX10_fitsAll 36 = .ok (.invokevirtual 131, 3) := by decide +kernel
theorem dX10_fitsAll_39 : decode cX10_fitsAll 39 = .ok (.iconst 1, 1) := by decide +kernel
theorem dX10_fitsAll_40 : decode cX10_fitsAll 40 = .ok (.istore_n 3, 1) := by decide +kernel
theorem dX10_fitsAll_41 : decode cX10_fitsAll 41 = .ok (.iconst 0, 1) := by decide +kernel
theorem dX10_fitsAll_42 : decode cX10_fitsAll 42 = .ok (.istore 4, 2) := by decide +kernel
theorem dX10_fitsAll_44 : decode cX10_fitsAll 44 = .ok (.iload 4, 2) := by decide +kernel
theorem dX10_fitsAll_46 : decode cX10_fitsAll 46 = .ok (.aload_n 0, 1) := by decide +kernel
theorem dX10_fitsAll_47 : decode cX10_fitsAll 47 = .ok (.getfield 125, 3) := by decide +kernel
theorem dX10_fitsAll_50 : decode cX10_fitsAll 50 = .ok (.if_icmp .ge 42, 3) := by decide +kernel
theorem dX10_fitsAll_53 : decode cX10_fitsAll 53 = .ok (.iload_n 3, 1) := by decide +kernel
theorem dX10_fitsAll_54 : decode cX10_fitsAll 54 = .ok (.ifCond .eq 38, 3) := by decide +kernel
theorem dX10_fitsAll_57 : decode cX10_fitsAll 57 = .ok (.aload_n 0, 1) := by decide +kernel
theorem dX10_fitsAll_58 : decode cX10_fitsAll 58 = .ok (.aload_n 1, 1) := by decide +kernel
theorem dX10_fitsAll_59 : decode cX10_fitsAll 59 = .ok (.aload_n 0, 1) := by decide +kernel
theorem dX10_fitsAll_60 : decode cX10_fitsAll 60 = .ok (.getfield 42, 3) := by decide +kernel
theorem dX10_fitsAll_63 : decode cX10_fitsAll 63 = .ok (.iload 4, 2) := by decide +kernel
theorem dX10_fitsAll_65 : decode cX10_fitsAll 65 = .ok (.iaload, 1) := by decide +kernel
theorem dX10_fitsAll_66 : decode cX10_fitsAll 66 = .ok (.sipush 140, 3) := by decide +kernel
theorem dX10_fitsAll_69 : decode cX10_fitsAll 69 = .ok (.idiv, 1) := by decide +kernel
theorem dX10_fitsAll_70 : decode cX10_fitsAll 70 = .ok (.aload_n 2, 1) := by decide +kernel
theorem dX10_fitsAll_71 : decode cX10_fitsAll 71 = .ok (.aload_n 0, 1) := by decide +kernel
theorem dX10_fitsAll_72 : decode cX10_fitsAll 72 = .ok (.getfield 42, 3) := by decide +kernel
theorem dX10_fitsAll_75 : decode cX10_fitsAll 75 = .ok (.iload 4, 2) := by decide +kernel
theorem dX10_fitsAll_77 : decode cX10_fitsAll 77 = .ok (.iaload, 1) := by decide +kernel
theorem dX10_fitsAll_78 : decode cX10_fitsAll 78 = .ok (.sipush 140, 3) := by decide +kernel
theorem dX10_fitsAll_81 : decode cX10_fitsAll 81 = .ok (.irem, 1) := by decide +kernel
theorem dX10_fitsAll_82 : decode cX10_fitsAll 82 = .ok (.invokevirtual 135, 3) := by decide +kernel
theorem dX10_fitsAll_85 : decode cX10_fitsAll 85 = .ok (.istore_n 3, 1) := by decide +kernel
theorem dX10_fitsAll_86 : decode cX10_fitsAll 86 = .ok (.iinc 4 1, 3) := by decide +kernel
theorem dX10_fitsAll_89 : decode cX10_fitsAll 89 = .ok (.goto (-45), 3) := by decide +kernel
theorem dX10_fitsAll_92 : decode cX10_fitsAll 92 = .ok (.iload_n 3, 1) := by decide +kernel
theorem dX10_fitsAll_93 : decode cX10_fitsAll 93 = .ok (.ireturn, 1) := by decide +kernel
def rmX10_fitsAll (mc ms : Nat) : Room := { frames := 154, cells := mc, slots := ms, locals := 3851 }
theorem g10_135 (c0 : Cond) : GoodIn (c0 :: sr_G) (wsV RX10 135 RX10 yX10_may wsX10_may) := sr_V c0 (sr_ins (by decide +kernel))
