abbrev cX9_readAll : ByteArray := prog_13_method_34_code
def yX9_readAll : MethodName := ⟨RX9, "readAll", "()V"⟩
def wsX9_readAll : List Cond := .code yX9_readAll cX9_readAll 4 none :: sr_G
theorem dX9_readAll_0 : decode cX9_readAll 0 = .ok (.aload_n 0, 1) := by decide +kernel
theorem dX9_readAll_1 : decode cX9_readAll 1 = .ok (.invokevirtual 149, 3) := by decide +kernel
theorem dX9_readAll_4 : decode cX9_readAll 4 = .ok (.aload_n 0, 1) := by decide +kernel
theorem dX9_readAll_5 : decode cX9_readAll 5 = .ok (.invokevirtual 152, 3) := by decide +kernel
theorem dX9_readAll_8 : decode cX9_readAll 8 = .ok (.istore_n 1, 1) := by decide +kernel
theorem dX9_readAll_9 : decode cX9_readAll 9 = .ok (.aload_n 0, 1) := by decide +kernel
theorem dX9_readAll_10 : decode cX9_readAll 10 = .ok (.aload_n 0, 1) := by decide +kernel
theorem dX9_readAll_11 : decode cX9_readAll 11 = .ok (.getfield 95, 3) := by decide +kernel
theorem dX9_readAll_14 : decode cX9_readAll 14 = .ok (.putfield 292, 3) := by decide +kernel
theorem dX9_readAll_17 : decode cX9_readAll 17 = .ok (.aload_n 0, 1) := by decide +kernel
theorem dX9_readAll_18 : decode cX9_readAll 18 = .ok (.invokevirtual 149, 3) := by decide +kernel
theorem dX9_readAll_21 : decode cX9_readAll 21 = .ok (.aload_n 0, 1) := by decide +kernel
theorem dX9_readAll_22 : decode cX9_readAll 22 = .ok (.aload_n 0, 1) := by decide +kernel
theorem dX9_readAll_23 : decode cX9_readAll 23 = .ok (.getfield 95, 3) := by decide +kernel
theorem dX9_readAll_26 : decode cX9_readAll 26 = .ok (.aload_n 0, 1) := by decide +kernel
theorem dX9_readAll_27 : decode cX9_readAll 27 = .ok (.getfield 98, 3) := by decide +kernel
theorem dX9_readAll_30 : decode cX9_readAll 30 = .ok (.if_icmp .ne 7, 3) := by decide +kernel
theorem dX9_readAll_33 : decode cX9_readAll 33 = .ok (.iconst 1, 1) := by decide +kernel
theorem dX9_readAll_34 : decode cX9_readAll 34 = .ok (.goto 4, 3) := by decide +kernel
theorem dX9_readAll_37 : decode cX9_readAll 37 = .ok (.iconst 0, 1) := by decide +kernel
theorem dX9_readAll_38 : decode cX9_readAll 38 = .ok (.iconst 1, 1) := by decide +kernel
theorem dX9_readAll_39 : decode cX9_readAll 39 = .ok (.aload_n 0, 1) := by decide +kernel
theorem dX9_readAll_40 : decode cX9_readAll 40 = .ok (.getfield 95, 3) := by decide +kernel
theorem dX9_readAll_43 : decode cX9_readAll 43 = .ok (.invokevirtual 105, 3) := by decide +kernel
theorem dX9_readAll_46 : decode cX9_readAll 46 = .ok (.aload_n 0, 1) := by decide +kernel
theorem dX9_readAll_47 : decode cX9_readAll 47 = .ok (.aload_n 0, 1) := by decide +kernel
theorem dX9_readAll_48 : decode cX9_readAll 48 = .ok (.iload_n 1, 1) := by decide +kernel
theorem dX9_readAll_49 : decode cX9_readAll 49 = .ok (.iconst 0, 1) := by decide +kernel
theorem dX9_readAll_50 : decode cX9_readAll 50 = .ok (.iconst 0, 1) := by decide +kernel
theorem dX9_readAll_51 : decode cX9_readAll 51 = .ok (.invokevirtual 229, 3) := by decide +kernel
theorem dX9_readAll_54 : decode cX9_readAll 54 = .ok (.putfield 286, 3) := by decide +kernel
theorem dX9_readAll_57 : decode cX9_readAll 57 = .ok (.iconst 0, 1) := by decide +kernel
theorem dX9_readAll_58 : decode cX9_readAll 58 = .ok (.istore_n 2, 1) := by decide +kernel
theorem dX9_readAll_59 : decode cX9_readAll 59 = .ok (.iload_n 2, 1) := by decide +kernel
theorem dX9_readAll_60 : decode cX9_readAll 60 = .ok (.aload_n 0, 1) := by decide +kernel
theorem dX9_readAll_61 : decode cX9_readAll 61 = .ok (.getfield 271, 3) := by decide +kernel
theorem dX9_readAll_64 : decode cX9_readAll 64 = .ok (.if_icmp .ge 41, 3) := by decide +kernel
theorem dX9_readAll_67 : decode cX9_readAll 67 = .ok (.aload_n 0, 1) := by decide +kernel
theorem dX9_readAll_68 : decode cX9_readAll 68 = .ok (.getfield 68, 3) := by decide +kernel
theorem dX9_readAll_71 : decode cX9_readAll 71 = .ok (.iload_n 2, 1) := by decide +kernel
theorem dX9_readAll_72 : decode cX9_readAll 72 = .ok (.iaload, 1) := by decide +kernel
theorem dX9_readAll_73 : decode cX9_readAll 73 = .ok (.istore_n 3, 1) := by decide +kernel
theorem dX9_readAll_74 : decode cX9_readAll 74 = .ok (.aload_n 0, 1) := by decide +kernel
theorem dX9_readAll_75 : decode cX9_readAll 75 = .ok (.getfield 62, 3) := by decide +kernel
theorem dX9_readAll_78 : decode cX9_readAll 78 = .ok (.iload_n 3, 1) := by decide +kernel
theorem dX9_readAll_79 : decode cX9_readAll 79 = .ok (.iaload, 1) := by decide +kernel
theorem dX9_readAll_80 : decode cX9_readAll 80 = .ok (.ifCond .lt 19, 3) := by decide +kernel
theorem dX9_readAll_83 : decode cX9_readAll 83 = .ok (.aload_n 0, 1) := by decide +kernel
theorem dX9_readAll_84 : decode cX9_readAll 84 = .ok (.aload_n 0, 1) := by decide +kernel
theorem dX9_readAll_85 : decode cX9_readAll 85 = .ok (.getfield 62, 3) := by decide +kernel
theorem dX9_readAll_88 : decode cX9_readAll 88 = .ok (.iload_n 3, 1) := by decide +kernel
theorem dX9_readAll_89 : decode cX9_readAll 89 = .ok (.iaload, 1) := by decide +kernel
theorem dX9_readAll_90 : decode cX9_readAll 90 = .ok (.aload_n 0, 1) := by decide +kernel
theorem dX9_readAll_91 : decode cX9_readAll 91 = .ok (.getfield 56, 3) := by decide +kernel
theorem dX9_readAll_94 : decode cX9_readAll 94 = .ok (.iload_n 3, 1) := by decide +kernel
theorem dX9_readAll_95 : decode cX9_readAll 95 = .ok (.iaload, 1) := by decide +kernel
theorem dX9_readAll_96 : decode cX9_readAll 96 = .ok (.invokevirtual 274, 3) := by decide +kernel
theorem dX9_readAll_99 : decode cX9_readAll 99 = .ok (.iinc 2 1, 3) := by decide +kernel
theorem dX9_readAll_102 : decode cX9_readAll 102 = .ok (.goto (-43), 3) := by decide +kernel
theorem dX9_readAll_105 : decode cX9_readAll 105 = .ok (.return_, 1) := by decide +kernel
def rmX9_readAll (mc ms : Nat) : Room := { frames := 71, cells := mc, slots := ms, locals := 1731 }
