theorem mr_ldcW {p : Program} {l : Launch} {e : Env} {R : Room} {s : State} {m : MethodId} {args : Array Value} {below : List Frame} {meth : Method} {c : Code} {H : Heap} {locs : List Loc} {cells slots : Nat} {Q : State → Prop} {cc : ByteArray} {pc : Nat} {ls : Array Slot} {rest : List Value} (hexec : p.tables.exec = Jvm.exec) (hb : c.code = cc) {own tx : String} {index q : Nat} (hown : s.vm.findClass own = some m.cls) (hZ : vk_R own index tx q s) (hdg : decode cc pc = .ok (.ldc_w index, 3))
    (k : W p l e R s m args below meth c H locs cells slots Q (F0 m (pc + 3) ls (.ref q :: rest))) : W p l e R s m args below meth c H locs cells slots Q (F0 m pc ls rest) := by
  intro T hT X
  obtain ⟨t, a1, b1⟩ := k T hT X
  exact ⟨t, X.ldcStringW hexec hown (text := tx) (a := q) hZ.1 hZ.2 (g := F0 m pc ls rest) rfl (by rw [hb]; exact hdg) t a1, b1⟩
abbrev cX9_is : ByteArray := prog_13_method_16_code
def yX9_is : MethodName := ⟨RX9, "is", "(ILjava/lang/String;)Z"⟩
def wsX9_is : List Cond := .code yX9_is cX9_is 5 (some .boolean) :: sr_G
theorem dX9_is_0 : decode cX9_is 0 = .ok (.aload_n 0, 1) := by decide +kernel
theorem dX9_is_1 : decode cX9_is 1 = .ok (.getfield 15, 3) := by decide +kernel
theorem dX9_is_4 : decode cX9_is 4 = .ok (.iload_n 1, 1) := by decide +kernel
theorem dX9_is_5 : decode cX9_is 5 = .ok (.iaload, 1) := by decide +kernel
theorem dX9_is_6 : decode cX9_is 6 = .ok (.iconst 2, 1) := by decide +kernel
theorem dX9_is_7 : decode cX9_is 7 = .ok (.if_icmp .ne 20, 3) := by decide +kernel
theorem dX9_is_10 : decode cX9_is 10 = .ok (.aload_n 0, 1) := by decide +kernel
theorem dX9_is_11 : decode cX9_is 11 = .ok (.getfield 26, 3) := by decide +kernel
theorem dX9_is_14 : decode cX9_is 14 = .ok (.iload_n 1, 1) := by decide +kernel
theorem dX9_is_15 : decode cX9_is 15 = .ok (.iaload, 1) := by decide +kernel
theorem dX9_is_16 : decode cX9_is 16 = .ok (.aload_n 2, 1) := by decide +kernel
theorem dX9_is_17 : decode cX9_is 17 = .ok (.invokevirtual 137, 3) := by decide +kernel
theorem dX9_is_20 : decode cX9_is 20 = .ok (.if_icmp .ne 7, 3) := by decide +kernel
theorem dX9_is_23 : decode cX9_is 23 = .ok (.iconst 1, 1) := by decide +kernel
theorem dX9_is_24 : decode cX9_is 24 = .ok (.goto 4, 3) := by decide +kernel
theorem dX9_is_27 : decode cX9_is 27 = .ok (.iconst 0, 1) := by decide +kernel
theorem dX9_is_28 : decode cX9_is 28 = .ok (.istore_n 3, 1) := by decide +kernel
theorem dX9_is_29 : decode cX9_is 29 = .ok (.iconst 0, 1) := by decide +kernel
theorem dX9_is_30 : decode cX9_is 30 = .ok (.istore 4, 2) := by decide +kernel
theorem dX9_is_32 : decode cX9_is 32 = .ok (.iload 4, 2) := by decide +kernel
theorem dX9_is_34 : decode cX9_is 34 = .ok (.aload_n 2, 1) := by decide +kernel
theorem dX9_is_35 : decode cX9_is 35 = .ok (.invokevirtual 137, 3) := by decide +kernel
theorem dX9_is_38 : decode cX9_is 38 = .ok (.if_icmp .ge 43, 3) := by decide +kernel
theorem dX9_is_41 : decode cX9_is 41 = .ok (.iload_n 3, 1) := by decide +kernel
theorem dX9_is_42 : decode cX9_is 42 = .ok (.ifCond .eq 39, 3) := by decide +kernel
theorem dX9_is_45 : decode cX9_is 45 = .ok (.aload_n 0, 1) := by decide +kernel
theorem dX9_is_46 : decode cX9_is 46 = .ok (.getfield 35, 3) := by decide +kernel
theorem dX9_is_49 : decode cX9_is 49 = .ok (.aload_n 0, 1) := by decide +kernel
theorem dX9_is_50 : decode cX9_is 50 = .ok (.getfield 22, 3) := by decide +kernel
theorem dX9_is_53 : decode cX9_is 53 = .ok (.iload_n 1, 1) := by decide +kernel
theorem dX9_is_54 : decode cX9_is 54 = .ok (.laload, 1) := by decide +kernel
theorem dX9_is_55 : decode cX9_is 55 = .ok (.l2i, 1) := by decide +kernel
theorem dX9_is_56 : decode cX9_is 56 = .ok (.iload 4, 2) := by decide +kernel
theorem dX9_is_58 : decode cX9_is 58 = .ok (.iadd, 1) := by decide +kernel
theorem dX9_is_59 : decode cX9_is 59 = .ok (.baload, 1) := by decide +kernel
theorem dX9_is_60 : decode cX9_is 60 = .ok (.aload_n 2, 1) := by decide +kernel
theorem dX9_is_61 : decode cX9_is 61 = .ok (.iload 4, 2) := by decide +kernel
theorem dX9_is_63 : decode cX9_is 63 = .ok (.invokevirtual 141, 3) := by decide +kernel
theorem dX9_is_66 : decode cX9_is 66 = .ok (.if_icmp .ne 7, 3) := by decide +kernel
theorem dX9_is_69 : decode cX9_is 69 = .ok (.iconst 1, 1) := by decide +kernel
theorem dX9_is_70 : decode cX9_is 70 = .ok (.goto 4, 3) := by decide +kernel
theorem dX9_is_73 : decode cX9_is 73 = .ok (.iconst 0, 1) := by decide +kernel
theorem dX9_is_74 : decode cX9_is 74 = .ok (.istore_n 3, 1) := by decide +kernel
theorem dX9_is_75 : decode cX9_is 75 = .ok (.iinc 4 1, 3) := by decide +kernel
theorem dX9_is_78 : decode cX9_is 78 = .ok (.goto (-46), 3) := by decide +kernel
theorem dX9_is_81 : decode cX9_is 81 = .ok (.iload_n 3, 1) := by decide +kernel
theorem dX9_is_82 : decode cX9_is 82 = .ok (.ireturn, 1) := by decide +kernel
def rmX9_is (mc ms : Nat) : Room := { frames := 4, cells := mc, slots := ms, locals := 85 }
abbrev cX9_member : ByteArray := prog_13_method_17_code
def yX9_member : MethodName := ⟨RX9, "member", "(ILjava/lang/String;)I"⟩
def wsX9_member : List Cond := .code yX9_member cX9_member 4 (some .int) :: sr_G
theorem dX9_member_0 : decode cX9_member 0 = .ok (.aload_n 0, 1) := by decide +kernel
theorem dX9_member_1 : decode cX9_member 1 = .ok (.getfield 29, 3) := by decide +kernel
theorem dX9_member_4 : decode cX9_member 4 = .ok (.iload_n 1, 1) := by decide +kernel
theorem dX9_member_5 : decode cX9_member 5 = .ok (.iaload, 1) := by decide +kernel
theorem dX9_member_6 : decode cX9_member 6 = .ok (.istore_n 3, 1) := by decide +kernel
theorem dX9_member_7 : decode cX9_member 7 = .ok (.iload_n 3, 1) := by decide +kernel
theorem dX9_member_8 : decode cX9_member 8 = .ok (.ifCond .lt 34, 3) := by decide +kernel
theorem dX9_member_11 : decode cX9_member 11 = .ok (.aload_n 0, 1) := by decide +kernel
theorem dX9_member_12 : decode cX9_member 12 = .ok (.iload_n 3, 1) := by decide +kernel
theorem dX9_member_13 : decode cX9_member 13 = .ok (.aload_n 2, 1) := by decide +kernel
theorem dX9_member_14 : decode cX9_member 14 = .ok (.invokevirtual 177, 3) := by decide +kernel
theorem dX9_member_17 : decode cX9_member 17 = .ok (.ifCond .eq 10, 3) := by decide +kernel
theorem dX9_member_20 : decode cX9_member 20 = .ok (.aload_n 0, 1) := by decide +kernel
theorem dX9_member_21 : decode cX9_member 21 = .ok (.getfield 32, 3) := by decide +kernel
theorem dX9_member_24 : decode cX9_member 24 = .ok (.iload_n 3, 1) := by decide +kernel
theorem dX9_member_25 : decode cX9_member 25 = .ok (.iaload, 1) := by decide +kernel
theorem dX9_member_26 : decode cX9_member 26 = .ok (.ireturn, 1) := by decide +kernel
theorem dX9_member_27 : decode cX9_member 27 = .ok (.aload_n 0, 1) := by decide +kernel
theorem dX9_member_28 : decode cX9_member 28 = .ok (.getfield 32, 3) := by decide +kernel
theorem dX9_member_31 : decode cX9_member 31 = .ok (.aload_n 0, 1) := by decide +kernel
theorem dX9_member_32 : decode cX9_member 32 = .ok (.getfield 32, 3) := by decide +kernel
theorem dX9_member_35 : decode cX9_member 35 = .ok (.iload_n 3, 1) := by decide +kernel
theorem dX9_member_36 : decode cX9_member 36 = .ok (.iaload, 1) := by decide +kernel
theorem dX9_member_37 : decode cX9_member 37 = .ok (.iaload, 1) := by decide +kernel
theorem dX9_member_38 : decode cX9_member 38 = .ok (.istore_n 3, 1) := by decide +kernel
theorem dX9_member_39 : decode cX9_member 39 = .ok (.goto (-32), 3) := by decide +kernel
theorem dX9_member_42 : decode cX9_member 42 = .ok (.iconst (-1), 1) := by decide +kernel
theorem dX9_member_43 : decode cX9_member 43 = .ok (.ireturn, 1) := by decide +kernel
def rmX9_member (mc ms : Nat) : Room := { frames := 5, cells := mc, slots := ms, locals := 109 }
abbrev cX9_word : ByteArray := prog_13_method_19_code
def yX9_word : MethodName := ⟨RX9, "word", "(I)I"⟩
def wsX9_word : List Cond := .code yX9_word cX9_word 2 (some .int) :: sr_G
theorem dX9_word_0 : decode cX9_word 0 = .ok (.aload_n 0, 1) := by decide +kernel
theorem dX9_word_1 : decode cX9_word 1 = .ok (.iload_n 1, 1) := by decide +kernel
theorem dX9_word_2 : decode cX9_word 2 = .ok (.ldc 135, 2) := by decide +kernel
theorem dX9_word_4 : decode cX9_word 4 = .ok (.invokevirtual 177, 3) := by decide +kernel
theorem dX9_word_7 : decode cX9_word 7 = .ok (.ifCond .eq 7, 3) := by decide +kernel
theorem dX9_word_10 : decode cX9_word 10 = .ok (.iconst 0, 1) := by decide +kernel
theorem dX9_word_11 : decode cX9_word 11 = .ok (.goto 74, 3) := by decide +kernel
theorem dX9_word_14 : decode cX9_word 14 = .ok (.aload_n 0, 1) := by decide +kernel
theorem dX9_word_15 : decode cX9_word 15 = .ok (.iload_n 1, 1) := by decide +kernel
theorem dX9_word_16 : decode cX9_word 16 = .ok (.ldc 181, 2) := by decide +kernel
theorem dX9_word_18 : decode cX9_word 18 = .ok (.invokevirtual 177, 3) := by decide +kernel
theorem dX9_word_21 : decode cX9_word 21 = .ok (.ifCond .eq 7, 3) := by decide +kernel
theorem dX9_word_24 : decode cX9_word 24 = .ok (.iconst 1, 1) := by decide +kernel
theorem dX9_word_25 : decode cX9_word 25 = .ok (.goto 60, 3) := by decide +kernel
theorem dX9_word_28 : decode cX9_word 28 = .ok (.aload_n 0, 1) := by decide +kernel
theorem dX9_word_29 : decode cX9_word 29 = .ok (.iload_n 1, 1) := by decide +kernel
theorem dX9_word_30 : decode cX9_word 30 = .ok (.ldc 183, 2) := by decide +kernel
theorem dX9_word_32 : decode cX9_word 32 = .ok (.invokevirtual 177, 3) := by decide +kernel
theorem dX9_word_35 : decode cX9_word 35 = .ok (.ifCond .eq 7, 3) := by decide +kernel
theorem dX9_word_38 : decode cX9_word 38 = .ok (.iconst 2, 1) := by decide +kernel
theorem dX9_word_39 : decode cX9_word 39 = .ok (.goto 46, 3) := by decide +kernel
theorem dX9_word_42 : decode cX9_word 42 = .ok (.aload_n 0, 1) := by decide +kernel
theorem dX9_word_43 : decode cX9_word 43 = .ok (.iload_n 1, 1) := by decide +kernel
theorem dX9_word_44 : decode cX9_word 44 = .ok (.ldc 185, 2) := by decide +kernel
theorem dX9_word_46 : decode cX9_word 46 = .ok (.invokevirtual 177, 3) := by decide +kernel
theorem dX9_word_49 : decode cX9_word 49 = .ok (.ifCond .eq 7, 3) := by decide +kernel
theorem dX9_word_52 : decode cX9_word 52 = .ok (.iconst 3, 1) := by decide +kernel
theorem dX9_word_53 : decode cX9_word 53 = .ok (.goto 32, 3) := by decide +kernel
theorem dX9_word_56 : decode cX9_word 56 = .ok (.aload_n 0, 1) := by decide +kernel
theorem dX9_word_57 : decode cX9_word 57 = .ok (.iload_n 1, 1) := by decide +kernel
theorem dX9_word_58 : decode cX9_word 58 = .ok (.ldc 187, 2) := by decide +kernel
theorem dX9_word_60 : decode cX9_word 60 = .ok (.invokevirtual 177, 3) := by decide +kernel
theorem dX9_word_63 : decode cX9_word 63 = .ok (.ifCond .eq 7, 3) := by decide +kernel
theorem dX9_word_66 : decode cX9_word 66 = .ok (.iconst 4, 1) := by decide +kernel
theorem dX9_word_67 : decode cX9_word 67 = .ok (.goto 18, 3) := by decide +kernel
theorem dX9_word_70 : decode cX9_word 70 = .ok (.aload_n 0, 1) := by decide +kernel
theorem dX9_word_71 : decode cX9_word 71 = .ok (.iload_n 1, 1) := by decide +kernel
theorem dX9_word_72 : decode cX9_word 72 = .ok (.ldc 188, 2) := by decide +kernel
theorem dX9_word_74 : decode cX9_word 74 = .ok (.invokevirtual 177, 3) := by decide +kernel
theorem dX9_word_77 : decode cX9_word 77 = .ok (.ifCond .eq 7, 3) := by decide +kernel
theorem dX9_word_80 : decode cX9_word 80 = .ok (.iconst 5, 1) := by decide +kernel
theorem dX9_word_81 : decode cX9_word 81 = .ok (.goto 4, 3) := by decide +kernel
theorem dX9_word_84 : decode cX9_word 84 = .ok (.iconst (-1), 1) := by decide +kernel
theorem dX9_word_85 : decode cX9_word 85 = .ok (.ireturn, 1) := by decide +kernel
def rmX9_word (mc ms : Nat) : Room := { frames := 5, cells := mc, slots := ms, locals := 109 }
abbrev cX9_put : ByteArray := prog_13_method_35_code
def yX9_put : MethodName := ⟨RX9, "put", "(Ljava/lang/String;)V"⟩
def wsX9_put : List Cond := .code yX9_put cX9_put 3 none :: sr_G
theorem dX9_put_0 : decode cX9_put 0 = .ok (.iconst 0, 1) := by decide +kernel
theorem dX9_put_1 : decode cX9_put 1 = .ok (.istore_n 2, 1) := by decide +kernel
theorem dX9_put_2 : decode cX9_put 2 = .ok (.iload_n 2, 1) := by decide +kernel
theorem dX9_put_3 : decode cX9_put 3 = .ok (.aload_n 1, 1) := by decide +kernel
theorem dX9_put_4 : decode cX9_put 4 = .ok (.invokevirtual 137, 3) := by decide +kernel
theorem dX9_put_7 : decode cX9_put 7 = .ok (.if_icmp .ge 34, 3) := by decide +kernel
theorem dX9_put_10 : decode cX9_put 10 = .ok (.aload_n 0, 1) := by decide +kernel
theorem dX9_put_11 : decode cX9_put 11 = .ok (.getfield 71, 3) := by decide +kernel
theorem dX9_put_14 : decode cX9_put 14 = .ok (.aload_n 0, 1) := by decide +kernel
theorem dX9_put_15 : decode cX9_put 15 = .ok (.getfield 280, 3) := by decide +kernel
theorem dX9_put_18 : decode cX9_put 18 = .ok (.aload_n 1, 1) := by decide +kernel
theorem dX9_put_19 : decode cX9_put 19 = .ok (.iload_n 2, 1) := by decide +kernel
theorem dX9_put_20 : decode cX9_put 20 = .ok (.invokevirtual 141, 3) := by decide +kernel
theorem dX9_put_23 : decode cX9_put 23 = .ok (.i2b, 1) := by decide +kernel
theorem dX9_put_24 : decode cX9_put 24 = .ok (.bastore, 1) := by decide +kernel
theorem dX9_put_25 : decode cX9_put 25 = .ok (.aload_n 0, 1) := by decide +kernel
theorem dX9_put_26 : decode cX9_put 26 = .ok (.dup, 1) := by decide +kernel
theorem dX9_put_27 : decode cX9_put 27 = .ok (.getfield 280, 3) := by decide +kernel
theorem dX9_put_30 : decode cX9_put 30 = .ok (.iconst 1, 1) := by decide +kernel
theorem dX9_put_31 : decode cX9_put 31 = .ok (.iadd, 1) := by decide +kernel
theorem dX9_put_32 : decode cX9_put 32 = .ok (.putfield 280, 3) := by decide +kernel
theorem dX9_put_35 : decode cX9_put 35 = .ok (.iinc 2 1, 3) := by decide +kernel
theorem dX9_put_38 : decode cX9_put 38 = .ok (.goto (-36), 3) := by decide +kernel
theorem dX9_put_41 : decode cX9_put 41 = .ok (.return_, 1) := by decide +kernel
def rmX9_put (mc ms : Nat) : Room := { frames := 4, cells := mc, slots := ms, locals := 85 }
abbrev cX9_putName : ByteArray := prog_13_method_36_code
def yX9_putName : MethodName := ⟨RX9, "putName", "(I)V"⟩
def wsX9_putName : List Cond := .code yX9_putName cX9_putName 3 none :: sr_G
theorem dX9_putName_0 : decode cX9_putName 0 = .ok (.aload_n 0, 1) := by decide +kernel
theorem dX9_putName_1 : decode cX9_putName 1 = .ok (.ldc_w 295, 3) := by decide +kernel
theorem dX9_putName_4 : decode cX9_putName 4 = .ok (.invokevirtual 297, 3) := by decide +kernel
theorem dX9_putName_7 : decode cX9_putName 7 = .ok (.iconst 0, 1) := by decide +kernel
theorem dX9_putName_8 : decode cX9_putName 8 = .ok (.istore_n 2, 1) := by decide +kernel
theorem dX9_putName_9 : decode cX9_putName 9 = .ok (.iload_n 2, 1) := by decide +kernel
theorem dX9_putName_10 : decode cX9_putName 10 = .ok (.aload_n 0, 1) := by decide +kernel
theorem dX9_putName_11 : decode cX9_putName 11 = .ok (.getfield 26, 3) := by decide +kernel
theorem dX9_putName_14 : decode cX9_putName 14 = .ok (.iload_n 1, 1) := by decide +kernel
theorem dX9_putName_15 : decode cX9_putName 15 = .ok (.iaload, 1) := by decide +kernel
theorem dX9_putName_16 : decode cX9_putName 16 = .ok (.if_icmp .ge 42, 3) := by decide +kernel
theorem dX9_putName_19 : decode cX9_putName 19 = .ok (.aload_n 0, 1) := by decide +kernel
theorem dX9_putName_20 : decode cX9_putName 20 = .ok (.getfield 71, 3) := by decide +kernel
theorem dX9_putName_23 : decode cX9_putName 23 = .ok (.aload_n 0, 1) := by decide +kernel
theorem dX9_putName_24 : decode cX9_putName 24 = .ok (.getfield 280, 3) := by decide +kernel
theorem dX9_putName_27 : decode cX9_putName 27 = .ok (.aload_n 0, 1) := by decide +kernel
theorem dX9_putName_28 : decode cX9_putName 28 = .ok (.getfield 35, 3) := by decide +kernel
theorem dX9_putName_31 : decode cX9_putName 31 = .ok (.aload_n 0, 1) := by decide +kernel
theorem dX9_putName_32 : decode cX9_putName 32 = .ok (.getfield 22, 3) := by decide +kernel
theorem dX9_putName_35 : decode cX9_putName 35 = .ok (.iload_n 1, 1) := by decide +kernel
theorem dX9_putName_36 : decode cX9_putName 36 = .ok (.laload, 1) := by decide +kernel
theorem dX9_putName_37 : decode cX9_putName 37 = .ok (.l2i, 1) := by decide +kernel
theorem dX9_putName_38 : decode cX9_putName 38 = .ok (.iload_n 2, 1) := by decide +kernel
theorem dX9_putName_39 : decode cX9_putName 39 = .ok (.iadd, 1) := by decide +kernel
theorem dX9_putName_40 : decode cX9_putName 40 = .ok (.baload, 1) := by decide +kernel
theorem dX9_putName_41 : decode cX9_putName 41 = .ok (.bastore, 1) := by decide +kernel
theorem dX9_putName_42 : decode cX9_putName 42 = .ok (.aload_n 0, 1) := by decide +kernel
theorem dX9_putName_43 : decode cX9_putName 43 = .ok (.dup, 1) := by decide +kernel
theorem dX9_putName_44 : decode cX9_putName 44 = .ok (.getfield 280, 3) := by decide +kernel
theorem dX9_putName_47 : decode cX9_putName 47 = .ok (.iconst 1, 1) := by decide +kernel
theorem dX9_putName_48 : decode cX9_putName 48 = .ok (.iadd, 1) := by decide +kernel
theorem dX9_putName_49 : decode cX9_putName 49 = .ok (.putfield 280, 3) := by decide +kernel
theorem dX9_putName_52 : decode cX9_putName 52 = .ok (.iinc 2 1, 3) := by decide +kernel
theorem dX9_putName_55 : decode cX9_putName 55 = .ok (.goto (-46), 3) := by decide +kernel
theorem dX9_putName_58 : decode cX9_putName 58 = .ok (.aload_n 0, 1) := by decide +kernel
theorem dX9_putName_59 : decode cX9_putName 59 = .ok (.ldc_w 295, 3) := by decide +kernel
theorem dX9_putName_62 : decode cX9_putName 62 = .ok (.invokevirtual 297, 3) := by decide +kernel
theorem dX9_putName_65 : decode cX9_putName 65 = .ok (.return_, 1) := by decide +kernel
def rmX9_putName (mc ms : Nat) : Room := { frames := 5, cells := mc, slots := ms, locals := 107 }
abbrev cX9_escaped : ByteArray := prog_13_method_12_code
def yX9_escaped : MethodName := ⟨RX9, "escaped", "()I"⟩
def wsX9_escaped : List Cond := .code yX9_escaped cX9_escaped 6 (some .int) :: sr_G
theorem dX9_escaped_0 : decode cX9_escaped 0 = .ok (.aload_n 0, 1) := by decide +kernel
theorem dX9_escaped_1 : decode cX9_escaped 1 = .ok (.getfield 95, 3) := by decide +kernel
theorem dX9_escaped_4 : decode cX9_escaped 4 = .ok (.istore_n 1, 1) := by decide +kernel
theorem dX9_escaped_5 : decode cX9_escaped 5 = .ok (.aload_n 0, 1) := by decide +kernel
theorem dX9_escaped_6 : decode cX9_escaped 6 = .ok (.dup, 1) := by decide +kernel
theorem dX9_escaped_7 : decode cX9_escaped 7 = .ok (.getfield 95, 3) := by decide +kernel
theorem dX9_escaped_10 : decode cX9_escaped 10 = .ok (.iconst 1, 1) := by decide +kernel
theorem dX9_escaped_11 : decode cX9_escaped 11 = .ok (.iadd, 1) := by decide +kernel
theorem dX9_escaped_12 : decode cX9_escaped 12 = .ok (.putfield 95, 3) := by decide +kernel
theorem dX9_escaped_15 : decode cX9_escaped 15 = .ok (.aload_n 0, 1) := by decide +kernel
theorem dX9_escaped_16 : decode cX9_escaped 16 = .ok (.invokevirtual 101, 3) := by decide +kernel
theorem dX9_escaped_19 : decode cX9_escaped 19 = .ok (.istore_n 2, 1) := by decide +kernel
theorem dX9_escaped_20 : decode cX9_escaped 20 = .ok (.iload_n 2, 1) := by decide +kernel
theorem dX9_escaped_21 : decode cX9_escaped 21 = .ok (.ifCond .ge 7, 3) := by decide +kernel
theorem dX9_escaped_24 : decode cX9_escaped 24 = .ok (.iconst (-1), 1) := by decide +kernel
theorem dX9_escaped_25 : decode cX9_escaped 25 = .ok (.goto 10, 3) := by decide +kernel
theorem dX9_escaped_28 : decode cX9_escaped 28 = .ok (.ldc 159, 2) := by decide +kernel
theorem dX9_escaped_30 : decode cX9_escaped 30 = .ok (.iload_n 2, 1) := by decide +kernel
theorem dX9_escaped_31 : decode cX9_escaped 31 = .ok (.i2c, 1) := by decide +kernel
theorem dX9_escaped_32 : decode cX9_escaped 32 = .ok (.invokevirtual 161, 3) := by decide +kernel
theorem dX9_escaped_35 : decode cX9_escaped 35 = .ok (.istore_n 3, 1) := by decide +kernel
theorem dX9_escaped_36 : decode cX9_escaped 36 = .ok (.iload_n 3, 1) := by decide +kernel
theorem dX9_escaped_37 : decode cX9_escaped 37 = .ok (.ifCond .lt 86, 3) := by decide +kernel
theorem dX9_escaped_40 : decode cX9_escaped 40 = .ok (.aload_n 0, 1) := by decide +kernel
theorem dX9_escaped_41 : decode cX9_escaped 41 = .ok (.dup, 1) := by decide +kernel
theorem dX9_escaped_42 : decode cX9_escaped 42 = .ok (.getfield 95, 3) := by decide +kernel
theorem dX9_escaped_45 : decode cX9_escaped 45 = .ok (.iconst 1, 1) := by decide +kernel
theorem dX9_escaped_46 : decode cX9_escaped 46 = .ok (.iadd, 1) := by decide +kernel
theorem dX9_escaped_47 : decode cX9_escaped 47 = .ok (.putfield 95, 3) := by decide +kernel
theorem dX9_escaped_50 : decode cX9_escaped 50 = .ok (.iload_n 3, 1) := by decide +kernel
theorem dX9_escaped_51 : decode cX9_escaped 51 = .ok (.ifCond .ne 8, 3) := by decide +kernel
theorem dX9_escaped_54 : decode cX9_escaped 54 = .ok (.bipush 34, 2) := by decide +kernel
theorem dX9_escaped_56 : decode cX9_escaped 56 = .ok (.goto 66, 3) := by decide +kernel
theorem dX9_escaped_59 : decode cX9_escaped 59 = .ok (.iload_n 3, 1) := by decide +kernel
theorem dX9_escaped_60 : decode cX9_escaped 60 = .ok (.iconst 1, 1) := by decide +kernel
theorem dX9_escaped_61 : decode cX9_escaped 61 = .ok (.if_icmp .ne 8, 3) := by decide +kernel
theorem dX9_escaped_64 : decode cX9_escaped 64 = .ok (.bipush 92, 2) := by decide +kernel
theorem dX9_escaped_66 : decode cX9_escaped 66 = .ok (.goto 56, 3) := by decide +kernel
theorem dX9_escaped_69 : decode cX9_escaped 69 = .ok (.iload_n 3, 1) := by decide +kernel
theorem dX9_escaped_70 : decode cX9_escaped 70 = .ok (.iconst 2, 1) := by decide +kernel
theorem dX9_escaped_71 : decode cX9_escaped 71 = .ok (.if_icmp .ne 8, 3) := by decide +kernel
theorem dX9_escaped_74 : decode cX9_escaped 74 = .ok (.bipush 47, 2) := by decide +kernel
theorem dX9_escaped_76 : decode cX9_escaped 76 = .ok (.goto 46, 3) := by decide +kernel
theorem dX9_escaped_79 : decode cX9_escaped 79 = .ok (.iload_n 3, 1) := by decide +kernel
theorem dX9_escaped_80 : decode cX9_escaped 80 = .ok (.iconst 3, 1) := by decide +kernel
theorem dX9_escaped_81 : decode cX9_escaped 81 = .ok (.if_icmp .ne 8, 3) := by decide +kernel
theorem dX9_escaped_84 : decode cX9_escaped 84 = .ok (.bipush 8, 2) := by decide +kernel
theorem dX9_escaped_86 : decode cX9_escaped 86 = .ok (.goto 36, 3) := by decide +kernel
theorem dX9_escaped_89 : decode cX9_escaped 89 = .ok (.iload_n 3, 1) := by decide +kernel
theorem dX9_escaped_90 : decode cX9_escaped 90 = .ok (.iconst 4, 1) := by decide +kernel
theorem dX9_escaped_91 : decode cX9_escaped 91 = .ok (.if_icmp .ne 8, 3) := by decide +kernel
theorem dX9_escaped_94 : decode cX9_escaped 94 = .ok (.bipush 12, 2) := by decide +kernel
theorem dX9_escaped_96 : decode cX9_escaped 96 = .ok (.goto 26, 3) := by decide +kernel
theorem dX9_escaped_99 : decode cX9_escaped 99 = .ok (.iload_n 3, 1) := by decide +kernel
theorem dX9_escaped_100 : decode cX9_escaped 100 = .ok (.iconst 5, 1) := by decide +kernel
theorem dX9_escaped_101 : decode cX9_escaped 101 = .ok (.if_icmp .ne 8, 3) := by decide +kernel
theorem dX9_escaped_104 : decode cX9_escaped 104 = .ok (.bipush 10, 2) := by decide +kernel
theorem dX9_escaped_106 : decode cX9_escaped 106 = .ok (.goto 16, 3) := by decide +kernel
theorem dX9_escaped_109 : decode cX9_escaped 109 = .ok (.iload_n 3, 1) := by decide +kernel
theorem dX9_escaped_110 : decode cX9_escaped 110 = .ok (.bipush 6, 2) := by decide +kernel
theorem dX9_escaped_112 : decode cX9_escaped 112 = .ok (.if_icmp .ne 8, 3) := by decide +kernel
theorem dX9_escaped_115 : decode cX9_escaped 115 = .ok (.bipush 13, 2) := by decide +kernel
theorem dX9_escaped_117 : decode cX9_escaped 117 = .ok (.goto 5, 3) := by decide +kernel
theorem dX9_escaped_120 : decode cX9_escaped 120 = .ok (.bipush 9, 2) := by decide +kernel
theorem dX9_escaped_122 : decode cX9_escaped 122 = .ok (.ireturn, 1) := by decide +kernel
theorem dX9_escaped_123 : decode cX9_escaped 123 = .ok (.aload_n 0, 1) := by decide +kernel
theorem dX9_escaped_124 : decode cX9_escaped 124 = .ok (.bipush 117, 2) := by decide +kernel
theorem dX9_escaped_126 : decode cX9_escaped 126 = .ok (.invokevirtual 145, 3) := by decide +kernel
theorem dX9_escaped_129 : decode cX9_escaped 129 = .ok (.iconst 0, 1) := by decide +kernel
theorem dX9_escaped_130 : decode cX9_escaped 130 = .ok (.istore 4, 2) := by decide +kernel
theorem dX9_escaped_132 : decode cX9_escaped 132 = .ok (.iconst 0, 1) := by decide +kernel
theorem dX9_escaped_133 : decode cX9_escaped 133 = .ok (.istore 5, 2) := by decide +kernel
theorem dX9_escaped_135 : decode cX9_escaped 135 = .ok (.iload 5, 2) := by decide +kernel
theorem dX9_escaped_137 : decode cX9_escaped 137 = .ok (.iconst 4, 1) := by decide +kernel
theorem dX9_escaped_138 : decode cX9_escaped 138 = .ok (.if_icmp .ge 58, 3) := by decide +kernel
theorem dX9_escaped_141 : decode cX9_escaped 141 = .ok (.aload_n 0, 1) := by decide +kernel
theorem dX9_escaped_142 : decode cX9_escaped 142 = .ok (.aload_n 0, 1) := by decide +kernel
theorem dX9_escaped_143 : decode cX9_escaped 143 = .ok (.invokevirtual 101, 3) := by decide +kernel
theorem dX9_escaped_146 : decode cX9_escaped 146 = .ok (.invokestatic 164, 3) := by decide +kernel
theorem dX9_escaped_149 : decode cX9_escaped 149 = .ok (.ifCond .lt 7, 3) := by decide +kernel
theorem dX9_escaped_152 : decode cX9_escaped 152 = .ok (.iconst 1, 1) := by decide +kernel
theorem dX9_escaped_153 : decode cX9_escaped 153 = .ok (.goto 4, 3) := by decide +kernel
theorem dX9_escaped_156 : decode cX9_escaped 156 = .ok (.iconst 0, 1) := by decide +kernel
theorem dX9_escaped_157 : decode cX9_escaped 157 = .ok (.iconst 1, 1) := by decide +kernel
theorem dX9_escaped_158 : decode cX9_escaped 158 = .ok (.aload_n 0, 1) := by decide +kernel
theorem dX9_escaped_159 : decode cX9_escaped 159 = .ok (.getfield 95, 3) := by decide +kernel
theorem dX9_escaped_162 : decode cX9_escaped 162 = .ok (.invokevirtual 105, 3) := by decide +kernel
theorem dX9_escaped_165 : decode cX9_escaped 165 = .ok (.bipush 16, 2) := by decide +kernel
theorem dX9_escaped_167 : decode cX9_escaped 167 = .ok (.iload 4, 2) := by decide +kernel
theorem dX9_escaped_169 : decode cX9_escaped 169 = .ok (.imul, 1) := by decide +kernel
theorem dX9_escaped_170 : decode cX9_escaped 170 = .ok (.aload_n 0, 1) := by decide +kernel
theorem dX9_escaped_171 : decode cX9_escaped 171 = .ok (.invokevirtual 101, 3) := by decide +kernel
theorem dX9_escaped_174 : decode cX9_escaped 174 = .ok (.invokestatic 164, 3) := by decide +kernel
theorem dX9_escaped_177 : decode cX9_escaped 177 = .ok (.iadd, 1) := by decide +kernel
theorem dX9_escaped_178 : decode cX9_escaped 178 = .ok (.istore 4, 2) := by decide +kernel
theorem dX9_escaped_180 : decode cX9_escaped 180 = .ok (.aload_n 0, 1) := by decide +kernel
theorem dX9_escaped_181 : decode cX9_escaped 181 = .ok (.dup, 1) := by decide +kernel
theorem dX9_escaped_182 : decode cX9_escaped 182 = .ok (.getfield 95, 3) := by decide +kernel
theorem dX9_escaped_185 : decode cX9_escaped 185 = .ok (.iconst 1, 1) := by decide +kernel
theorem dX9_escaped_186 : decode cX9_escaped 186 = .ok (.iadd, 1) := by decide +kernel
theorem dX9_escaped_187 : decode cX9_escaped 187 = .ok (.putfield 95, 3) := by decide +kernel
theorem dX9_escaped_190 : decode cX9_escaped 190 = .ok (.iinc 5 1, 3) := by decide +kernel
theorem dX9_escaped_193 : decode cX9_escaped 193 = .ok (.goto (-58), 3) := by decide +kernel
theorem dX9_escaped_196 : decode cX9_escaped 196 = .ok (.aload_n 0, 1) := by decide +kernel
theorem dX9_escaped_197 : decode cX9_escaped 197 = .ok (.iload 4, 2) := by decide +kernel
theorem dX9_escaped_199 : decode cX9_escaped 199 = .ok (.sipush 256, 3) := by decide +kernel
theorem dX9_escaped_202 : decode cX9_escaped 202 = .ok (.if_icmp .ge 7, 3) := by decide +kernel
theorem dX9_escaped_205 : decode cX9_escaped 205 = .ok (.iconst 1, 1) := by decide +kernel
theorem dX9_escaped_206 : decode cX9_escaped 206 = .ok (.goto 4, 3) := by decide +kernel
theorem dX9_escaped_209 : decode cX9_escaped 209 = .ok (.iconst 0, 1) := by decide +kernel
theorem dX9_escaped_210 : decode cX9_escaped 210 = .ok (.iconst 1, 1) := by decide +kernel
theorem dX9_escaped_211 : decode cX9_escaped 211 = .ok (.iload_n 1, 1) := by decide +kernel
theorem dX9_escaped_212 : decode cX9_escaped 212 = .ok (.invokevirtual 105, 3) := by decide +kernel
theorem dX9_escaped_215 : decode cX9_escaped 215 = .ok (.iload 4, 2) := by decide +kernel
theorem dX9_escaped_217 : decode cX9_escaped 217 = .ok (.ireturn, 1) := by decide +kernel
def rmX9_escaped (mc ms : Nat) : Room := { frames := 11, cells := mc, slots := ms, locals := 186 }
abbrev cX9_string : ByteArray := prog_13_method_13_code
def yX9_string : MethodName := ⟨RX9, "string", "()I"⟩
def wsX9_string : List Cond := .code yX9_string cX9_string 3 (some .int) :: sr_G
theorem dX9_string_0 : decode cX9_string 0 = .ok (.aload_n 0, 1) := by decide +kernel
theorem dX9_string_1 : decode cX9_string 1 = .ok (.iconst 2, 1) := by decide +kernel
theorem dX9_string_2 : decode cX9_string 2 = .ok (.invokevirtual 127, 3) := by decide +kernel
theorem dX9_string_5 : decode cX9_string 5 = .ok (.istore_n 1, 1) := by decide +kernel
theorem dX9_string_6 : decode cX9_string 6 = .ok (.aload_n 0, 1) := by decide +kernel
theorem dX9_string_7 : decode cX9_string 7 = .ok (.getfield 22, 3) := by decide +kernel
theorem dX9_string_10 : decode cX9_string 10 = .ok (.iload_n 1, 1) := by decide +kernel
theorem dX9_string_11 : decode cX9_string 11 = .ok (.aload_n 0, 1) := by decide +kernel
theorem dX9_string_12 : decode cX9_string 12 = .ok (.getfield 167, 3) := by decide +kernel
theorem dX9_string_15 : decode cX9_string 15 = .ok (.i2l, 1) := by decide +kernel
theorem dX9_string_16 : decode cX9_string 16 = .ok (.lastore, 1) := by decide +kernel
theorem dX9_string_17 : decode cX9_string 17 = .ok (.aload_n 0, 1) := by decide +kernel
theorem dX9_string_18 : decode cX9_string 18 = .ok (.dup, 1) := by decide +kernel
theorem dX9_string_19 : decode cX9_string 19 = .ok (.getfield 95, 3) := by decide +kernel
theorem dX9_string_22 : decode cX9_string 22 = .ok (.iconst 1, 1) := by decide +kernel
theorem dX9_string_23 : decode cX9_string 23 = .ok (.iadd, 1) := by decide +kernel
theorem dX9_string_24 : decode cX9_string 24 = .ok (.putfield 95, 3) := by decide +kernel
theorem dX9_string_27 : decode cX9_string 27 = .ok (.aload_n 0, 1) := by decide +kernel
theorem dX9_string_28 : decode cX9_string 28 = .ok (.invokevirtual 101, 3) := by decide +kernel
theorem dX9_string_31 : decode cX9_string 31 = .ok (.bipush 34, 2) := by decide +kernel
theorem dX9_string_33 : decode cX9_string 33 = .ok (.if_icmp .eq 92, 3) := by decide +kernel
theorem dX9_string_36 : decode cX9_string 36 = .ok (.aload_n 0, 1) := by decide +kernel
theorem dX9_string_37 : decode cX9_string 37 = .ok (.invokevirtual 101, 3) := by decide +kernel
theorem dX9_string_40 : decode cX9_string 40 = .ok (.istore_n 2, 1) := by decide +kernel
theorem dX9_string_41 : decode cX9_string 41 = .ok (.aload_n 0, 1) := by decide +kernel
theorem dX9_string_42 : decode cX9_string 42 = .ok (.iload_n 2, 1) := by decide +kernel
theorem dX9_string_43 : decode cX9_string 43 = .ok (.bipush 32, 2) := by decide +kernel
theorem dX9_string_45 : decode cX9_string 45 = .ok (.if_icmp .lt 13, 3) := by decide +kernel
theorem dX9_string_48 : decode cX9_string 48 = .ok (.iload_n 2, 1) := by decide +kernel
theorem dX9_string_49 : decode cX9_string 49 = .ok (.bipush 126, 2) := by decide +kernel
theorem dX9_string_51 : decode cX9_string 51 = .ok (.if_icmp .gt 7, 3) := by decide +kernel
theorem dX9_string_54 : decode cX9_string 54 = .ok (.iconst 1, 1) := by decide +kernel
theorem dX9_string_55 : decode cX9_string 55 = .ok (.goto 4, 3) := by decide +kernel
theorem dX9_string_58 : decode cX9_string 58 = .ok (.iconst 0, 1) := by decide +kernel
theorem dX9_string_59 : decode cX9_string 59 = .ok (.iconst 1, 1) := by decide +kernel
theorem dX9_string_60 : decode cX9_string 60 = .ok (.aload_n 0, 1) := by decide +kernel
theorem dX9_string_61 : decode cX9_string 61 = .ok (.getfield 95, 3) := by decide +kernel
theorem dX9_string_64 : decode cX9_string 64 = .ok (.invokevirtual 105, 3) := by decide +kernel
theorem dX9_string_67 : decode cX9_string 67 = .ok (.iload_n 2, 1) := by decide +kernel
theorem dX9_string_68 : decode cX9_string 68 = .ok (.bipush 92, 2) := by decide +kernel
theorem dX9_string_70 : decode cX9_string 70 = .ok (.if_icmp .ne 11, 3) := by decide +kernel
theorem dX9_string_73 : decode cX9_string 73 = .ok (.aload_n 0, 1) := by decide +kernel
theorem dX9_string_74 : decode cX9_string 74 = .ok (.invokevirtual 170, 3) := by decide +kernel
theorem dX9_string_77 : decode cX9_string 77 = .ok (.istore_n 2, 1) := by decide +kernel
theorem dX9_string_78 : decode cX9_string 78 = .ok (.goto 13, 3) := by decide +kernel
theorem dX9_string_81 : decode cX9_string 81 = .ok (.aload_n 0, 1) := by decide +kernel
theorem dX9_string_82 : decode cX9_string 82 = .ok (.dup, 1) := by decide +kernel
theorem dX9_string_83 : decode cX9_string 83 = .ok (.getfield 95, 3) := by decide +kernel
theorem dX9_string_86 : decode cX9_string 86 = .ok (.iconst 1, 1) := by decide +kernel
theorem dX9_string_87 : decode cX9_string 87 = .ok (.iadd, 1) := by decide +kernel
theorem dX9_string_88 : decode cX9_string 88 = .ok (.putfield 95, 3) := by decide +kernel
theorem dX9_string_91 : decode cX9_string 91 = .ok (.aload_n 0, 1) := by decide +kernel
theorem dX9_string_92 : decode cX9_string 92 = .ok (.getfield 35, 3) := by decide +kernel
theorem dX9_string_95 : decode cX9_string 95 = .ok (.aload_n 0, 1) := by decide +kernel
theorem dX9_string_96 : decode cX9_string 96 = .ok (.getfield 167, 3) := by decide +kernel
theorem dX9_string_99 : decode cX9_string 99 = .ok (.iload_n 2, 1) := by decide +kernel
theorem dX9_string_100 : decode cX9_string 100 = .ok (.i2b, 1) := by decide +kernel
theorem dX9_string_101 : decode cX9_string 101 = .ok (.bastore, 1) := by decide +kernel
theorem dX9_string_102 : decode cX9_string 102 = .ok (.aload_n 0, 1) := by decide +kernel
theorem dX9_string_103 : decode cX9_string 103 = .ok (.dup, 1) := by decide +kernel
theorem dX9_string_104 : decode cX9_string 104 = .ok (.getfield 167, 3) := by decide +kernel
theorem dX9_string_107 : decode cX9_string 107 = .ok (.iconst 1, 1) := by decide +kernel
theorem dX9_string_108 : decode cX9_string 108 = .ok (.iadd, 1) := by decide +kernel
theorem dX9_string_109 : decode cX9_string 109 = .ok (.putfield 167, 3) := by decide +kernel
theorem dX9_string_112 : decode cX9_string 112 = .ok (.aload_n 0, 1) := by decide +kernel
theorem dX9_string_113 : decode cX9_string 113 = .ok (.getfield 26, 3) := by decide +kernel
theorem dX9_string_116 : decode cX9_string 116 = .ok (.iload_n 1, 1) := by decide +kernel
theorem dX9_string_117 : decode cX9_string 117 = .ok (.dup2, 1) := by decide +kernel
theorem dX9_string_118 : decode cX9_string 118 = .ok (.iaload, 1) := by decide +kernel
theorem dX9_string_119 : decode cX9_string 119 = .ok (.iconst 1, 1) := by decide +kernel
theorem dX9_string_120 : decode cX9_string 120 = .ok (.iadd, 1) := by decide +kernel
theorem dX9_string_121 : decode cX9_string 121 = .ok (.iastore, 1) := by decide +kernel
theorem dX9_string_122 : decode cX9_string 122 = .ok (.goto (-95), 3) := by decide +kernel
theorem dX9_string_125 : decode cX9_string 125 = .ok (.aload_n 0, 1) := by decide +kernel
theorem dX9_string_126 : decode cX9_string 126 = .ok (.dup, 1) := by decide +kernel
theorem dX9_string_127 : decode cX9_string 127 = .ok (.getfield 95, 3) := by decide +kernel
theorem dX9_string_130 : decode cX9_string 130 = .ok (.iconst 1, 1) := by decide +kernel
theorem dX9_string_131 : decode cX9_string 131 = .ok (.iadd, 1) := by decide +kernel
theorem dX9_string_132 : decode cX9_string 132 = .ok (.putfield 95, 3) := by decide +kernel
theorem dX9_string_135 : decode cX9_string 135 = .ok (.iload_n 1, 1) := by decide +kernel
theorem dX9_string_136 : decode cX9_string 136 = .ok (.ireturn, 1) := by decide +kernel
def rmX9_string (mc ms : Nat) : Room := { frames := 12, cells := mc, slots := ms, locals := 211 }
theorem g9_137 (c0 : Cond) : GoodIn (c0 :: sr_G) (wsV RX9 137 RX20 yX20_length wsX20_length) := sr_V c0 (sr_ins (by decide +kernel))
theorem g9_141 (c0 : Cond) : GoodIn (c0 :: sr_G) (wsV RX9 141 RX20 yX20_charAt wsX20_charAt) := sr_V c0 (sr_ins (by decide +kernel))
theorem g9_177 (c0 : Cond) : GoodIn (c0 :: sr_G) (wsV RX9 177 RX9 yX9_is wsX9_is) := sr_V c0 (sr_ins (by decide +kernel))
theorem g9_297 (c0 : Cond) : GoodIn (c0 :: sr_G) (wsV RX9 297 RX9 yX9_put wsX9_put) := sr_V c0 (sr_ins (by decide +kernel))
theorem g9_145 (c0 : Cond) : GoodIn (c0 :: sr_G) (wsV RX9 145 RX9 yX9_take wsX9_take) := sr_V c0 (sr_ins (by decide +kernel))
theorem g9_164 (c0 : Cond) : GoodIn (c0 :: sr_G) (va_wsS RX9 164 yX9_hex wsX9_hex) := sr_S c0 (sr_ins (by decide +kernel))
theorem g9_161 (c0 : Cond) : GoodIn (c0 :: sr_G) (wsV RX9 161 RX20 yX20_indexOf wsX20_indexOf) := sr_V c0 (sr_ins (by decide +kernel))
theorem g9_170 (c0 : Cond) : GoodIn (c0 :: sr_G) (wsV RX9 170 RX9 yX9_escaped wsX9_escaped) := sr_V c0 (sr_ins (by decide +kernel))
