section
theorem mr_ldcW {p : Program} {l : Launch} {e : Env} {R : Room} {s : State} {m : MethodId} {args : Array Value} {below : List Frame} {meth : Method} {c : Code} {H : Heap} {locs : List Loc} {cells slots : Nat} {Q : State → Prop} {cc : ByteArray} {pc : Nat} {ls : Array Slot} {rest : List Value} (hexec : p.tables.exec = Jvm.exec) (hb : c.code = cc) {own tx : String} {index q : Nat} (hown : s.vm.findClass own = some m.cls) (hZ : vk_R own index tx q s) (hdg : decode cc pc = .ok (.ldc_w index, 3))
    (k : W p l e R s m args below meth c H locs cells slots Q (F0 m (pc + 3) ls (.ref q :: rest))) : W p l e R s m args below meth c H locs cells slots Q (F0 m pc ls rest) := by
  intro T hT X
  obtain ⟨t, a1, b1⟩ := k T hT X
  exact ⟨t, X.ldcStringW hexec hown (text := tx) (a := q) hZ.1 hZ.2 (g := F0 m pc ls rest) rfl (by rw [hb]; exact hdg) t a1, b1⟩
abbrev cX9_is : ByteArray := prog_13_method_16_code
def yX9_is : MethodName := ⟨RX9, "is", "(ILjava/lang/String;)Z"⟩
def wsX9_is : List Cond := .code yX9_is cX9_is 5 (some .boolean) :: sr_G
def nq_cX9_is : Nat := 0xac1dd2ffa70104843e030400a7040700a08d00b604152c33600415882f1b1600b42a2300b42a2700991d2b00a28900b62c04150436033e030400a7040700a08900b62c2e1b1a00b42a1400a0052e1b0f00b42a
theorem kq_cX9_is : qOk cX9_is nq_cX9_is 83 = true := by decide +kernel
theorem dX9_is_0 : decode cX9_is 0 = .ok (.aload_n 0, 1) := qd_42 kq_cX9_is (by decide +kernel)
theorem dX9_is_1 : decode cX9_is 1 = .ok (.getfield 15, 3) := qd_180 kq_cX9_is (by decide +kernel)
theorem dX9_is_4 : decode cX9_is 4 = .ok (.iload_n 1, 1) := qd_27 kq_cX9_is (by decide +kernel)
theorem dX9_is_5 : decode cX9_is 5 = .ok (.iaload, 1) := qd_46 kq_cX9_is (by decide +kernel)
theorem dX9_is_6 : decode cX9_is 6 = .ok (.iconst 2, 1) := qd_5 kq_cX9_is (by decide +kernel)
theorem dX9_is_7 : decode cX9_is 7 = .ok (.if_icmp .ne 20, 3) := qd_160 kq_cX9_is (by decide +kernel)
theorem dX9_is_10 : decode cX9_is 10 = .ok (.aload_n 0, 1) := qd_42 kq_cX9_is (by decide +kernel)
theorem dX9_is_11 : decode cX9_is 11 = .ok (.getfield 26, 3) := qd_180 kq_cX9_is (by decide +kernel)
theorem dX9_is_14 : decode cX9_is 14 = .ok (.iload_n 1, 1) := qd_27 kq_cX9_is (by decide +kernel)
theorem dX9_is_15 : decode cX9_is 15 = .ok (.iaload, 1) := qd_46 kq_cX9_is (by decide +kernel)
theorem dX9_is_16 : decode cX9_is 16 = .ok (.aload_n 2, 1) := qd_44 kq_cX9_is (by decide +kernel)
theorem dX9_is_17 : decode cX9_is 17 = .ok (.invokevirtual 137, 3) := qd_182 kq_cX9_is (by decide +kernel)
theorem dX9_is_20 : decode cX9_is 20 = .ok (.if_icmp .ne 7, 3) := qd_160 kq_cX9_is (by decide +kernel)
theorem dX9_is_23 : decode cX9_is 23 = .ok (.iconst 1, 1) := qd_4 kq_cX9_is (by decide +kernel)
theorem dX9_is_24 : decode cX9_is 24 = .ok (.goto 4, 3) := qd_167 kq_cX9_is (by decide +kernel)
theorem dX9_is_27 : decode cX9_is 27 = .ok (.iconst 0, 1) := qd_3 kq_cX9_is (by decide +kernel)
theorem dX9_is_28 : decode cX9_is 28 = .ok (.istore_n 3, 1) := qd_62 kq_cX9_is (by decide +kernel)
theorem dX9_is_29 : decode cX9_is 29 = .ok (.iconst 0, 1) := qd_3 kq_cX9_is (by decide +kernel)
theorem dX9_is_30 : decode cX9_is 30 = .ok (.istore 4, 2) := qd_54 kq_cX9_is (by decide +kernel)
theorem dX9_is_32 : decode cX9_is 32 = .ok (.iload 4, 2) := qd_21 kq_cX9_is (by decide +kernel)
theorem dX9_is_34 : decode cX9_is 34 = .ok (.aload_n 2, 1) := qd_44 kq_cX9_is (by decide +kernel)
theorem dX9_is_35 : decode cX9_is 35 = .ok (.invokevirtual 137, 3) := qd_182 kq_cX9_is (by decide +kernel)
theorem dX9_is_38 : decode cX9_is 38 = .ok (.if_icmp .ge 43, 3) := qd_162 kq_cX9_is (by decide +kernel)
theorem dX9_is_41 : decode cX9_is 41 = .ok (.iload_n 3, 1) := qd_29 kq_cX9_is (by decide +kernel)
theorem dX9_is_42 : decode cX9_is 42 = .ok (.ifCond .eq 39, 3) := qd_153 kq_cX9_is (by decide +kernel)
theorem dX9_is_45 : decode cX9_is 45 = .ok (.aload_n 0, 1) := qd_42 kq_cX9_is (by decide +kernel)
theorem dX9_is_46 : decode cX9_is 46 = .ok (.getfield 35, 3) := qd_180 kq_cX9_is (by decide +kernel)
theorem dX9_is_49 : decode cX9_is 49 = .ok (.aload_n 0, 1) := qd_42 kq_cX9_is (by decide +kernel)
theorem dX9_is_50 : decode cX9_is 50 = .ok (.getfield 22, 3) := qd_180 kq_cX9_is (by decide +kernel)
theorem dX9_is_53 : decode cX9_is 53 = .ok (.iload_n 1, 1) := qd_27 kq_cX9_is (by decide +kernel)
theorem dX9_is_54 : decode cX9_is 54 = .ok (.laload, 1) := qd_47 kq_cX9_is (by decide +kernel)
theorem dX9_is_55 : decode cX9_is 55 = .ok (.l2i, 1) := qd_136 kq_cX9_is (by decide +kernel)
theorem dX9_is_56 : decode cX9_is 56 = .ok (.iload 4, 2) := qd_21 kq_cX9_is (by decide +kernel)
theorem dX9_is_58 : decode cX9_is 58 = .ok (.iadd, 1) := qd_96 kq_cX9_is (by decide +kernel)
theorem dX9_is_59 : decode cX9_is 59 = .ok (.baload, 1) := qd_51 kq_cX9_is (by decide +kernel)
theorem dX9_is_60 : decode cX9_is 60 = .ok (.aload_n 2, 1) := qd_44 kq_cX9_is (by decide +kernel)
theorem dX9_is_61 : decode cX9_is 61 = .ok (.iload 4, 2) := qd_21 kq_cX9_is (by decide +kernel)
theorem dX9_is_63 : decode cX9_is 63 = .ok (.invokevirtual 141, 3) := qd_182 kq_cX9_is (by decide +kernel)
theorem dX9_is_66 : decode cX9_is 66 = .ok (.if_icmp .ne 7, 3) := qd_160 kq_cX9_is (by decide +kernel)
theorem dX9_is_69 : decode cX9_is 69 = .ok (.iconst 1, 1) := qd_4 kq_cX9_is (by decide +kernel)
theorem dX9_is_70 : decode cX9_is 70 = .ok (.goto 4, 3) := qd_167 kq_cX9_is (by decide +kernel)
theorem dX9_is_73 : decode cX9_is 73 = .ok (.iconst 0, 1) := qd_3 kq_cX9_is (by decide +kernel)
theorem dX9_is_74 : decode cX9_is 74 = .ok (.istore_n 3, 1) := qd_62 kq_cX9_is (by decide +kernel)
theorem dX9_is_75 : decode cX9_is 75 = .ok (.iinc 4 1, 3) := qd_132 kq_cX9_is (by decide +kernel)
theorem dX9_is_78 : decode cX9_is 78 = .ok (.goto (-46), 3) := qd_167 kq_cX9_is (by decide +kernel)
theorem dX9_is_81 : decode cX9_is 81 = .ok (.iload_n 3, 1) := qd_29 kq_cX9_is (by decide +kernel)
theorem dX9_is_82 : decode cX9_is 82 = .ok (.ireturn, 1) := qd_172 kq_cX9_is (by decide +kernel)
def rmX9_is (mc ms : Nat) : Room := { frames := 4, cells := mc, slots := ms, locals := 85 }
abbrev cX9_member : ByteArray := prog_13_method_17_code
def yX9_member : MethodName := ⟨RX9, "member", "(ILjava/lang/String;)I"⟩
def wsX9_member : List Cond := .code yX9_member cX9_member 4 (some .int) :: sr_G
def nq_cX9_member : Nat := 0xac02e0ffa73e2e2e1d2000b42a2000b42aac2e1d2000b42a0a0099b100b62c1d2a22009b1d3e2e1b1d00b42a
theorem kq_cX9_member : qOk cX9_member nq_cX9_member 44 = true := by decide +kernel
theorem dX9_member_0 : decode cX9_member 0 = .ok (.aload_n 0, 1) := qd_42 kq_cX9_member (by decide +kernel)
theorem dX9_member_1 : decode cX9_member 1 = .ok (.getfield 29, 3) := qd_180 kq_cX9_member (by decide +kernel)
theorem dX9_member_4 : decode cX9_member 4 = .ok (.iload_n 1, 1) := qd_27 kq_cX9_member (by decide +kernel)
theorem dX9_member_5 : decode cX9_member 5 = .ok (.iaload, 1) := qd_46 kq_cX9_member (by decide +kernel)
theorem dX9_member_6 : decode cX9_member 6 = .ok (.istore_n 3, 1) := qd_62 kq_cX9_member (by decide +kernel)
theorem dX9_member_7 : decode cX9_member 7 = .ok (.iload_n 3, 1) := qd_29 kq_cX9_member (by decide +kernel)
theorem dX9_member_8 : decode cX9_member 8 = .ok (.ifCond .lt 34, 3) := qd_155 kq_cX9_member (by decide +kernel)
theorem dX9_member_11 : decode cX9_member 11 = .ok (.aload_n 0, 1) := qd_42 kq_cX9_member (by decide +kernel)
theorem dX9_member_12 : decode cX9_member 12 = .ok (.iload_n 3, 1) := qd_29 kq_cX9_member (by decide +kernel)
theorem dX9_member_13 : decode cX9_member 13 = .ok (.aload_n 2, 1) := qd_44 kq_cX9_member (by decide +kernel)
theorem dX9_member_14 : decode cX9_member 14 = .ok (.invokevirtual 177, 3) := qd_182 kq_cX9_member (by decide +kernel)
theorem dX9_member_17 : decode cX9_member 17 = .ok (.ifCond .eq 10, 3) := qd_153 kq_cX9_member (by decide +kernel)
theorem dX9_member_20 : decode cX9_member 20 = .ok (.aload_n 0, 1) := qd_42 kq_cX9_member (by decide +kernel)
theorem dX9_member_21 : decode cX9_member 21 = .ok (.getfield 32, 3) := qd_180 kq_cX9_member (by decide +kernel)
theorem dX9_member_24 : decode cX9_member 24 = .ok (.iload_n 3, 1) := qd_29 kq_cX9_member (by decide +kernel)
theorem dX9_member_25 : decode cX9_member 25 = .ok (.iaload, 1) := qd_46 kq_cX9_member (by decide +kernel)
theorem dX9_member_26 : decode cX9_member 26 = .ok (.ireturn, 1) := qd_172 kq_cX9_member (by decide +kernel)
theorem dX9_member_27 : decode cX9_member 27 = .ok (.aload_n 0, 1) := qd_42 kq_cX9_member (by decide +kernel)
theorem dX9_member_28 : decode cX9_member 28 = .ok (.getfield 32, 3) := qd_180 kq_cX9_member (by decide +kernel)
theorem dX9_member_31 : decode cX9_member 31 = .ok (.aload_n 0, 1) := qd_42 kq_cX9_member (by decide +kernel)
theorem dX9_member_32 : decode cX9_member 32 = .ok (.getfield 32, 3) := qd_180 kq_cX9_member (by decide +kernel)
theorem dX9_member_35 : decode cX9_member 35 = .ok (.iload_n 3, 1) := qd_29 kq_cX9_member (by decide +kernel)
theorem dX9_member_36 : decode cX9_member 36 = .ok (.iaload, 1) := qd_46 kq_cX9_member (by decide +kernel)
theorem dX9_member_37 : decode cX9_member 37 = .ok (.iaload, 1) := qd_46 kq_cX9_member (by decide +kernel)
theorem dX9_member_38 : decode cX9_member 38 = .ok (.istore_n 3, 1) := qd_62 kq_cX9_member (by decide +kernel)
theorem dX9_member_39 : decode cX9_member 39 = .ok (.goto (-32), 3) := qd_167 kq_cX9_member (by decide +kernel)
theorem dX9_member_42 : decode cX9_member 42 = .ok (.iconst (-1), 1) := qd_2 kq_cX9_member (by decide +kernel)
theorem dX9_member_43 : decode cX9_member 43 = .ok (.ireturn, 1) := qd_172 kq_cX9_member (by decide +kernel)
def rmX9_member (mc ms : Nat) : Room := { frames := 5, cells := mc, slots := ms, locals := 109 }
abbrev cX9_word : ByteArray := prog_13_method_19_code
def yX9_word : MethodName := ⟨RX9, "word", "(I)I"⟩
def wsX9_word : List Cond := .code yX9_word cX9_word 2 (some .int) :: sr_G
def nq_cX9_word : Nat := 0xac020400a708070099b100b6bc121b2a1200a707070099b100b6bb121b2a2000a706070099b100b6b9121b2a2e00a705070099b100b6b7121b2a3c00a704070099b100b6b5121b2a4a00a703070099b100b687121b2a
theorem kq_cX9_word : qOk cX9_word nq_cX9_word 86 = true := by decide +kernel
theorem dX9_word_0 : decode cX9_word 0 = .ok (.aload_n 0, 1) := qd_42 kq_cX9_word (by decide +kernel)
theorem dX9_word_1 : decode cX9_word 1 = .ok (.iload_n 1, 1) := qd_27 kq_cX9_word (by decide +kernel)
theorem dX9_word_2 : decode cX9_word 2 = .ok (.ldc 135, 2) := qd_18 kq_cX9_word (by decide +kernel)
theorem dX9_word_4 : decode cX9_word 4 = .ok (.invokevirtual 177, 3) := qd_182 kq_cX9_word (by decide +kernel)
theorem dX9_word_7 : decode cX9_word 7 = .ok (.ifCond .eq 7, 3) := qd_153 kq_cX9_word (by decide +kernel)
theorem dX9_word_10 : decode cX9_word 10 = .ok (.iconst 0, 1) := qd_3 kq_cX9_word (by decide +kernel)
theorem dX9_word_11 : decode cX9_word 11 = .ok (.goto 74, 3) := qd_167 kq_cX9_word (by decide +kernel)
theorem dX9_word_14 : decode cX9_word 14 = .ok (.aload_n 0, 1) := qd_42 kq_cX9_word (by decide +kernel)
theorem dX9_word_15 : decode cX9_word 15 = .ok (.iload_n 1, 1) := qd_27 kq_cX9_word (by decide +kernel)
theorem dX9_word_16 : decode cX9_word 16 = .ok (.ldc 181, 2) := qd_18 kq_cX9_word (by decide +kernel)
theorem dX9_word_18 : decode cX9_word 18 = .ok (.invokevirtual 177, 3) := qd_182 kq_cX9_word (by decide +kernel)
theorem dX9_word_21 : decode cX9_word 21 = .ok (.ifCond .eq 7, 3) := qd_153 kq_cX9_word (by decide +kernel)
theorem dX9_word_24 : decode cX9_word 24 = .ok (.iconst 1, 1) := qd_4 kq_cX9_word (by decide +kernel)
theorem dX9_word_25 : decode cX9_word 25 = .ok (.goto 60, 3) := qd_167 kq_cX9_word (by decide +kernel)
theorem dX9_word_28 : decode cX9_word 28 = .ok (.aload_n 0, 1) := qd_42 kq_cX9_word (by decide +kernel)
theorem dX9_word_29 : decode cX9_word 29 = .ok (.iload_n 1, 1) := qd_27 kq_cX9_word (by decide +kernel)
theorem dX9_word_30 : decode cX9_word 30 = .ok (.ldc 183, 2) := qd_18 kq_cX9_word (by decide +kernel)
theorem dX9_word_32 : decode cX9_word 32 = .ok (.invokevirtual 177, 3) := qd_182 kq_cX9_word (by decide +kernel)
theorem dX9_word_35 : decode cX9_word 35 = .ok (.ifCond .eq 7, 3) := qd_153 kq_cX9_word (by decide +kernel)
theorem dX9_word_38 : decode cX9_word 38 = .ok (.iconst 2, 1) := qd_5 kq_cX9_word (by decide +kernel)
theorem dX9_word_39 : decode cX9_word 39 = .ok (.goto 46, 3) := qd_167 kq_cX9_word (by decide +kernel)
theorem dX9_word_42 : decode cX9_word 42 = .ok (.aload_n 0, 1) := qd_42 kq_cX9_word (by decide +kernel)
theorem dX9_word_43 : decode cX9_word 43 = .ok (.iload_n 1, 1) := qd_27 kq_cX9_word (by decide +kernel)
theorem dX9_word_44 : decode cX9_word 44 = .ok (.ldc 185, 2) := qd_18 kq_cX9_word (by decide +kernel)
theorem dX9_word_46 : decode cX9_word 46 = .ok (.invokevirtual 177, 3) := qd_182 kq_cX9_word (by decide +kernel)
theorem dX9_word_49 : decode cX9_word 49 = .ok (.ifCond .eq 7, 3) := qd_153 kq_cX9_word (by decide +kernel)
theorem dX9_word_52 : decode cX9_word 52 = .ok (.iconst 3, 1) := qd_6 kq_cX9_word (by decide +kernel)
theorem dX9_word_53 : decode cX9_word 53 = .ok (.goto 32, 3) := qd_167 kq_cX9_word (by decide +kernel)
theorem dX9_word_56 : decode cX9_word 56 = .ok (.aload_n 0, 1) := qd_42 kq_cX9_word (by decide +kernel)
theorem dX9_word_57 : decode cX9_word 57 = .ok (.iload_n 1, 1) := qd_27 kq_cX9_word (by decide +kernel)
theorem dX9_word_58 : decode cX9_word 58 = .ok (.ldc 187, 2) := qd_18 kq_cX9_word (by decide +kernel)
theorem dX9_word_60 : decode cX9_word 60 = .ok (.invokevirtual 177, 3) := qd_182 kq_cX9_word (by decide +kernel)
theorem dX9_word_63 : decode cX9_word 63 = .ok (.ifCond .eq 7, 3) := qd_153 kq_cX9_word (by decide +kernel)
theorem dX9_word_66 : decode cX9_word 66 = .ok (.iconst 4, 1) := qd_7 kq_cX9_word (by decide +kernel)
theorem dX9_word_67 : decode cX9_word 67 = .ok (.goto 18, 3) := qd_167 kq_cX9_word (by decide +kernel)
theorem dX9_word_70 : decode cX9_word 70 = .ok (.aload_n 0, 1) := qd_42 kq_cX9_word (by decide +kernel)
theorem dX9_word_71 : decode cX9_word 71 = .ok (.iload_n 1, 1) := qd_27 kq_cX9_word (by decide +kernel)
theorem dX9_word_72 : decode cX9_word 72 = .ok (.ldc 188, 2) := qd_18 kq_cX9_word (by decide +kernel)
theorem dX9_word_74 : decode cX9_word 74 = .ok (.invokevirtual 177, 3) := qd_182 kq_cX9_word (by decide +kernel)
theorem dX9_word_77 : decode cX9_word 77 = .ok (.ifCond .eq 7, 3) := qd_153 kq_cX9_word (by decide +kernel)
theorem dX9_word_80 : decode cX9_word 80 = .ok (.iconst 5, 1) := qd_8 kq_cX9_word (by decide +kernel)
theorem dX9_word_81 : decode cX9_word 81 = .ok (.goto 4, 3) := qd_167 kq_cX9_word (by decide +kernel)
theorem dX9_word_84 : decode cX9_word 84 = .ok (.iconst (-1), 1) := qd_2 kq_cX9_word (by decide +kernel)
theorem dX9_word_85 : decode cX9_word 85 = .ok (.ireturn, 1) := qd_172 kq_cX9_word (by decide +kernel)
def rmX9_word (mc ms : Nat) : Room := { frames := 5, cells := mc, slots := ms, locals := 109 }
abbrev cX9_put : ByteArray := prog_13_method_35_code
def yX9_put : MethodName := ⟨RX9, "put", "(Ljava/lang/String;)V"⟩
def wsX9_put : List Cond := .code yX9_put cX9_put 3 none :: sr_G
def nq_cX9_put : Nat := 0xb1dcffa70102841801b560041801b4592a54918d00b61c2b1801b42a4700b42a2200a28900b62b1c3d03
theorem kq_cX9_put : qOk cX9_put nq_cX9_put 42 = true := by decide +kernel
theorem dX9_put_0 : decode cX9_put 0 = .ok (.iconst 0, 1) := qd_3 kq_cX9_put (by decide +kernel)
theorem dX9_put_1 : decode cX9_put 1 = .ok (.istore_n 2, 1) := qd_61 kq_cX9_put (by decide +kernel)
theorem dX9_put_2 : decode cX9_put 2 = .ok (.iload_n 2, 1) := qd_28 kq_cX9_put (by decide +kernel)
theorem dX9_put_3 : decode cX9_put 3 = .ok (.aload_n 1, 1) := qd_43 kq_cX9_put (by decide +kernel)
theorem dX9_put_4 : decode cX9_put 4 = .ok (.invokevirtual 137, 3) := qd_182 kq_cX9_put (by decide +kernel)
theorem dX9_put_7 : decode cX9_put 7 = .ok (.if_icmp .ge 34, 3) := qd_162 kq_cX9_put (by decide +kernel)
theorem dX9_put_10 : decode cX9_put 10 = .ok (.aload_n 0, 1) := qd_42 kq_cX9_put (by decide +kernel)
theorem dX9_put_11 : decode cX9_put 11 = .ok (.getfield 71, 3) := qd_180 kq_cX9_put (by decide +kernel)
theorem dX9_put_14 : decode cX9_put 14 = .ok (.aload_n 0, 1) := qd_42 kq_cX9_put (by decide +kernel)
theorem dX9_put_15 : decode cX9_put 15 = .ok (.getfield 280, 3) := qd_180 kq_cX9_put (by decide +kernel)
theorem dX9_put_18 : decode cX9_put 18 = .ok (.aload_n 1, 1) := qd_43 kq_cX9_put (by decide +kernel)
theorem dX9_put_19 : decode cX9_put 19 = .ok (.iload_n 2, 1) := qd_28 kq_cX9_put (by decide +kernel)
theorem dX9_put_20 : decode cX9_put 20 = .ok (.invokevirtual 141, 3) := qd_182 kq_cX9_put (by decide +kernel)
theorem dX9_put_23 : decode cX9_put 23 = .ok (.i2b, 1) := qd_145 kq_cX9_put (by decide +kernel)
theorem dX9_put_24 : decode cX9_put 24 = .ok (.bastore, 1) := qd_84 kq_cX9_put (by decide +kernel)
theorem dX9_put_25 : decode cX9_put 25 = .ok (.aload_n 0, 1) := qd_42 kq_cX9_put (by decide +kernel)
theorem dX9_put_26 : decode cX9_put 26 = .ok (.dup, 1) := qd_89 kq_cX9_put (by decide +kernel)
theorem dX9_put_27 : decode cX9_put 27 = .ok (.getfield 280, 3) := qd_180 kq_cX9_put (by decide +kernel)
theorem dX9_put_30 : decode cX9_put 30 = .ok (.iconst 1, 1) := qd_4 kq_cX9_put (by decide +kernel)
theorem dX9_put_31 : decode cX9_put 31 = .ok (.iadd, 1) := qd_96 kq_cX9_put (by decide +kernel)
theorem dX9_put_32 : decode cX9_put 32 = .ok (.putfield 280, 3) := qd_181 kq_cX9_put (by decide +kernel)
theorem dX9_put_35 : decode cX9_put 35 = .ok (.iinc 2 1, 3) := qd_132 kq_cX9_put (by decide +kernel)
theorem dX9_put_38 : decode cX9_put 38 = .ok (.goto (-36), 3) := qd_167 kq_cX9_put (by decide +kernel)
theorem dX9_put_41 : decode cX9_put 41 = .ok (.return_, 1) := qd_177 kq_cX9_put (by decide +kernel)
def rmX9_put (mc ms : Nat) : Room := { frames := 4, cells := mc, slots := ms, locals := 85 }
abbrev cX9_putName : ByteArray := prog_13_method_36_code
def yX9_putName : MethodName := ⟨RX9, "putName", "(I)V"⟩
def wsX9_putName : List Cond := .code yX9_putName cX9_putName 3 none :: sr_G
def nq_cX9_putName : Nat := 0xb12901b62701132ad2ffa70102841801b560041801b4592a5433601c882f1b1600b42a2300b42a1801b42a4700b42a2a00a22e1b1a00b42a1c3d032901b62701132a
theorem kq_cX9_putName : qOk cX9_putName nq_cX9_putName 66 = true := by decide +kernel
theorem dX9_putName_0 : decode cX9_putName 0 = .ok (.aload_n 0, 1) := qd_42 kq_cX9_putName (by decide +kernel)
theorem dX9_putName_1 : decode cX9_putName 1 = .ok (.ldc_w 295, 3) := qd_19 kq_cX9_putName (by decide +kernel)
theorem dX9_putName_4 : decode cX9_putName 4 = .ok (.invokevirtual 297, 3) := qd_182 kq_cX9_putName (by decide +kernel)
theorem dX9_putName_7 : decode cX9_putName 7 = .ok (.iconst 0, 1) := qd_3 kq_cX9_putName (by decide +kernel)
theorem dX9_putName_8 : decode cX9_putName 8 = .ok (.istore_n 2, 1) := qd_61 kq_cX9_putName (by decide +kernel)
theorem dX9_putName_9 : decode cX9_putName 9 = .ok (.iload_n 2, 1) := qd_28 kq_cX9_putName (by decide +kernel)
theorem dX9_putName_10 : decode cX9_putName 10 = .ok (.aload_n 0, 1) := qd_42 kq_cX9_putName (by decide +kernel)
theorem dX9_putName_11 : decode cX9_putName 11 = .ok (.getfield 26, 3) := qd_180 kq_cX9_putName (by decide +kernel)
theorem dX9_putName_14 : decode cX9_putName 14 = .ok (.iload_n 1, 1) := qd_27 kq_cX9_putName (by decide +kernel)
theorem dX9_putName_15 : decode cX9_putName 15 = .ok (.iaload, 1) := qd_46 kq_cX9_putName (by decide +kernel)
theorem dX9_putName_16 : decode cX9_putName 16 = .ok (.if_icmp .ge 42, 3) := qd_162 kq_cX9_putName (by decide +kernel)
theorem dX9_putName_19 : decode cX9_putName 19 = .ok (.aload_n 0, 1) := qd_42 kq_cX9_putName (by decide +kernel)
theorem dX9_putName_20 : decode cX9_putName 20 = .ok (.getfield 71, 3) := qd_180 kq_cX9_putName (by decide +kernel)
theorem dX9_putName_23 : decode cX9_putName 23 = .ok (.aload_n 0, 1) := qd_42 kq_cX9_putName (by decide +kernel)
theorem dX9_putName_24 : decode cX9_putName 24 = .ok (.getfield 280, 3) := qd_180 kq_cX9_putName (by decide +kernel)
theorem dX9_putName_27 : decode cX9_putName 27 = .ok (.aload_n 0, 1) := qd_42 kq_cX9_putName (by decide +kernel)
theorem dX9_putName_28 : decode cX9_putName 28 = .ok (.getfield 35, 3) := qd_180 kq_cX9_putName (by decide +kernel)
theorem dX9_putName_31 : decode cX9_putName 31 = .ok (.aload_n 0, 1) := qd_42 kq_cX9_putName (by decide +kernel)
theorem dX9_putName_32 : decode cX9_putName 32 = .ok (.getfield 22, 3) := qd_180 kq_cX9_putName (by decide +kernel)
theorem dX9_putName_35 : decode cX9_putName 35 = .ok (.iload_n 1, 1) := qd_27 kq_cX9_putName (by decide +kernel)
theorem dX9_putName_36 : decode cX9_putName 36 = .ok (.laload, 1) := qd_47 kq_cX9_putName (by decide +kernel)
theorem dX9_putName_37 : decode cX9_putName 37 = .ok (.l2i, 1) := qd_136 kq_cX9_putName (by decide +kernel)
theorem dX9_putName_38 : decode cX9_putName 38 = .ok (.iload_n 2, 1) := qd_28 kq_cX9_putName (by decide +kernel)
theorem dX9_putName_39 : decode cX9_putName 39 = .ok (.iadd, 1) := qd_96 kq_cX9_putName (by decide +kernel)
theorem dX9_putName_40 : decode cX9_putName 40 = .ok (.baload, 1) := qd_51 kq_cX9_putName (by decide +kernel)
theorem dX9_putName_41 : decode cX9_putName 41 = .ok (.bastore, 1) := qd_84 kq_cX9_putName (by decide +kernel)
theorem dX9_putName_42 : decode cX9_putName 42 = .ok (.aload_n 0, 1) := qd_42 kq_cX9_putName (by decide +kernel)
theorem dX9_putName_43 : decode cX9_putName 43 = .ok (.dup, 1) := qd_89 kq_cX9_putName (by decide +kernel)
theorem dX9_putName_44 : decode cX9_putName 44 = .ok (.getfield 280, 3) := qd_180 kq_cX9_putName (by decide +kernel)
theorem dX9_putName_47 : decode cX9_putName 47 = .ok (.iconst 1, 1) := qd_4 kq_cX9_putName (by decide +kernel)
theorem dX9_putName_48 : decode cX9_putName 48 = .ok (.iadd, 1) := qd_96 kq_cX9_putName (by decide +kernel)
theorem dX9_putName_49 : decode cX9_putName 49 = .ok (.putfield 280, 3) := qd_181 kq_cX9_putName (by decide +kernel)
theorem dX9_putName_52 : decode cX9_putName 52 = .ok (.iinc 2 1, 3) := qd_132 kq_cX9_putName (by decide +kernel)
theorem dX9_putName_55 : decode cX9_putName 55 = .ok (.goto (-46), 3) := qd_167 kq_cX9_putName (by decide +kernel)
theorem dX9_putName_58 : decode cX9_putName 58 = .ok (.aload_n 0, 1) := qd_42 kq_cX9_putName (by decide +kernel)
theorem dX9_putName_59 : decode cX9_putName 59 = .ok (.ldc_w 295, 3) := qd_19 kq_cX9_putName (by decide +kernel)
theorem dX9_putName_62 : decode cX9_putName 62 = .ok (.invokevirtual 297, 3) := qd_182 kq_cX9_putName (by decide +kernel)
theorem dX9_putName_65 : decode cX9_putName 65 = .ok (.return_, 1) := qd_177 kq_cX9_putName (by decide +kernel)
def rmX9_putName (mc ms : Nat) : Room := { frames := 5, cells := mc, slots := ms, locals := 107 }
abbrev cX9_escaped : ByteArray := prog_13_method_12_code
def yX9_escaped : MethodName := ⟨RX9, "escaped", "()I"⟩
def wsX9_escaped : List Cond := .code yX9_escaped cX9_escaped 6 (some .int) :: sr_G
def nq_cX9_escaped : Nat := 0xac04156900b61b04030400a7040700a200011104152ac6ffa70105845f00b560045f00b4592a043660a400b86500b62a68041510106900b65f00b42a04030400a70407009ba400b86500b62a2a3a00a20705150536030436039100b675102aac09100500a70d100800a006101d1000a70a100800a0081d1a00a70c100800a0071d2400a708100800a0061d2e00a72f100800a0051d3800a75c100800a0041d4200a7221008009a1d5f00b560045f00b4592a56009b1d3ea100b6921c9f120a00a70207009c1c3d6500b62a5f00b560045f00b4592a3c5f00b42a
theorem kq_cX9_escaped : qOk cX9_escaped nq_cX9_escaped 218 = true := by decide +kernel
theorem dX9_escaped_0 : decode cX9_escaped 0 = .ok (.aload_n 0, 1) := qd_42 kq_cX9_escaped (by decide +kernel)
theorem dX9_escaped_1 : decode cX9_escaped 1 = .ok (.getfield 95, 3) := qd_180 kq_cX9_escaped (by decide +kernel)
theorem dX9_escaped_4 : decode cX9_escaped 4 = .ok (.istore_n 1, 1) := qd_60 kq_cX9_escaped (by decide +kernel)
theorem dX9_escaped_5 : decode cX9_escaped 5 = .ok (.aload_n 0, 1) := qd_42 kq_cX9_escaped (by decide +kernel)
theorem dX9_escaped_6 : decode cX9_escaped 6 = .ok (.dup, 1) := qd_89 kq_cX9_escaped (by decide +kernel)
theorem dX9_escaped_7 : decode cX9_escaped 7 = .ok (.getfield 95, 3) := qd_180 kq_cX9_escaped (by decide +kernel)
theorem dX9_escaped_10 : decode cX9_escaped 10 = .ok (.iconst 1, 1) := qd_4 kq_cX9_escaped (by decide +kernel)
theorem dX9_escaped_11 : decode cX9_escaped 11 = .ok (.iadd, 1) := qd_96 kq_cX9_escaped (by decide +kernel)
theorem dX9_escaped_12 : decode cX9_escaped 12 = .ok (.putfield 95, 3) := qd_181 kq_cX9_escaped (by decide +kernel)
theorem dX9_escaped_15 : decode cX9_escaped 15 = .ok (.aload_n 0, 1) := qd_42 kq_cX9_escaped (by decide +kernel)
theorem dX9_escaped_16 : decode cX9_escaped 16 = .ok (.invokevirtual 101, 3) := qd_182 kq_cX9_escaped (by decide +kernel)
theorem dX9_escaped_19 : decode cX9_escaped 19 = .ok (.istore_n 2, 1) := qd_61 kq_cX9_escaped (by decide +kernel)
theorem dX9_escaped_20 : decode cX9_escaped 20 = .ok (.iload_n 2, 1) := qd_28 kq_cX9_escaped (by decide +kernel)
theorem dX9_escaped_21 : decode cX9_escaped 21 = .ok (.ifCond .ge 7, 3) := qd_156 kq_cX9_escaped (by decide +kernel)
theorem dX9_escaped_24 : decode cX9_escaped 24 = .ok (.iconst (-1), 1) := qd_2 kq_cX9_escaped (by decide +kernel)
theorem dX9_escaped_25 : decode cX9_escaped 25 = .ok (.goto 10, 3) := qd_167 kq_cX9_escaped (by decide +kernel)
theorem dX9_escaped_28 : decode cX9_escaped 28 = .ok (.ldc 159, 2) := qd_18 kq_cX9_escaped (by decide +kernel)
theorem dX9_escaped_30 : decode cX9_escaped 30 = .ok (.iload_n 2, 1) := qd_28 kq_cX9_escaped (by decide +kernel)
theorem dX9_escaped_31 : decode cX9_escaped 31 = .ok (.i2c, 1) := qd_146 kq_cX9_escaped (by decide +kernel)
theorem dX9_escaped_32 : decode cX9_escaped 32 = .ok (.invokevirtual 161, 3) := qd_182 kq_cX9_escaped (by decide +kernel)
theorem dX9_escaped_35 : decode cX9_escaped 35 = .ok (.istore_n 3, 1) := qd_62 kq_cX9_escaped (by decide +kernel)
theorem dX9_escaped_36 : decode cX9_escaped 36 = .ok (.iload_n 3, 1) := qd_29 kq_cX9_escaped (by decide +kernel)
theorem dX9_escaped_37 : decode cX9_escaped 37 = .ok (.ifCond .lt 86, 3) := qd_155 kq_cX9_escaped (by decide +kernel)
theorem dX9_escaped_40 : decode cX9_escaped 40 = .ok (.aload_n 0, 1) := qd_42 kq_cX9_escaped (by decide +kernel)
theorem dX9_escaped_41 : decode cX9_escaped 41 = .ok (.dup, 1) := qd_89 kq_cX9_escaped (by decide +kernel)
theorem dX9_escaped_42 : decode cX9_escaped 42 = .ok (.getfield 95, 3) := qd_180 kq_cX9_escaped (by decide +kernel)
theorem dX9_escaped_45 : decode cX9_escaped 45 = .ok (.iconst 1, 1) := qd_4 kq_cX9_escaped (by decide +kernel)
theorem dX9_escaped_46 : decode cX9_escaped 46 = .ok (.iadd, 1) := qd_96 kq_cX9_escaped (by decide +kernel)
theorem dX9_escaped_47 : decode cX9_escaped 47 = .ok (.putfield 95, 3) := qd_181 kq_cX9_escaped (by decide +kernel)
theorem dX9_escaped_50 : decode cX9_escaped 50 = .ok (.iload_n 3, 1) := qd_29 kq_cX9_escaped (by decide +kernel)
theorem dX9_escaped_51 : decode cX9_escaped 51 = .ok (.ifCond .ne 8, 3) := qd_154 kq_cX9_escaped (by decide +kernel)
theorem dX9_escaped_54 : decode cX9_escaped 54 = .ok (.bipush 34, 2) := qd_16 kq_cX9_escaped (by decide +kernel)
theorem dX9_escaped_56 : decode cX9_escaped 56 = .ok (.goto 66, 3) := qd_167 kq_cX9_escaped (by decide +kernel)
theorem dX9_escaped_59 : decode cX9_escaped 59 = .ok (.iload_n 3, 1) := qd_29 kq_cX9_escaped (by decide +kernel)
theorem dX9_escaped_60 : decode cX9_escaped 60 = .ok (.iconst 1, 1) := qd_4 kq_cX9_escaped (by decide +kernel)
theorem dX9_escaped_61 : decode cX9_escaped 61 = .ok (.if_icmp .ne 8, 3) := qd_160 kq_cX9_escaped (by decide +kernel)
theorem dX9_escaped_64 : decode cX9_escaped 64 = .ok (.bipush 92, 2) := qd_16 kq_cX9_escaped (by decide +kernel)
theorem dX9_escaped_66 : decode cX9_escaped 66 = .ok (.goto 56, 3) := qd_167 kq_cX9_escaped (by decide +kernel)
theorem dX9_escaped_69 : decode cX9_escaped 69 = .ok (.iload_n 3, 1) := qd_29 kq_cX9_escaped (by decide +kernel)
theorem dX9_escaped_70 : decode cX9_escaped 70 = .ok (.iconst 2, 1) := qd_5 kq_cX9_escaped (by decide +kernel)
theorem dX9_escaped_71 : decode cX9_escaped 71 = .ok (.if_icmp .ne 8, 3) := qd_160 kq_cX9_escaped (by decide +kernel)
theorem dX9_escaped_74 : decode cX9_escaped 74 = .ok (.bipush 47, 2) := qd_16 kq_cX9_escaped (by decide +kernel)
theorem dX9_escaped_76 : decode cX9_escaped 76 = .ok (.goto 46, 3) := qd_167 kq_cX9_escaped (by decide +kernel)
theorem dX9_escaped_79 : decode cX9_escaped 79 = .ok (.iload_n 3, 1) := qd_29 kq_cX9_escaped (by decide +kernel)
theorem dX9_escaped_80 : decode cX9_escaped 80 = .ok (.iconst 3, 1) := qd_6 kq_cX9_escaped (by decide +kernel)
theorem dX9_escaped_81 : decode cX9_escaped 81 = .ok (.if_icmp .ne 8, 3) := qd_160 kq_cX9_escaped (by decide +kernel)
theorem dX9_escaped_84 : decode cX9_escaped 84 = .ok (.bipush 8, 2) := qd_16 kq_cX9_escaped (by decide +kernel)
theorem dX9_escaped_86 : decode cX9_escaped 86 = .ok (.goto 36, 3) := qd_167 kq_cX9_escaped (by decide +kernel)
theorem dX9_escaped_89 : decode cX9_escaped 89 = .ok (.iload_n 3, 1) := qd_29 kq_cX9_escaped (by decide +kernel)
theorem dX9_escaped_90 : decode cX9_escaped 90 = .ok (.iconst 4, 1) := qd_7 kq_cX9_escaped (by decide +kernel)
theorem dX9_escaped_91 : decode cX9_escaped 91 = .ok (.if_icmp .ne 8, 3) := qd_160 kq_cX9_escaped (by decide +kernel)
theorem dX9_escaped_94 : decode cX9_escaped 94 = .ok (.bipush 12, 2) := qd_16 kq_cX9_escaped (by decide +kernel)
theorem dX9_escaped_96 : decode cX9_escaped 96 = .ok (.goto 26, 3) := qd_167 kq_cX9_escaped (by decide +kernel)
theorem dX9_escaped_99 : decode cX9_escaped 99 = .ok (.iload_n 3, 1) := qd_29 kq_cX9_escaped (by decide +kernel)
theorem dX9_escaped_100 : decode cX9_escaped 100 = .ok (.iconst 5, 1) := qd_8 kq_cX9_escaped (by decide +kernel)
theorem dX9_escaped_101 : decode cX9_escaped 101 = .ok (.if_icmp .ne 8, 3) := qd_160 kq_cX9_escaped (by decide +kernel)
theorem dX9_escaped_104 : decode cX9_escaped 104 = .ok (.bipush 10, 2) := qd_16 kq_cX9_escaped (by decide +kernel)
theorem dX9_escaped_106 : decode cX9_escaped 106 = .ok (.goto 16, 3) := qd_167 kq_cX9_escaped (by decide +kernel)
theorem dX9_escaped_109 : decode cX9_escaped 109 = .ok (.iload_n 3, 1) := qd_29 kq_cX9_escaped (by decide +kernel)
theorem dX9_escaped_110 : decode cX9_escaped 110 = .ok (.bipush 6, 2) := qd_16 kq_cX9_escaped (by decide +kernel)
theorem dX9_escaped_112 : decode cX9_escaped 112 = .ok (.if_icmp .ne 8, 3) := qd_160 kq_cX9_escaped (by decide +kernel)
theorem dX9_escaped_115 : decode cX9_escaped 115 = .ok (.bipush 13, 2) := qd_16 kq_cX9_escaped (by decide +kernel)
theorem dX9_escaped_117 : decode cX9_escaped 117 = .ok (.goto 5, 3) := qd_167 kq_cX9_escaped (by decide +kernel)
theorem dX9_escaped_120 : decode cX9_escaped 120 = .ok (.bipush 9, 2) := qd_16 kq_cX9_escaped (by decide +kernel)
theorem dX9_escaped_122 : decode cX9_escaped 122 = .ok (.ireturn, 1) := qd_172 kq_cX9_escaped (by decide +kernel)
theorem dX9_escaped_123 : decode cX9_escaped 123 = .ok (.aload_n 0, 1) := qd_42 kq_cX9_escaped (by decide +kernel)
theorem dX9_escaped_124 : decode cX9_escaped 124 = .ok (.bipush 117, 2) := qd_16 kq_cX9_escaped (by decide +kernel)
theorem dX9_escaped_126 : decode cX9_escaped 126 = .ok (.invokevirtual 145, 3) := qd_182 kq_cX9_escaped (by decide +kernel)
theorem dX9_escaped_129 : decode cX9_escaped 129 = .ok (.iconst 0, 1) := qd_3 kq_cX9_escaped (by decide +kernel)
theorem dX9_escaped_130 : decode cX9_escaped 130 = .ok (.istore 4, 2) := qd_54 kq_cX9_escaped (by decide +kernel)
theorem dX9_escaped_132 : decode cX9_escaped 132 = .ok (.iconst 0, 1) := qd_3 kq_cX9_escaped (by decide +kernel)
theorem dX9_escaped_133 : decode cX9_escaped 133 = .ok (.istore 5, 2) := qd_54 kq_cX9_escaped (by decide +kernel)
theorem dX9_escaped_135 : decode cX9_escaped 135 = .ok (.iload 5, 2) := qd_21 kq_cX9_escaped (by decide +kernel)
theorem dX9_escaped_137 : decode cX9_escaped 137 = .ok (.iconst 4, 1) := qd_7 kq_cX9_escaped (by decide +kernel)
theorem dX9_escaped_138 : decode cX9_escaped 138 = .ok (.if_icmp .ge 58, 3) := qd_162 kq_cX9_escaped (by decide +kernel)
theorem dX9_escaped_141 : decode cX9_escaped 141 = .ok (.aload_n 0, 1) := qd_42 kq_cX9_escaped (by decide +kernel)
theorem dX9_escaped_142 : decode cX9_escaped 142 = .ok (.aload_n 0, 1) := qd_42 kq_cX9_escaped (by decide +kernel)
theorem dX9_escaped_143 : decode cX9_escaped 143 = .ok (.invokevirtual 101, 3) := qd_182 kq_cX9_escaped (by decide +kernel)
theorem dX9_escaped_146 : decode cX9_escaped 146 = .ok (.invokestatic 164, 3) := qd_184 kq_cX9_escaped (by decide +kernel)
theorem dX9_escaped_149 : decode cX9_escaped 149 = .ok (.ifCond .lt 7, 3) := qd_155 kq_cX9_escaped (by decide +kernel)
theorem dX9_escaped_152 : decode cX9_escaped 152 = .ok (.iconst 1, 1) := qd_4 kq_cX9_escaped (by decide +kernel)
theorem dX9_escaped_153 : decode cX9_escaped 153 = .ok (.goto 4, 3) := qd_167 kq_cX9_escaped (by decide +kernel)
theorem dX9_escaped_156 : decode cX9_escaped 156 = .ok (.iconst 0, 1) := qd_3 kq_cX9_escaped (by decide +kernel)
theorem dX9_escaped_157 : decode cX9_escaped 157 = .ok (.iconst 1, 1) := qd_4 kq_cX9_escaped (by decide +kernel)
theorem dX9_escaped_158 : decode cX9_escaped 158 = .ok (.aload_n 0, 1) := qd_42 kq_cX9_escaped (by decide +kernel)
theorem dX9_escaped_159 : decode cX9_escaped 159 = .ok (.getfield 95, 3) := qd_180 kq_cX9_escaped (by decide +kernel)
theorem dX9_escaped_162 : decode cX9_escaped 162 = .ok (.invokevirtual 105, 3) := qd_182 kq_cX9_escaped (by decide +kernel)
theorem dX9_escaped_165 : decode cX9_escaped 165 = .ok (.bipush 16, 2) := qd_16 kq_cX9_escaped (by decide +kernel)
theorem dX9_escaped_167 : decode cX9_escaped 167 = .ok (.iload 4, 2) := qd_21 kq_cX9_escaped (by decide +kernel)
theorem dX9_escaped_169 : decode cX9_escaped 169 = .ok (.imul, 1) := qd_104 kq_cX9_escaped (by decide +kernel)
theorem dX9_escaped_170 : decode cX9_escaped 170 = .ok (.aload_n 0, 1) := qd_42 kq_cX9_escaped (by decide +kernel)
theorem dX9_escaped_171 : decode cX9_escaped 171 = .ok (.invokevirtual 101, 3) := qd_182 kq_cX9_escaped (by decide +kernel)
theorem dX9_escaped_174 : decode cX9_escaped 174 = .ok (.invokestatic 164, 3) := qd_184 kq_cX9_escaped (by decide +kernel)
theorem dX9_escaped_177 : decode cX9_escaped 177 = .ok (.iadd, 1) := qd_96 kq_cX9_escaped (by decide +kernel)
theorem dX9_escaped_178 : decode cX9_escaped 178 = .ok (.istore 4, 2) := qd_54 kq_cX9_escaped (by decide +kernel)
theorem dX9_escaped_180 : decode cX9_escaped 180 = .ok (.aload_n 0, 1) := qd_42 kq_cX9_escaped (by decide +kernel)
theorem dX9_escaped_181 : decode cX9_escaped 181 = .ok (.dup, 1) := qd_89 kq_cX9_escaped (by decide +kernel)
theorem dX9_escaped_182 : decode cX9_escaped 182 = .ok (.getfield 95, 3) := qd_180 kq_cX9_escaped (by decide +kernel)
theorem dX9_escaped_185 : decode cX9_escaped 185 = .ok (.iconst 1, 1) := qd_4 kq_cX9_escaped (by decide +kernel)
theorem dX9_escaped_186 : decode cX9_escaped 186 = .ok (.iadd, 1) := qd_96 kq_cX9_escaped (by decide +kernel)
theorem dX9_escaped_187 : decode cX9_escaped 187 = .ok (.putfield 95, 3) := qd_181 kq_cX9_escaped (by decide +kernel)
theorem dX9_escaped_190 : decode cX9_escaped 190 = .ok (.iinc 5 1, 3) := qd_132 kq_cX9_escaped (by decide +kernel)
theorem dX9_escaped_193 : decode cX9_escaped 193 = .ok (.goto (-58), 3) := qd_167 kq_cX9_escaped (by decide +kernel)
theorem dX9_escaped_196 : decode cX9_escaped 196 = .ok (.aload_n 0, 1) := qd_42 kq_cX9_escaped (by decide +kernel)
theorem dX9_escaped_197 : decode cX9_escaped 197 = .ok (.iload 4, 2) := qd_21 kq_cX9_escaped (by decide +kernel)
theorem dX9_escaped_199 : decode cX9_escaped 199 = .ok (.sipush 256, 3) := qd_17 kq_cX9_escaped (by decide +kernel)
theorem dX9_escaped_202 : decode cX9_escaped 202 = .ok (.if_icmp .ge 7, 3) := qd_162 kq_cX9_escaped (by decide +kernel)
theorem dX9_escaped_205 : decode cX9_escaped 205 = .ok (.iconst 1, 1) := qd_4 kq_cX9_escaped (by decide +kernel)
theorem dX9_escaped_206 : decode cX9_escaped 206 = .ok (.goto 4, 3) := qd_167 kq_cX9_escaped (by decide +kernel)
theorem dX9_escaped_209 : decode cX9_escaped 209 = .ok (.iconst 0, 1) := qd_3 kq_cX9_escaped (by decide +kernel)
theorem dX9_escaped_210 : decode cX9_escaped 210 = .ok (.iconst 1, 1) := qd_4 kq_cX9_escaped (by decide +kernel)
theorem dX9_escaped_211 : decode cX9_escaped 211 = .ok (.iload_n 1, 1) := qd_27 kq_cX9_escaped (by decide +kernel)
theorem dX9_escaped_212 : decode cX9_escaped 212 = .ok (.invokevirtual 105, 3) := qd_182 kq_cX9_escaped (by decide +kernel)
theorem dX9_escaped_215 : decode cX9_escaped 215 = .ok (.iload 4, 2) := qd_21 kq_cX9_escaped (by decide +kernel)
theorem dX9_escaped_217 : decode cX9_escaped 217 = .ok (.ireturn, 1) := qd_172 kq_cX9_escaped (by decide +kernel)
def rmX9_escaped (mc ms : Nat) : Room := { frames := 11, cells := mc, slots := ms, locals := 186 }
abbrev cX9_string : ByteArray := prog_13_method_13_code
def yX9_string : MethodName := ⟨RX9, "string", "()I"⟩
def wsX9_string : List Cond := .code yX9_string cX9_string 3 (some .int) :: sr_G
def nq_cX9_string : Nat := 0xac1b5f00b560045f00b4592aa1ffa74f60042e5c1b1a00b42aa700b56004a700b4592a54911ca700b42a2300b42a5f00b560045f00b4592a0d00a73daa00b62a0b00a05c101c6900b65f00b42a04030400a7040700a37e101c0d00a120101c2a3d6500b62a5c009f22106500b62a5f00b560045f00b4592a5085a700b42a1b1600b42a3c7f00b6052a
theorem kq_cX9_string : qOk cX9_string nq_cX9_string 137 = true := by decide +kernel
theorem dX9_string_0 : decode cX9_string 0 = .ok (.aload_n 0, 1) := qd_42 kq_cX9_string (by decide +kernel)
theorem dX9_string_1 : decode cX9_string 1 = .ok (.iconst 2, 1) := qd_5 kq_cX9_string (by decide +kernel)
theorem dX9_string_2 : decode cX9_string 2 = .ok (.invokevirtual 127, 3) := qd_182 kq_cX9_string (by decide +kernel)
theorem dX9_string_5 : decode cX9_string 5 = .ok (.istore_n 1, 1) := qd_60 kq_cX9_string (by decide +kernel)
theorem dX9_string_6 : decode cX9_string 6 = .ok (.aload_n 0, 1) := qd_42 kq_cX9_string (by decide +kernel)
theorem dX9_string_7 : decode cX9_string 7 = .ok (.getfield 22, 3) := qd_180 kq_cX9_string (by decide +kernel)
theorem dX9_string_10 : decode cX9_string 10 = .ok (.iload_n 1, 1) := qd_27 kq_cX9_string (by decide +kernel)
theorem dX9_string_11 : decode cX9_string 11 = .ok (.aload_n 0, 1) := qd_42 kq_cX9_string (by decide +kernel)
theorem dX9_string_12 : decode cX9_string 12 = .ok (.getfield 167, 3) := qd_180 kq_cX9_string (by decide +kernel)
theorem dX9_string_15 : decode cX9_string 15 = .ok (.i2l, 1) := qd_133 kq_cX9_string (by decide +kernel)
theorem dX9_string_16 : decode cX9_string 16 = .ok (.lastore, 1) := qd_80 kq_cX9_string (by decide +kernel)
theorem dX9_string_17 : decode cX9_string 17 = .ok (.aload_n 0, 1) := qd_42 kq_cX9_string (by decide +kernel)
theorem dX9_string_18 : decode cX9_string 18 = .ok (.dup, 1) := qd_89 kq_cX9_string (by decide +kernel)
theorem dX9_string_19 : decode cX9_string 19 = .ok (.getfield 95, 3) := qd_180 kq_cX9_string (by decide +kernel)
theorem dX9_string_22 : decode cX9_string 22 = .ok (.iconst 1, 1) := qd_4 kq_cX9_string (by decide +kernel)
theorem dX9_string_23 : decode cX9_string 23 = .ok (.iadd, 1) := qd_96 kq_cX9_string (by decide +kernel)
theorem dX9_string_24 : decode cX9_string 24 = .ok (.putfield 95, 3) := qd_181 kq_cX9_string (by decide +kernel)
theorem dX9_string_27 : decode cX9_string 27 = .ok (.aload_n 0, 1) := qd_42 kq_cX9_string (by decide +kernel)
theorem dX9_string_28 : decode cX9_string 28 = .ok (.invokevirtual 101, 3) := qd_182 kq_cX9_string (by decide +kernel)
theorem dX9_string_31 : decode cX9_string 31 = .ok (.bipush 34, 2) := qd_16 kq_cX9_string (by decide +kernel)
theorem dX9_string_33 : decode cX9_string 33 = .ok (.if_icmp .eq 92, 3) := qd_159 kq_cX9_string (by decide +kernel)
theorem dX9_string_36 : decode cX9_string 36 = .ok (.aload_n 0, 1) := qd_42 kq_cX9_string (by decide +kernel)
theorem dX9_string_37 : decode cX9_string 37 = .ok (.invokevirtual 101, 3) := qd_182 kq_cX9_string (by decide +kernel)
theorem dX9_string_40 : decode cX9_string 40 = .ok (.istore_n 2, 1) := qd_61 kq_cX9_string (by decide +kernel)
theorem dX9_string_41 : decode cX9_string 41 = .ok (.aload_n 0, 1) := qd_42 kq_cX9_string (by decide +kernel)
theorem dX9_string_42 : decode cX9_string 42 = .ok (.iload_n 2, 1) := qd_28 kq_cX9_string (by decide +kernel)
theorem dX9_string_43 : decode cX9_string 43 = .ok (.bipush 32, 2) := qd_16 kq_cX9_string (by decide +kernel)
theorem dX9_string_45 : decode cX9_string 45 = .ok (.if_icmp .lt 13, 3) := qd_161 kq_cX9_string (by decide +kernel)
theorem dX9_string_48 : decode cX9_string 48 = .ok (.iload_n 2, 1) := qd_28 kq_cX9_string (by decide +kernel)
theorem dX9_string_49 : decode cX9_string 49 = .ok (.bipush 126, 2) := qd_16 kq_cX9_string (by decide +kernel)
theorem dX9_string_51 : decode cX9_string 51 = .ok (.if_icmp .gt 7, 3) := qd_163 kq_cX9_string (by decide +kernel)
theorem dX9_string_54 : decode cX9_string 54 = .ok (.iconst 1, 1) := qd_4 kq_cX9_string (by decide +kernel)
theorem dX9_string_55 : decode cX9_string 55 = .ok (.goto 4, 3) := qd_167 kq_cX9_string (by decide +kernel)
theorem dX9_string_58 : decode cX9_string 58 = .ok (.iconst 0, 1) := qd_3 kq_cX9_string (by decide +kernel)
theorem dX9_string_59 : decode cX9_string 59 = .ok (.iconst 1, 1) := qd_4 kq_cX9_string (by decide +kernel)
theorem dX9_string_60 : decode cX9_string 60 = .ok (.aload_n 0, 1) := qd_42 kq_cX9_string (by decide +kernel)
theorem dX9_string_61 : decode cX9_string 61 = .ok (.getfield 95, 3) := qd_180 kq_cX9_string (by decide +kernel)
theorem dX9_string_64 : decode cX9_string 64 = .ok (.invokevirtual 105, 3) := qd_182 kq_cX9_string (by decide +kernel)
theorem dX9_string_67 : decode cX9_string 67 = .ok (.iload_n 2, 1) := qd_28 kq_cX9_string (by decide +kernel)
theorem dX9_string_68 : decode cX9_string 68 = .ok (.bipush 92, 2) := qd_16 kq_cX9_string (by decide +kernel)
theorem dX9_string_70 : decode cX9_string 70 = .ok (.if_icmp .ne 11, 3) := qd_160 kq_cX9_string (by decide +kernel)
theorem dX9_string_73 : decode cX9_string 73 = .ok (.aload_n 0, 1) := qd_42 kq_cX9_string (by decide +kernel)
theorem dX9_string_74 : decode cX9_string 74 = .ok (.invokevirtual 170, 3) := qd_182 kq_cX9_string (by decide +kernel)
theorem dX9_string_77 : decode cX9_string 77 = .ok (.istore_n 2, 1) := qd_61 kq_cX9_string (by decide +kernel)
theorem dX9_string_78 : decode cX9_string 78 = .ok (.goto 13, 3) := qd_167 kq_cX9_string (by decide +kernel)
theorem dX9_string_81 : decode cX9_string 81 = .ok (.aload_n 0, 1) := qd_42 kq_cX9_string (by decide +kernel)
theorem dX9_string_82 : decode cX9_string 82 = .ok (.dup, 1) := qd_89 kq_cX9_string (by decide +kernel)
theorem dX9_string_83 : decode cX9_string 83 = .ok (.getfield 95, 3) := qd_180 kq_cX9_string (by decide +kernel)
theorem dX9_string_86 : decode cX9_string 86 = .ok (.iconst 1, 1) := qd_4 kq_cX9_string (by decide +kernel)
theorem dX9_string_87 : decode cX9_string 87 = .ok (.iadd, 1) := qd_96 kq_cX9_string (by decide +kernel)
theorem dX9_string_88 : decode cX9_string 88 = .ok (.putfield 95, 3) := qd_181 kq_cX9_string (by decide +kernel)
theorem dX9_string_91 : decode cX9_string 91 = .ok (.aload_n 0, 1) := qd_42 kq_cX9_string (by decide +kernel)
theorem dX9_string_92 : decode cX9_string 92 = .ok (.getfield 35, 3) := qd_180 kq_cX9_string (by decide +kernel)
theorem dX9_string_95 : decode cX9_string 95 = .ok (.aload_n 0, 1) := qd_42 kq_cX9_string (by decide +kernel)
theorem dX9_string_96 : decode cX9_string 96 = .ok (.getfield 167, 3) := qd_180 kq_cX9_string (by decide +kernel)
theorem dX9_string_99 : decode cX9_string 99 = .ok (.iload_n 2, 1) := qd_28 kq_cX9_string (by decide +kernel)
theorem dX9_string_100 : decode cX9_string 100 = .ok (.i2b, 1) := qd_145 kq_cX9_string (by decide +kernel)
theorem dX9_string_101 : decode cX9_string 101 = .ok (.bastore, 1) := qd_84 kq_cX9_string (by decide +kernel)
theorem dX9_string_102 : decode cX9_string 102 = .ok (.aload_n 0, 1) := qd_42 kq_cX9_string (by decide +kernel)
theorem dX9_string_103 : decode cX9_string 103 = .ok (.dup, 1) := qd_89 kq_cX9_string (by decide +kernel)
theorem dX9_string_104 : decode cX9_string 104 = .ok (.getfield 167, 3) := qd_180 kq_cX9_string (by decide +kernel)
theorem dX9_string_107 : decode cX9_string 107 = .ok (.iconst 1, 1) := qd_4 kq_cX9_string (by decide +kernel)
theorem dX9_string_108 : decode cX9_string 108 = .ok (.iadd, 1) := qd_96 kq_cX9_string (by decide +kernel)
theorem dX9_string_109 : decode cX9_string 109 = .ok (.putfield 167, 3) := qd_181 kq_cX9_string (by decide +kernel)
theorem dX9_string_112 : decode cX9_string 112 = .ok (.aload_n 0, 1) := qd_42 kq_cX9_string (by decide +kernel)
theorem dX9_string_113 : decode cX9_string 113 = .ok (.getfield 26, 3) := qd_180 kq_cX9_string (by decide +kernel)
theorem dX9_string_116 : decode cX9_string 116 = .ok (.iload_n 1, 1) := qd_27 kq_cX9_string (by decide +kernel)
theorem dX9_string_117 : decode cX9_string 117 = .ok (.dup2, 1) := qd_92 kq_cX9_string (by decide +kernel)
theorem dX9_string_118 : decode cX9_string 118 = .ok (.iaload, 1) := qd_46 kq_cX9_string (by decide +kernel)
theorem dX9_string_119 : decode cX9_string 119 = .ok (.iconst 1, 1) := qd_4 kq_cX9_string (by decide +kernel)
theorem dX9_string_120 : decode cX9_string 120 = .ok (.iadd, 1) := qd_96 kq_cX9_string (by decide +kernel)
theorem dX9_string_121 : decode cX9_string 121 = .ok (.iastore, 1) := qd_79 kq_cX9_string (by decide +kernel)
theorem dX9_string_122 : decode cX9_string 122 = .ok (.goto (-95), 3) := qd_167 kq_cX9_string (by decide +kernel)
theorem dX9_string_125 : decode cX9_string 125 = .ok (.aload_n 0, 1) := qd_42 kq_cX9_string (by decide +kernel)
theorem dX9_string_126 : decode cX9_string 126 = .ok (.dup, 1) := qd_89 kq_cX9_string (by decide +kernel)
theorem dX9_string_127 : decode cX9_string 127 = .ok (.getfield 95, 3) := qd_180 kq_cX9_string (by decide +kernel)
theorem dX9_string_130 : decode cX9_string 130 = .ok (.iconst 1, 1) := qd_4 kq_cX9_string (by decide +kernel)
theorem dX9_string_131 : decode cX9_string 131 = .ok (.iadd, 1) := qd_96 kq_cX9_string (by decide +kernel)
theorem dX9_string_132 : decode cX9_string 132 = .ok (.putfield 95, 3) := qd_181 kq_cX9_string (by decide +kernel)
theorem dX9_string_135 : decode cX9_string 135 = .ok (.iload_n 1, 1) := qd_27 kq_cX9_string (by decide +kernel)
theorem dX9_string_136 : decode cX9_string 136 = .ok (.ireturn, 1) := qd_172 kq_cX9_string (by decide +kernel)
def rmX9_string (mc ms : Nat) : Room := { frames := 12, cells := mc, slots := ms, locals := 211 }
theorem g9_137 (c0 : Cond) : GoodIn (c0 :: sr_G) (wsV RX9 137 RX20 yX20_length wsX20_length) := sr_V c0 (sr_insI [(6, 128), (2, 73), (2, 74), (1, 15), (2, 75)] (by decide +kernel))
theorem g9_141 (c0 : Cond) : GoodIn (c0 :: sr_G) (wsV RX9 141 RX20 yX20_charAt wsX20_charAt) := sr_V c0 (sr_insI [(6, 129), (2, 83), (2, 84), (1, 15), (2, 85)] (by decide +kernel))
theorem g9_177 (c0 : Cond) : GoodIn (c0 :: sr_G) (wsV RX9 177 RX9 yX9_is wsX9_is) := sr_V c0 (sr_insI [(6, 138), (6, 140), (0, 62), (1, 7), (6, 141)] (by decide +kernel))
theorem g9_297 (c0 : Cond) : GoodIn (c0 :: sr_G) (wsV RX9 297 RX9 yX9_put wsX9_put) := sr_V c0 (sr_insI [(6, 219), (6, 221), (0, 77), (1, 7), (6, 222)] (by decide +kernel))
theorem g9_145 (c0 : Cond) : GoodIn (c0 :: sr_G) (wsV RX9 145 RX9 yX9_take wsX9_take) := sr_V c0 (sr_insI [(6, 104), (6, 106), (0, 56), (1, 7), (6, 107)] (by decide +kernel))
theorem g9_164 (c0 : Cond) : GoodIn (c0 :: sr_G) (va_wsS RX9 164 yX9_hex wsX9_hex) := sr_S c0 (sr_insI [(6, 108), (6, 109), (1, 7), (6, 110)] (by decide +kernel))
theorem g9_161 (c0 : Cond) : GoodIn (c0 :: sr_G) (wsV RX9 161 RX20 yX20_indexOf wsX20_indexOf) := sr_V c0 (sr_insI [(6, 45), (6, 46), (6, 47), (1, 15), (6, 48)] (by decide +kernel))
theorem g9_170 (c0 : Cond) : GoodIn (c0 :: sr_G) (wsV RX9 170 RX9 yX9_escaped wsX9_escaped) := sr_V c0 (sr_insI [(6, 40), (6, 42), (0, 55), (1, 7), (6, 43)] (by decide +kernel))
end
section
set_option maxHeartbeats 4000000 in
set_option maxRecDepth 100000 in
theorem kX9_is (l : Launch) (htr : l.stackTraces = false) (dC : Nat → ClassId) (dI : Nat → Nat → Nat) (adK adV : Nat → Nat) (cI cB cJ cZ cQ : ClassId) (ob0 tq_bytes tq_kinds tq_firsts tq_numbers tq_sizes tq_inner tq_nexts tq_letters tq_sorts tq_names tq_wide tq_kids tq_many tq_fallback tq_kidShape tq_kidName tq_kidDefault tq_kidNext tq_finished tq_plain tq_told : Nat) (t_length : Int32) (t_at : Int32) (t_deep : Int32) (t_fault : Int32) (t_place : Int32) (t_end : Int32) (t_nodes : Int32) (t_lettered : Int32) (t_shapes : Int32) (t_looked : Int32) (t_kidCount : Int32) (t_done : Int32) (t_root : Int32) (t_plainSize : Int32) (t_kinds : Nat → Int32) (t_numbers : Nat → Int64) (t_sizes : Nat → Int32) (t_letters : Nat → Int32) (a0 : Int32) (a1 : Nat) (res : Int32) (hm : m_X9_is t_kinds t_numbers t_sizes t_letters a0 a1 = some res) : Met l yX9_is wsX9_is (rmX9_is 0 0) (pcR (sr_Z adK adV) (dC, dI) srCl [(cI, .int), (cB, .byte), (cJ, .long), (cZ, .boolean), (cQ, .object "SchemaReader$Schema")] [.ref ob0, .int a0, .ref (adK a1)] [(ob0, .inr (0, [.ref tq_bytes, .int t_length, .int t_at, .int t_deep, .int t_fault, .int t_place, .int t_end, .int t_nodes, .ref tq_kinds, .ref tq_firsts, .ref tq_numbers, .ref tq_sizes, .ref tq_inner, .ref tq_nexts, .ref tq_letters, .int t_lettered, .int t_shapes, .int t_looked, .ref tq_sorts, .ref tq_names, .ref tq_wide, .ref tq_kids, .ref tq_many, .ref tq_fallback, .int t_kidCount, .ref tq_kidShape, .ref tq_kidName, .ref tq_kidDefault, .ref tq_kidNext, .int t_done, .ref tq_finished, .int t_root, .ref tq_plain, .int t_plainSize, .ref tq_told])), (tq_kinds, .inl (cI, 4200, .inl t_kinds)), (tq_numbers, .inl (cJ, 4200, .inr (.inl t_numbers))), (tq_sizes, .inl (cI, 4200, .inl t_sizes)), (tq_letters, .inl (cB, 4200, .inl t_letters))]) (k2_QcV (.int res)) 0 0 (fun _ => False) := by
  refine Met.ofW (cc := cX9_is) (maxL := 5) (ret := (some .boolean)) (by decide) rfl ?_
  intro p e s m args below meth c s₁ B hml hv
  obtain ⟨rfl, hP, hK, hz0⟩ := hv
  have hx := B.exec
  have hb := B.bytes
  have hr := B.returns
  have hts := atoms_spec (ws := wsX9_is) B.pre
  have hown : s.vm.findClass RX9 = some m.cls := findClass_of_methodNamed B.named
  have hlocks := B.notSynchronized
  have hS : va_S (fun _ => False) s.heap s.heap [] := va_S.rf
  generalize hQ0 : MQ below (k2_QcV (.int res)) [.ref ob0, .int a0, .ref (adK a1)].toArray s 0 0 (fun _ => False) = Q0
  have hl := lv_entry [.ref ob0, .int a0, .ref (adK a1)] (n := 5) (Nat.le_of_ble_eq_true rfl)
  rw [lg_entry_eq]
  generalize (lg_sl [.ref ob0, .int a0, .ref (adK a1)] ++ List.replicate (5 - (lg_sl [.ref ob0, .int a0, .ref (adK a1)]).length) Slot.unset).toArray = ls at hl ⊢
  have hl : lv_has ls 5 [(0, .ref ob0), (1, .int a0), (2, .ref (adK a1))] := hl
  unfold m_X9_is at hm
  refine lv_aload_n hx hb dX9_is_0 rfl (lv_at hl 0 rfl) ?_
  refine va_get (D := (dC, dI)) (ci := 0) (v := .ref tq_kinds) (C := RX9) (T := TX9) (N := 35) hx hb hts (inX9 _) hown hK hP 0 rfl rfl 8 (by decide) (hts _ (List.mem_cons_of_mem _ wf9_15)) (fun _ h9 => h9) rfl dX9_is_1 ?_
  refine lv_iload_n hx hb dX9_is_4 rfl (lv_at hl 1 rfl) ?_
  obtain ⟨h1, hm⟩ := mr_bd hm
  refine va_iald hx hb hK hP 1 0 rfl rfl h1 dX9_is_5 ?_
  refine lv_iconst (v := 2) hx hb dX9_is_6 (by decide) ?_
  refine lv_icmp_ne (tgt := 27) hx hb dX9_is_7 (by decide) (fun c2 => ?_) (fun c2 => ?_)
  · have hm := mr_un c2 hm
    refine lv_iconst (v := 0) hx hb dX9_is_27 (by decide) ?_
    refine lv_istore_n (lv' := [(3, .int 0), (0, .ref ob0), (1, .int a0), (2, .ref (adK a1))]) hx hb dX9_is_28 rfl hl (by decide) rfl (fun ls hl => ?_)
    refine lv_iconst (v := 0) hx hb dX9_is_29 (by decide) ?_
    have j32 : ∀ (n32 : Nat) (x1 : Int32) (x2 : Nat) (x3 : Int32) (x4 : Int32) (ls : Array Slot), lv_has ls 5 [(0, .ref ob0), (1, .int x1), (2, .ref (adK x2)), (3, .int x3), (4, .int x4)] → m_X9_is_32 t_kinds t_numbers t_sizes t_letters n32 x1 x2 x3 x4 = some res → W p l e (headSpec wsX9_is (rmX9_is 0 0)).room s m [.ref ob0, .int a0, .ref (adK a1)].toArray below meth c s.heap [] 0 0 Q0 (F0 m 32 ls []) := by
      intro n32
      induction n32 with
      | zero => intro x1 x2 x3 x4 ls hl hm; exact nomatch (show (none : Option _) = some res from hm)
      | succ n32 ih32 =>
        intro x1 x2 x3 x4 ls hl hm
        rw [m_X9_is_32] at hm
        refine lv_iload hx hb dX9_is_32 (lv_at hl 4 rfl) ?_
        refine lv_aload_n hx hb dX9_is_34 rfl (lv_at hl 2 rfl) ?_
        obtain ⟨h4, hm⟩ := mr_bs hm
        obtain ⟨r3, hz3, hm⟩ := mr_bind hm
        refine mr_pV (As := []) (rest := [.int x4]) (sr_okZ adK adV) ⟨hx, hb, hml, hown, hts⟩ (kX20_length l htr dC dI adK adV cI cB cJ cZ cQ  x2 r3 hz3) (cwV 0 hts (g9_137 _) rfl rfl rfl (by decide +kernel) ⟨(by show 1 + 1 ≤ 4; omega), (by show 8 + (1 + 11) + (20) ≤ 85; omega)⟩) hS hP hK hz0 [] rfl (sr_recv (hz0.1 x2 h4).1.1 hS) rfl rfl hl.1 (Nat.le_of_ble_eq_true rfl) dX9_is_35 ⟨Nat.zero_le _, Nat.zero_le _⟩ ?_
        refine lv_icmp_ge (tgt := 81) hx hb dX9_is_38 (by decide) (fun c5 => ?_) (fun c5 => ?_)
        · have hm := mr_if c5 hm
          refine lv_iload_n hx hb dX9_is_81 rfl (lv_at hl 3 rfl) ?_
          obtain ⟨h6, hm⟩ := mr_bz hm
          obtain rfl := Option.some.inj hm
          subst hQ0
          exact W.zret (v := x3) hx hb hr h6 (fun t ht hW => ⟨rfl, ht⟩) (fun q h => by cases h) dX9_is_82
        · have hm := mr_un c5 hm
          refine lv_iload_n hx hb dX9_is_41 rfl (lv_at hl 3 rfl) ?_
          refine lv_if_eq (tgt := 81) hx hb dX9_is_42 (by decide) (fun c7 => ?_) (fun c7 => ?_)
          · have hm := mr_if c7 hm
            refine lv_iload_n hx hb dX9_is_81 rfl (lv_at hl 3 rfl) ?_
            obtain ⟨h8, hm⟩ := mr_bz hm
            obtain rfl := Option.some.inj hm
            subst hQ0
            exact W.zret (v := x3) hx hb hr h8 (fun t ht hW => ⟨rfl, ht⟩) (fun q h => by cases h) dX9_is_82
          · have hm := mr_un c7 hm
            refine lv_aload_n hx hb dX9_is_45 rfl (lv_at hl 0 rfl) ?_
            refine va_get (D := (dC, dI)) (ci := 0) (v := .ref tq_letters) (C := RX9) (T := TX9) (N := 35) hx hb hts (inX9 _) hown hK hP 0 rfl rfl 14 (by decide) (hts _ (List.mem_cons_of_mem _ wf9_35)) (fun _ h9 => h9) rfl dX9_is_46 ?_
            refine lv_aload_n hx hb dX9_is_49 rfl (lv_at hl 0 rfl) ?_
            refine va_get (D := (dC, dI)) (ci := 0) (v := .ref tq_numbers) (C := RX9) (T := TX9) (N := 35) hx hb hts (inX9 _) hown hK hP 0 rfl rfl 10 (by decide) (hts _ (List.mem_cons_of_mem _ wf9_22)) (fun _ h9 => h9) rfl dX9_is_50 ?_
            refine lv_iload_n hx hb dX9_is_53 rfl (lv_at hl 1 rfl) ?_
            obtain ⟨h9, hm⟩ := mr_bd hm
            refine va_lald hx hb hK hP 2 2 rfl rfl h9 dX9_is_54 ?_
            refine lv_l2i hx hb dX9_is_55 rfl ?_
            refine lv_iload hx hb dX9_is_56 (lv_at hl 4 rfl) ?_
            refine lv_iadd hx hb dX9_is_58 ?_
            obtain ⟨h10, hm⟩ := mr_bd hm
            refine va_bald hx hb hK hP 4 1 rfl rfl h10 dX9_is_59 ?_
            refine lv_aload_n hx hb dX9_is_60 rfl (lv_at hl 2 rfl) ?_
            refine lv_iload hx hb dX9_is_61 (lv_at hl 4 rfl) ?_
            obtain ⟨h12, hm⟩ := mr_bs hm
            obtain ⟨r11, hz11, hm⟩ := mr_bind hm
            refine mr_pV (As := [.int x4]) (rest := [.int (t_letters (((((t_numbers (x1 : Int32).toNatClampNeg) : Int64).toInt32) + x4) : Int32).toNatClampNeg)]) (sr_okZ adK adV) ⟨hx, hb, hml, hown, hts⟩ (kX20_charAt l htr dC dI adK adV cI cB cJ cZ cQ  x2 x4 r11 hz11) (cwV 1 hts (g9_141 _) rfl rfl rfl (by decide +kernel) ⟨(by show 3 + 1 ≤ 4; omega), (by show 8 + (2 + 11) + (64) ≤ 85; omega)⟩) hS hP hK hz0 [] rfl (sr_recv (hz0.1 x2 h12).1.1 hS) rfl rfl hl.1 (Nat.le_of_ble_eq_true rfl) dX9_is_63 ⟨Nat.zero_le _, Nat.zero_le _⟩ ?_
            refine lv_icmp_ne (tgt := 73) hx hb dX9_is_66 (by decide) (fun c13 => ?_) (fun c13 => ?_)
            · have hm := mr_un c13 hm
              refine lv_iconst (v := 0) hx hb dX9_is_73 (by decide) ?_
              refine lv_istore_n (lv' := [(3, .int 0), (0, .ref ob0), (1, .int x1), (2, .ref (adK x2)), (4, .int x4)]) hx hb dX9_is_74 rfl hl (by decide) rfl (fun ls hl => ?_)
              refine lv_iinc (v := x4 + 1) (lv' := [(4, .int (x4 + 1)), (3, .int 0), (0, .ref ob0), (1, .int x1), (2, .ref (adK x2))]) hx hb dX9_is_75 hl (k := 4) rfl rfl (by decide) rfl (fun ls hl => ?_)
              refine lv_goto (tgt := 32) hx hb dX9_is_78 (by decide) ?_
              exact ih32 x1 x2 0 (x4 + 1) ls (lv_sub hl [2, 3, 4, 1, 0] rfl) hm
            · have hm := mr_if c13 hm
              refine lv_iconst (v := 1) hx hb dX9_is_69 (by decide) ?_
              refine lv_goto (tgt := 74) hx hb dX9_is_70 (by decide) ?_
              refine lv_istore_n (lv' := [(3, .int 1), (0, .ref ob0), (1, .int x1), (2, .ref (adK x2)), (4, .int x4)]) hx hb dX9_is_74 rfl hl (by decide) rfl (fun ls hl => ?_)
              refine lv_iinc (v := x4 + 1) (lv' := [(4, .int (x4 + 1)), (3, .int 1), (0, .ref ob0), (1, .int x1), (2, .ref (adK x2))]) hx hb dX9_is_75 hl (k := 4) rfl rfl (by decide) rfl (fun ls hl => ?_)
              refine lv_goto (tgt := 32) hx hb dX9_is_78 (by decide) ?_
              exact ih32 x1 x2 1 (x4 + 1) ls (lv_sub hl [2, 3, 4, 1, 0] rfl) hm
    refine lv_istore (lv' := [(4, .int 0), (3, .int 0), (0, .ref ob0), (1, .int a0), (2, .ref (adK a1))]) hx hb dX9_is_30 hl (by decide) rfl (fun ls hl => ?_)
    exact j32 sr_fuel a0 a1 0 0 ls (lv_sub hl [2, 3, 4, 1, 0] rfl) hm
  · have hm := mr_if c2 hm
    refine lv_aload_n hx hb dX9_is_10 rfl (lv_at hl 0 rfl) ?_
    refine va_get (D := (dC, dI)) (ci := 0) (v := .ref tq_sizes) (C := RX9) (T := TX9) (N := 35) hx hb hts (inX9 _) hown hK hP 0 rfl rfl 11 (by decide) (hts _ (List.mem_cons_of_mem _ wf9_26)) (fun _ h9 => h9) rfl dX9_is_11 ?_
    refine lv_iload_n hx hb dX9_is_14 rfl (lv_at hl 1 rfl) ?_
    obtain ⟨h14, hm⟩ := mr_bd hm
    refine va_iald hx hb hK hP 3 0 rfl rfl h14 dX9_is_15 ?_
    refine lv_aload_n hx hb dX9_is_16 rfl (lv_at hl 2 rfl) ?_
    obtain ⟨h16, hm⟩ := mr_bs hm
    obtain ⟨r15, hz15, hm⟩ := mr_bind hm
    refine mr_pV (As := []) (rest := [.int (t_sizes (a0 : Int32).toNatClampNeg)]) (sr_okZ adK adV) ⟨hx, hb, hml, hown, hts⟩ (kX20_length l htr dC dI adK adV cI cB cJ cZ cQ  a1 r15 hz15) (cwV 0 hts (g9_137 _) rfl rfl rfl (by decide +kernel) ⟨(by show 1 + 1 ≤ 4; omega), (by show 8 + (1 + 11) + (20) ≤ 85; omega)⟩) hS hP hK hz0 [] rfl (sr_recv (hz0.1 a1 h16).1.1 hS) rfl rfl hl.1 (Nat.le_of_ble_eq_true rfl) dX9_is_17 ⟨Nat.zero_le _, Nat.zero_le _⟩ ?_
    refine lv_icmp_ne (tgt := 27) hx hb dX9_is_20 (by decide) (fun c17 => ?_) (fun c17 => ?_)
    · have hm := mr_un c17 hm
      refine lv_iconst (v := 0) hx hb dX9_is_27 (by decide) ?_
      refine lv_istore_n (lv' := [(3, .int 0), (0, .ref ob0), (1, .int a0), (2, .ref (adK a1))]) hx hb dX9_is_28 rfl hl (by decide) rfl (fun ls hl => ?_)
      refine lv_iconst (v := 0) hx hb dX9_is_29 (by decide) ?_
      have j32 : ∀ (n32 : Nat) (x1 : Int32) (x2 : Nat) (x3 : Int32) (x4 : Int32) (ls : Array Slot), lv_has ls 5 [(0, .ref ob0), (1, .int x1), (2, .ref (adK x2)), (3, .int x3), (4, .int x4)] → m_X9_is_32 t_kinds t_numbers t_sizes t_letters n32 x1 x2 x3 x4 = some res → W p l e (headSpec wsX9_is (rmX9_is 0 0)).room s m [.ref ob0, .int a0, .ref (adK a1)].toArray below meth c s.heap [] 0 0 Q0 (F0 m 32 ls []) := by
        intro n32
        induction n32 with
        | zero => intro x1 x2 x3 x4 ls hl hm; exact nomatch (show (none : Option _) = some res from hm)
        | succ n32 ih32 =>
          intro x1 x2 x3 x4 ls hl hm
          rw [m_X9_is_32] at hm
          refine lv_iload hx hb dX9_is_32 (lv_at hl 4 rfl) ?_
          refine lv_aload_n hx hb dX9_is_34 rfl (lv_at hl 2 rfl) ?_
          obtain ⟨h19, hm⟩ := mr_bs hm
          obtain ⟨r18, hz18, hm⟩ := mr_bind hm
          refine mr_pV (As := []) (rest := [.int x4]) (sr_okZ adK adV) ⟨hx, hb, hml, hown, hts⟩ (kX20_length l htr dC dI adK adV cI cB cJ cZ cQ  x2 r18 hz18) (cwV 0 hts (g9_137 _) rfl rfl rfl (by decide +kernel) ⟨(by show 1 + 1 ≤ 4; omega), (by show 8 + (1 + 11) + (20) ≤ 85; omega)⟩) hS hP hK hz0 [] rfl (sr_recv (hz0.1 x2 h19).1.1 hS) rfl rfl hl.1 (Nat.le_of_ble_eq_true rfl) dX9_is_35 ⟨Nat.zero_le _, Nat.zero_le _⟩ ?_
          refine lv_icmp_ge (tgt := 81) hx hb dX9_is_38 (by decide) (fun c20 => ?_) (fun c20 => ?_)
          · have hm := mr_if c20 hm
            refine lv_iload_n hx hb dX9_is_81 rfl (lv_at hl 3 rfl) ?_
            obtain ⟨h21, hm⟩ := mr_bz hm
            obtain rfl := Option.some.inj hm
            subst hQ0
            exact W.zret (v := x3) hx hb hr h21 (fun t ht hW => ⟨rfl, ht⟩) (fun q h => by cases h) dX9_is_82
          · have hm := mr_un c20 hm
            refine lv_iload_n hx hb dX9_is_41 rfl (lv_at hl 3 rfl) ?_
            refine lv_if_eq (tgt := 81) hx hb dX9_is_42 (by decide) (fun c22 => ?_) (fun c22 => ?_)
            · have hm := mr_if c22 hm
              refine lv_iload_n hx hb dX9_is_81 rfl (lv_at hl 3 rfl) ?_
              obtain ⟨h23, hm⟩ := mr_bz hm
              obtain rfl := Option.some.inj hm
              subst hQ0
              exact W.zret (v := x3) hx hb hr h23 (fun t ht hW => ⟨rfl, ht⟩) (fun q h => by cases h) dX9_is_82
            · have hm := mr_un c22 hm
              refine lv_aload_n hx hb dX9_is_45 rfl (lv_at hl 0 rfl) ?_
              refine va_get (D := (dC, dI)) (ci := 0) (v := .ref tq_letters) (C := RX9) (T := TX9) (N := 35) hx hb hts (inX9 _) hown hK hP 0 rfl rfl 14 (by decide) (hts _ (List.mem_cons_of_mem _ wf9_35)) (fun _ h9 => h9) rfl dX9_is_46 ?_
              refine lv_aload_n hx hb dX9_is_49 rfl (lv_at hl 0 rfl) ?_
              refine va_get (D := (dC, dI)) (ci := 0) (v := .ref tq_numbers) (C := RX9) (T := TX9) (N := 35) hx hb hts (inX9 _) hown hK hP 0 rfl rfl 10 (by decide) (hts _ (List.mem_cons_of_mem _ wf9_22)) (fun _ h9 => h9) rfl dX9_is_50 ?_
              refine lv_iload_n hx hb dX9_is_53 rfl (lv_at hl 1 rfl) ?_
              obtain ⟨h24, hm⟩ := mr_bd hm
              refine va_lald hx hb hK hP 2 2 rfl rfl h24 dX9_is_54 ?_
              refine lv_l2i hx hb dX9_is_55 rfl ?_
              refine lv_iload hx hb dX9_is_56 (lv_at hl 4 rfl) ?_
              refine lv_iadd hx hb dX9_is_58 ?_
              obtain ⟨h25, hm⟩ := mr_bd hm
              refine va_bald hx hb hK hP 4 1 rfl rfl h25 dX9_is_59 ?_
              refine lv_aload_n hx hb dX9_is_60 rfl (lv_at hl 2 rfl) ?_
              refine lv_iload hx hb dX9_is_61 (lv_at hl 4 rfl) ?_
              obtain ⟨h27, hm⟩ := mr_bs hm
              obtain ⟨r26, hz26, hm⟩ := mr_bind hm
              refine mr_pV (As := [.int x4]) (rest := [.int (t_letters (((((t_numbers (x1 : Int32).toNatClampNeg) : Int64).toInt32) + x4) : Int32).toNatClampNeg)]) (sr_okZ adK adV) ⟨hx, hb, hml, hown, hts⟩ (kX20_charAt l htr dC dI adK adV cI cB cJ cZ cQ  x2 x4 r26 hz26) (cwV 1 hts (g9_141 _) rfl rfl rfl (by decide +kernel) ⟨(by show 3 + 1 ≤ 4; omega), (by show 8 + (2 + 11) + (64) ≤ 85; omega)⟩) hS hP hK hz0 [] rfl (sr_recv (hz0.1 x2 h27).1.1 hS) rfl rfl hl.1 (Nat.le_of_ble_eq_true rfl) dX9_is_63 ⟨Nat.zero_le _, Nat.zero_le _⟩ ?_
              refine lv_icmp_ne (tgt := 73) hx hb dX9_is_66 (by decide) (fun c28 => ?_) (fun c28 => ?_)
              · have hm := mr_un c28 hm
                refine lv_iconst (v := 0) hx hb dX9_is_73 (by decide) ?_
                refine lv_istore_n (lv' := [(3, .int 0), (0, .ref ob0), (1, .int x1), (2, .ref (adK x2)), (4, .int x4)]) hx hb dX9_is_74 rfl hl (by decide) rfl (fun ls hl => ?_)
                refine lv_iinc (v := x4 + 1) (lv' := [(4, .int (x4 + 1)), (3, .int 0), (0, .ref ob0), (1, .int x1), (2, .ref (adK x2))]) hx hb dX9_is_75 hl (k := 4) rfl rfl (by decide) rfl (fun ls hl => ?_)
                refine lv_goto (tgt := 32) hx hb dX9_is_78 (by decide) ?_
                exact ih32 x1 x2 0 (x4 + 1) ls (lv_sub hl [2, 3, 4, 1, 0] rfl) hm
              · have hm := mr_if c28 hm
                refine lv_iconst (v := 1) hx hb dX9_is_69 (by decide) ?_
                refine lv_goto (tgt := 74) hx hb dX9_is_70 (by decide) ?_
                refine lv_istore_n (lv' := [(3, .int 1), (0, .ref ob0), (1, .int x1), (2, .ref (adK x2)), (4, .int x4)]) hx hb dX9_is_74 rfl hl (by decide) rfl (fun ls hl => ?_)
                refine lv_iinc (v := x4 + 1) (lv' := [(4, .int (x4 + 1)), (3, .int 1), (0, .ref ob0), (1, .int x1), (2, .ref (adK x2))]) hx hb dX9_is_75 hl (k := 4) rfl rfl (by decide) rfl (fun ls hl => ?_)
                refine lv_goto (tgt := 32) hx hb dX9_is_78 (by decide) ?_
                exact ih32 x1 x2 1 (x4 + 1) ls (lv_sub hl [2, 3, 4, 1, 0] rfl) hm
      refine lv_istore (lv' := [(4, .int 0), (3, .int 0), (0, .ref ob0), (1, .int a0), (2, .ref (adK a1))]) hx hb dX9_is_30 hl (by decide) rfl (fun ls hl => ?_)
      exact j32 sr_fuel a0 a1 0 0 ls (lv_sub hl [2, 3, 4, 1, 0] rfl) hm
    · have hm := mr_if c17 hm
      refine lv_iconst (v := 1) hx hb dX9_is_23 (by decide) ?_
      refine lv_goto (tgt := 28) hx hb dX9_is_24 (by decide) ?_
      refine lv_istore_n (lv' := [(3, .int 1), (0, .ref ob0), (1, .int a0), (2, .ref (adK a1))]) hx hb dX9_is_28 rfl hl (by decide) rfl (fun ls hl => ?_)
      refine lv_iconst (v := 0) hx hb dX9_is_29 (by decide) ?_
      have j32 : ∀ (n32 : Nat) (x1 : Int32) (x2 : Nat) (x3 : Int32) (x4 : Int32) (ls : Array Slot), lv_has ls 5 [(0, .ref ob0), (1, .int x1), (2, .ref (adK x2)), (3, .int x3), (4, .int x4)] → m_X9_is_32 t_kinds t_numbers t_sizes t_letters n32 x1 x2 x3 x4 = some res → W p l e (headSpec wsX9_is (rmX9_is 0 0)).room s m [.ref ob0, .int a0, .ref (adK a1)].toArray below meth c s.heap [] 0 0 Q0 (F0 m 32 ls []) := by
        intro n32
        induction n32 with
        | zero => intro x1 x2 x3 x4 ls hl hm; exact nomatch (show (none : Option _) = some res from hm)
        | succ n32 ih32 =>
          intro x1 x2 x3 x4 ls hl hm
          rw [m_X9_is_32] at hm
          refine lv_iload hx hb dX9_is_32 (lv_at hl 4 rfl) ?_
          refine lv_aload_n hx hb dX9_is_34 rfl (lv_at hl 2 rfl) ?_
          obtain ⟨h30, hm⟩ := mr_bs hm
          obtain ⟨r29, hz29, hm⟩ := mr_bind hm
          refine mr_pV (As := []) (rest := [.int x4]) (sr_okZ adK adV) ⟨hx, hb, hml, hown, hts⟩ (kX20_length l htr dC dI adK adV cI cB cJ cZ cQ  x2 r29 hz29) (cwV 0 hts (g9_137 _) rfl rfl rfl (by decide +kernel) ⟨(by show 1 + 1 ≤ 4; omega), (by show 8 + (1 + 11) + (20) ≤ 85; omega)⟩) hS hP hK hz0 [] rfl (sr_recv (hz0.1 x2 h30).1.1 hS) rfl rfl hl.1 (Nat.le_of_ble_eq_true rfl) dX9_is_35 ⟨Nat.zero_le _, Nat.zero_le _⟩ ?_
          refine lv_icmp_ge (tgt := 81) hx hb dX9_is_38 (by decide) (fun c31 => ?_) (fun c31 => ?_)
          · have hm := mr_if c31 hm
            refine lv_iload_n hx hb dX9_is_81 rfl (lv_at hl 3 rfl) ?_
            obtain ⟨h32, hm⟩ := mr_bz hm
            obtain rfl := Option.some.inj hm
            subst hQ0
            exact W.zret (v := x3) hx hb hr h32 (fun t ht hW => ⟨rfl, ht⟩) (fun q h => by cases h) dX9_is_82
          · have hm := mr_un c31 hm
            refine lv_iload_n hx hb dX9_is_41 rfl (lv_at hl 3 rfl) ?_
            refine lv_if_eq (tgt := 81) hx hb dX9_is_42 (by decide) (fun c33 => ?_) (fun c33 => ?_)
            · have hm := mr_if c33 hm
              refine lv_iload_n hx hb dX9_is_81 rfl (lv_at hl 3 rfl) ?_
              obtain ⟨h34, hm⟩ := mr_bz hm
              obtain rfl := Option.some.inj hm
              subst hQ0
              exact W.zret (v := x3) hx hb hr h34 (fun t ht hW => ⟨rfl, ht⟩) (fun q h => by cases h) dX9_is_82
            · have hm := mr_un c33 hm
              refine lv_aload_n hx hb dX9_is_45 rfl (lv_at hl 0 rfl) ?_
              refine va_get (D := (dC, dI)) (ci := 0) (v := .ref tq_letters) (C := RX9) (T := TX9) (N := 35) hx hb hts (inX9 _) hown hK hP 0 rfl rfl 14 (by decide) (hts _ (List.mem_cons_of_mem _ wf9_35)) (fun _ h9 => h9) rfl dX9_is_46 ?_
              refine lv_aload_n hx hb dX9_is_49 rfl (lv_at hl 0 rfl) ?_
              refine va_get (D := (dC, dI)) (ci := 0) (v := .ref tq_numbers) (C := RX9) (T := TX9) (N := 35) hx hb hts (inX9 _) hown hK hP 0 rfl rfl 10 (by decide) (hts _ (List.mem_cons_of_mem _ wf9_22)) (fun _ h9 => h9) rfl dX9_is_50 ?_
              refine lv_iload_n hx hb dX9_is_53 rfl (lv_at hl 1 rfl) ?_
              obtain ⟨h35, hm⟩ := mr_bd hm
              refine va_lald hx hb hK hP 2 2 rfl rfl h35 dX9_is_54 ?_
              refine lv_l2i hx hb dX9_is_55 rfl ?_
              refine lv_iload hx hb dX9_is_56 (lv_at hl 4 rfl) ?_
              refine lv_iadd hx hb dX9_is_58 ?_
              obtain ⟨h36, hm⟩ := mr_bd hm
              refine va_bald hx hb hK hP 4 1 rfl rfl h36 dX9_is_59 ?_
              refine lv_aload_n hx hb dX9_is_60 rfl (lv_at hl 2 rfl) ?_
              refine lv_iload hx hb dX9_is_61 (lv_at hl 4 rfl) ?_
              obtain ⟨h38, hm⟩ := mr_bs hm
              obtain ⟨r37, hz37, hm⟩ := mr_bind hm
              refine mr_pV (As := [.int x4]) (rest := [.int (t_letters (((((t_numbers (x1 : Int32).toNatClampNeg) : Int64).toInt32) + x4) : Int32).toNatClampNeg)]) (sr_okZ adK adV) ⟨hx, hb, hml, hown, hts⟩ (kX20_charAt l htr dC dI adK adV cI cB cJ cZ cQ  x2 x4 r37 hz37) (cwV 1 hts (g9_141 _) rfl rfl rfl (by decide +kernel) ⟨(by show 3 + 1 ≤ 4; omega), (by show 8 + (2 + 11) + (64) ≤ 85; omega)⟩) hS hP hK hz0 [] rfl (sr_recv (hz0.1 x2 h38).1.1 hS) rfl rfl hl.1 (Nat.le_of_ble_eq_true rfl) dX9_is_63 ⟨Nat.zero_le _, Nat.zero_le _⟩ ?_
              refine lv_icmp_ne (tgt := 73) hx hb dX9_is_66 (by decide) (fun c39 => ?_) (fun c39 => ?_)
              · have hm := mr_un c39 hm
                refine lv_iconst (v := 0) hx hb dX9_is_73 (by decide) ?_
                refine lv_istore_n (lv' := [(3, .int 0), (0, .ref ob0), (1, .int x1), (2, .ref (adK x2)), (4, .int x4)]) hx hb dX9_is_74 rfl hl (by decide) rfl (fun ls hl => ?_)
                refine lv_iinc (v := x4 + 1) (lv' := [(4, .int (x4 + 1)), (3, .int 0), (0, .ref ob0), (1, .int x1), (2, .ref (adK x2))]) hx hb dX9_is_75 hl (k := 4) rfl rfl (by decide) rfl (fun ls hl => ?_)
                refine lv_goto (tgt := 32) hx hb dX9_is_78 (by decide) ?_
                exact ih32 x1 x2 0 (x4 + 1) ls (lv_sub hl [2, 3, 4, 1, 0] rfl) hm
              · have hm := mr_if c39 hm
                refine lv_iconst (v := 1) hx hb dX9_is_69 (by decide) ?_
                refine lv_goto (tgt := 74) hx hb dX9_is_70 (by decide) ?_
                refine lv_istore_n (lv' := [(3, .int 1), (0, .ref ob0), (1, .int x1), (2, .ref (adK x2)), (4, .int x4)]) hx hb dX9_is_74 rfl hl (by decide) rfl (fun ls hl => ?_)
                refine lv_iinc (v := x4 + 1) (lv' := [(4, .int (x4 + 1)), (3, .int 1), (0, .ref ob0), (1, .int x1), (2, .ref (adK x2))]) hx hb dX9_is_75 hl (k := 4) rfl rfl (by decide) rfl (fun ls hl => ?_)
                refine lv_goto (tgt := 32) hx hb dX9_is_78 (by decide) ?_
                exact ih32 x1 x2 1 (x4 + 1) ls (lv_sub hl [2, 3, 4, 1, 0] rfl) hm
      refine lv_istore (lv' := [(4, .int 0), (3, .int 1), (0, .ref ob0), (1, .int a0), (2, .ref (adK a1))]) hx hb dX9_is_30 hl (by decide) rfl (fun ls hl => ?_)
      exact j32 sr_fuel a0 a1 1 0 ls (lv_sub hl [2, 3, 4, 1, 0] rfl) hm
set_option maxHeartbeats 4000000 in
set_option maxRecDepth 100000 in
theorem kX9_member (l : Launch) (htr : l.stackTraces = false) (dC : Nat → ClassId) (dI : Nat → Nat → Nat) (adK adV : Nat → Nat) (cI cB cJ cZ cQ : ClassId) (ob0 tq_bytes tq_kinds tq_firsts tq_numbers tq_sizes tq_inner tq_nexts tq_letters tq_sorts tq_names tq_wide tq_kids tq_many tq_fallback tq_kidShape tq_kidName tq_kidDefault tq_kidNext tq_finished tq_plain tq_told : Nat) (t_length : Int32) (t_at : Int32) (t_deep : Int32) (t_fault : Int32) (t_place : Int32) (t_end : Int32) (t_nodes : Int32) (t_lettered : Int32) (t_shapes : Int32) (t_looked : Int32) (t_kidCount : Int32) (t_done : Int32) (t_root : Int32) (t_plainSize : Int32) (t_kinds : Nat → Int32) (t_numbers : Nat → Int64) (t_sizes : Nat → Int32) (t_inner : Nat → Int32) (t_nexts : Nat → Int32) (t_letters : Nat → Int32) (a0 : Int32) (a1 : Nat) (res : Int32) (hm : m_X9_member t_kinds t_numbers t_sizes t_inner t_nexts t_letters a0 a1 = some res) : Met l yX9_member wsX9_member (rmX9_member 0 0) (pcR (sr_Z adK adV) (dC, dI) srCl [(cI, .int), (cB, .byte), (cJ, .long), (cZ, .boolean), (cQ, .object "SchemaReader$Schema")] [.ref ob0, .int a0, .ref (adK a1)] [(ob0, .inr (0, [.ref tq_bytes, .int t_length, .int t_at, .int t_deep, .int t_fault, .int t_place, .int t_end, .int t_nodes, .ref tq_kinds, .ref tq_firsts, .ref tq_numbers, .ref tq_sizes, .ref tq_inner, .ref tq_nexts, .ref tq_letters, .int t_lettered, .int t_shapes, .int t_looked, .ref tq_sorts, .ref tq_names, .ref tq_wide, .ref tq_kids, .ref tq_many, .ref tq_fallback, .int t_kidCount, .ref tq_kidShape, .ref tq_kidName, .ref tq_kidDefault, .ref tq_kidNext, .int t_done, .ref tq_finished, .int t_root, .ref tq_plain, .int t_plainSize, .ref tq_told])), (tq_kinds, .inl (cI, 4200, .inl t_kinds)), (tq_numbers, .inl (cJ, 4200, .inr (.inl t_numbers))), (tq_sizes, .inl (cI, 4200, .inl t_sizes)), (tq_inner, .inl (cI, 4200, .inl t_inner)), (tq_nexts, .inl (cI, 4200, .inl t_nexts)), (tq_letters, .inl (cB, 4200, .inl t_letters))]) (k2_QcV (.int res)) 0 0 (fun _ => False) := by
  refine Met.ofW (cc := cX9_member) (maxL := 4) (ret := (some .int)) (by decide) rfl ?_
  intro p e s m args below meth c s₁ B hml hv
  obtain ⟨rfl, hP, hK, hz0⟩ := hv
  have hx := B.exec
  have hb := B.bytes
  have hr := B.returns
  have hts := atoms_spec (ws := wsX9_member) B.pre
  have hown : s.vm.findClass RX9 = some m.cls := findClass_of_methodNamed B.named
  have hlocks := B.notSynchronized
  have hS : va_S (fun _ => False) s.heap s.heap [] := va_S.rf
  generalize hQ0 : MQ below (k2_QcV (.int res)) [.ref ob0, .int a0, .ref (adK a1)].toArray s 0 0 (fun _ => False) = Q0
  have hl := lv_entry [.ref ob0, .int a0, .ref (adK a1)] (n := 4) (Nat.le_of_ble_eq_true rfl)
  rw [lg_entry_eq]
  generalize (lg_sl [.ref ob0, .int a0, .ref (adK a1)] ++ List.replicate (4 - (lg_sl [.ref ob0, .int a0, .ref (adK a1)]).length) Slot.unset).toArray = ls at hl ⊢
  have hl : lv_has ls 4 [(0, .ref ob0), (1, .int a0), (2, .ref (adK a1))] := hl
  unfold m_X9_member at hm
  refine lv_aload_n hx hb dX9_member_0 rfl (lv_at hl 0 rfl) ?_
  refine va_get (D := (dC, dI)) (ci := 0) (v := .ref tq_inner) (C := RX9) (T := TX9) (N := 35) hx hb hts (inX9 _) hown hK hP 0 rfl rfl 12 (by decide) (hts _ (List.mem_cons_of_mem _ wf9_29)) (fun _ h9 => h9) rfl dX9_member_1 ?_
  refine lv_iload_n hx hb dX9_member_4 rfl (lv_at hl 1 rfl) ?_
  obtain ⟨h1, hm⟩ := mr_bd hm
  refine va_iald hx hb hK hP 4 0 rfl rfl h1 dX9_member_5 ?_
  have j7 : ∀ (n7 : Nat) (x2 : Nat) (x3 : Int32) (ls : Array Slot), lv_has ls 4 [(0, .ref ob0), (2, .ref (adK x2)), (3, .int x3)] → m_X9_member_7 t_kinds t_numbers t_sizes t_inner t_nexts t_letters n7 x2 x3 = some res → W p l e (headSpec wsX9_member (rmX9_member 0 0)).room s m [.ref ob0, .int a0, .ref (adK a1)].toArray below meth c s.heap [] 0 0 Q0 (F0 m 7 ls []) := by
    intro n7
    induction n7 with
    | zero => intro x2 x3 ls hl hm; exact nomatch (show (none : Option _) = some res from hm)
    | succ n7 ih7 =>
      intro x2 x3 ls hl hm
      rw [m_X9_member_7] at hm
      refine lv_iload_n hx hb dX9_member_7 rfl (lv_at hl 2 rfl) ?_
      refine lv_if_lt (tgt := 42) hx hb dX9_member_8 (by decide) (fun c2 => ?_) (fun c2 => ?_)
      · have hm := mr_if c2 hm
        refine lv_iconst (v := -1) hx hb dX9_member_42 (by decide) ?_
        obtain rfl := Option.some.inj hm
        subst hQ0
        exact W.iret (v := (-1)) hx hb hr (fun t ht hW => ⟨rfl, ht⟩) (fun q h => by cases h) dX9_member_43
      · have hm := mr_un c2 hm
        refine lv_aload_n hx hb dX9_member_11 rfl (lv_at hl 0 rfl) ?_
        refine lv_iload_n hx hb dX9_member_12 rfl (lv_at hl 2 rfl) ?_
        refine lv_aload_n hx hb dX9_member_13 rfl (lv_at hl 1 rfl) ?_
        obtain ⟨r3, hz3, hm⟩ := mr_bind hm
        refine mr_pV (As := [.int x3, .ref (adK x2)]) (rest := []) (sr_okZ adK adV) ⟨hx, hb, hml, hown, hts⟩ (kX9_is l htr dC dI adK adV cI cB cJ cZ cQ ob0 tq_bytes tq_kinds tq_firsts tq_numbers tq_sizes tq_inner tq_nexts tq_letters tq_sorts tq_names tq_wide tq_kids tq_many tq_fallback tq_kidShape tq_kidName tq_kidDefault tq_kidNext tq_finished tq_plain tq_told t_length t_at t_deep t_fault t_place t_end t_nodes t_lettered t_shapes t_looked t_kidCount t_done t_root t_plainSize t_kinds t_numbers t_sizes t_letters x3 x2 r3 hz3) (cwV 2 hts (g9_177 _) rfl rfl rfl (by decide +kernel) ⟨(by show 4 + 1 ≤ 5; omega), (by show 8 + (5 + 11) + (85) ≤ 109; omega)⟩) hS hP hK hz0 [0, 1, 2, 3, 6] rfl (va_recv hK hP (ci := 0) (q0 := 0) rfl rfl) rfl rfl hl.1 (Nat.le_of_ble_eq_true rfl) dX9_member_14 ⟨Nat.zero_le _, Nat.zero_le _⟩ ?_
        refine lv_if_eq (tgt := 27) hx hb dX9_member_17 (by decide) (fun c4 => ?_) (fun c4 => ?_)
        · have hm := mr_if c4 hm
          refine lv_aload_n hx hb dX9_member_27 rfl (lv_at hl 0 rfl) ?_
          refine va_get (D := (dC, dI)) (ci := 0) (v := .ref tq_nexts) (C := RX9) (T := TX9) (N := 35) hx hb hts (inX9 _) hown hK hP 0 rfl rfl 13 (by decide) (hts _ (List.mem_cons_of_mem _ wf9_32)) (fun _ h9 => h9) rfl dX9_member_28 ?_
          refine lv_aload_n hx hb dX9_member_31 rfl (lv_at hl 0 rfl) ?_
          refine va_get (D := (dC, dI)) (ci := 0) (v := .ref tq_nexts) (C := RX9) (T := TX9) (N := 35) hx hb hts (inX9 _) hown hK hP 0 rfl rfl 13 (by decide) (hts _ (List.mem_cons_of_mem _ wf9_32)) (fun _ h9 => h9) rfl dX9_member_32 ?_
          refine lv_iload_n hx hb dX9_member_35 rfl (lv_at hl 2 rfl) ?_
          obtain ⟨h5, hm⟩ := mr_bd hm
          refine va_iald hx hb hK hP 5 0 rfl rfl h5 dX9_member_36 ?_
          obtain ⟨h6, hm⟩ := mr_bd hm
          refine va_iald hx hb hK hP 5 0 rfl rfl h6 dX9_member_37 ?_
          refine lv_istore_n (lv' := [(3, .int (t_nexts ((t_nexts (x3 : Int32).toNatClampNeg) : Int32).toNatClampNeg)), (0, .ref ob0), (2, .ref (adK x2))]) hx hb dX9_member_38 rfl hl (by decide) rfl (fun ls hl => ?_)
          refine lv_goto (tgt := 7) hx hb dX9_member_39 (by decide) ?_
          exact ih7 x2 (t_nexts ((t_nexts (x3 : Int32).toNatClampNeg) : Int32).toNatClampNeg) ls (lv_sub hl [1, 2, 0] rfl) hm
        · have hm := mr_un c4 hm
          refine lv_aload_n hx hb dX9_member_20 rfl (lv_at hl 0 rfl) ?_
          refine va_get (D := (dC, dI)) (ci := 0) (v := .ref tq_nexts) (C := RX9) (T := TX9) (N := 35) hx hb hts (inX9 _) hown hK hP 0 rfl rfl 13 (by decide) (hts _ (List.mem_cons_of_mem _ wf9_32)) (fun _ h9 => h9) rfl dX9_member_21 ?_
          refine lv_iload_n hx hb dX9_member_24 rfl (lv_at hl 2 rfl) ?_
          obtain ⟨h7, hm⟩ := mr_bd hm
          refine va_iald hx hb hK hP 5 0 rfl rfl h7 dX9_member_25 ?_
          obtain rfl := Option.some.inj hm
          subst hQ0
          exact W.iret (v := (t_nexts (x3 : Int32).toNatClampNeg)) hx hb hr (fun t ht hW => ⟨rfl, ht⟩) (fun q h => by cases h) dX9_member_26
  refine lv_istore_n (lv' := [(3, .int (t_inner (a0 : Int32).toNatClampNeg)), (0, .ref ob0), (1, .int a0), (2, .ref (adK a1))]) hx hb dX9_member_6 rfl hl (by decide) rfl (fun ls hl => ?_)
  exact j7 sr_fuel a1 (t_inner (a0 : Int32).toNatClampNeg) ls (lv_sub hl [1, 3, 0] rfl) hm
set_option maxHeartbeats 4000000 in
set_option maxRecDepth 100000 in
theorem kX9_word (l : Launch) (htr : l.stackTraces = false) (dC : Nat → ClassId) (dI : Nat → Nat → Nat) (adK adV : Nat → Nat) (cI cB cJ cZ cQ : ClassId) (ob0 tq_bytes tq_kinds tq_firsts tq_numbers tq_sizes tq_inner tq_nexts tq_letters tq_sorts tq_names tq_wide tq_kids tq_many tq_fallback tq_kidShape tq_kidName tq_kidDefault tq_kidNext tq_finished tq_plain tq_told : Nat) (t_length : Int32) (t_at : Int32) (t_deep : Int32) (t_fault : Int32) (t_place : Int32) (t_end : Int32) (t_nodes : Int32) (t_lettered : Int32) (t_shapes : Int32) (t_looked : Int32) (t_kidCount : Int32) (t_done : Int32) (t_root : Int32) (t_plainSize : Int32) (t_kinds : Nat → Int32) (t_numbers : Nat → Int64) (t_sizes : Nat → Int32) (t_letters : Nat → Int32) (a0 : Int32) (res : Int32) (hm : m_X9_word t_kinds t_numbers t_sizes t_letters a0 = some res) : Met l yX9_word wsX9_word (rmX9_word 0 0) (pcR (sr_Z adK adV) (dC, dI) srCl [(cI, .int), (cB, .byte), (cJ, .long), (cZ, .boolean), (cQ, .object "SchemaReader$Schema")] [.ref ob0, .int a0] [(ob0, .inr (0, [.ref tq_bytes, .int t_length, .int t_at, .int t_deep, .int t_fault, .int t_place, .int t_end, .int t_nodes, .ref tq_kinds, .ref tq_firsts, .ref tq_numbers, .ref tq_sizes, .ref tq_inner, .ref tq_nexts, .ref tq_letters, .int t_lettered, .int t_shapes, .int t_looked, .ref tq_sorts, .ref tq_names, .ref tq_wide, .ref tq_kids, .ref tq_many, .ref tq_fallback, .int t_kidCount, .ref tq_kidShape, .ref tq_kidName, .ref tq_kidDefault, .ref tq_kidNext, .int t_done, .ref tq_finished, .int t_root, .ref tq_plain, .int t_plainSize, .ref tq_told])), (tq_kinds, .inl (cI, 4200, .inl t_kinds)), (tq_numbers, .inl (cJ, 4200, .inr (.inl t_numbers))), (tq_sizes, .inl (cI, 4200, .inl t_sizes)), (tq_letters, .inl (cB, 4200, .inl t_letters))]) (k2_QcV (.int res)) 0 0 (fun _ => False) := by
  refine Met.ofW (cc := cX9_word) (maxL := 2) (ret := (some .int)) (by decide) rfl ?_
  intro p e s m args below meth c s₁ B hml hv
  obtain ⟨rfl, hP, hK, hz0⟩ := hv
  have hx := B.exec
  have hb := B.bytes
  have hr := B.returns
  have hts := atoms_spec (ws := wsX9_word) B.pre
  have hown : s.vm.findClass RX9 = some m.cls := findClass_of_methodNamed B.named
  have hlocks := B.notSynchronized
  have hS : va_S (fun _ => False) s.heap s.heap [] := va_S.rf
  generalize hQ0 : MQ below (k2_QcV (.int res)) [.ref ob0, .int a0].toArray s 0 0 (fun _ => False) = Q0
  have hl := lv_entry [.ref ob0, .int a0] (n := 2) (Nat.le_of_ble_eq_true rfl)
  rw [lg_entry_eq]
  generalize (lg_sl [.ref ob0, .int a0] ++ List.replicate (2 - (lg_sl [.ref ob0, .int a0]).length) Slot.unset).toArray = ls at hl ⊢
  have hl : lv_has ls 2 [(0, .ref ob0), (1, .int a0)] := hl
  unfold m_X9_word at hm
  refine lv_aload_n hx hb dX9_word_0 rfl (lv_at hl 0 rfl) ?_
  refine lv_iload_n hx hb dX9_word_1 rfl (lv_at hl 1 rfl) ?_
  refine va_ldcS hx hb hown (hz0.1 42 (by decide)).2 dX9_word_2 ?_
  obtain ⟨r1, hz1, hm⟩ := mr_bind hm
  refine mr_pV (As := [.int a0, .ref (adK 42)]) (rest := []) (sr_okZ adK adV) ⟨hx, hb, hml, hown, hts⟩ (kX9_is l htr dC dI adK adV cI cB cJ cZ cQ ob0 tq_bytes tq_kinds tq_firsts tq_numbers tq_sizes tq_inner tq_nexts tq_letters tq_sorts tq_names tq_wide tq_kids tq_many tq_fallback tq_kidShape tq_kidName tq_kidDefault tq_kidNext tq_finished tq_plain tq_told t_length t_at t_deep t_fault t_place t_end t_nodes t_lettered t_shapes t_looked t_kidCount t_done t_root t_plainSize t_kinds t_numbers t_sizes t_letters a0 42 r1 hz1) (cwV 2 hts (g9_177 _) rfl rfl rfl (by decide +kernel) ⟨(by show 4 + 1 ≤ 5; omega), (by show 8 + (5 + 11) + (85) ≤ 109; omega)⟩) hS hP hK hz0 [0, 1, 2, 3, 4] rfl (va_recv hK hP (ci := 0) (q0 := 0) rfl rfl) rfl rfl hl.1 (Nat.le_of_ble_eq_true rfl) dX9_word_4 ⟨Nat.zero_le _, Nat.zero_le _⟩ ?_
  refine lv_if_eq (tgt := 14) hx hb dX9_word_7 (by decide) (fun c2 => ?_) (fun c2 => ?_)
  · have hm := mr_if c2 hm
    refine lv_aload_n hx hb dX9_word_14 rfl (lv_at hl 0 rfl) ?_
    refine lv_iload_n hx hb dX9_word_15 rfl (lv_at hl 1 rfl) ?_
    refine va_ldcS hx hb hown (hz0.1 43 (by decide)).2 dX9_word_16 ?_
    obtain ⟨r3, hz3, hm⟩ := mr_bind hm
    refine mr_pV (As := [.int a0, .ref (adK 43)]) (rest := []) (sr_okZ adK adV) ⟨hx, hb, hml, hown, hts⟩ (kX9_is l htr dC dI adK adV cI cB cJ cZ cQ ob0 tq_bytes tq_kinds tq_firsts tq_numbers tq_sizes tq_inner tq_nexts tq_letters tq_sorts tq_names tq_wide tq_kids tq_many tq_fallback tq_kidShape tq_kidName tq_kidDefault tq_kidNext tq_finished tq_plain tq_told t_length t_at t_deep t_fault t_place t_end t_nodes t_lettered t_shapes t_looked t_kidCount t_done t_root t_plainSize t_kinds t_numbers t_sizes t_letters a0 43 r3 hz3) (cwV 2 hts (g9_177 _) rfl rfl rfl (by decide +kernel) ⟨(by show 4 + 1 ≤ 5; omega), (by show 8 + (5 + 11) + (85) ≤ 109; omega)⟩) hS hP hK hz0 [0, 1, 2, 3, 4] rfl (va_recv hK hP (ci := 0) (q0 := 0) rfl rfl) rfl rfl hl.1 (Nat.le_of_ble_eq_true rfl) dX9_word_18 ⟨Nat.zero_le _, Nat.zero_le _⟩ ?_
    refine lv_if_eq (tgt := 28) hx hb dX9_word_21 (by decide) (fun c4 => ?_) (fun c4 => ?_)
    · have hm := mr_if c4 hm
      refine lv_aload_n hx hb dX9_word_28 rfl (lv_at hl 0 rfl) ?_
      refine lv_iload_n hx hb dX9_word_29 rfl (lv_at hl 1 rfl) ?_
      refine va_ldcS hx hb hown (hz0.1 44 (by decide)).2 dX9_word_30 ?_
      obtain ⟨r5, hz5, hm⟩ := mr_bind hm
      refine mr_pV (As := [.int a0, .ref (adK 44)]) (rest := []) (sr_okZ adK adV) ⟨hx, hb, hml, hown, hts⟩ (kX9_is l htr dC dI adK adV cI cB cJ cZ cQ ob0 tq_bytes tq_kinds tq_firsts tq_numbers tq_sizes tq_inner tq_nexts tq_letters tq_sorts tq_names tq_wide tq_kids tq_many tq_fallback tq_kidShape tq_kidName tq_kidDefault tq_kidNext tq_finished tq_plain tq_told t_length t_at t_deep t_fault t_place t_end t_nodes t_lettered t_shapes t_looked t_kidCount t_done t_root t_plainSize t_kinds t_numbers t_sizes t_letters a0 44 r5 hz5) (cwV 2 hts (g9_177 _) rfl rfl rfl (by decide +kernel) ⟨(by show 4 + 1 ≤ 5; omega), (by show 8 + (5 + 11) + (85) ≤ 109; omega)⟩) hS hP hK hz0 [0, 1, 2, 3, 4] rfl (va_recv hK hP (ci := 0) (q0 := 0) rfl rfl) rfl rfl hl.1 (Nat.le_of_ble_eq_true rfl) dX9_word_32 ⟨Nat.zero_le _, Nat.zero_le _⟩ ?_
      refine lv_if_eq (tgt := 42) hx hb dX9_word_35 (by decide) (fun c6 => ?_) (fun c6 => ?_)
      · have hm := mr_if c6 hm
        refine lv_aload_n hx hb dX9_word_42 rfl (lv_at hl 0 rfl) ?_
        refine lv_iload_n hx hb dX9_word_43 rfl (lv_at hl 1 rfl) ?_
        refine va_ldcS hx hb hown (hz0.1 45 (by decide)).2 dX9_word_44 ?_
        obtain ⟨r7, hz7, hm⟩ := mr_bind hm
        refine mr_pV (As := [.int a0, .ref (adK 45)]) (rest := []) (sr_okZ adK adV) ⟨hx, hb, hml, hown, hts⟩ (kX9_is l htr dC dI adK adV cI cB cJ cZ cQ ob0 tq_bytes tq_kinds tq_firsts tq_numbers tq_sizes tq_inner tq_nexts tq_letters tq_sorts tq_names tq_wide tq_kids tq_many tq_fallback tq_kidShape tq_kidName tq_kidDefault tq_kidNext tq_finished tq_plain tq_told t_length t_at t_deep t_fault t_place t_end t_nodes t_lettered t_shapes t_looked t_kidCount t_done t_root t_plainSize t_kinds t_numbers t_sizes t_letters a0 45 r7 hz7) (cwV 2 hts (g9_177 _) rfl rfl rfl (by decide +kernel) ⟨(by show 4 + 1 ≤ 5; omega), (by show 8 + (5 + 11) + (85) ≤ 109; omega)⟩) hS hP hK hz0 [0, 1, 2, 3, 4] rfl (va_recv hK hP (ci := 0) (q0 := 0) rfl rfl) rfl rfl hl.1 (Nat.le_of_ble_eq_true rfl) dX9_word_46 ⟨Nat.zero_le _, Nat.zero_le _⟩ ?_
        refine lv_if_eq (tgt := 56) hx hb dX9_word_49 (by decide) (fun c8 => ?_) (fun c8 => ?_)
        · have hm := mr_if c8 hm
          refine lv_aload_n hx hb dX9_word_56 rfl (lv_at hl 0 rfl) ?_
          refine lv_iload_n hx hb dX9_word_57 rfl (lv_at hl 1 rfl) ?_
          refine va_ldcS hx hb hown (hz0.1 46 (by decide)).2 dX9_word_58 ?_
          obtain ⟨r9, hz9, hm⟩ := mr_bind hm
          refine mr_pV (As := [.int a0, .ref (adK 46)]) (rest := []) (sr_okZ adK adV) ⟨hx, hb, hml, hown, hts⟩ (kX9_is l htr dC dI adK adV cI cB cJ cZ cQ ob0 tq_bytes tq_kinds tq_firsts tq_numbers tq_sizes tq_inner tq_nexts tq_letters tq_sorts tq_names tq_wide tq_kids tq_many tq_fallback tq_kidShape tq_kidName tq_kidDefault tq_kidNext tq_finished tq_plain tq_told t_length t_at t_deep t_fault t_place t_end t_nodes t_lettered t_shapes t_looked t_kidCount t_done t_root t_plainSize t_kinds t_numbers t_sizes t_letters a0 46 r9 hz9) (cwV 2 hts (g9_177 _) rfl rfl rfl (by decide +kernel) ⟨(by show 4 + 1 ≤ 5; omega), (by show 8 + (5 + 11) + (85) ≤ 109; omega)⟩) hS hP hK hz0 [0, 1, 2, 3, 4] rfl (va_recv hK hP (ci := 0) (q0 := 0) rfl rfl) rfl rfl hl.1 (Nat.le_of_ble_eq_true rfl) dX9_word_60 ⟨Nat.zero_le _, Nat.zero_le _⟩ ?_
          refine lv_if_eq (tgt := 70) hx hb dX9_word_63 (by decide) (fun c10 => ?_) (fun c10 => ?_)
          · have hm := mr_if c10 hm
            refine lv_aload_n hx hb dX9_word_70 rfl (lv_at hl 0 rfl) ?_
            refine lv_iload_n hx hb dX9_word_71 rfl (lv_at hl 1 rfl) ?_
            refine va_ldcS hx hb hown (hz0.1 47 (by decide)).2 dX9_word_72 ?_
            obtain ⟨r11, hz11, hm⟩ := mr_bind hm
            refine mr_pV (As := [.int a0, .ref (adK 47)]) (rest := []) (sr_okZ adK adV) ⟨hx, hb, hml, hown, hts⟩ (kX9_is l htr dC dI adK adV cI cB cJ cZ cQ ob0 tq_bytes tq_kinds tq_firsts tq_numbers tq_sizes tq_inner tq_nexts tq_letters tq_sorts tq_names tq_wide tq_kids tq_many tq_fallback tq_kidShape tq_kidName tq_kidDefault tq_kidNext tq_finished tq_plain tq_told t_length t_at t_deep t_fault t_place t_end t_nodes t_lettered t_shapes t_looked t_kidCount t_done t_root t_plainSize t_kinds t_numbers t_sizes t_letters a0 47 r11 hz11) (cwV 2 hts (g9_177 _) rfl rfl rfl (by decide +kernel) ⟨(by show 4 + 1 ≤ 5; omega), (by show 8 + (5 + 11) + (85) ≤ 109; omega)⟩) hS hP hK hz0 [0, 1, 2, 3, 4] rfl (va_recv hK hP (ci := 0) (q0 := 0) rfl rfl) rfl rfl hl.1 (Nat.le_of_ble_eq_true rfl) dX9_word_74 ⟨Nat.zero_le _, Nat.zero_le _⟩ ?_
            refine lv_if_eq (tgt := 84) hx hb dX9_word_77 (by decide) (fun c12 => ?_) (fun c12 => ?_)
            · have hm := mr_if c12 hm
              refine lv_iconst (v := -1) hx hb dX9_word_84 (by decide) ?_
              obtain rfl := Option.some.inj hm
              subst hQ0
              exact W.iret (v := (-1)) hx hb hr (fun t ht hW => ⟨rfl, ht⟩) (fun q h => by cases h) dX9_word_85
            · have hm := mr_un c12 hm
              refine lv_iconst (v := 5) hx hb dX9_word_80 (by decide) ?_
              refine lv_goto (tgt := 85) hx hb dX9_word_81 (by decide) ?_
              obtain rfl := Option.some.inj hm
              subst hQ0
              exact W.iret (v := 5) hx hb hr (fun t ht hW => ⟨rfl, ht⟩) (fun q h => by cases h) dX9_word_85
          · have hm := mr_un c10 hm
            refine lv_iconst (v := 4) hx hb dX9_word_66 (by decide) ?_
            refine lv_goto (tgt := 85) hx hb dX9_word_67 (by decide) ?_
            obtain rfl := Option.some.inj hm
            subst hQ0
            exact W.iret (v := 4) hx hb hr (fun t ht hW => ⟨rfl, ht⟩) (fun q h => by cases h) dX9_word_85
        · have hm := mr_un c8 hm
          refine lv_iconst (v := 3) hx hb dX9_word_52 (by decide) ?_
          refine lv_goto (tgt := 85) hx hb dX9_word_53 (by decide) ?_
          obtain rfl := Option.some.inj hm
          subst hQ0
          exact W.iret (v := 3) hx hb hr (fun t ht hW => ⟨rfl, ht⟩) (fun q h => by cases h) dX9_word_85
      · have hm := mr_un c6 hm
        refine lv_iconst (v := 2) hx hb dX9_word_38 (by decide) ?_
        refine lv_goto (tgt := 85) hx hb dX9_word_39 (by decide) ?_
        obtain rfl := Option.some.inj hm
        subst hQ0
        exact W.iret (v := 2) hx hb hr (fun t ht hW => ⟨rfl, ht⟩) (fun q h => by cases h) dX9_word_85
    · have hm := mr_un c4 hm
      refine lv_iconst (v := 1) hx hb dX9_word_24 (by decide) ?_
      refine lv_goto (tgt := 85) hx hb dX9_word_25 (by decide) ?_
      obtain rfl := Option.some.inj hm
      subst hQ0
      exact W.iret (v := 1) hx hb hr (fun t ht hW => ⟨rfl, ht⟩) (fun q h => by cases h) dX9_word_85
  · have hm := mr_un c2 hm
    refine lv_iconst (v := 0) hx hb dX9_word_10 (by decide) ?_
    refine lv_goto (tgt := 85) hx hb dX9_word_11 (by decide) ?_
    obtain rfl := Option.some.inj hm
    subst hQ0
    exact W.iret (v := 0) hx hb hr (fun t ht hW => ⟨rfl, ht⟩) (fun q h => by cases h) dX9_word_85
set_option maxHeartbeats 4000000 in
set_option maxRecDepth 100000 in
theorem kX9_put (l : Launch) (htr : l.stackTraces = false) (dC : Nat → ClassId) (dI : Nat → Nat → Nat) (adK adV : Nat → Nat) (cI cB cJ cZ cQ : ClassId) (ob0 tq_bytes tq_kinds tq_firsts tq_numbers tq_sizes tq_inner tq_nexts tq_letters tq_sorts tq_names tq_wide tq_kids tq_many tq_fallback tq_kidShape tq_kidName tq_kidDefault tq_kidNext tq_finished tq_plain tq_told : Nat) (t_length : Int32) (t_at : Int32) (t_deep : Int32) (t_fault : Int32) (t_place : Int32) (t_end : Int32) (t_nodes : Int32) (t_lettered : Int32) (t_shapes : Int32) (t_looked : Int32) (t_kidCount : Int32) (t_done : Int32) (t_root : Int32) (t_plainSize : Int32) (t_plain : Nat → Int32) (sz : Nat) (a0 : Nat) (res : (Nat → Int32) × Int32) (hm : m_X9_put t_plain t_plainSize a0 = some res) : Met l yX9_put wsX9_put (rmX9_put 0 0) (pcW (sr_Z adK adV) (dC, dI) srCl [(cI, .int), (cB, .byte), (cJ, .long), (cZ, .boolean), (cQ, .object "SchemaReader$Schema")] [.ref ob0, .ref (adK a0)] [(ob0, .inr (0, [.ref tq_bytes, .int t_length, .int t_at, .int t_deep, .int t_fault, .int t_place, .int t_end, .int t_nodes, .ref tq_kinds, .ref tq_firsts, .ref tq_numbers, .ref tq_sizes, .ref tq_inner, .ref tq_nexts, .ref tq_letters, .int t_lettered, .int t_shapes, .int t_looked, .ref tq_sorts, .ref tq_names, .ref tq_wide, .ref tq_kids, .ref tq_many, .ref tq_fallback, .int t_kidCount, .ref tq_kidShape, .ref tq_kidName, .ref tq_kidDefault, .ref tq_kidNext, .int t_done, .ref tq_finished, .int t_root, .ref tq_plain, .int t_plainSize, .ref tq_told])), (tq_plain, .inl (cB, 4200, .inl t_plain))] sz) (va_Qv (fun u' => u' = res) (pcB (dC, dI) srCl [(cI, .int), (cB, .byte), (cJ, .long), (cZ, .boolean), (cQ, .object "SchemaReader$Schema")] (fun u : (Nat → Int32) × Int32 => [(ob0, .inr (0, [.ref tq_bytes, .int t_length, .int t_at, .int t_deep, .int t_fault, .int t_place, .int t_end, .int t_nodes, .ref tq_kinds, .ref tq_firsts, .ref tq_numbers, .ref tq_sizes, .ref tq_inner, .ref tq_nexts, .ref tq_letters, .int t_lettered, .int t_shapes, .int t_looked, .ref tq_sorts, .ref tq_names, .ref tq_wide, .ref tq_kids, .ref tq_many, .ref tq_fallback, .int t_kidCount, .ref tq_kidShape, .ref tq_kidName, .ref tq_kidDefault, .ref tq_kidNext, .int t_done, .ref tq_finished, .int t_root, .ref tq_plain, .int u.2, .ref tq_told])), (tq_plain, .inl (cB, 4200, .inl u.1))]) (va_A [(ob0, .inr (0, [.ref tq_bytes, .int t_length, .int t_at, .int t_deep, .int t_fault, .int t_place, .int t_end, .int t_nodes, .ref tq_kinds, .ref tq_firsts, .ref tq_numbers, .ref tq_sizes, .ref tq_inner, .ref tq_nexts, .ref tq_letters, .int t_lettered, .int t_shapes, .int t_looked, .ref tq_sorts, .ref tq_names, .ref tq_wide, .ref tq_kids, .ref tq_many, .ref tq_fallback, .int t_kidCount, .ref tq_kidShape, .ref tq_kidName, .ref tq_kidDefault, .ref tq_kidNext, .int t_done, .ref tq_finished, .int t_root, .ref tq_plain, .int t_plainSize, .ref tq_told])), (tq_plain, .inl (cB, 4200, .inl t_plain))] sz)) (va_A [(ob0, .inr (0, [.ref tq_bytes, .int t_length, .int t_at, .int t_deep, .int t_fault, .int t_place, .int t_end, .int t_nodes, .ref tq_kinds, .ref tq_firsts, .ref tq_numbers, .ref tq_sizes, .ref tq_inner, .ref tq_nexts, .ref tq_letters, .int t_lettered, .int t_shapes, .int t_looked, .ref tq_sorts, .ref tq_names, .ref tq_wide, .ref tq_kids, .ref tq_many, .ref tq_fallback, .int t_kidCount, .ref tq_kidShape, .ref tq_kidName, .ref tq_kidDefault, .ref tq_kidNext, .int t_done, .ref tq_finished, .int t_root, .ref tq_plain, .int t_plainSize, .ref tq_told])), (tq_plain, .inl (cB, 4200, .inl t_plain))] sz)) 0 0 (va_A [(ob0, .inr (0, [.ref tq_bytes, .int t_length, .int t_at, .int t_deep, .int t_fault, .int t_place, .int t_end, .int t_nodes, .ref tq_kinds, .ref tq_firsts, .ref tq_numbers, .ref tq_sizes, .ref tq_inner, .ref tq_nexts, .ref tq_letters, .int t_lettered, .int t_shapes, .int t_looked, .ref tq_sorts, .ref tq_names, .ref tq_wide, .ref tq_kids, .ref tq_many, .ref tq_fallback, .int t_kidCount, .ref tq_kidShape, .ref tq_kidName, .ref tq_kidDefault, .ref tq_kidNext, .int t_done, .ref tq_finished, .int t_root, .ref tq_plain, .int t_plainSize, .ref tq_told])), (tq_plain, .inl (cB, 4200, .inl t_plain))] sz) := by
  refine Met.ofW (cc := cX9_put) (maxL := 3) (ret := none) (by decide) rfl ?_
  intro p e s m args below meth c s₁ B hml hv
  obtain ⟨rfl, hsz, hP, hK, hD0, hz0⟩ := hv
  have hx := B.exec
  have hb := B.bytes
  have hr := B.returns
  have hts := atoms_spec (ws := wsX9_put) B.pre
  have hown : s.vm.findClass RX9 = some m.cls := findClass_of_methodNamed B.named
  have hlocks := B.notSynchronized
  subst hsz
  have hD := hD0.self (sz := s.heap.size)
  generalize hAe : va_A [(ob0, .inr (0, [.ref tq_bytes, .int t_length, .int t_at, .int t_deep, .int t_fault, .int t_place, .int t_end, .int t_nodes, .ref tq_kinds, .ref tq_firsts, .ref tq_numbers, .ref tq_sizes, .ref tq_inner, .ref tq_nexts, .ref tq_letters, .int t_lettered, .int t_shapes, .int t_looked, .ref tq_sorts, .ref tq_names, .ref tq_wide, .ref tq_kids, .ref tq_many, .ref tq_fallback, .int t_kidCount, .ref tq_kidShape, .ref tq_kidName, .ref tq_kidDefault, .ref tq_kidNext, .int t_done, .ref tq_finished, .int t_root, .ref tq_plain, .int t_plainSize, .ref tq_told])), (tq_plain, .inl (cB, 4200, .inl t_plain))] s.heap.size = A at hD hz0 ⊢
  have hA : ∀ q : Nat, s.heap.size ≤ q → A q := fun q h => by rw [← hAe]; exact Or.inr h
  have hS : va_S A s.heap s.heap [] := va_S.rf
  generalize hQ0 : MQ below (va_Qv (fun u' => u' = res) (pcB (dC, dI) srCl [(cI, .int), (cB, .byte), (cJ, .long), (cZ, .boolean), (cQ, .object "SchemaReader$Schema")] (fun u : (Nat → Int32) × Int32 => [(ob0, .inr (0, [.ref tq_bytes, .int t_length, .int t_at, .int t_deep, .int t_fault, .int t_place, .int t_end, .int t_nodes, .ref tq_kinds, .ref tq_firsts, .ref tq_numbers, .ref tq_sizes, .ref tq_inner, .ref tq_nexts, .ref tq_letters, .int t_lettered, .int t_shapes, .int t_looked, .ref tq_sorts, .ref tq_names, .ref tq_wide, .ref tq_kids, .ref tq_many, .ref tq_fallback, .int t_kidCount, .ref tq_kidShape, .ref tq_kidName, .ref tq_kidDefault, .ref tq_kidNext, .int t_done, .ref tq_finished, .int t_root, .ref tq_plain, .int u.2, .ref tq_told])), (tq_plain, .inl (cB, 4200, .inl u.1))]) A) A) [.ref ob0, .ref (adK a0)].toArray s 0 0 A = Q0
  have hl := lv_entry [.ref ob0, .ref (adK a0)] (n := 3) (Nat.le_of_ble_eq_true rfl)
  rw [lg_entry_eq]
  generalize (lg_sl [.ref ob0, .ref (adK a0)] ++ List.replicate (3 - (lg_sl [.ref ob0, .ref (adK a0)]).length) Slot.unset).toArray = ls at hl ⊢
  have hl : lv_has ls 3 [(0, .ref ob0), (1, .ref (adK a0))] := hl
  unfold m_X9_put at hm
  refine lv_iconst (v := 0) hx hb dX9_put_0 (by decide) ?_
  have j2 : ∀ (n2 : Nat) (t_plain : Nat → Int32) (t_plainSize : Int32) (x1 : Nat) (x2 : Int32) (H : Heap) (locs : List Loc) (ls : Array Slot), va_P (dC, dI) srCl [(ob0, .inr (0, [.ref tq_bytes, .int t_length, .int t_at, .int t_deep, .int t_fault, .int t_place, .int t_end, .int t_nodes, .ref tq_kinds, .ref tq_firsts, .ref tq_numbers, .ref tq_sizes, .ref tq_inner, .ref tq_nexts, .ref tq_letters, .int t_lettered, .int t_shapes, .int t_looked, .ref tq_sorts, .ref tq_names, .ref tq_wide, .ref tq_kids, .ref tq_many, .ref tq_fallback, .int t_kidCount, .ref tq_kidShape, .ref tq_kidName, .ref tq_kidDefault, .ref tq_kidNext, .int t_done, .ref tq_finished, .int t_root, .ref tq_plain, .int t_plainSize, .ref tq_told])), (tq_plain, .inl (cB, 4200, .inl t_plain))] H → va_D A [(ob0, .inr (0, [.ref tq_bytes, .int t_length, .int t_at, .int t_deep, .int t_fault, .int t_place, .int t_end, .int t_nodes, .ref tq_kinds, .ref tq_firsts, .ref tq_numbers, .ref tq_sizes, .ref tq_inner, .ref tq_nexts, .ref tq_letters, .int t_lettered, .int t_shapes, .int t_looked, .ref tq_sorts, .ref tq_names, .ref tq_wide, .ref tq_kids, .ref tq_many, .ref tq_fallback, .int t_kidCount, .ref tq_kidShape, .ref tq_kidName, .ref tq_kidDefault, .ref tq_kidNext, .int t_done, .ref tq_finished, .int t_root, .ref tq_plain, .int t_plainSize, .ref tq_told])), (tq_plain, .inl (cB, 4200, .inl t_plain))] → va_S A s.heap H locs → lv_has ls 3 [(0, .ref ob0), (1, .ref (adK x1)), (2, .int x2)] → m_X9_put_2 n2 t_plain t_plainSize x1 x2 = some res → W p l e (headSpec wsX9_put (rmX9_put 0 0)).room s m [.ref ob0, .ref (adK a0)].toArray below meth c H locs 0 0 Q0 (F0 m 2 ls []) := by
    intro n2
    induction n2 with
    | zero => intro t_plain t_plainSize x1 x2 H locs ls hP hD hS hl hm; exact nomatch (show (none : Option _) = some res from hm)
    | succ n2 ih2 =>
      intro t_plain t_plainSize x1 x2 H locs ls hP hD hS hl hm
      rw [m_X9_put_2] at hm
      refine lv_iload_n hx hb dX9_put_2 rfl (lv_at hl 2 rfl) ?_
      refine lv_aload_n hx hb dX9_put_3 rfl (lv_at hl 1 rfl) ?_
      obtain ⟨h2, hm⟩ := mr_bs hm
      obtain ⟨r1, hz1, hm⟩ := mr_bind hm
      refine mr_pV (As := []) (rest := [.int x2]) (sr_okZ adK adV) ⟨hx, hb, hml, hown, hts⟩ (kX20_length l htr dC dI adK adV cI cB cJ cZ cQ  x1 r1 hz1) (cwV 0 hts (g9_137 _) rfl rfl rfl (by decide +kernel) ⟨(by show 1 + 1 ≤ 4; omega), (by show 8 + (1 + 11) + (20) ≤ 85; omega)⟩) hS hP hK hz0 [] rfl (sr_recv (hz0.1 x1 h2).1.1 hS) rfl rfl hl.1 (Nat.le_of_ble_eq_true rfl) dX9_put_4 ⟨Nat.zero_le _, Nat.zero_le _⟩ ?_
      refine lv_icmp_ge (tgt := 41) hx hb dX9_put_7 (by decide) (fun c3 => ?_) (fun c3 => ?_)
      · have hm := mr_if c3 hm
        obtain rfl := Option.some.inj hm
        subst hQ0
        exact W.vret hx hb hr (fun t ht hW => ⟨⟨(t_plain, t_plainSize), rfl, rfl, by rw [ht]; exact hP, va_K.moved hW.alike hK, hD⟩, hS.F ht⟩) hS.2.2 dX9_put_41
      · have hm := mr_un c3 hm
        refine lv_aload_n hx hb dX9_put_10 rfl (lv_at hl 0 rfl) ?_
        refine va_get (D := (dC, dI)) (ci := 0) (v := .ref tq_plain) (C := RX9) (T := TX9) (N := 35) hx hb hts (inX9 _) hown hK hP 0 rfl rfl 32 (by decide) (hts _ (List.mem_cons_of_mem _ wf9_71)) (fun _ h9 => h9) rfl dX9_put_11 ?_
        refine lv_aload_n hx hb dX9_put_14 rfl (lv_at hl 0 rfl) ?_
        refine va_get (D := (dC, dI)) (ci := 0) (v := .int t_plainSize) (C := RX9) (T := TX9) (N := 35) hx hb hts (inX9 _) hown hK hP 0 rfl rfl 33 (by decide) (hts _ (List.mem_cons_of_mem _ wf9_280)) (fun _ h9 => h9) rfl dX9_put_15 ?_
        refine lv_aload_n hx hb dX9_put_18 rfl (lv_at hl 1 rfl) ?_
        refine lv_iload_n hx hb dX9_put_19 rfl (lv_at hl 2 rfl) ?_
        obtain ⟨h5, hm⟩ := mr_bs hm
        obtain ⟨r4, hz4, hm⟩ := mr_bind hm
        refine mr_pV (As := [.int x2]) (rest := [.int t_plainSize, .ref tq_plain]) (sr_okZ adK adV) ⟨hx, hb, hml, hown, hts⟩ (kX20_charAt l htr dC dI adK adV cI cB cJ cZ cQ  x1 x2 r4 hz4) (cwV 1 hts (g9_141 _) rfl rfl rfl (by decide +kernel) ⟨(by show 3 + 1 ≤ 4; omega), (by show 8 + (2 + 11) + (64) ≤ 85; omega)⟩) hS hP hK hz0 [] rfl (sr_recv (hz0.1 x1 h5).1.1 hS) rfl rfl hl.1 (Nat.le_of_ble_eq_true rfl) dX9_put_20 ⟨Nat.zero_le _, Nat.zero_le _⟩ ?_
        refine lv_i2b hx hb dX9_put_23 rfl ?_
        obtain ⟨h6, hm⟩ := mr_bd hm
        refine va_bast hx hb hK hP hD hS 1 1 rfl rfl h6 dX9_put_24 (fun H locs hP hD hS => ?_)
        have hP : va_P (dC, dI) srCl [(ob0, .inr (0, [.ref tq_bytes, .int t_length, .int t_at, .int t_deep, .int t_fault, .int t_place, .int t_end, .int t_nodes, .ref tq_kinds, .ref tq_firsts, .ref tq_numbers, .ref tq_sizes, .ref tq_inner, .ref tq_nexts, .ref tq_letters, .int t_lettered, .int t_shapes, .int t_looked, .ref tq_sorts, .ref tq_names, .ref tq_wide, .ref tq_kids, .ref tq_many, .ref tq_fallback, .int t_kidCount, .ref tq_kidShape, .ref tq_kidName, .ref tq_kidDefault, .ref tq_kidNext, .int t_done, .ref tq_finished, .int t_root, .ref tq_plain, .int t_plainSize, .ref tq_told])), (tq_plain, .inl (cB, 4200, .inl (upd t_plain (t_plainSize : Int32).toNatClampNeg (vp_nar .byte ((r4 : Int32).toInt8.toInt32)))))] H := hP
        have hD : va_D A [(ob0, .inr (0, [.ref tq_bytes, .int t_length, .int t_at, .int t_deep, .int t_fault, .int t_place, .int t_end, .int t_nodes, .ref tq_kinds, .ref tq_firsts, .ref tq_numbers, .ref tq_sizes, .ref tq_inner, .ref tq_nexts, .ref tq_letters, .int t_lettered, .int t_shapes, .int t_looked, .ref tq_sorts, .ref tq_names, .ref tq_wide, .ref tq_kids, .ref tq_many, .ref tq_fallback, .int t_kidCount, .ref tq_kidShape, .ref tq_kidName, .ref tq_kidDefault, .ref tq_kidNext, .int t_done, .ref tq_finished, .int t_root, .ref tq_plain, .int t_plainSize, .ref tq_told])), (tq_plain, .inl (cB, 4200, .inl (upd t_plain (t_plainSize : Int32).toNatClampNeg (vp_nar .byte ((r4 : Int32).toInt8.toInt32)))))] := hD
        refine lv_aload_n hx hb dX9_put_25 rfl (lv_at hl 0 rfl) ?_
        refine lv_dup hx hb dX9_put_26 rfl ?_
        refine va_get (D := (dC, dI)) (ci := 0) (v := .int t_plainSize) (C := RX9) (T := TX9) (N := 35) hx hb hts (inX9 _) hown hK hP 0 rfl rfl 33 (by decide) (hts _ (List.mem_cons_of_mem _ wf9_280)) (fun _ h9 => h9) rfl dX9_put_27 ?_
        refine lv_iconst (v := 1) hx hb dX9_put_30 (by decide) ?_
        refine lv_iadd hx hb dX9_put_31 ?_
        refine va_put (D := (dC, dI)) (ci := 0) (v := .int (t_plainSize + 1)) (ty := .int) (C := RX9) (T := TX9) (N := 35) hx hb hts (inX9 _) tyX9 tyX9_ok nmX9 hown hK hP hD hS 0 rfl rfl 33 (by decide) (hts _ (List.mem_cons_of_mem _ wf9_280)) (fun _ h9 => h9) rfl (by decide +kernel) rfl rfl (Nat.le_of_ble_eq_true rfl) dX9_put_32 (fun H locs hP hD hS => ?_)
        have hP : va_P (dC, dI) srCl [(ob0, .inr (0, [.ref tq_bytes, .int t_length, .int t_at, .int t_deep, .int t_fault, .int t_place, .int t_end, .int t_nodes, .ref tq_kinds, .ref tq_firsts, .ref tq_numbers, .ref tq_sizes, .ref tq_inner, .ref tq_nexts, .ref tq_letters, .int t_lettered, .int t_shapes, .int t_looked, .ref tq_sorts, .ref tq_names, .ref tq_wide, .ref tq_kids, .ref tq_many, .ref tq_fallback, .int t_kidCount, .ref tq_kidShape, .ref tq_kidName, .ref tq_kidDefault, .ref tq_kidNext, .int t_done, .ref tq_finished, .int t_root, .ref tq_plain, .int (t_plainSize + 1), .ref tq_told])), (tq_plain, .inl (cB, 4200, .inl (upd t_plain (t_plainSize : Int32).toNatClampNeg (vp_nar .byte ((r4 : Int32).toInt8.toInt32)))))] H := hP
        have hD : va_D A [(ob0, .inr (0, [.ref tq_bytes, .int t_length, .int t_at, .int t_deep, .int t_fault, .int t_place, .int t_end, .int t_nodes, .ref tq_kinds, .ref tq_firsts, .ref tq_numbers, .ref tq_sizes, .ref tq_inner, .ref tq_nexts, .ref tq_letters, .int t_lettered, .int t_shapes, .int t_looked, .ref tq_sorts, .ref tq_names, .ref tq_wide, .ref tq_kids, .ref tq_many, .ref tq_fallback, .int t_kidCount, .ref tq_kidShape, .ref tq_kidName, .ref tq_kidDefault, .ref tq_kidNext, .int t_done, .ref tq_finished, .int t_root, .ref tq_plain, .int (t_plainSize + 1), .ref tq_told])), (tq_plain, .inl (cB, 4200, .inl (upd t_plain (t_plainSize : Int32).toNatClampNeg (vp_nar .byte ((r4 : Int32).toInt8.toInt32)))))] := hD
        refine lv_iinc (v := x2 + 1) (lv' := [(2, .int (x2 + 1)), (0, .ref ob0), (1, .ref (adK x1))]) hx hb dX9_put_35 hl (k := 2) rfl rfl (by decide) rfl (fun ls hl => ?_)
        refine lv_goto (tgt := 2) hx hb dX9_put_38 (by decide) ?_
        exact ih2 (upd t_plain (t_plainSize : Int32).toNatClampNeg (vp_nar .byte ((r4 : Int32).toInt8.toInt32))) (t_plainSize + 1) x1 (x2 + 1) _ _ ls hP hD hS (lv_sub hl [1, 2, 0] rfl) hm
  refine lv_istore_n (lv' := [(2, .int 0), (0, .ref ob0), (1, .ref (adK a0))]) hx hb dX9_put_1 rfl hl (by decide) rfl (fun ls hl => ?_)
  exact j2 sr_fuel t_plain t_plainSize a0 0 _ _ ls hP hD hS (lv_sub hl [1, 2, 0] rfl) hm
set_option maxHeartbeats 4000000 in
set_option maxRecDepth 100000 in
theorem kX9_putName (l : Launch) (htr : l.stackTraces = false) (dC : Nat → ClassId) (dI : Nat → Nat → Nat) (adK adV : Nat → Nat) (cI cB cJ cZ cQ : ClassId) (ob0 tq_bytes tq_kinds tq_firsts tq_numbers tq_sizes tq_inner tq_nexts tq_letters tq_sorts tq_names tq_wide tq_kids tq_many tq_fallback tq_kidShape tq_kidName tq_kidDefault tq_kidNext tq_finished tq_plain tq_told : Nat) (t_length : Int32) (t_at : Int32) (t_deep : Int32) (t_fault : Int32) (t_place : Int32) (t_end : Int32) (t_nodes : Int32) (t_lettered : Int32) (t_shapes : Int32) (t_looked : Int32) (t_kidCount : Int32) (t_done : Int32) (t_root : Int32) (t_plainSize : Int32) (t_numbers : Nat → Int64) (t_sizes : Nat → Int32) (t_letters : Nat → Int32) (t_plain : Nat → Int32) (sz : Nat) (a0 : Int32) (res : (Nat → Int32) × Int32) (hm : m_X9_putName t_numbers t_sizes t_letters t_plain t_plainSize a0 = some res) : Met l yX9_putName wsX9_putName (rmX9_putName 0 0) (pcW (sr_Z adK adV) (dC, dI) srCl [(cI, .int), (cB, .byte), (cJ, .long), (cZ, .boolean), (cQ, .object "SchemaReader$Schema")] [.ref ob0, .int a0] [(ob0, .inr (0, [.ref tq_bytes, .int t_length, .int t_at, .int t_deep, .int t_fault, .int t_place, .int t_end, .int t_nodes, .ref tq_kinds, .ref tq_firsts, .ref tq_numbers, .ref tq_sizes, .ref tq_inner, .ref tq_nexts, .ref tq_letters, .int t_lettered, .int t_shapes, .int t_looked, .ref tq_sorts, .ref tq_names, .ref tq_wide, .ref tq_kids, .ref tq_many, .ref tq_fallback, .int t_kidCount, .ref tq_kidShape, .ref tq_kidName, .ref tq_kidDefault, .ref tq_kidNext, .int t_done, .ref tq_finished, .int t_root, .ref tq_plain, .int t_plainSize, .ref tq_told])), (tq_numbers, .inl (cJ, 4200, .inr (.inl t_numbers))), (tq_sizes, .inl (cI, 4200, .inl t_sizes)), (tq_letters, .inl (cB, 4200, .inl t_letters)), (tq_plain, .inl (cB, 4200, .inl t_plain))] sz) (va_Qv (fun u' => u' = res) (pcB (dC, dI) srCl [(cI, .int), (cB, .byte), (cJ, .long), (cZ, .boolean), (cQ, .object "SchemaReader$Schema")] (fun u : (Nat → Int32) × Int32 => [(ob0, .inr (0, [.ref tq_bytes, .int t_length, .int t_at, .int t_deep, .int t_fault, .int t_place, .int t_end, .int t_nodes, .ref tq_kinds, .ref tq_firsts, .ref tq_numbers, .ref tq_sizes, .ref tq_inner, .ref tq_nexts, .ref tq_letters, .int t_lettered, .int t_shapes, .int t_looked, .ref tq_sorts, .ref tq_names, .ref tq_wide, .ref tq_kids, .ref tq_many, .ref tq_fallback, .int t_kidCount, .ref tq_kidShape, .ref tq_kidName, .ref tq_kidDefault, .ref tq_kidNext, .int t_done, .ref tq_finished, .int t_root, .ref tq_plain, .int u.2, .ref tq_told])), (tq_numbers, .inl (cJ, 4200, .inr (.inl t_numbers))), (tq_sizes, .inl (cI, 4200, .inl t_sizes)), (tq_letters, .inl (cB, 4200, .inl t_letters)), (tq_plain, .inl (cB, 4200, .inl u.1))]) (va_A [(ob0, .inr (0, [.ref tq_bytes, .int t_length, .int t_at, .int t_deep, .int t_fault, .int t_place, .int t_end, .int t_nodes, .ref tq_kinds, .ref tq_firsts, .ref tq_numbers, .ref tq_sizes, .ref tq_inner, .ref tq_nexts, .ref tq_letters, .int t_lettered, .int t_shapes, .int t_looked, .ref tq_sorts, .ref tq_names, .ref tq_wide, .ref tq_kids, .ref tq_many, .ref tq_fallback, .int t_kidCount, .ref tq_kidShape, .ref tq_kidName, .ref tq_kidDefault, .ref tq_kidNext, .int t_done, .ref tq_finished, .int t_root, .ref tq_plain, .int t_plainSize, .ref tq_told])), (tq_numbers, .inl (cJ, 4200, .inr (.inl t_numbers))), (tq_sizes, .inl (cI, 4200, .inl t_sizes)), (tq_letters, .inl (cB, 4200, .inl t_letters)), (tq_plain, .inl (cB, 4200, .inl t_plain))] sz)) (va_A [(ob0, .inr (0, [.ref tq_bytes, .int t_length, .int t_at, .int t_deep, .int t_fault, .int t_place, .int t_end, .int t_nodes, .ref tq_kinds, .ref tq_firsts, .ref tq_numbers, .ref tq_sizes, .ref tq_inner, .ref tq_nexts, .ref tq_letters, .int t_lettered, .int t_shapes, .int t_looked, .ref tq_sorts, .ref tq_names, .ref tq_wide, .ref tq_kids, .ref tq_many, .ref tq_fallback, .int t_kidCount, .ref tq_kidShape, .ref tq_kidName, .ref tq_kidDefault, .ref tq_kidNext, .int t_done, .ref tq_finished, .int t_root, .ref tq_plain, .int t_plainSize, .ref tq_told])), (tq_numbers, .inl (cJ, 4200, .inr (.inl t_numbers))), (tq_sizes, .inl (cI, 4200, .inl t_sizes)), (tq_letters, .inl (cB, 4200, .inl t_letters)), (tq_plain, .inl (cB, 4200, .inl t_plain))] sz)) 0 0 (va_A [(ob0, .inr (0, [.ref tq_bytes, .int t_length, .int t_at, .int t_deep, .int t_fault, .int t_place, .int t_end, .int t_nodes, .ref tq_kinds, .ref tq_firsts, .ref tq_numbers, .ref tq_sizes, .ref tq_inner, .ref tq_nexts, .ref tq_letters, .int t_lettered, .int t_shapes, .int t_looked, .ref tq_sorts, .ref tq_names, .ref tq_wide, .ref tq_kids, .ref tq_many, .ref tq_fallback, .int t_kidCount, .ref tq_kidShape, .ref tq_kidName, .ref tq_kidDefault, .ref tq_kidNext, .int t_done, .ref tq_finished, .int t_root, .ref tq_plain, .int t_plainSize, .ref tq_told])), (tq_numbers, .inl (cJ, 4200, .inr (.inl t_numbers))), (tq_sizes, .inl (cI, 4200, .inl t_sizes)), (tq_letters, .inl (cB, 4200, .inl t_letters)), (tq_plain, .inl (cB, 4200, .inl t_plain))] sz) := by
  refine Met.ofW (cc := cX9_putName) (maxL := 3) (ret := none) (by decide) rfl ?_
  intro p e s m args below meth c s₁ B hml hv
  obtain ⟨rfl, hsz, hP, hK, hD0, hz0⟩ := hv
  have hx := B.exec
  have hb := B.bytes
  have hr := B.returns
  have hts := atoms_spec (ws := wsX9_putName) B.pre
  have hown : s.vm.findClass RX9 = some m.cls := findClass_of_methodNamed B.named
  have hlocks := B.notSynchronized
  subst hsz
  have hD := hD0.self (sz := s.heap.size)
  generalize hAe : va_A [(ob0, .inr (0, [.ref tq_bytes, .int t_length, .int t_at, .int t_deep, .int t_fault, .int t_place, .int t_end, .int t_nodes, .ref tq_kinds, .ref tq_firsts, .ref tq_numbers, .ref tq_sizes, .ref tq_inner, .ref tq_nexts, .ref tq_letters, .int t_lettered, .int t_shapes, .int t_looked, .ref tq_sorts, .ref tq_names, .ref tq_wide, .ref tq_kids, .ref tq_many, .ref tq_fallback, .int t_kidCount, .ref tq_kidShape, .ref tq_kidName, .ref tq_kidDefault, .ref tq_kidNext, .int t_done, .ref tq_finished, .int t_root, .ref tq_plain, .int t_plainSize, .ref tq_told])), (tq_numbers, .inl (cJ, 4200, .inr (.inl t_numbers))), (tq_sizes, .inl (cI, 4200, .inl t_sizes)), (tq_letters, .inl (cB, 4200, .inl t_letters)), (tq_plain, .inl (cB, 4200, .inl t_plain))] s.heap.size = A at hD hz0 ⊢
  have hA : ∀ q : Nat, s.heap.size ≤ q → A q := fun q h => by rw [← hAe]; exact Or.inr h
  have hS : va_S A s.heap s.heap [] := va_S.rf
  generalize hQ0 : MQ below (va_Qv (fun u' => u' = res) (pcB (dC, dI) srCl [(cI, .int), (cB, .byte), (cJ, .long), (cZ, .boolean), (cQ, .object "SchemaReader$Schema")] (fun u : (Nat → Int32) × Int32 => [(ob0, .inr (0, [.ref tq_bytes, .int t_length, .int t_at, .int t_deep, .int t_fault, .int t_place, .int t_end, .int t_nodes, .ref tq_kinds, .ref tq_firsts, .ref tq_numbers, .ref tq_sizes, .ref tq_inner, .ref tq_nexts, .ref tq_letters, .int t_lettered, .int t_shapes, .int t_looked, .ref tq_sorts, .ref tq_names, .ref tq_wide, .ref tq_kids, .ref tq_many, .ref tq_fallback, .int t_kidCount, .ref tq_kidShape, .ref tq_kidName, .ref tq_kidDefault, .ref tq_kidNext, .int t_done, .ref tq_finished, .int t_root, .ref tq_plain, .int u.2, .ref tq_told])), (tq_numbers, .inl (cJ, 4200, .inr (.inl t_numbers))), (tq_sizes, .inl (cI, 4200, .inl t_sizes)), (tq_letters, .inl (cB, 4200, .inl t_letters)), (tq_plain, .inl (cB, 4200, .inl u.1))]) A) A) [.ref ob0, .int a0].toArray s 0 0 A = Q0
  have hl := lv_entry [.ref ob0, .int a0] (n := 3) (Nat.le_of_ble_eq_true rfl)
  rw [lg_entry_eq]
  generalize (lg_sl [.ref ob0, .int a0] ++ List.replicate (3 - (lg_sl [.ref ob0, .int a0]).length) Slot.unset).toArray = ls at hl ⊢
  have hl : lv_has ls 3 [(0, .ref ob0), (1, .int a0)] := hl
  unfold m_X9_putName at hm
  refine lv_aload_n hx hb dX9_putName_0 rfl (lv_at hl 0 rfl) ?_
  refine mr_ldcW hx hb hown (hz0.1 68 (by decide)).2 dX9_putName_1 ?_
  obtain ⟨⟨t_plain_1, t_plainSize_1⟩, hz1, hm⟩ := mr_bind hm
  try dsimp only at hm
  refine mr_wVv (As := [.ref (adK 68)]) (rest := []) (sr_okZ adK adV) ⟨hx, hb, hml, hown, hts⟩ (kX9_put l htr dC dI adK adV cI cB cJ cZ cQ ob0 tq_bytes tq_kinds tq_firsts tq_numbers tq_sizes tq_inner tq_nexts tq_letters tq_sorts tq_names tq_wide tq_kids tq_many tq_fallback tq_kidShape tq_kidName tq_kidDefault tq_kidNext tq_finished tq_plain tq_told t_length t_at t_deep t_fault t_place t_end t_nodes t_lettered t_shapes t_looked t_kidCount t_done t_root t_plainSize t_plain _ 68 _ hz1) (cwV 1 hts (g9_297 _) rfl rfl rfl (by decide +kernel) ⟨(by show 4 + 1 ≤ 5; omega), (by show 8 + (3 + 11) + (85) ≤ 107; omega)⟩) hS hA hP hD hK hz0 (wr := [(tq_numbers, .inl (cJ, 4200, .inr (.inl t_numbers))), (tq_sizes, .inl (cI, 4200, .inl t_sizes)), (tq_letters, .inl (cB, 4200, .inl t_letters))]) (w1 := [(ob0, .inr (0, [.ref tq_bytes, .int t_length, .int t_at, .int t_deep, .int t_fault, .int t_place, .int t_end, .int t_nodes, .ref tq_kinds, .ref tq_firsts, .ref tq_numbers, .ref tq_sizes, .ref tq_inner, .ref tq_nexts, .ref tq_letters, .int t_lettered, .int t_shapes, .int t_looked, .ref tq_sorts, .ref tq_names, .ref tq_wide, .ref tq_kids, .ref tq_many, .ref tq_fallback, .int t_kidCount, .ref tq_kidShape, .ref tq_kidName, .ref tq_kidDefault, .ref tq_kidNext, .int t_done, .ref tq_finished, .int t_root, .ref tq_plain, .int t_plainSize_1, .ref tq_told])), (tq_numbers, .inl (cJ, 4200, .inr (.inl t_numbers))), (tq_sizes, .inl (cI, 4200, .inl t_sizes)), (tq_letters, .inl (cB, 4200, .inl t_letters)), (tq_plain, .inl (cB, 4200, .inl t_plain_1))]) [0, 4] [1, 2, 3] [3, 0, 1, 2, 4] rfl rfl rfl rfl rfl (by decide) rfl rfl rfl (va_recv hK hP (ci := 0) (q0 := 0) rfl rfl) rfl rfl hl.1 (Nat.le_of_ble_eq_true rfl) dX9_putName_4 ⟨Nat.zero_le _, Nat.zero_le _⟩ (fun H locs hP hD hS => ?_)
  refine lv_iconst (v := 0) hx hb dX9_putName_7 (by decide) ?_
  have j9 : ∀ (n9 : Nat) (t_plain : Nat → Int32) (t_plainSize : Int32) (x1 : Int32) (x2 : Int32) (H : Heap) (locs : List Loc) (ls : Array Slot), va_P (dC, dI) srCl [(ob0, .inr (0, [.ref tq_bytes, .int t_length, .int t_at, .int t_deep, .int t_fault, .int t_place, .int t_end, .int t_nodes, .ref tq_kinds, .ref tq_firsts, .ref tq_numbers, .ref tq_sizes, .ref tq_inner, .ref tq_nexts, .ref tq_letters, .int t_lettered, .int t_shapes, .int t_looked, .ref tq_sorts, .ref tq_names, .ref tq_wide, .ref tq_kids, .ref tq_many, .ref tq_fallback, .int t_kidCount, .ref tq_kidShape, .ref tq_kidName, .ref tq_kidDefault, .ref tq_kidNext, .int t_done, .ref tq_finished, .int t_root, .ref tq_plain, .int t_plainSize, .ref tq_told])), (tq_numbers, .inl (cJ, 4200, .inr (.inl t_numbers))), (tq_sizes, .inl (cI, 4200, .inl t_sizes)), (tq_letters, .inl (cB, 4200, .inl t_letters)), (tq_plain, .inl (cB, 4200, .inl t_plain))] H → va_D A [(ob0, .inr (0, [.ref tq_bytes, .int t_length, .int t_at, .int t_deep, .int t_fault, .int t_place, .int t_end, .int t_nodes, .ref tq_kinds, .ref tq_firsts, .ref tq_numbers, .ref tq_sizes, .ref tq_inner, .ref tq_nexts, .ref tq_letters, .int t_lettered, .int t_shapes, .int t_looked, .ref tq_sorts, .ref tq_names, .ref tq_wide, .ref tq_kids, .ref tq_many, .ref tq_fallback, .int t_kidCount, .ref tq_kidShape, .ref tq_kidName, .ref tq_kidDefault, .ref tq_kidNext, .int t_done, .ref tq_finished, .int t_root, .ref tq_plain, .int t_plainSize, .ref tq_told])), (tq_numbers, .inl (cJ, 4200, .inr (.inl t_numbers))), (tq_sizes, .inl (cI, 4200, .inl t_sizes)), (tq_letters, .inl (cB, 4200, .inl t_letters)), (tq_plain, .inl (cB, 4200, .inl t_plain))] → va_S A s.heap H locs → lv_has ls 3 [(0, .ref ob0), (1, .int x1), (2, .int x2)] → m_X9_putName_9 t_numbers t_sizes t_letters n9 t_plain t_plainSize x1 x2 = some res → W p l e (headSpec wsX9_putName (rmX9_putName 0 0)).room s m [.ref ob0, .int a0].toArray below meth c H locs 0 0 Q0 (F0 m 9 ls []) := by
    intro n9
    induction n9 with
    | zero => intro t_plain t_plainSize x1 x2 H locs ls hP hD hS hl hm; exact nomatch (show (none : Option _) = some res from hm)
    | succ n9 ih9 =>
      intro t_plain t_plainSize x1 x2 H locs ls hP hD hS hl hm
      rw [m_X9_putName_9] at hm
      refine lv_iload_n hx hb dX9_putName_9 rfl (lv_at hl 2 rfl) ?_
      refine lv_aload_n hx hb dX9_putName_10 rfl (lv_at hl 0 rfl) ?_
      refine va_get (D := (dC, dI)) (ci := 0) (v := .ref tq_sizes) (C := RX9) (T := TX9) (N := 35) hx hb hts (inX9 _) hown hK hP 0 rfl rfl 11 (by decide) (hts _ (List.mem_cons_of_mem _ wf9_26)) (fun _ h9 => h9) rfl dX9_putName_11 ?_
      refine lv_iload_n hx hb dX9_putName_14 rfl (lv_at hl 1 rfl) ?_
      obtain ⟨h2, hm⟩ := mr_bd hm
      refine va_iald hx hb hK hP 2 0 rfl rfl h2 dX9_putName_15 ?_
      refine lv_icmp_ge (tgt := 58) hx hb dX9_putName_16 (by decide) (fun c3 => ?_) (fun c3 => ?_)
      · have hm := mr_if c3 hm
        refine lv_aload_n hx hb dX9_putName_58 rfl (lv_at hl 0 rfl) ?_
        refine mr_ldcW hx hb hown (hz0.1 68 (by decide)).2 dX9_putName_59 ?_
        obtain ⟨⟨t_plain_4, t_plainSize_4⟩, hz4, hm⟩ := mr_bind hm
        try dsimp only at hm
        refine mr_wVv (As := [.ref (adK 68)]) (rest := []) (sr_okZ adK adV) ⟨hx, hb, hml, hown, hts⟩ (kX9_put l htr dC dI adK adV cI cB cJ cZ cQ ob0 tq_bytes tq_kinds tq_firsts tq_numbers tq_sizes tq_inner tq_nexts tq_letters tq_sorts tq_names tq_wide tq_kids tq_many tq_fallback tq_kidShape tq_kidName tq_kidDefault tq_kidNext tq_finished tq_plain tq_told t_length t_at t_deep t_fault t_place t_end t_nodes t_lettered t_shapes t_looked t_kidCount t_done t_root t_plainSize t_plain _ 68 _ hz4) (cwV 1 hts (g9_297 _) rfl rfl rfl (by decide +kernel) ⟨(by show 4 + 1 ≤ 5; omega), (by show 8 + (3 + 11) + (85) ≤ 107; omega)⟩) hS hA hP hD hK hz0 (wr := [(tq_numbers, .inl (cJ, 4200, .inr (.inl t_numbers))), (tq_sizes, .inl (cI, 4200, .inl t_sizes)), (tq_letters, .inl (cB, 4200, .inl t_letters))]) (w1 := [(ob0, .inr (0, [.ref tq_bytes, .int t_length, .int t_at, .int t_deep, .int t_fault, .int t_place, .int t_end, .int t_nodes, .ref tq_kinds, .ref tq_firsts, .ref tq_numbers, .ref tq_sizes, .ref tq_inner, .ref tq_nexts, .ref tq_letters, .int t_lettered, .int t_shapes, .int t_looked, .ref tq_sorts, .ref tq_names, .ref tq_wide, .ref tq_kids, .ref tq_many, .ref tq_fallback, .int t_kidCount, .ref tq_kidShape, .ref tq_kidName, .ref tq_kidDefault, .ref tq_kidNext, .int t_done, .ref tq_finished, .int t_root, .ref tq_plain, .int t_plainSize_4, .ref tq_told])), (tq_numbers, .inl (cJ, 4200, .inr (.inl t_numbers))), (tq_sizes, .inl (cI, 4200, .inl t_sizes)), (tq_letters, .inl (cB, 4200, .inl t_letters)), (tq_plain, .inl (cB, 4200, .inl t_plain_4))]) [0, 4] [1, 2, 3] [3, 0, 1, 2, 4] rfl rfl rfl rfl rfl (by decide) rfl rfl rfl (va_recv hK hP (ci := 0) (q0 := 0) rfl rfl) rfl rfl hl.1 (Nat.le_of_ble_eq_true rfl) dX9_putName_62 ⟨Nat.zero_le _, Nat.zero_le _⟩ (fun H locs hP hD hS => ?_)
        obtain rfl := Option.some.inj hm
        subst hQ0
        exact W.vret hx hb hr (fun t ht hW => ⟨⟨(t_plain_4, t_plainSize_4), rfl, rfl, by rw [ht]; exact hP, va_K.moved hW.alike hK, hD⟩, hS.F ht⟩) hS.2.2 dX9_putName_65
      · have hm := mr_un c3 hm
        refine lv_aload_n hx hb dX9_putName_19 rfl (lv_at hl 0 rfl) ?_
        refine va_get (D := (dC, dI)) (ci := 0) (v := .ref tq_plain) (C := RX9) (T := TX9) (N := 35) hx hb hts (inX9 _) hown hK hP 0 rfl rfl 32 (by decide) (hts _ (List.mem_cons_of_mem _ wf9_71)) (fun _ h9 => h9) rfl dX9_putName_20 ?_
        refine lv_aload_n hx hb dX9_putName_23 rfl (lv_at hl 0 rfl) ?_
        refine va_get (D := (dC, dI)) (ci := 0) (v := .int t_plainSize) (C := RX9) (T := TX9) (N := 35) hx hb hts (inX9 _) hown hK hP 0 rfl rfl 33 (by decide) (hts _ (List.mem_cons_of_mem _ wf9_280)) (fun _ h9 => h9) rfl dX9_putName_24 ?_
        refine lv_aload_n hx hb dX9_putName_27 rfl (lv_at hl 0 rfl) ?_
        refine va_get (D := (dC, dI)) (ci := 0) (v := .ref tq_letters) (C := RX9) (T := TX9) (N := 35) hx hb hts (inX9 _) hown hK hP 0 rfl rfl 14 (by decide) (hts _ (List.mem_cons_of_mem _ wf9_35)) (fun _ h9 => h9) rfl dX9_putName_28 ?_
        refine lv_aload_n hx hb dX9_putName_31 rfl (lv_at hl 0 rfl) ?_
        refine va_get (D := (dC, dI)) (ci := 0) (v := .ref tq_numbers) (C := RX9) (T := TX9) (N := 35) hx hb hts (inX9 _) hown hK hP 0 rfl rfl 10 (by decide) (hts _ (List.mem_cons_of_mem _ wf9_22)) (fun _ h9 => h9) rfl dX9_putName_32 ?_
        refine lv_iload_n hx hb dX9_putName_35 rfl (lv_at hl 1 rfl) ?_
        obtain ⟨h5, hm⟩ := mr_bd hm
        refine va_lald hx hb hK hP 1 2 rfl rfl h5 dX9_putName_36 ?_
        refine lv_l2i hx hb dX9_putName_37 rfl ?_
        refine lv_iload_n hx hb dX9_putName_38 rfl (lv_at hl 2 rfl) ?_
        refine lv_iadd hx hb dX9_putName_39 ?_
        obtain ⟨h6, hm⟩ := mr_bd hm
        refine va_bald hx hb hK hP 3 1 rfl rfl h6 dX9_putName_40 ?_
        obtain ⟨h7, hm⟩ := mr_bd hm
        refine va_bast hx hb hK hP hD hS 4 1 rfl rfl h7 dX9_putName_41 (fun H locs hP hD hS => ?_)
        have hP : va_P (dC, dI) srCl [(ob0, .inr (0, [.ref tq_bytes, .int t_length, .int t_at, .int t_deep, .int t_fault, .int t_place, .int t_end, .int t_nodes, .ref tq_kinds, .ref tq_firsts, .ref tq_numbers, .ref tq_sizes, .ref tq_inner, .ref tq_nexts, .ref tq_letters, .int t_lettered, .int t_shapes, .int t_looked, .ref tq_sorts, .ref tq_names, .ref tq_wide, .ref tq_kids, .ref tq_many, .ref tq_fallback, .int t_kidCount, .ref tq_kidShape, .ref tq_kidName, .ref tq_kidDefault, .ref tq_kidNext, .int t_done, .ref tq_finished, .int t_root, .ref tq_plain, .int t_plainSize, .ref tq_told])), (tq_numbers, .inl (cJ, 4200, .inr (.inl t_numbers))), (tq_sizes, .inl (cI, 4200, .inl t_sizes)), (tq_letters, .inl (cB, 4200, .inl t_letters)), (tq_plain, .inl (cB, 4200, .inl (upd t_plain (t_plainSize : Int32).toNatClampNeg (vp_nar .byte (t_letters (((((t_numbers (x1 : Int32).toNatClampNeg) : Int64).toInt32) + x2) : Int32).toNatClampNeg)))))] H := hP
        have hD : va_D A [(ob0, .inr (0, [.ref tq_bytes, .int t_length, .int t_at, .int t_deep, .int t_fault, .int t_place, .int t_end, .int t_nodes, .ref tq_kinds, .ref tq_firsts, .ref tq_numbers, .ref tq_sizes, .ref tq_inner, .ref tq_nexts, .ref tq_letters, .int t_lettered, .int t_shapes, .int t_looked, .ref tq_sorts, .ref tq_names, .ref tq_wide, .ref tq_kids, .ref tq_many, .ref tq_fallback, .int t_kidCount, .ref tq_kidShape, .ref tq_kidName, .ref tq_kidDefault, .ref tq_kidNext, .int t_done, .ref tq_finished, .int t_root, .ref tq_plain, .int t_plainSize, .ref tq_told])), (tq_numbers, .inl (cJ, 4200, .inr (.inl t_numbers))), (tq_sizes, .inl (cI, 4200, .inl t_sizes)), (tq_letters, .inl (cB, 4200, .inl t_letters)), (tq_plain, .inl (cB, 4200, .inl (upd t_plain (t_plainSize : Int32).toNatClampNeg (vp_nar .byte (t_letters (((((t_numbers (x1 : Int32).toNatClampNeg) : Int64).toInt32) + x2) : Int32).toNatClampNeg)))))] := hD
        refine lv_aload_n hx hb dX9_putName_42 rfl (lv_at hl 0 rfl) ?_
        refine lv_dup hx hb dX9_putName_43 rfl ?_
        refine va_get (D := (dC, dI)) (ci := 0) (v := .int t_plainSize) (C := RX9) (T := TX9) (N := 35) hx hb hts (inX9 _) hown hK hP 0 rfl rfl 33 (by decide) (hts _ (List.mem_cons_of_mem _ wf9_280)) (fun _ h9 => h9) rfl dX9_putName_44 ?_
        refine lv_iconst (v := 1) hx hb dX9_putName_47 (by decide) ?_
        refine lv_iadd hx hb dX9_putName_48 ?_
        refine va_put (D := (dC, dI)) (ci := 0) (v := .int (t_plainSize + 1)) (ty := .int) (C := RX9) (T := TX9) (N := 35) hx hb hts (inX9 _) tyX9 tyX9_ok nmX9 hown hK hP hD hS 0 rfl rfl 33 (by decide) (hts _ (List.mem_cons_of_mem _ wf9_280)) (fun _ h9 => h9) rfl (by decide +kernel) rfl rfl (Nat.le_of_ble_eq_true rfl) dX9_putName_49 (fun H locs hP hD hS => ?_)
        have hP : va_P (dC, dI) srCl [(ob0, .inr (0, [.ref tq_bytes, .int t_length, .int t_at, .int t_deep, .int t_fault, .int t_place, .int t_end, .int t_nodes, .ref tq_kinds, .ref tq_firsts, .ref tq_numbers, .ref tq_sizes, .ref tq_inner, .ref tq_nexts, .ref tq_letters, .int t_lettered, .int t_shapes, .int t_looked, .ref tq_sorts, .ref tq_names, .ref tq_wide, .ref tq_kids, .ref tq_many, .ref tq_fallback, .int t_kidCount, .ref tq_kidShape, .ref tq_kidName, .ref tq_kidDefault, .ref tq_kidNext, .int t_done, .ref tq_finished, .int t_root, .ref tq_plain, .int (t_plainSize + 1), .ref tq_told])), (tq_numbers, .inl (cJ, 4200, .inr (.inl t_numbers))), (tq_sizes, .inl (cI, 4200, .inl t_sizes)), (tq_letters, .inl (cB, 4200, .inl t_letters)), (tq_plain, .inl (cB, 4200, .inl (upd t_plain (t_plainSize : Int32).toNatClampNeg (vp_nar .byte (t_letters (((((t_numbers (x1 : Int32).toNatClampNeg) : Int64).toInt32) + x2) : Int32).toNatClampNeg)))))] H := hP
        have hD : va_D A [(ob0, .inr (0, [.ref tq_bytes, .int t_length, .int t_at, .int t_deep, .int t_fault, .int t_place, .int t_end, .int t_nodes, .ref tq_kinds, .ref tq_firsts, .ref tq_numbers, .ref tq_sizes, .ref tq_inner, .ref tq_nexts, .ref tq_letters, .int t_lettered, .int t_shapes, .int t_looked, .ref tq_sorts, .ref tq_names, .ref tq_wide, .ref tq_kids, .ref tq_many, .ref tq_fallback, .int t_kidCount, .ref tq_kidShape, .ref tq_kidName, .ref tq_kidDefault, .ref tq_kidNext, .int t_done, .ref tq_finished, .int t_root, .ref tq_plain, .int (t_plainSize + 1), .ref tq_told])), (tq_numbers, .inl (cJ, 4200, .inr (.inl t_numbers))), (tq_sizes, .inl (cI, 4200, .inl t_sizes)), (tq_letters, .inl (cB, 4200, .inl t_letters)), (tq_plain, .inl (cB, 4200, .inl (upd t_plain (t_plainSize : Int32).toNatClampNeg (vp_nar .byte (t_letters (((((t_numbers (x1 : Int32).toNatClampNeg) : Int64).toInt32) + x2) : Int32).toNatClampNeg)))))] := hD
        refine lv_iinc (v := x2 + 1) (lv' := [(2, .int (x2 + 1)), (0, .ref ob0), (1, .int x1)]) hx hb dX9_putName_52 hl (k := 2) rfl rfl (by decide) rfl (fun ls hl => ?_)
        refine lv_goto (tgt := 9) hx hb dX9_putName_55 (by decide) ?_
        exact ih9 (upd t_plain (t_plainSize : Int32).toNatClampNeg (vp_nar .byte (t_letters (((((t_numbers (x1 : Int32).toNatClampNeg) : Int64).toInt32) + x2) : Int32).toNatClampNeg))) (t_plainSize + 1) x1 (x2 + 1) _ _ ls hP hD hS (lv_sub hl [1, 2, 0] rfl) hm
  refine lv_istore_n (lv' := [(2, .int 0), (0, .ref ob0), (1, .int a0)]) hx hb dX9_putName_8 rfl hl (by decide) rfl (fun ls hl => ?_)
  exact j9 sr_fuel t_plain_1 t_plainSize_1 a0 0 _ _ ls hP hD hS (lv_sub hl [1, 2, 0] rfl) hm
set_option maxHeartbeats 4000000 in
set_option maxRecDepth 100000 in
theorem kX9_escaped (l : Launch) (htr : l.stackTraces = false) (dC : Nat → ClassId) (dI : Nat → Nat → Nat) (adK adV : Nat → Nat) (cI cB cJ cZ cQ : ClassId) (ob0 tq_bytes tq_kinds tq_firsts tq_numbers tq_sizes tq_inner tq_nexts tq_letters tq_sorts tq_names tq_wide tq_kids tq_many tq_fallback tq_kidShape tq_kidName tq_kidDefault tq_kidNext tq_finished tq_plain tq_told : Nat) (t_length : Int32) (t_at : Int32) (t_deep : Int32) (t_fault : Int32) (t_place : Int32) (t_end : Int32) (t_nodes : Int32) (t_lettered : Int32) (t_shapes : Int32) (t_looked : Int32) (t_kidCount : Int32) (t_done : Int32) (t_root : Int32) (t_plainSize : Int32) (t_bytes : Nat → Int32) (sz : Nat) (res : Except (Int32 × Int32 × Int32) (Int32 × (Int32 × Int32 × Int32))) (hm : m_X9_escaped t_bytes t_length t_at t_fault t_place = some res) : t2_Met l yX9_escaped wsX9_escaped (rmX9_escaped (t2_mc res) (t2_ms res)) (pcW (sr_Z adK adV) (dC, dI) srCl [(cI, .int), (cB, .byte), (cJ, .long), (cZ, .boolean), (cQ, .object "SchemaReader$Schema")] [.ref ob0] [(ob0, .inr (0, [.ref tq_bytes, .int t_length, .int t_at, .int t_deep, .int t_fault, .int t_place, .int t_end, .int t_nodes, .ref tq_kinds, .ref tq_firsts, .ref tq_numbers, .ref tq_sizes, .ref tq_inner, .ref tq_nexts, .ref tq_letters, .int t_lettered, .int t_shapes, .int t_looked, .ref tq_sorts, .ref tq_names, .ref tq_wide, .ref tq_kids, .ref tq_many, .ref tq_fallback, .int t_kidCount, .ref tq_kidShape, .ref tq_kidName, .ref tq_kidDefault, .ref tq_kidNext, .int t_done, .ref tq_finished, .int t_root, .ref tq_plain, .int t_plainSize, .ref tq_told])), (tq_bytes, .inl (cB, 4096, .inl t_bytes))] sz) (t2_Q t2_rI (pcB (dC, dI) srCl [(cI, .int), (cB, .byte), (cJ, .long), (cZ, .boolean), (cQ, .object "SchemaReader$Schema")] (fun u : Int32 × Int32 × Int32 => [(ob0, .inr (0, [.ref tq_bytes, .int t_length, .int u.1, .int t_deep, .int u.2.1, .int u.2.2, .int t_end, .int t_nodes, .ref tq_kinds, .ref tq_firsts, .ref tq_numbers, .ref tq_sizes, .ref tq_inner, .ref tq_nexts, .ref tq_letters, .int t_lettered, .int t_shapes, .int t_looked, .ref tq_sorts, .ref tq_names, .ref tq_wide, .ref tq_kids, .ref tq_many, .ref tq_fallback, .int t_kidCount, .ref tq_kidShape, .ref tq_kidName, .ref tq_kidDefault, .ref tq_kidNext, .int t_done, .ref tq_finished, .int t_root, .ref tq_plain, .int t_plainSize, .ref tq_told])), (tq_bytes, .inl (cB, 4096, .inl t_bytes))]) (va_A [(ob0, .inr (0, [.ref tq_bytes, .int t_length, .int t_at, .int t_deep, .int t_fault, .int t_place, .int t_end, .int t_nodes, .ref tq_kinds, .ref tq_firsts, .ref tq_numbers, .ref tq_sizes, .ref tq_inner, .ref tq_nexts, .ref tq_letters, .int t_lettered, .int t_shapes, .int t_looked, .ref tq_sorts, .ref tq_names, .ref tq_wide, .ref tq_kids, .ref tq_many, .ref tq_fallback, .int t_kidCount, .ref tq_kidShape, .ref tq_kidName, .ref tq_kidDefault, .ref tq_kidNext, .int t_done, .ref tq_finished, .int t_root, .ref tq_plain, .int t_plainSize, .ref tq_told])), (tq_bytes, .inl (cB, 4096, .inl t_bytes))] sz)) (va_A [(ob0, .inr (0, [.ref tq_bytes, .int t_length, .int t_at, .int t_deep, .int t_fault, .int t_place, .int t_end, .int t_nodes, .ref tq_kinds, .ref tq_firsts, .ref tq_numbers, .ref tq_sizes, .ref tq_inner, .ref tq_nexts, .ref tq_letters, .int t_lettered, .int t_shapes, .int t_looked, .ref tq_sorts, .ref tq_names, .ref tq_wide, .ref tq_kids, .ref tq_many, .ref tq_fallback, .int t_kidCount, .ref tq_kidShape, .ref tq_kidName, .ref tq_kidDefault, .ref tq_kidNext, .int t_done, .ref tq_finished, .int t_root, .ref tq_plain, .int t_plainSize, .ref tq_told])), (tq_bytes, .inl (cB, 4096, .inl t_bytes))] sz) "java/lang/IllegalStateException" res) (t2_mc res) (t2_ms res) (va_A [(ob0, .inr (0, [.ref tq_bytes, .int t_length, .int t_at, .int t_deep, .int t_fault, .int t_place, .int t_end, .int t_nodes, .ref tq_kinds, .ref tq_firsts, .ref tq_numbers, .ref tq_sizes, .ref tq_inner, .ref tq_nexts, .ref tq_letters, .int t_lettered, .int t_shapes, .int t_looked, .ref tq_sorts, .ref tq_names, .ref tq_wide, .ref tq_kids, .ref tq_many, .ref tq_fallback, .int t_kidCount, .ref tq_kidShape, .ref tq_kidName, .ref tq_kidDefault, .ref tq_kidNext, .int t_done, .ref tq_finished, .int t_root, .ref tq_plain, .int t_plainSize, .ref tq_told])), (tq_bytes, .inl (cB, 4096, .inl t_bytes))] sz) := by
  refine t2_ofW (cc := cX9_escaped) (maxL := 6) (ret := (some .int)) (by decide) rfl ?_
  intro p e s m args below meth c s₁ B hml hex had hv
  obtain ⟨rfl, hsz, hP, hK, hD0, hz0⟩ := hv
  have hx := B.exec
  have hb := B.bytes
  have hr := B.returns
  have hts := atoms_spec (ws := wsX9_escaped) B.pre
  have hown : s.vm.findClass RX9 = some m.cls := findClass_of_methodNamed B.named
  have hlocks := B.notSynchronized
  subst hsz
  have hD := hD0.self (sz := s.heap.size)
  generalize hAe : va_A [(ob0, .inr (0, [.ref tq_bytes, .int t_length, .int t_at, .int t_deep, .int t_fault, .int t_place, .int t_end, .int t_nodes, .ref tq_kinds, .ref tq_firsts, .ref tq_numbers, .ref tq_sizes, .ref tq_inner, .ref tq_nexts, .ref tq_letters, .int t_lettered, .int t_shapes, .int t_looked, .ref tq_sorts, .ref tq_names, .ref tq_wide, .ref tq_kids, .ref tq_many, .ref tq_fallback, .int t_kidCount, .ref tq_kidShape, .ref tq_kidName, .ref tq_kidDefault, .ref tq_kidNext, .int t_done, .ref tq_finished, .int t_root, .ref tq_plain, .int t_plainSize, .ref tq_told])), (tq_bytes, .inl (cB, 4096, .inl t_bytes))] s.heap.size = A at hD hz0 ⊢
  have hA : ∀ q : Nat, s.heap.size ≤ q → A q := fun q h => by rw [← hAe]; exact Or.inr h
  have hS : va_S A s.heap s.heap [] := va_S.rf
  generalize hQ0 : t2_MQ below (t2_Q t2_rI (pcB (dC, dI) srCl [(cI, .int), (cB, .byte), (cJ, .long), (cZ, .boolean), (cQ, .object "SchemaReader$Schema")] (fun u : Int32 × Int32 × Int32 => [(ob0, .inr (0, [.ref tq_bytes, .int t_length, .int u.1, .int t_deep, .int u.2.1, .int u.2.2, .int t_end, .int t_nodes, .ref tq_kinds, .ref tq_firsts, .ref tq_numbers, .ref tq_sizes, .ref tq_inner, .ref tq_nexts, .ref tq_letters, .int t_lettered, .int t_shapes, .int t_looked, .ref tq_sorts, .ref tq_names, .ref tq_wide, .ref tq_kids, .ref tq_many, .ref tq_fallback, .int t_kidCount, .ref tq_kidShape, .ref tq_kidName, .ref tq_kidDefault, .ref tq_kidNext, .int t_done, .ref tq_finished, .int t_root, .ref tq_plain, .int t_plainSize, .ref tq_told])), (tq_bytes, .inl (cB, 4096, .inl t_bytes))]) A) A "java/lang/IllegalStateException" res) [.ref ob0].toArray s (t2_mc res) (t2_ms res) A = Q0
  have hl := lv_entry [.ref ob0] (n := 6) (Nat.le_of_ble_eq_true rfl)
  rw [lg_entry_eq]
  generalize (lg_sl [.ref ob0] ++ List.replicate (6 - (lg_sl [.ref ob0]).length) Slot.unset).toArray = ls at hl ⊢
  have hl : lv_has ls 6 [(0, .ref ob0)] := hl
  unfold m_X9_escaped at hm
  refine lv_aload_n hx hb dX9_escaped_0 rfl (lv_at hl 0 rfl) ?_
  refine va_get (D := (dC, dI)) (ci := 0) (v := .int t_at) (C := RX9) (T := TX9) (N := 35) hx hb hts (inX9 _) hown hK hP 0 rfl rfl 2 (by decide) (hts _ (List.mem_cons_of_mem _ wf9_95)) (fun _ h9 => h9) rfl dX9_escaped_1 ?_
  refine lv_istore_n (lv' := [(1, .int t_at), (0, .ref ob0)]) hx hb dX9_escaped_4 rfl hl (by decide) rfl (fun ls hl => ?_)
  refine lv_aload_n hx hb dX9_escaped_5 rfl (lv_at hl 1 rfl) ?_
  refine lv_dup hx hb dX9_escaped_6 rfl ?_
  refine va_get (D := (dC, dI)) (ci := 0) (v := .int t_at) (C := RX9) (T := TX9) (N := 35) hx hb hts (inX9 _) hown hK hP 0 rfl rfl 2 (by decide) (hts _ (List.mem_cons_of_mem _ wf9_95)) (fun _ h9 => h9) rfl dX9_escaped_7 ?_
  refine lv_iconst (v := 1) hx hb dX9_escaped_10 (by decide) ?_
  refine lv_iadd hx hb dX9_escaped_11 ?_
  refine va_put (D := (dC, dI)) (ci := 0) (v := .int (t_at + 1)) (ty := .int) (C := RX9) (T := TX9) (N := 35) hx hb hts (inX9 _) tyX9 tyX9_ok nmX9 hown hK hP hD hS 0 rfl rfl 2 (by decide) (hts _ (List.mem_cons_of_mem _ wf9_95)) (fun _ h9 => h9) rfl (by decide +kernel) rfl rfl (Nat.le_of_ble_eq_true rfl) dX9_escaped_12 (fun H locs hP hD hS => ?_)
  have hP : va_P (dC, dI) srCl [(ob0, .inr (0, [.ref tq_bytes, .int t_length, .int (t_at + 1), .int t_deep, .int t_fault, .int t_place, .int t_end, .int t_nodes, .ref tq_kinds, .ref tq_firsts, .ref tq_numbers, .ref tq_sizes, .ref tq_inner, .ref tq_nexts, .ref tq_letters, .int t_lettered, .int t_shapes, .int t_looked, .ref tq_sorts, .ref tq_names, .ref tq_wide, .ref tq_kids, .ref tq_many, .ref tq_fallback, .int t_kidCount, .ref tq_kidShape, .ref tq_kidName, .ref tq_kidDefault, .ref tq_kidNext, .int t_done, .ref tq_finished, .int t_root, .ref tq_plain, .int t_plainSize, .ref tq_told])), (tq_bytes, .inl (cB, 4096, .inl t_bytes))] H := hP
  have hD : va_D A [(ob0, .inr (0, [.ref tq_bytes, .int t_length, .int (t_at + 1), .int t_deep, .int t_fault, .int t_place, .int t_end, .int t_nodes, .ref tq_kinds, .ref tq_firsts, .ref tq_numbers, .ref tq_sizes, .ref tq_inner, .ref tq_nexts, .ref tq_letters, .int t_lettered, .int t_shapes, .int t_looked, .ref tq_sorts, .ref tq_names, .ref tq_wide, .ref tq_kids, .ref tq_many, .ref tq_fallback, .int t_kidCount, .ref tq_kidShape, .ref tq_kidName, .ref tq_kidDefault, .ref tq_kidNext, .int t_done, .ref tq_finished, .int t_root, .ref tq_plain, .int t_plainSize, .ref tq_told])), (tq_bytes, .inl (cB, 4096, .inl t_bytes))] := hD
  refine lv_aload_n hx hb dX9_escaped_15 rfl (lv_at hl 1 rfl) ?_
  obtain ⟨r1, hz1, hm⟩ := mr_bind hm
  refine mr_pV (As := []) (rest := []) (sr_okZ adK adV) ⟨hx, hb, hml, hown, hts⟩ (kX9_look l htr dC dI adK adV cI cB cJ cZ cQ ob0 tq_bytes tq_kinds tq_firsts tq_numbers tq_sizes tq_inner tq_nexts tq_letters tq_sorts tq_names tq_wide tq_kids tq_many tq_fallback tq_kidShape tq_kidName tq_kidDefault tq_kidNext tq_finished tq_plain tq_told t_length (t_at + 1) t_deep t_fault t_place t_end t_nodes t_lettered t_shapes t_looked t_kidCount t_done t_root t_plainSize t_bytes r1 hz1) (cwV 0 hts (g9_101 _) rfl rfl rfl (by decide +kernel) ⟨(by show 0 + 1 ≤ 11; omega), (by show 8 + (1 + 11) + (0) ≤ 186; omega)⟩) hS hP hK hz0 [0, 1] rfl (va_recv hK hP (ci := 0) (q0 := 0) rfl rfl) rfl rfl hl.1 (Nat.le_of_ble_eq_true rfl) dX9_escaped_16 ⟨Nat.zero_le _, Nat.zero_le _⟩ ?_
  refine lv_istore_n (lv' := [(2, .int r1), (1, .int t_at), (0, .ref ob0)]) hx hb dX9_escaped_19 rfl hl (by decide) rfl (fun ls hl => ?_)
  refine lv_iload_n hx hb dX9_escaped_20 rfl (lv_at hl 0 rfl) ?_
  have j35 : ∀ (t_at : Int32) (t_fault : Int32) (t_place : Int32) (x1 : Int32) (y0 : Int32) (H : Heap) (locs : List Loc) (ls : Array Slot), va_P (dC, dI) srCl [(ob0, .inr (0, [.ref tq_bytes, .int t_length, .int t_at, .int t_deep, .int t_fault, .int t_place, .int t_end, .int t_nodes, .ref tq_kinds, .ref tq_firsts, .ref tq_numbers, .ref tq_sizes, .ref tq_inner, .ref tq_nexts, .ref tq_letters, .int t_lettered, .int t_shapes, .int t_looked, .ref tq_sorts, .ref tq_names, .ref tq_wide, .ref tq_kids, .ref tq_many, .ref tq_fallback, .int t_kidCount, .ref tq_kidShape, .ref tq_kidName, .ref tq_kidDefault, .ref tq_kidNext, .int t_done, .ref tq_finished, .int t_root, .ref tq_plain, .int t_plainSize, .ref tq_told])), (tq_bytes, .inl (cB, 4096, .inl t_bytes))] H → va_D A [(ob0, .inr (0, [.ref tq_bytes, .int t_length, .int t_at, .int t_deep, .int t_fault, .int t_place, .int t_end, .int t_nodes, .ref tq_kinds, .ref tq_firsts, .ref tq_numbers, .ref tq_sizes, .ref tq_inner, .ref tq_nexts, .ref tq_letters, .int t_lettered, .int t_shapes, .int t_looked, .ref tq_sorts, .ref tq_names, .ref tq_wide, .ref tq_kids, .ref tq_many, .ref tq_fallback, .int t_kidCount, .ref tq_kidShape, .ref tq_kidName, .ref tq_kidDefault, .ref tq_kidNext, .int t_done, .ref tq_finished, .int t_root, .ref tq_plain, .int t_plainSize, .ref tq_told])), (tq_bytes, .inl (cB, 4096, .inl t_bytes))] → va_S A s.heap H locs → lv_has ls 6 [(0, .ref ob0), (1, .int x1)] → m_X9_escaped_35 t_bytes t_length t_at t_fault t_place x1 y0 = some res → W p l e (headSpec wsX9_escaped (rmX9_escaped (t2_mc res) (t2_ms res))).room s m [.ref ob0].toArray below meth c H locs 0 0 Q0 (F0 m 35 ls [.int y0]) := by
    intro t_at t_fault t_place x1 y0 H locs ls hP hD hS hl hm
    unfold m_X9_escaped_35 at hm
    refine lv_istore_n (lv' := [(3, .int y0), (0, .ref ob0), (1, .int x1)]) hx hb dX9_escaped_35 rfl hl (by decide) rfl (fun ls hl => ?_)
    refine lv_iload_n hx hb dX9_escaped_36 rfl (lv_at hl 0 rfl) ?_
    refine lv_if_lt (tgt := 123) hx hb dX9_escaped_37 (by decide) (fun c2 => ?_) (fun c2 => ?_)
    · have hm := mr_if c2 hm
      refine lv_aload_n hx hb dX9_escaped_123 rfl (lv_at hl 1 rfl) ?_
      refine lv_bipush (v := 117) hx hb dX9_escaped_124 (by decide) ?_
      rcases mr_tried hm with ⟨r3, ⟨t_at_3, t_fault_3, t_place_3⟩, hz3, hm⟩ | ⟨⟨t_at_3, t_fault_3, t_place_3⟩, hz3, hm⟩
      · try dsimp only at hm
        refine mr_wVv (As := [.int 117]) (rest := []) (sr_okZ adK adV) ⟨hx, hb, hml, hown, hts⟩ (t2_okV (kX9_take l htr dC dI adK adV cI cB cJ cZ cQ ob0 tq_bytes tq_kinds tq_firsts tq_numbers tq_sizes tq_inner tq_nexts tq_letters tq_sorts tq_names tq_wide tq_kids tq_many tq_fallback tq_kidShape tq_kidName tq_kidDefault tq_kidNext tq_finished tq_plain tq_told t_length t_at t_deep t_fault t_place t_end t_nodes t_lettered t_shapes t_looked t_kidCount t_done t_root t_plainSize t_bytes _ 117 _ hz3)) (cwV 1 hts (g9_145 _) rfl rfl rfl (by decide +kernel) ⟨(by show 10 + 1 ≤ 11; omega), (by show 8 + (2 + 11) + (165) ≤ 186; omega)⟩) hS hA hP hD hK hz0 (wr := []) (w1 := [(ob0, .inr (0, [.ref tq_bytes, .int t_length, .int t_at_3, .int t_deep, .int t_fault_3, .int t_place_3, .int t_end, .int t_nodes, .ref tq_kinds, .ref tq_firsts, .ref tq_numbers, .ref tq_sizes, .ref tq_inner, .ref tq_nexts, .ref tq_letters, .int t_lettered, .int t_shapes, .int t_looked, .ref tq_sorts, .ref tq_names, .ref tq_wide, .ref tq_kids, .ref tq_many, .ref tq_fallback, .int t_kidCount, .ref tq_kidShape, .ref tq_kidName, .ref tq_kidDefault, .ref tq_kidNext, .int t_done, .ref tq_finished, .int t_root, .ref tq_plain, .int t_plainSize, .ref tq_told])), (tq_bytes, .inl (cB, 4096, .inl t_bytes))]) [0, 1] [] [0, 1] rfl rfl rfl rfl rfl (by decide) rfl rfl rfl (va_recv hK hP (ci := 0) (q0 := 0) rfl rfl) rfl rfl hl.1 (Nat.le_of_ble_eq_true rfl) dX9_escaped_126 ⟨Nat.zero_le _, Nat.zero_le _⟩ (fun H locs hP hD hS => ?_)
        refine lv_iconst (v := 0) hx hb dX9_escaped_129 (by decide) ?_
        refine lv_istore (lv' := [(4, .int 0), (3, .int y0), (0, .ref ob0), (1, .int x1)]) hx hb dX9_escaped_130 hl (by decide) rfl (fun ls hl => ?_)
        refine lv_iconst (v := 0) hx hb dX9_escaped_132 (by decide) ?_
        have j135 : ∀ (n135 : Nat) (t_at : Int32) (t_fault : Int32) (t_place : Int32) (x1 : Int32) (x4 : Int32) (x5 : Int32) (H : Heap) (locs : List Loc) (ls : Array Slot), va_P (dC, dI) srCl [(ob0, .inr (0, [.ref tq_bytes, .int t_length, .int t_at, .int t_deep, .int t_fault, .int t_place, .int t_end, .int t_nodes, .ref tq_kinds, .ref tq_firsts, .ref tq_numbers, .ref tq_sizes, .ref tq_inner, .ref tq_nexts, .ref tq_letters, .int t_lettered, .int t_shapes, .int t_looked, .ref tq_sorts, .ref tq_names, .ref tq_wide, .ref tq_kids, .ref tq_many, .ref tq_fallback, .int t_kidCount, .ref tq_kidShape, .ref tq_kidName, .ref tq_kidDefault, .ref tq_kidNext, .int t_done, .ref tq_finished, .int t_root, .ref tq_plain, .int t_plainSize, .ref tq_told])), (tq_bytes, .inl (cB, 4096, .inl t_bytes))] H → va_D A [(ob0, .inr (0, [.ref tq_bytes, .int t_length, .int t_at, .int t_deep, .int t_fault, .int t_place, .int t_end, .int t_nodes, .ref tq_kinds, .ref tq_firsts, .ref tq_numbers, .ref tq_sizes, .ref tq_inner, .ref tq_nexts, .ref tq_letters, .int t_lettered, .int t_shapes, .int t_looked, .ref tq_sorts, .ref tq_names, .ref tq_wide, .ref tq_kids, .ref tq_many, .ref tq_fallback, .int t_kidCount, .ref tq_kidShape, .ref tq_kidName, .ref tq_kidDefault, .ref tq_kidNext, .int t_done, .ref tq_finished, .int t_root, .ref tq_plain, .int t_plainSize, .ref tq_told])), (tq_bytes, .inl (cB, 4096, .inl t_bytes))] → va_S A s.heap H locs → lv_has ls 6 [(0, .ref ob0), (1, .int x1), (4, .int x4), (5, .int x5)] → m_X9_escaped_135 t_bytes t_length n135 t_at t_fault t_place x1 x4 x5 = some res → W p l e (headSpec wsX9_escaped (rmX9_escaped (t2_mc res) (t2_ms res))).room s m [.ref ob0].toArray below meth c H locs 0 0 Q0 (F0 m 135 ls []) := by
          intro n135
          induction n135 with
          | zero => intro t_at t_fault t_place x1 x4 x5 H locs ls hP hD hS hl hm; exact nomatch (show (none : Option _) = some res from hm)
          | succ n135 ih135 =>
            intro t_at t_fault t_place x1 x4 x5 H locs ls hP hD hS hl hm
            rw [m_X9_escaped_135] at hm
            refine lv_iload hx hb dX9_escaped_135 (lv_at hl 3 rfl) ?_
            refine lv_iconst (v := 4) hx hb dX9_escaped_137 (by decide) ?_
            refine lv_icmp_ge (tgt := 196) hx hb dX9_escaped_138 (by decide) (fun c4 => ?_) (fun c4 => ?_)
            · have hm := mr_if c4 hm
              refine lv_aload_n hx hb dX9_escaped_196 rfl (lv_at hl 0 rfl) ?_
              refine lv_iload hx hb dX9_escaped_197 (lv_at hl 2 rfl) ?_
              refine lv_sipush (v := 256) hx hb dX9_escaped_199 (by decide) ?_
              have j210 : ∀ (t_at : Int32) (t_fault : Int32) (t_place : Int32) (x1 : Int32) (x4 : Int32) (y0 : Int32) (H : Heap) (locs : List Loc) (ls : Array Slot), va_P (dC, dI) srCl [(ob0, .inr (0, [.ref tq_bytes, .int t_length, .int t_at, .int t_deep, .int t_fault, .int t_place, .int t_end, .int t_nodes, .ref tq_kinds, .ref tq_firsts, .ref tq_numbers, .ref tq_sizes, .ref tq_inner, .ref tq_nexts, .ref tq_letters, .int t_lettered, .int t_shapes, .int t_looked, .ref tq_sorts, .ref tq_names, .ref tq_wide, .ref tq_kids, .ref tq_many, .ref tq_fallback, .int t_kidCount, .ref tq_kidShape, .ref tq_kidName, .ref tq_kidDefault, .ref tq_kidNext, .int t_done, .ref tq_finished, .int t_root, .ref tq_plain, .int t_plainSize, .ref tq_told])), (tq_bytes, .inl (cB, 4096, .inl t_bytes))] H → va_D A [(ob0, .inr (0, [.ref tq_bytes, .int t_length, .int t_at, .int t_deep, .int t_fault, .int t_place, .int t_end, .int t_nodes, .ref tq_kinds, .ref tq_firsts, .ref tq_numbers, .ref tq_sizes, .ref tq_inner, .ref tq_nexts, .ref tq_letters, .int t_lettered, .int t_shapes, .int t_looked, .ref tq_sorts, .ref tq_names, .ref tq_wide, .ref tq_kids, .ref tq_many, .ref tq_fallback, .int t_kidCount, .ref tq_kidShape, .ref tq_kidName, .ref tq_kidDefault, .ref tq_kidNext, .int t_done, .ref tq_finished, .int t_root, .ref tq_plain, .int t_plainSize, .ref tq_told])), (tq_bytes, .inl (cB, 4096, .inl t_bytes))] → va_S A s.heap H locs → lv_has ls 6 [(1, .int x1), (4, .int x4)] → m_X9_escaped_210 t_bytes t_length t_at t_fault t_place x1 x4 y0 = some res → W p l e (headSpec wsX9_escaped (rmX9_escaped (t2_mc res) (t2_ms res))).room s m [.ref ob0].toArray below meth c H locs 0 0 Q0 (F0 m 210 ls [.int y0, .ref ob0]) := by
                intro t_at t_fault t_place x1 x4 y0 H locs ls hP hD hS hl hm
                unfold m_X9_escaped_210 at hm
                refine lv_iconst (v := 1) hx hb dX9_escaped_210 (by decide) ?_
                refine lv_iload_n hx hb dX9_escaped_211 rfl (lv_at hl 0 rfl) ?_
                rcases mr_tried hm with ⟨r5, ⟨t_fault_5, t_place_5⟩, hz5, hm⟩ | ⟨⟨t_fault_5, t_place_5⟩, hz5, hm⟩
                · try dsimp only at hm
                  refine mr_wVv (As := [.int y0, .int 1, .int x1]) (rest := []) (sr_okZ adK adV) ⟨hx, hb, hml, hown, hts⟩ (t2_okV (kX9_need l htr dC dI adK adV cI cB cJ cZ cQ ob0 tq_bytes tq_kinds tq_firsts tq_numbers tq_sizes tq_inner tq_nexts tq_letters tq_sorts tq_names tq_wide tq_kids tq_many tq_fallback tq_kidShape tq_kidName tq_kidDefault tq_kidNext tq_finished tq_plain tq_told t_length t_at t_deep t_fault t_place t_end t_nodes t_lettered t_shapes t_looked t_kidCount t_done t_root t_plainSize _ y0 1 x1 _ hz5)) (cwV 3 hts (g9_105 _) rfl rfl rfl (by decide +kernel) ⟨(by show 9 + 1 ≤ 11; omega), (by show 8 + (4 + 11) + (142) ≤ 186; omega)⟩) hS hA hP hD hK hz0 (wr := [(tq_bytes, .inl (cB, 4096, .inl t_bytes))]) (w1 := [(ob0, .inr (0, [.ref tq_bytes, .int t_length, .int t_at, .int t_deep, .int t_fault_5, .int t_place_5, .int t_end, .int t_nodes, .ref tq_kinds, .ref tq_firsts, .ref tq_numbers, .ref tq_sizes, .ref tq_inner, .ref tq_nexts, .ref tq_letters, .int t_lettered, .int t_shapes, .int t_looked, .ref tq_sorts, .ref tq_names, .ref tq_wide, .ref tq_kids, .ref tq_many, .ref tq_fallback, .int t_kidCount, .ref tq_kidShape, .ref tq_kidName, .ref tq_kidDefault, .ref tq_kidNext, .int t_done, .ref tq_finished, .int t_root, .ref tq_plain, .int t_plainSize, .ref tq_told])), (tq_bytes, .inl (cB, 4096, .inl t_bytes))]) [0] [1] [1, 0] rfl rfl rfl rfl rfl (by decide) rfl rfl rfl (va_recv hK hP (ci := 0) (q0 := 0) rfl rfl) rfl rfl hl.1 (Nat.le_of_ble_eq_true rfl) dX9_escaped_212 ⟨Nat.zero_le _, Nat.zero_le _⟩ (fun H locs hP hD hS => ?_)
                  refine lv_iload hx hb dX9_escaped_215 (lv_at hl 1 rfl) ?_
                  obtain rfl := Option.some.inj hm
                  subst hQ0
                  exact t2_iret (v := x4) hx hb hr (fun t ht hW => ⟨⟨rfl, by rw [ht]; exact hP, va_K.moved hW.alike hK, hD⟩, hS.F ht⟩) hS.2.2 dX9_escaped_217 hlocks
                · try dsimp only at hm
                  subst hm
                  subst hQ0
                  exact mr_xV (R := (headSpec wsX9_escaped (rmX9_escaped (t2_mc (.error (t_at, t_fault_5, t_place_5) : Except (Int32 × Int32 × Int32) (Int32 × (Int32 × Int32 × Int32)))) (t2_ms (.error (t_at, t_fault_5, t_place_5) : Except (Int32 × Int32 × Int32) (Int32 × (Int32 × Int32 × Int32)))))).room) (cells := 0) (slots := 0) (As := [.int y0, .int 1, .int x1]) (rest := []) (wf' := (fun u : Int32 × Int32 × Int32 => [(ob0, .inr (0, [.ref tq_bytes, .int t_length, .int u.1, .int t_deep, .int u.2.1, .int u.2.2, .int t_end, .int t_nodes, .ref tq_kinds, .ref tq_firsts, .ref tq_numbers, .ref tq_sizes, .ref tq_inner, .ref tq_nexts, .ref tq_letters, .int t_lettered, .int t_shapes, .int t_looked, .ref tq_sorts, .ref tq_names, .ref tq_wide, .ref tq_kids, .ref tq_many, .ref tq_fallback, .int t_kidCount, .ref tq_kidShape, .ref tq_kidName, .ref tq_kidDefault, .ref tq_kidNext, .int t_done, .ref tq_finished, .int t_root, .ref tq_plain, .int t_plainSize, .ref tq_told])), (tq_bytes, .inl (cB, 4096, .inl t_bytes))])) (u' := (t_at, t_fault_5, t_place_5)) (sr_okZ adK adV) ⟨hx, hb, hml, hown, hts⟩ (kX9_need l htr dC dI adK adV cI cB cJ cZ cQ ob0 tq_bytes tq_kinds tq_firsts tq_numbers tq_sizes tq_inner tq_nexts tq_letters tq_sorts tq_names tq_wide tq_kids tq_many tq_fallback tq_kidShape tq_kidName tq_kidDefault tq_kidNext tq_finished tq_plain tq_told t_length t_at t_deep t_fault t_place t_end t_nodes t_lettered t_shapes t_looked t_kidCount t_done t_root t_plainSize _ y0 1 x1 _ hz5) (cwV 3 hts (g9_105 _) rfl rfl rfl (by decide +kernel) ⟨(by show 9 + 1 ≤ 11; omega), (by show 8 + (4 + 11) + (142) ≤ 186; omega)⟩) hS hA hP hD hK hz0 (wr := [(tq_bytes, .inl (cB, 4096, .inl t_bytes))]) [0] [1] [1, 0] rfl rfl rfl rfl rfl (by decide) rfl rfl rfl (va_recv hK hP (ci := 0) (q0 := 0) rfl rfl) rfl rfl hl.1 (Nat.le_of_ble_eq_true rfl) dX9_escaped_212 rfl rfl ⟨Nat.le_refl _, Nat.le_refl _⟩ hex hlocks
              refine lv_icmp_ge (tgt := 209) hx hb dX9_escaped_202 (by decide) (fun c6 => ?_) (fun c6 => ?_)
              · have hm := mr_if c6 hm
                refine lv_iconst (v := 0) hx hb dX9_escaped_209 (by decide) ?_
                exact j210 t_at t_fault t_place x1 x4 0 _ _ ls hP hD hS (lv_sub hl [1, 2] rfl) hm
              · have hm := mr_un c6 hm
                refine lv_iconst (v := 1) hx hb dX9_escaped_205 (by decide) ?_
                refine lv_goto (tgt := 210) hx hb dX9_escaped_206 (by decide) ?_
                exact j210 t_at t_fault t_place x1 x4 1 _ _ ls hP hD hS (lv_sub hl [1, 2] rfl) hm
            · have hm := mr_un c4 hm
              refine lv_aload_n hx hb dX9_escaped_141 rfl (lv_at hl 0 rfl) ?_
              refine lv_aload_n hx hb dX9_escaped_142 rfl (lv_at hl 0 rfl) ?_
              obtain ⟨r7, hz7, hm⟩ := mr_bind hm
              refine mr_pV (As := []) (rest := [.ref ob0]) (sr_okZ adK adV) ⟨hx, hb, hml, hown, hts⟩ (kX9_look l htr dC dI adK adV cI cB cJ cZ cQ ob0 tq_bytes tq_kinds tq_firsts tq_numbers tq_sizes tq_inner tq_nexts tq_letters tq_sorts tq_names tq_wide tq_kids tq_many tq_fallback tq_kidShape tq_kidName tq_kidDefault tq_kidNext tq_finished tq_plain tq_told t_length t_at t_deep t_fault t_place t_end t_nodes t_lettered t_shapes t_looked t_kidCount t_done t_root t_plainSize t_bytes r7 hz7) (cwV 0 hts (g9_101 _) rfl rfl rfl (by decide +kernel) ⟨(by show 0 + 1 ≤ 11; omega), (by show 8 + (1 + 11) + (0) ≤ 186; omega)⟩) hS hP hK hz0 [0, 1] rfl (va_recv hK hP (ci := 0) (q0 := 0) rfl rfl) rfl rfl hl.1 (Nat.le_of_ble_eq_true rfl) dX9_escaped_143 ⟨Nat.zero_le _, Nat.zero_le _⟩ ?_
              obtain ⟨r8, hz8, hm⟩ := mr_bind hm
              refine mr_pS (As := [.int r7]) (rest := [.ref ob0]) (sr_okZ adK adV) ⟨hx, hb, hml, hown, hts⟩ (kX9_hex l htr dC dI adK adV cI cB cJ cZ cQ  r7 r8 hz8) (va_cwS 1 hts (g9_164 _) rfl rfl rfl (by decide +kernel) ⟨(by show 0 + 1 ≤ 11; omega), (by show 8 + (1 + 11) + (0) ≤ 186; omega)⟩) hS hP hK hz0 [] rfl rfl rfl hl.1 (Nat.le_of_ble_eq_true rfl) dX9_escaped_146 ⟨Nat.zero_le _, Nat.zero_le _⟩ ?_
              have j157 : ∀ (t_at : Int32) (t_fault : Int32) (t_place : Int32) (x1 : Int32) (x4 : Int32) (x5 : Int32) (y0 : Int32) (H : Heap) (locs : List Loc) (ls : Array Slot), va_P (dC, dI) srCl [(ob0, .inr (0, [.ref tq_bytes, .int t_length, .int t_at, .int t_deep, .int t_fault, .int t_place, .int t_end, .int t_nodes, .ref tq_kinds, .ref tq_firsts, .ref tq_numbers, .ref tq_sizes, .ref tq_inner, .ref tq_nexts, .ref tq_letters, .int t_lettered, .int t_shapes, .int t_looked, .ref tq_sorts, .ref tq_names, .ref tq_wide, .ref tq_kids, .ref tq_many, .ref tq_fallback, .int t_kidCount, .ref tq_kidShape, .ref tq_kidName, .ref tq_kidDefault, .ref tq_kidNext, .int t_done, .ref tq_finished, .int t_root, .ref tq_plain, .int t_plainSize, .ref tq_told])), (tq_bytes, .inl (cB, 4096, .inl t_bytes))] H → va_D A [(ob0, .inr (0, [.ref tq_bytes, .int t_length, .int t_at, .int t_deep, .int t_fault, .int t_place, .int t_end, .int t_nodes, .ref tq_kinds, .ref tq_firsts, .ref tq_numbers, .ref tq_sizes, .ref tq_inner, .ref tq_nexts, .ref tq_letters, .int t_lettered, .int t_shapes, .int t_looked, .ref tq_sorts, .ref tq_names, .ref tq_wide, .ref tq_kids, .ref tq_many, .ref tq_fallback, .int t_kidCount, .ref tq_kidShape, .ref tq_kidName, .ref tq_kidDefault, .ref tq_kidNext, .int t_done, .ref tq_finished, .int t_root, .ref tq_plain, .int t_plainSize, .ref tq_told])), (tq_bytes, .inl (cB, 4096, .inl t_bytes))] → va_S A s.heap H locs → lv_has ls 6 [(0, .ref ob0), (1, .int x1), (4, .int x4), (5, .int x5)] → m_X9_escaped_157 t_bytes t_length (m_X9_escaped_135 t_bytes t_length n135) t_at t_fault t_place x1 x4 x5 y0 = some res → W p l e (headSpec wsX9_escaped (rmX9_escaped (t2_mc res) (t2_ms res))).room s m [.ref ob0].toArray below meth c H locs 0 0 Q0 (F0 m 157 ls [.int y0, .ref ob0]) := by
                intro t_at t_fault t_place x1 x4 x5 y0 H locs ls hP hD hS hl hm
                unfold m_X9_escaped_157 at hm
                refine lv_iconst (v := 1) hx hb dX9_escaped_157 (by decide) ?_
                refine lv_aload_n hx hb dX9_escaped_158 rfl (lv_at hl 0 rfl) ?_
                refine va_get (D := (dC, dI)) (ci := 0) (v := .int t_at) (C := RX9) (T := TX9) (N := 35) hx hb hts (inX9 _) hown hK hP 0 rfl rfl 2 (by decide) (hts _ (List.mem_cons_of_mem _ wf9_95)) (fun _ h9 => h9) rfl dX9_escaped_159 ?_
                rcases mr_tried hm with ⟨r9, ⟨t_fault_9, t_place_9⟩, hz9, hm⟩ | ⟨⟨t_fault_9, t_place_9⟩, hz9, hm⟩
                · try dsimp only at hm
                  refine mr_wVv (As := [.int y0, .int 1, .int t_at]) (rest := []) (sr_okZ adK adV) ⟨hx, hb, hml, hown, hts⟩ (t2_okV (kX9_need l htr dC dI adK adV cI cB cJ cZ cQ ob0 tq_bytes tq_kinds tq_firsts tq_numbers tq_sizes tq_inner tq_nexts tq_letters tq_sorts tq_names tq_wide tq_kids tq_many tq_fallback tq_kidShape tq_kidName tq_kidDefault tq_kidNext tq_finished tq_plain tq_told t_length t_at t_deep t_fault t_place t_end t_nodes t_lettered t_shapes t_looked t_kidCount t_done t_root t_plainSize _ y0 1 t_at _ hz9)) (cwV 3 hts (g9_105 _) rfl rfl rfl (by decide +kernel) ⟨(by show 9 + 1 ≤ 11; omega), (by show 8 + (4 + 11) + (142) ≤ 186; omega)⟩) hS hA hP hD hK hz0 (wr := [(tq_bytes, .inl (cB, 4096, .inl t_bytes))]) (w1 := [(ob0, .inr (0, [.ref tq_bytes, .int t_length, .int t_at, .int t_deep, .int t_fault_9, .int t_place_9, .int t_end, .int t_nodes, .ref tq_kinds, .ref tq_firsts, .ref tq_numbers, .ref tq_sizes, .ref tq_inner, .ref tq_nexts, .ref tq_letters, .int t_lettered, .int t_shapes, .int t_looked, .ref tq_sorts, .ref tq_names, .ref tq_wide, .ref tq_kids, .ref tq_many, .ref tq_fallback, .int t_kidCount, .ref tq_kidShape, .ref tq_kidName, .ref tq_kidDefault, .ref tq_kidNext, .int t_done, .ref tq_finished, .int t_root, .ref tq_plain, .int t_plainSize, .ref tq_told])), (tq_bytes, .inl (cB, 4096, .inl t_bytes))]) [0] [1] [1, 0] rfl rfl rfl rfl rfl (by decide) rfl rfl rfl (va_recv hK hP (ci := 0) (q0 := 0) rfl rfl) rfl rfl hl.1 (Nat.le_of_ble_eq_true rfl) dX9_escaped_162 ⟨Nat.zero_le _, Nat.zero_le _⟩ (fun H locs hP hD hS => ?_)
                  refine lv_bipush (v := 16) hx hb dX9_escaped_165 (by decide) ?_
                  refine lv_iload hx hb dX9_escaped_167 (lv_at hl 2 rfl) ?_
                  refine lv_imul hx hb dX9_escaped_169 ?_
                  refine lv_aload_n hx hb dX9_escaped_170 rfl (lv_at hl 0 rfl) ?_
                  obtain ⟨r10, hz10, hm⟩ := mr_bind hm
                  refine mr_pV (As := []) (rest := [.int (16 * x4)]) (sr_okZ adK adV) ⟨hx, hb, hml, hown, hts⟩ (kX9_look l htr dC dI adK adV cI cB cJ cZ cQ ob0 tq_bytes tq_kinds tq_firsts tq_numbers tq_sizes tq_inner tq_nexts tq_letters tq_sorts tq_names tq_wide tq_kids tq_many tq_fallback tq_kidShape tq_kidName tq_kidDefault tq_kidNext tq_finished tq_plain tq_told t_length t_at t_deep t_fault_9 t_place_9 t_end t_nodes t_lettered t_shapes t_looked t_kidCount t_done t_root t_plainSize t_bytes r10 hz10) (cwV 0 hts (g9_101 _) rfl rfl rfl (by decide +kernel) ⟨(by show 0 + 1 ≤ 11; omega), (by show 8 + (1 + 11) + (0) ≤ 186; omega)⟩) hS hP hK hz0 [0, 1] rfl (va_recv hK hP (ci := 0) (q0 := 0) rfl rfl) rfl rfl hl.1 (Nat.le_of_ble_eq_true rfl) dX9_escaped_171 ⟨Nat.zero_le _, Nat.zero_le _⟩ ?_
                  obtain ⟨r11, hz11, hm⟩ := mr_bind hm
                  refine mr_pS (As := [.int r10]) (rest := [.int (16 * x4)]) (sr_okZ adK adV) ⟨hx, hb, hml, hown, hts⟩ (kX9_hex l htr dC dI adK adV cI cB cJ cZ cQ  r10 r11 hz11) (va_cwS 1 hts (g9_164 _) rfl rfl rfl (by decide +kernel) ⟨(by show 0 + 1 ≤ 11; omega), (by show 8 + (1 + 11) + (0) ≤ 186; omega)⟩) hS hP hK hz0 [] rfl rfl rfl hl.1 (Nat.le_of_ble_eq_true rfl) dX9_escaped_174 ⟨Nat.zero_le _, Nat.zero_le _⟩ ?_
                  refine lv_iadd hx hb dX9_escaped_177 ?_
                  refine lv_istore (lv' := [(4, .int ((16 * x4) + r11)), (0, .ref ob0), (1, .int x1), (5, .int x5)]) hx hb dX9_escaped_178 hl (by decide) rfl (fun ls hl => ?_)
                  refine lv_aload_n hx hb dX9_escaped_180 rfl (lv_at hl 1 rfl) ?_
                  refine lv_dup hx hb dX9_escaped_181 rfl ?_
                  refine va_get (D := (dC, dI)) (ci := 0) (v := .int t_at) (C := RX9) (T := TX9) (N := 35) hx hb hts (inX9 _) hown hK hP 0 rfl rfl 2 (by decide) (hts _ (List.mem_cons_of_mem _ wf9_95)) (fun _ h9 => h9) rfl dX9_escaped_182 ?_
                  refine lv_iconst (v := 1) hx hb dX9_escaped_185 (by decide) ?_
                  refine lv_iadd hx hb dX9_escaped_186 ?_
                  refine va_put (D := (dC, dI)) (ci := 0) (v := .int (t_at + 1)) (ty := .int) (C := RX9) (T := TX9) (N := 35) hx hb hts (inX9 _) tyX9 tyX9_ok nmX9 hown hK hP hD hS 0 rfl rfl 2 (by decide) (hts _ (List.mem_cons_of_mem _ wf9_95)) (fun _ h9 => h9) rfl (by decide +kernel) rfl rfl (Nat.le_of_ble_eq_true rfl) dX9_escaped_187 (fun H locs hP hD hS => ?_)
                  have hP : va_P (dC, dI) srCl [(ob0, .inr (0, [.ref tq_bytes, .int t_length, .int (t_at + 1), .int t_deep, .int t_fault_9, .int t_place_9, .int t_end, .int t_nodes, .ref tq_kinds, .ref tq_firsts, .ref tq_numbers, .ref tq_sizes, .ref tq_inner, .ref tq_nexts, .ref tq_letters, .int t_lettered, .int t_shapes, .int t_looked, .ref tq_sorts, .ref tq_names, .ref tq_wide, .ref tq_kids, .ref tq_many, .ref tq_fallback, .int t_kidCount, .ref tq_kidShape, .ref tq_kidName, .ref tq_kidDefault, .ref tq_kidNext, .int t_done, .ref tq_finished, .int t_root, .ref tq_plain, .int t_plainSize, .ref tq_told])), (tq_bytes, .inl (cB, 4096, .inl t_bytes))] H := hP
                  have hD : va_D A [(ob0, .inr (0, [.ref tq_bytes, .int t_length, .int (t_at + 1), .int t_deep, .int t_fault_9, .int t_place_9, .int t_end, .int t_nodes, .ref tq_kinds, .ref tq_firsts, .ref tq_numbers, .ref tq_sizes, .ref tq_inner, .ref tq_nexts, .ref tq_letters, .int t_lettered, .int t_shapes, .int t_looked, .ref tq_sorts, .ref tq_names, .ref tq_wide, .ref tq_kids, .ref tq_many, .ref tq_fallback, .int t_kidCount, .ref tq_kidShape, .ref tq_kidName, .ref tq_kidDefault, .ref tq_kidNext, .int t_done, .ref tq_finished, .int t_root, .ref tq_plain, .int t_plainSize, .ref tq_told])), (tq_bytes, .inl (cB, 4096, .inl t_bytes))] := hD
                  refine lv_iinc (v := x5 + 1) (lv' := [(5, .int (x5 + 1)), (4, .int ((16 * x4) + r11)), (0, .ref ob0), (1, .int x1)]) hx hb dX9_escaped_190 hl (k := 3) rfl rfl (by decide) rfl (fun ls hl => ?_)
                  refine lv_goto (tgt := 135) hx hb dX9_escaped_193 (by decide) ?_
                  exact ih135 (t_at + 1) t_fault_9 t_place_9 x1 ((16 * x4) + r11) (x5 + 1) _ _ ls hP hD hS (lv_sub hl [2, 3, 1, 0] rfl) hm
                · try dsimp only at hm
                  subst hm
                  subst hQ0
                  exact mr_xV (R := (headSpec wsX9_escaped (rmX9_escaped (t2_mc (.error (t_at, t_fault_9, t_place_9) : Except (Int32 × Int32 × Int32) (Int32 × (Int32 × Int32 × Int32)))) (t2_ms (.error (t_at, t_fault_9, t_place_9) : Except (Int32 × Int32 × Int32) (Int32 × (Int32 × Int32 × Int32)))))).room) (cells := 0) (slots := 0) (As := [.int y0, .int 1, .int t_at]) (rest := []) (wf' := (fun u : Int32 × Int32 × Int32 => [(ob0, .inr (0, [.ref tq_bytes, .int t_length, .int u.1, .int t_deep, .int u.2.1, .int u.2.2, .int t_end, .int t_nodes, .ref tq_kinds, .ref tq_firsts, .ref tq_numbers, .ref tq_sizes, .ref tq_inner, .ref tq_nexts, .ref tq_letters, .int t_lettered, .int t_shapes, .int t_looked, .ref tq_sorts, .ref tq_names, .ref tq_wide, .ref tq_kids, .ref tq_many, .ref tq_fallback, .int t_kidCount, .ref tq_kidShape, .ref tq_kidName, .ref tq_kidDefault, .ref tq_kidNext, .int t_done, .ref tq_finished, .int t_root, .ref tq_plain, .int t_plainSize, .ref tq_told])), (tq_bytes, .inl (cB, 4096, .inl t_bytes))])) (u' := (t_at, t_fault_9, t_place_9)) (sr_okZ adK adV) ⟨hx, hb, hml, hown, hts⟩ (kX9_need l htr dC dI adK adV cI cB cJ cZ cQ ob0 tq_bytes tq_kinds tq_firsts tq_numbers tq_sizes tq_inner tq_nexts tq_letters tq_sorts tq_names tq_wide tq_kids tq_many tq_fallback tq_kidShape tq_kidName tq_kidDefault tq_kidNext tq_finished tq_plain tq_told t_length t_at t_deep t_fault t_place t_end t_nodes t_lettered t_shapes t_looked t_kidCount t_done t_root t_plainSize _ y0 1 t_at _ hz9) (cwV 3 hts (g9_105 _) rfl rfl rfl (by decide +kernel) ⟨(by show 9 + 1 ≤ 11; omega), (by show 8 + (4 + 11) + (142) ≤ 186; omega)⟩) hS hA hP hD hK hz0 (wr := [(tq_bytes, .inl (cB, 4096, .inl t_bytes))]) [0] [1] [1, 0] rfl rfl rfl rfl rfl (by decide) rfl rfl rfl (va_recv hK hP (ci := 0) (q0 := 0) rfl rfl) rfl rfl hl.1 (Nat.le_of_ble_eq_true rfl) dX9_escaped_162 rfl rfl ⟨Nat.le_refl _, Nat.le_refl _⟩ hex hlocks
              refine lv_if_lt (tgt := 156) hx hb dX9_escaped_149 (by decide) (fun c12 => ?_) (fun c12 => ?_)
              · have hm := mr_if c12 hm
                refine lv_iconst (v := 0) hx hb dX9_escaped_156 (by decide) ?_
                exact j157 t_at t_fault t_place x1 x4 x5 0 _ _ ls hP hD hS (lv_sub hl [0, 1, 2, 3] rfl) hm
              · have hm := mr_un c12 hm
                refine lv_iconst (v := 1) hx hb dX9_escaped_152 (by decide) ?_
                refine lv_goto (tgt := 157) hx hb dX9_escaped_153 (by decide) ?_
                exact j157 t_at t_fault t_place x1 x4 x5 1 _ _ ls hP hD hS (lv_sub hl [0, 1, 2, 3] rfl) hm
        refine lv_istore (lv' := [(5, .int 0), (4, .int 0), (3, .int y0), (0, .ref ob0), (1, .int x1)]) hx hb dX9_escaped_133 hl (by decide) rfl (fun ls hl => ?_)
        exact j135 sr_fuel t_at_3 t_fault_3 t_place_3 x1 0 0 _ _ ls hP hD hS (lv_sub hl [3, 4, 1, 0] rfl) hm
      · try dsimp only at hm
        subst hm
        subst hQ0
        exact mr_xV (R := (headSpec wsX9_escaped (rmX9_escaped (t2_mc (.error (t_at_3, t_fault_3, t_place_3) : Except (Int32 × Int32 × Int32) (Int32 × (Int32 × Int32 × Int32)))) (t2_ms (.error (t_at_3, t_fault_3, t_place_3) : Except (Int32 × Int32 × Int32) (Int32 × (Int32 × Int32 × Int32)))))).room) (cells := 0) (slots := 0) (As := [.int 117]) (rest := []) (wf' := (fun u : Int32 × Int32 × Int32 => [(ob0, .inr (0, [.ref tq_bytes, .int t_length, .int u.1, .int t_deep, .int u.2.1, .int u.2.2, .int t_end, .int t_nodes, .ref tq_kinds, .ref tq_firsts, .ref tq_numbers, .ref tq_sizes, .ref tq_inner, .ref tq_nexts, .ref tq_letters, .int t_lettered, .int t_shapes, .int t_looked, .ref tq_sorts, .ref tq_names, .ref tq_wide, .ref tq_kids, .ref tq_many, .ref tq_fallback, .int t_kidCount, .ref tq_kidShape, .ref tq_kidName, .ref tq_kidDefault, .ref tq_kidNext, .int t_done, .ref tq_finished, .int t_root, .ref tq_plain, .int t_plainSize, .ref tq_told])), (tq_bytes, .inl (cB, 4096, .inl t_bytes))])) (u' := (t_at_3, t_fault_3, t_place_3)) (sr_okZ adK adV) ⟨hx, hb, hml, hown, hts⟩ (kX9_take l htr dC dI adK adV cI cB cJ cZ cQ ob0 tq_bytes tq_kinds tq_firsts tq_numbers tq_sizes tq_inner tq_nexts tq_letters tq_sorts tq_names tq_wide tq_kids tq_many tq_fallback tq_kidShape tq_kidName tq_kidDefault tq_kidNext tq_finished tq_plain tq_told t_length t_at t_deep t_fault t_place t_end t_nodes t_lettered t_shapes t_looked t_kidCount t_done t_root t_plainSize t_bytes _ 117 _ hz3) (cwV 1 hts (g9_145 _) rfl rfl rfl (by decide +kernel) ⟨(by show 10 + 1 ≤ 11; omega), (by show 8 + (2 + 11) + (165) ≤ 186; omega)⟩) hS hA hP hD hK hz0 (wr := []) [0, 1] [] [0, 1] rfl rfl rfl rfl rfl (by decide) rfl rfl rfl (va_recv hK hP (ci := 0) (q0 := 0) rfl rfl) rfl rfl hl.1 (Nat.le_of_ble_eq_true rfl) dX9_escaped_126 rfl rfl ⟨Nat.le_refl _, Nat.le_refl _⟩ hex hlocks
    · have hm := mr_un c2 hm
      refine lv_aload_n hx hb dX9_escaped_40 rfl (lv_at hl 1 rfl) ?_
      refine lv_dup hx hb dX9_escaped_41 rfl ?_
      refine va_get (D := (dC, dI)) (ci := 0) (v := .int t_at) (C := RX9) (T := TX9) (N := 35) hx hb hts (inX9 _) hown hK hP 0 rfl rfl 2 (by decide) (hts _ (List.mem_cons_of_mem _ wf9_95)) (fun _ h9 => h9) rfl dX9_escaped_42 ?_
      refine lv_iconst (v := 1) hx hb dX9_escaped_45 (by decide) ?_
      refine lv_iadd hx hb dX9_escaped_46 ?_
      refine va_put (D := (dC, dI)) (ci := 0) (v := .int (t_at + 1)) (ty := .int) (C := RX9) (T := TX9) (N := 35) hx hb hts (inX9 _) tyX9 tyX9_ok nmX9 hown hK hP hD hS 0 rfl rfl 2 (by decide) (hts _ (List.mem_cons_of_mem _ wf9_95)) (fun _ h9 => h9) rfl (by decide +kernel) rfl rfl (Nat.le_of_ble_eq_true rfl) dX9_escaped_47 (fun H locs hP hD hS => ?_)
      have hP : va_P (dC, dI) srCl [(ob0, .inr (0, [.ref tq_bytes, .int t_length, .int (t_at + 1), .int t_deep, .int t_fault, .int t_place, .int t_end, .int t_nodes, .ref tq_kinds, .ref tq_firsts, .ref tq_numbers, .ref tq_sizes, .ref tq_inner, .ref tq_nexts, .ref tq_letters, .int t_lettered, .int t_shapes, .int t_looked, .ref tq_sorts, .ref tq_names, .ref tq_wide, .ref tq_kids, .ref tq_many, .ref tq_fallback, .int t_kidCount, .ref tq_kidShape, .ref tq_kidName, .ref tq_kidDefault, .ref tq_kidNext, .int t_done, .ref tq_finished, .int t_root, .ref tq_plain, .int t_plainSize, .ref tq_told])), (tq_bytes, .inl (cB, 4096, .inl t_bytes))] H := hP
      have hD : va_D A [(ob0, .inr (0, [.ref tq_bytes, .int t_length, .int (t_at + 1), .int t_deep, .int t_fault, .int t_place, .int t_end, .int t_nodes, .ref tq_kinds, .ref tq_firsts, .ref tq_numbers, .ref tq_sizes, .ref tq_inner, .ref tq_nexts, .ref tq_letters, .int t_lettered, .int t_shapes, .int t_looked, .ref tq_sorts, .ref tq_names, .ref tq_wide, .ref tq_kids, .ref tq_many, .ref tq_fallback, .int t_kidCount, .ref tq_kidShape, .ref tq_kidName, .ref tq_kidDefault, .ref tq_kidNext, .int t_done, .ref tq_finished, .int t_root, .ref tq_plain, .int t_plainSize, .ref tq_told])), (tq_bytes, .inl (cB, 4096, .inl t_bytes))] := hD
      refine lv_iload_n hx hb dX9_escaped_50 rfl (lv_at hl 0 rfl) ?_
      refine lv_if_ne (tgt := 59) hx hb dX9_escaped_51 (by decide) (fun c13 => ?_) (fun c13 => ?_)
      · have hm := mr_un c13 hm
        refine lv_iload_n hx hb dX9_escaped_59 rfl (lv_at hl 0 rfl) ?_
        refine lv_iconst (v := 1) hx hb dX9_escaped_60 (by decide) ?_
        refine lv_icmp_ne (tgt := 69) hx hb dX9_escaped_61 (by decide) (fun c14 => ?_) (fun c14 => ?_)
        · have hm := mr_un c14 hm
          refine lv_iload_n hx hb dX9_escaped_69 rfl (lv_at hl 0 rfl) ?_
          refine lv_iconst (v := 2) hx hb dX9_escaped_70 (by decide) ?_
          refine lv_icmp_ne (tgt := 79) hx hb dX9_escaped_71 (by decide) (fun c15 => ?_) (fun c15 => ?_)
          · have hm := mr_un c15 hm
            refine lv_iload_n hx hb dX9_escaped_79 rfl (lv_at hl 0 rfl) ?_
            refine lv_iconst (v := 3) hx hb dX9_escaped_80 (by decide) ?_
            refine lv_icmp_ne (tgt := 89) hx hb dX9_escaped_81 (by decide) (fun c16 => ?_) (fun c16 => ?_)
            · have hm := mr_un c16 hm
              refine lv_iload_n hx hb dX9_escaped_89 rfl (lv_at hl 0 rfl) ?_
              refine lv_iconst (v := 4) hx hb dX9_escaped_90 (by decide) ?_
              refine lv_icmp_ne (tgt := 99) hx hb dX9_escaped_91 (by decide) (fun c17 => ?_) (fun c17 => ?_)
              · have hm := mr_un c17 hm
                refine lv_iload_n hx hb dX9_escaped_99 rfl (lv_at hl 0 rfl) ?_
                refine lv_iconst (v := 5) hx hb dX9_escaped_100 (by decide) ?_
                refine lv_icmp_ne (tgt := 109) hx hb dX9_escaped_101 (by decide) (fun c18 => ?_) (fun c18 => ?_)
                · have hm := mr_un c18 hm
                  refine lv_iload_n hx hb dX9_escaped_109 rfl (lv_at hl 0 rfl) ?_
                  refine lv_bipush (v := 6) hx hb dX9_escaped_110 (by decide) ?_
                  refine lv_icmp_ne (tgt := 120) hx hb dX9_escaped_112 (by decide) (fun c19 => ?_) (fun c19 => ?_)
                  · have hm := mr_un c19 hm
                    refine lv_bipush (v := 9) hx hb dX9_escaped_120 (by decide) ?_
                    obtain rfl := Option.some.inj hm
                    subst hQ0
                    exact t2_iret (v := 9) hx hb hr (fun t ht hW => ⟨⟨rfl, by rw [ht]; exact hP, va_K.moved hW.alike hK, hD⟩, hS.F ht⟩) hS.2.2 dX9_escaped_122 hlocks
                  · have hm := mr_if c19 hm
                    refine lv_bipush (v := 13) hx hb dX9_escaped_115 (by decide) ?_
                    refine lv_goto (tgt := 122) hx hb dX9_escaped_117 (by decide) ?_
                    obtain rfl := Option.some.inj hm
                    subst hQ0
                    exact t2_iret (v := 13) hx hb hr (fun t ht hW => ⟨⟨rfl, by rw [ht]; exact hP, va_K.moved hW.alike hK, hD⟩, hS.F ht⟩) hS.2.2 dX9_escaped_122 hlocks
                · have hm := mr_if c18 hm
                  refine lv_bipush (v := 10) hx hb dX9_escaped_104 (by decide) ?_
                  refine lv_goto (tgt := 122) hx hb dX9_escaped_106 (by decide) ?_
                  obtain rfl := Option.some.inj hm
                  subst hQ0
                  exact t2_iret (v := 10) hx hb hr (fun t ht hW => ⟨⟨rfl, by rw [ht]; exact hP, va_K.moved hW.alike hK, hD⟩, hS.F ht⟩) hS.2.2 dX9_escaped_122 hlocks
              · have hm := mr_if c17 hm
                refine lv_bipush (v := 12) hx hb dX9_escaped_94 (by decide) ?_
                refine lv_goto (tgt := 122) hx hb dX9_escaped_96 (by decide) ?_
                obtain rfl := Option.some.inj hm
                subst hQ0
                exact t2_iret (v := 12) hx hb hr (fun t ht hW => ⟨⟨rfl, by rw [ht]; exact hP, va_K.moved hW.alike hK, hD⟩, hS.F ht⟩) hS.2.2 dX9_escaped_122 hlocks
            · have hm := mr_if c16 hm
              refine lv_bipush (v := 8) hx hb dX9_escaped_84 (by decide) ?_
              refine lv_goto (tgt := 122) hx hb dX9_escaped_86 (by decide) ?_
              obtain rfl := Option.some.inj hm
              subst hQ0
              exact t2_iret (v := 8) hx hb hr (fun t ht hW => ⟨⟨rfl, by rw [ht]; exact hP, va_K.moved hW.alike hK, hD⟩, hS.F ht⟩) hS.2.2 dX9_escaped_122 hlocks
          · have hm := mr_if c15 hm
            refine lv_bipush (v := 47) hx hb dX9_escaped_74 (by decide) ?_
            refine lv_goto (tgt := 122) hx hb dX9_escaped_76 (by decide) ?_
            obtain rfl := Option.some.inj hm
            subst hQ0
            exact t2_iret (v := 47) hx hb hr (fun t ht hW => ⟨⟨rfl, by rw [ht]; exact hP, va_K.moved hW.alike hK, hD⟩, hS.F ht⟩) hS.2.2 dX9_escaped_122 hlocks
        · have hm := mr_if c14 hm
          refine lv_bipush (v := 92) hx hb dX9_escaped_64 (by decide) ?_
          refine lv_goto (tgt := 122) hx hb dX9_escaped_66 (by decide) ?_
          obtain rfl := Option.some.inj hm
          subst hQ0
          exact t2_iret (v := 92) hx hb hr (fun t ht hW => ⟨⟨rfl, by rw [ht]; exact hP, va_K.moved hW.alike hK, hD⟩, hS.F ht⟩) hS.2.2 dX9_escaped_122 hlocks
      · have hm := mr_if c13 hm
        refine lv_bipush (v := 34) hx hb dX9_escaped_54 (by decide) ?_
        refine lv_goto (tgt := 122) hx hb dX9_escaped_56 (by decide) ?_
        obtain rfl := Option.some.inj hm
        subst hQ0
        exact t2_iret (v := 34) hx hb hr (fun t ht hW => ⟨⟨rfl, by rw [ht]; exact hP, va_K.moved hW.alike hK, hD⟩, hS.F ht⟩) hS.2.2 dX9_escaped_122 hlocks
  refine lv_if_ge (tgt := 28) hx hb dX9_escaped_21 (by decide) (fun c20 => ?_) (fun c20 => ?_)
  · have hm := mr_if c20 hm
    refine va_ldcS hx hb hown (hz0.1 39 (by decide)).2 dX9_escaped_28 ?_
    refine lv_iload_n hx hb dX9_escaped_30 rfl (lv_at hl 0 rfl) ?_
    refine lv_i2c hx hb dX9_escaped_31 rfl ?_
    obtain ⟨r21, hz21, hm⟩ := mr_bind hm
    refine mr_pV (As := [.int ((((r1 : Int32).toUInt32 % 65536).toInt32))]) (rest := []) (sr_okZ adK adV) ⟨hx, hb, hml, hown, hts⟩ (kX20_indexOf l htr dC dI adK adV cI cB cJ cZ cQ  39 ((((r1 : Int32).toUInt32 % 65536).toInt32)) r21 hz21) (cwV 1 hts (g9_161 _) rfl rfl rfl (by decide +kernel) ⟨(by show 3 + 1 ≤ 11; omega), (by show 8 + (2 + 11) + (70) ≤ 186; omega)⟩) hS hP hK hz0 [] rfl (sr_recv (hz0.1 39 (by decide)).1.1 hS) rfl rfl hl.1 (Nat.le_of_ble_eq_true rfl) dX9_escaped_32 ⟨Nat.zero_le _, Nat.zero_le _⟩ ?_
    exact j35 (t_at + 1) t_fault t_place t_at r21 _ _ ls hP hD hS (lv_sub hl [2, 1] rfl) hm
  · have hm := mr_un c20 hm
    refine lv_iconst (v := -1) hx hb dX9_escaped_24 (by decide) ?_
    refine lv_goto (tgt := 35) hx hb dX9_escaped_25 (by decide) ?_
    exact j35 (t_at + 1) t_fault t_place t_at (-1) _ _ ls hP hD hS (lv_sub hl [2, 1] rfl) hm
set_option maxHeartbeats 4000000 in
set_option maxRecDepth 100000 in
theorem kX9_string (l : Launch) (htr : l.stackTraces = false) (dC : Nat → ClassId) (dI : Nat → Nat → Nat) (adK adV : Nat → Nat) (cI cB cJ cZ cQ : ClassId) (ob0 tq_bytes tq_kinds tq_firsts tq_numbers tq_sizes tq_inner tq_nexts tq_letters tq_sorts tq_names tq_wide tq_kids tq_many tq_fallback tq_kidShape tq_kidName tq_kidDefault tq_kidNext tq_finished tq_plain tq_told : Nat) (t_length : Int32) (t_at : Int32) (t_deep : Int32) (t_fault : Int32) (t_place : Int32) (t_end : Int32) (t_nodes : Int32) (t_lettered : Int32) (t_shapes : Int32) (t_looked : Int32) (t_kidCount : Int32) (t_done : Int32) (t_root : Int32) (t_plainSize : Int32) (t_bytes : Nat → Int32) (t_kinds : Nat → Int32) (t_firsts : Nat → Int32) (t_numbers : Nat → Int64) (t_sizes : Nat → Int32) (t_inner : Nat → Int32) (t_nexts : Nat → Int32) (t_letters : Nat → Int32) (sz : Nat) (res : Except (Int32 × Int32 × Int32 × Int32 × (Nat → Int32) × (Nat → Int32) × (Nat → Int64) × (Nat → Int32) × (Nat → Int32) × (Nat → Int32) × (Nat → Int32) × Int32) (Int32 × (Int32 × Int32 × Int32 × Int32 × (Nat → Int32) × (Nat → Int32) × (Nat → Int64) × (Nat → Int32) × (Nat → Int32) × (Nat → Int32) × (Nat → Int32) × Int32))) (hm : m_X9_string t_bytes t_length t_at t_fault t_place t_nodes t_kinds t_firsts t_numbers t_sizes t_inner t_nexts t_letters t_lettered = some res) : t2_Met l yX9_string wsX9_string (rmX9_string (t2_mc res) (t2_ms res)) (pcW (sr_Z adK adV) (dC, dI) srCl [(cI, .int), (cB, .byte), (cJ, .long), (cZ, .boolean), (cQ, .object "SchemaReader$Schema")] [.ref ob0] [(ob0, .inr (0, [.ref tq_bytes, .int t_length, .int t_at, .int t_deep, .int t_fault, .int t_place, .int t_end, .int t_nodes, .ref tq_kinds, .ref tq_firsts, .ref tq_numbers, .ref tq_sizes, .ref tq_inner, .ref tq_nexts, .ref tq_letters, .int t_lettered, .int t_shapes, .int t_looked, .ref tq_sorts, .ref tq_names, .ref tq_wide, .ref tq_kids, .ref tq_many, .ref tq_fallback, .int t_kidCount, .ref tq_kidShape, .ref tq_kidName, .ref tq_kidDefault, .ref tq_kidNext, .int t_done, .ref tq_finished, .int t_root, .ref tq_plain, .int t_plainSize, .ref tq_told])), (tq_bytes, .inl (cB, 4096, .inl t_bytes)), (tq_kinds, .inl (cI, 4200, .inl t_kinds)), (tq_firsts, .inl (cI, 4200, .inl t_firsts)), (tq_numbers, .inl (cJ, 4200, .inr (.inl t_numbers))), (tq_sizes, .inl (cI, 4200, .inl t_sizes)), (tq_inner, .inl (cI, 4200, .inl t_inner)), (tq_nexts, .inl (cI, 4200, .inl t_nexts)), (tq_letters, .inl (cB, 4200, .inl t_letters))] sz) (t2_Q t2_rI (pcB (dC, dI) srCl [(cI, .int), (cB, .byte), (cJ, .long), (cZ, .boolean), (cQ, .object "SchemaReader$Schema")] (fun u : Int32 × Int32 × Int32 × Int32 × (Nat → Int32) × (Nat → Int32) × (Nat → Int64) × (Nat → Int32) × (Nat → Int32) × (Nat → Int32) × (Nat → Int32) × Int32 => [(ob0, .inr (0, [.ref tq_bytes, .int t_length, .int u.1, .int t_deep, .int u.2.1, .int u.2.2.1, .int t_end, .int u.2.2.2.1, .ref tq_kinds, .ref tq_firsts, .ref tq_numbers, .ref tq_sizes, .ref tq_inner, .ref tq_nexts, .ref tq_letters, .int u.2.2.2.2.2.2.2.2.2.2.2, .int t_shapes, .int t_looked, .ref tq_sorts, .ref tq_names, .ref tq_wide, .ref tq_kids, .ref tq_many, .ref tq_fallback, .int t_kidCount, .ref tq_kidShape, .ref tq_kidName, .ref tq_kidDefault, .ref tq_kidNext, .int t_done, .ref tq_finished, .int t_root, .ref tq_plain, .int t_plainSize, .ref tq_told])), (tq_bytes, .inl (cB, 4096, .inl t_bytes)), (tq_kinds, .inl (cI, 4200, .inl u.2.2.2.2.1)), (tq_firsts, .inl (cI, 4200, .inl u.2.2.2.2.2.1)), (tq_numbers, .inl (cJ, 4200, .inr (.inl u.2.2.2.2.2.2.1))), (tq_sizes, .inl (cI, 4200, .inl u.2.2.2.2.2.2.2.1)), (tq_inner, .inl (cI, 4200, .inl u.2.2.2.2.2.2.2.2.1)), (tq_nexts, .inl (cI, 4200, .inl u.2.2.2.2.2.2.2.2.2.1)), (tq_letters, .inl (cB, 4200, .inl u.2.2.2.2.2.2.2.2.2.2.1))]) (va_A [(ob0, .inr (0, [.ref tq_bytes, .int t_length, .int t_at, .int t_deep, .int t_fault, .int t_place, .int t_end, .int t_nodes, .ref tq_kinds, .ref tq_firsts, .ref tq_numbers, .ref tq_sizes, .ref tq_inner, .ref tq_nexts, .ref tq_letters, .int t_lettered, .int t_shapes, .int t_looked, .ref tq_sorts, .ref tq_names, .ref tq_wide, .ref tq_kids, .ref tq_many, .ref tq_fallback, .int t_kidCount, .ref tq_kidShape, .ref tq_kidName, .ref tq_kidDefault, .ref tq_kidNext, .int t_done, .ref tq_finished, .int t_root, .ref tq_plain, .int t_plainSize, .ref tq_told])), (tq_bytes, .inl (cB, 4096, .inl t_bytes)), (tq_kinds, .inl (cI, 4200, .inl t_kinds)), (tq_firsts, .inl (cI, 4200, .inl t_firsts)), (tq_numbers, .inl (cJ, 4200, .inr (.inl t_numbers))), (tq_sizes, .inl (cI, 4200, .inl t_sizes)), (tq_inner, .inl (cI, 4200, .inl t_inner)), (tq_nexts, .inl (cI, 4200, .inl t_nexts)), (tq_letters, .inl (cB, 4200, .inl t_letters))] sz)) (va_A [(ob0, .inr (0, [.ref tq_bytes, .int t_length, .int t_at, .int t_deep, .int t_fault, .int t_place, .int t_end, .int t_nodes, .ref tq_kinds, .ref tq_firsts, .ref tq_numbers, .ref tq_sizes, .ref tq_inner, .ref tq_nexts, .ref tq_letters, .int t_lettered, .int t_shapes, .int t_looked, .ref tq_sorts, .ref tq_names, .ref tq_wide, .ref tq_kids, .ref tq_many, .ref tq_fallback, .int t_kidCount, .ref tq_kidShape, .ref tq_kidName, .ref tq_kidDefault, .ref tq_kidNext, .int t_done, .ref tq_finished, .int t_root, .ref tq_plain, .int t_plainSize, .ref tq_told])), (tq_bytes, .inl (cB, 4096, .inl t_bytes)), (tq_kinds, .inl (cI, 4200, .inl t_kinds)), (tq_firsts, .inl (cI, 4200, .inl t_firsts)), (tq_numbers, .inl (cJ, 4200, .inr (.inl t_numbers))), (tq_sizes, .inl (cI, 4200, .inl t_sizes)), (tq_inner, .inl (cI, 4200, .inl t_inner)), (tq_nexts, .inl (cI, 4200, .inl t_nexts)), (tq_letters, .inl (cB, 4200, .inl t_letters))] sz) "java/lang/IllegalStateException" res) (t2_mc res) (t2_ms res) (va_A [(ob0, .inr (0, [.ref tq_bytes, .int t_length, .int t_at, .int t_deep, .int t_fault, .int t_place, .int t_end, .int t_nodes, .ref tq_kinds, .ref tq_firsts, .ref tq_numbers, .ref tq_sizes, .ref tq_inner, .ref tq_nexts, .ref tq_letters, .int t_lettered, .int t_shapes, .int t_looked, .ref tq_sorts, .ref tq_names, .ref tq_wide, .ref tq_kids, .ref tq_many, .ref tq_fallback, .int t_kidCount, .ref tq_kidShape, .ref tq_kidName, .ref tq_kidDefault, .ref tq_kidNext, .int t_done, .ref tq_finished, .int t_root, .ref tq_plain, .int t_plainSize, .ref tq_told])), (tq_bytes, .inl (cB, 4096, .inl t_bytes)), (tq_kinds, .inl (cI, 4200, .inl t_kinds)), (tq_firsts, .inl (cI, 4200, .inl t_firsts)), (tq_numbers, .inl (cJ, 4200, .inr (.inl t_numbers))), (tq_sizes, .inl (cI, 4200, .inl t_sizes)), (tq_inner, .inl (cI, 4200, .inl t_inner)), (tq_nexts, .inl (cI, 4200, .inl t_nexts)), (tq_letters, .inl (cB, 4200, .inl t_letters))] sz) := by
  refine t2_ofW (cc := cX9_string) (maxL := 3) (ret := (some .int)) (by decide) rfl ?_
  intro p e s m args below meth c s₁ B hml hex had hv
  obtain ⟨rfl, hsz, hP, hK, hD0, hz0⟩ := hv
  have hx := B.exec
  have hb := B.bytes
  have hr := B.returns
  have hts := atoms_spec (ws := wsX9_string) B.pre
  have hown : s.vm.findClass RX9 = some m.cls := findClass_of_methodNamed B.named
  have hlocks := B.notSynchronized
  subst hsz
  have hD := hD0.self (sz := s.heap.size)
  generalize hAe : va_A [(ob0, .inr (0, [.ref tq_bytes, .int t_length, .int t_at, .int t_deep, .int t_fault, .int t_place, .int t_end, .int t_nodes, .ref tq_kinds, .ref tq_firsts, .ref tq_numbers, .ref tq_sizes, .ref tq_inner, .ref tq_nexts, .ref tq_letters, .int t_lettered, .int t_shapes, .int t_looked, .ref tq_sorts, .ref tq_names, .ref tq_wide, .ref tq_kids, .ref tq_many, .ref tq_fallback, .int t_kidCount, .ref tq_kidShape, .ref tq_kidName, .ref tq_kidDefault, .ref tq_kidNext, .int t_done, .ref tq_finished, .int t_root, .ref tq_plain, .int t_plainSize, .ref tq_told])), (tq_bytes, .inl (cB, 4096, .inl t_bytes)), (tq_kinds, .inl (cI, 4200, .inl t_kinds)), (tq_firsts, .inl (cI, 4200, .inl t_firsts)), (tq_numbers, .inl (cJ, 4200, .inr (.inl t_numbers))), (tq_sizes, .inl (cI, 4200, .inl t_sizes)), (tq_inner, .inl (cI, 4200, .inl t_inner)), (tq_nexts, .inl (cI, 4200, .inl t_nexts)), (tq_letters, .inl (cB, 4200, .inl t_letters))] s.heap.size = A at hD hz0 ⊢
  have hA : ∀ q : Nat, s.heap.size ≤ q → A q := fun q h => by rw [← hAe]; exact Or.inr h
  have hS : va_S A s.heap s.heap [] := va_S.rf
  generalize hQ0 : t2_MQ below (t2_Q t2_rI (pcB (dC, dI) srCl [(cI, .int), (cB, .byte), (cJ, .long), (cZ, .boolean), (cQ, .object "SchemaReader$Schema")] (fun u : Int32 × Int32 × Int32 × Int32 × (Nat → Int32) × (Nat → Int32) × (Nat → Int64) × (Nat → Int32) × (Nat → Int32) × (Nat → Int32) × (Nat → Int32) × Int32 => [(ob0, .inr (0, [.ref tq_bytes, .int t_length, .int u.1, .int t_deep, .int u.2.1, .int u.2.2.1, .int t_end, .int u.2.2.2.1, .ref tq_kinds, .ref tq_firsts, .ref tq_numbers, .ref tq_sizes, .ref tq_inner, .ref tq_nexts, .ref tq_letters, .int u.2.2.2.2.2.2.2.2.2.2.2, .int t_shapes, .int t_looked, .ref tq_sorts, .ref tq_names, .ref tq_wide, .ref tq_kids, .ref tq_many, .ref tq_fallback, .int t_kidCount, .ref tq_kidShape, .ref tq_kidName, .ref tq_kidDefault, .ref tq_kidNext, .int t_done, .ref tq_finished, .int t_root, .ref tq_plain, .int t_plainSize, .ref tq_told])), (tq_bytes, .inl (cB, 4096, .inl t_bytes)), (tq_kinds, .inl (cI, 4200, .inl u.2.2.2.2.1)), (tq_firsts, .inl (cI, 4200, .inl u.2.2.2.2.2.1)), (tq_numbers, .inl (cJ, 4200, .inr (.inl u.2.2.2.2.2.2.1))), (tq_sizes, .inl (cI, 4200, .inl u.2.2.2.2.2.2.2.1)), (tq_inner, .inl (cI, 4200, .inl u.2.2.2.2.2.2.2.2.1)), (tq_nexts, .inl (cI, 4200, .inl u.2.2.2.2.2.2.2.2.2.1)), (tq_letters, .inl (cB, 4200, .inl u.2.2.2.2.2.2.2.2.2.2.1))]) A) A "java/lang/IllegalStateException" res) [.ref ob0].toArray s (t2_mc res) (t2_ms res) A = Q0
  have hl := lv_entry [.ref ob0] (n := 3) (Nat.le_of_ble_eq_true rfl)
  rw [lg_entry_eq]
  generalize (lg_sl [.ref ob0] ++ List.replicate (3 - (lg_sl [.ref ob0]).length) Slot.unset).toArray = ls at hl ⊢
  have hl : lv_has ls 3 [(0, .ref ob0)] := hl
  unfold m_X9_string at hm
  refine lv_aload_n hx hb dX9_string_0 rfl (lv_at hl 0 rfl) ?_
  refine lv_iconst (v := 2) hx hb dX9_string_1 (by decide) ?_
  obtain ⟨⟨r1, t_nodes_1, t_kinds_1, t_firsts_1, t_numbers_1, t_sizes_1, t_inner_1, t_nexts_1⟩, hz1, hm⟩ := mr_bind hm
  try dsimp only at hm
  refine mr_wVi (As := [.int 2]) (rest := []) (sr_okZ adK adV) ⟨hx, hb, hml, hown, hts⟩ (kX9_node l htr dC dI adK adV cI cB cJ cZ cQ ob0 tq_bytes tq_kinds tq_firsts tq_numbers tq_sizes tq_inner tq_nexts tq_letters tq_sorts tq_names tq_wide tq_kids tq_many tq_fallback tq_kidShape tq_kidName tq_kidDefault tq_kidNext tq_finished tq_plain tq_told t_length t_at t_deep t_fault t_place t_end t_nodes t_lettered t_shapes t_looked t_kidCount t_done t_root t_plainSize t_kinds t_firsts t_numbers t_sizes t_inner t_nexts _ 2 _ hz1) (cwV 1 hts (g9_127 _) rfl rfl rfl (by decide +kernel) ⟨(by show 0 + 1 ≤ 12; omega), (by show 8 + (2 + 11) + (0) ≤ 211; omega)⟩) hS hA hP hD hK hz0 (wr := [(tq_bytes, .inl (cB, 4096, .inl t_bytes)), (tq_letters, .inl (cB, 4200, .inl t_letters))]) (w1 := [(ob0, .inr (0, [.ref tq_bytes, .int t_length, .int t_at, .int t_deep, .int t_fault, .int t_place, .int t_end, .int t_nodes_1, .ref tq_kinds, .ref tq_firsts, .ref tq_numbers, .ref tq_sizes, .ref tq_inner, .ref tq_nexts, .ref tq_letters, .int t_lettered, .int t_shapes, .int t_looked, .ref tq_sorts, .ref tq_names, .ref tq_wide, .ref tq_kids, .ref tq_many, .ref tq_fallback, .int t_kidCount, .ref tq_kidShape, .ref tq_kidName, .ref tq_kidDefault, .ref tq_kidNext, .int t_done, .ref tq_finished, .int t_root, .ref tq_plain, .int t_plainSize, .ref tq_told])), (tq_bytes, .inl (cB, 4096, .inl t_bytes)), (tq_kinds, .inl (cI, 4200, .inl t_kinds_1)), (tq_firsts, .inl (cI, 4200, .inl t_firsts_1)), (tq_numbers, .inl (cJ, 4200, .inr (.inl t_numbers_1))), (tq_sizes, .inl (cI, 4200, .inl t_sizes_1)), (tq_inner, .inl (cI, 4200, .inl t_inner_1)), (tq_nexts, .inl (cI, 4200, .inl t_nexts_1)), (tq_letters, .inl (cB, 4200, .inl t_letters))]) [0, 2, 3, 4, 5, 6, 7] [1, 8] [2, 0, 3, 4, 5, 6, 7, 8, 1] rfl rfl rfl rfl rfl (by decide) rfl rfl rfl (va_recv hK hP (ci := 0) (q0 := 0) rfl rfl) rfl rfl hl.1 (Nat.le_of_ble_eq_true rfl) dX9_string_2 ⟨Nat.zero_le _, Nat.zero_le _⟩ (fun H locs hP hD hS => ?_)
  refine lv_istore_n (lv' := [(1, .int r1), (0, .ref ob0)]) hx hb dX9_string_5 rfl hl (by decide) rfl (fun ls hl => ?_)
  refine lv_aload_n hx hb dX9_string_6 rfl (lv_at hl 1 rfl) ?_
  refine va_get (D := (dC, dI)) (ci := 0) (v := .ref tq_numbers) (C := RX9) (T := TX9) (N := 35) hx hb hts (inX9 _) hown hK hP 0 rfl rfl 10 (by decide) (hts _ (List.mem_cons_of_mem _ wf9_22)) (fun _ h9 => h9) rfl dX9_string_7 ?_
  refine lv_iload_n hx hb dX9_string_10 rfl (lv_at hl 0 rfl) ?_
  refine lv_aload_n hx hb dX9_string_11 rfl (lv_at hl 1 rfl) ?_
  refine va_get (D := (dC, dI)) (ci := 0) (v := .int t_lettered) (C := RX9) (T := TX9) (N := 35) hx hb hts (inX9 _) hown hK hP 0 rfl rfl 15 (by decide) (hts _ (List.mem_cons_of_mem _ wf9_167)) (fun _ h9 => h9) rfl dX9_string_12 ?_
  refine lv_i2l hx hb dX9_string_15 rfl ?_
  obtain ⟨h2, hm⟩ := mr_bd hm
  refine va_last hx hb hK hP hD hS 4 2 rfl rfl h2 dX9_string_16 (fun H locs hP hD hS => ?_)
  have hP : va_P (dC, dI) srCl [(ob0, .inr (0, [.ref tq_bytes, .int t_length, .int t_at, .int t_deep, .int t_fault, .int t_place, .int t_end, .int t_nodes_1, .ref tq_kinds, .ref tq_firsts, .ref tq_numbers, .ref tq_sizes, .ref tq_inner, .ref tq_nexts, .ref tq_letters, .int t_lettered, .int t_shapes, .int t_looked, .ref tq_sorts, .ref tq_names, .ref tq_wide, .ref tq_kids, .ref tq_many, .ref tq_fallback, .int t_kidCount, .ref tq_kidShape, .ref tq_kidName, .ref tq_kidDefault, .ref tq_kidNext, .int t_done, .ref tq_finished, .int t_root, .ref tq_plain, .int t_plainSize, .ref tq_told])), (tq_bytes, .inl (cB, 4096, .inl t_bytes)), (tq_kinds, .inl (cI, 4200, .inl t_kinds_1)), (tq_firsts, .inl (cI, 4200, .inl t_firsts_1)), (tq_numbers, .inl (cJ, 4200, .inr (.inl (vp_updL t_numbers_1 (r1 : Int32).toNatClampNeg ((t_lettered : Int32).toInt64))))), (tq_sizes, .inl (cI, 4200, .inl t_sizes_1)), (tq_inner, .inl (cI, 4200, .inl t_inner_1)), (tq_nexts, .inl (cI, 4200, .inl t_nexts_1)), (tq_letters, .inl (cB, 4200, .inl t_letters))] H := hP
  have hD : va_D A [(ob0, .inr (0, [.ref tq_bytes, .int t_length, .int t_at, .int t_deep, .int t_fault, .int t_place, .int t_end, .int t_nodes_1, .ref tq_kinds, .ref tq_firsts, .ref tq_numbers, .ref tq_sizes, .ref tq_inner, .ref tq_nexts, .ref tq_letters, .int t_lettered, .int t_shapes, .int t_looked, .ref tq_sorts, .ref tq_names, .ref tq_wide, .ref tq_kids, .ref tq_many, .ref tq_fallback, .int t_kidCount, .ref tq_kidShape, .ref tq_kidName, .ref tq_kidDefault, .ref tq_kidNext, .int t_done, .ref tq_finished, .int t_root, .ref tq_plain, .int t_plainSize, .ref tq_told])), (tq_bytes, .inl (cB, 4096, .inl t_bytes)), (tq_kinds, .inl (cI, 4200, .inl t_kinds_1)), (tq_firsts, .inl (cI, 4200, .inl t_firsts_1)), (tq_numbers, .inl (cJ, 4200, .inr (.inl (vp_updL t_numbers_1 (r1 : Int32).toNatClampNeg ((t_lettered : Int32).toInt64))))), (tq_sizes, .inl (cI, 4200, .inl t_sizes_1)), (tq_inner, .inl (cI, 4200, .inl t_inner_1)), (tq_nexts, .inl (cI, 4200, .inl t_nexts_1)), (tq_letters, .inl (cB, 4200, .inl t_letters))] := hD
  refine lv_aload_n hx hb dX9_string_17 rfl (lv_at hl 1 rfl) ?_
  refine lv_dup hx hb dX9_string_18 rfl ?_
  refine va_get (D := (dC, dI)) (ci := 0) (v := .int t_at) (C := RX9) (T := TX9) (N := 35) hx hb hts (inX9 _) hown hK hP 0 rfl rfl 2 (by decide) (hts _ (List.mem_cons_of_mem _ wf9_95)) (fun _ h9 => h9) rfl dX9_string_19 ?_
  refine lv_iconst (v := 1) hx hb dX9_string_22 (by decide) ?_
  refine lv_iadd hx hb dX9_string_23 ?_
  have j27 : ∀ (n27 : Nat) (t_at : Int32) (t_fault : Int32) (t_place : Int32) (t_nodes : Int32) (t_kinds : Nat → Int32) (t_firsts : Nat → Int32) (t_numbers : Nat → Int64) (t_sizes : Nat → Int32) (t_inner : Nat → Int32) (t_nexts : Nat → Int32) (t_letters : Nat → Int32) (t_lettered : Int32) (x1 : Int32) (H : Heap) (locs : List Loc) (ls : Array Slot), va_P (dC, dI) srCl [(ob0, .inr (0, [.ref tq_bytes, .int t_length, .int t_at, .int t_deep, .int t_fault, .int t_place, .int t_end, .int t_nodes, .ref tq_kinds, .ref tq_firsts, .ref tq_numbers, .ref tq_sizes, .ref tq_inner, .ref tq_nexts, .ref tq_letters, .int t_lettered, .int t_shapes, .int t_looked, .ref tq_sorts, .ref tq_names, .ref tq_wide, .ref tq_kids, .ref tq_many, .ref tq_fallback, .int t_kidCount, .ref tq_kidShape, .ref tq_kidName, .ref tq_kidDefault, .ref tq_kidNext, .int t_done, .ref tq_finished, .int t_root, .ref tq_plain, .int t_plainSize, .ref tq_told])), (tq_bytes, .inl (cB, 4096, .inl t_bytes)), (tq_kinds, .inl (cI, 4200, .inl t_kinds)), (tq_firsts, .inl (cI, 4200, .inl t_firsts)), (tq_numbers, .inl (cJ, 4200, .inr (.inl t_numbers))), (tq_sizes, .inl (cI, 4200, .inl t_sizes)), (tq_inner, .inl (cI, 4200, .inl t_inner)), (tq_nexts, .inl (cI, 4200, .inl t_nexts)), (tq_letters, .inl (cB, 4200, .inl t_letters))] H → va_D A [(ob0, .inr (0, [.ref tq_bytes, .int t_length, .int t_at, .int t_deep, .int t_fault, .int t_place, .int t_end, .int t_nodes, .ref tq_kinds, .ref tq_firsts, .ref tq_numbers, .ref tq_sizes, .ref tq_inner, .ref tq_nexts, .ref tq_letters, .int t_lettered, .int t_shapes, .int t_looked, .ref tq_sorts, .ref tq_names, .ref tq_wide, .ref tq_kids, .ref tq_many, .ref tq_fallback, .int t_kidCount, .ref tq_kidShape, .ref tq_kidName, .ref tq_kidDefault, .ref tq_kidNext, .int t_done, .ref tq_finished, .int t_root, .ref tq_plain, .int t_plainSize, .ref tq_told])), (tq_bytes, .inl (cB, 4096, .inl t_bytes)), (tq_kinds, .inl (cI, 4200, .inl t_kinds)), (tq_firsts, .inl (cI, 4200, .inl t_firsts)), (tq_numbers, .inl (cJ, 4200, .inr (.inl t_numbers))), (tq_sizes, .inl (cI, 4200, .inl t_sizes)), (tq_inner, .inl (cI, 4200, .inl t_inner)), (tq_nexts, .inl (cI, 4200, .inl t_nexts)), (tq_letters, .inl (cB, 4200, .inl t_letters))] → va_S A s.heap H locs → lv_has ls 3 [(0, .ref ob0), (1, .int x1)] → m_X9_string_27 t_bytes t_length n27 t_at t_fault t_place t_nodes t_kinds t_firsts t_numbers t_sizes t_inner t_nexts t_letters t_lettered x1 = some res → W p l e (headSpec wsX9_string (rmX9_string (t2_mc res) (t2_ms res))).room s m [.ref ob0].toArray below meth c H locs 0 0 Q0 (F0 m 27 ls []) := by
    intro n27
    induction n27 with
    | zero => intro t_at t_fault t_place t_nodes t_kinds t_firsts t_numbers t_sizes t_inner t_nexts t_letters t_lettered x1 H locs ls hP hD hS hl hm; exact nomatch (show (none : Option _) = some res from hm)
    | succ n27 ih27 =>
      intro t_at t_fault t_place t_nodes t_kinds t_firsts t_numbers t_sizes t_inner t_nexts t_letters t_lettered x1 H locs ls hP hD hS hl hm
      rw [m_X9_string_27] at hm
      refine lv_aload_n hx hb dX9_string_27 rfl (lv_at hl 0 rfl) ?_
      obtain ⟨r3, hz3, hm⟩ := mr_bind hm
      refine mr_pV (As := []) (rest := []) (sr_okZ adK adV) ⟨hx, hb, hml, hown, hts⟩ (kX9_look l htr dC dI adK adV cI cB cJ cZ cQ ob0 tq_bytes tq_kinds tq_firsts tq_numbers tq_sizes tq_inner tq_nexts tq_letters tq_sorts tq_names tq_wide tq_kids tq_many tq_fallback tq_kidShape tq_kidName tq_kidDefault tq_kidNext tq_finished tq_plain tq_told t_length t_at t_deep t_fault t_place t_end t_nodes t_lettered t_shapes t_looked t_kidCount t_done t_root t_plainSize t_bytes r3 hz3) (cwV 0 hts (g9_101 _) rfl rfl rfl (by decide +kernel) ⟨(by show 0 + 1 ≤ 12; omega), (by show 8 + (1 + 11) + (0) ≤ 211; omega)⟩) hS hP hK hz0 [0, 1] rfl (va_recv hK hP (ci := 0) (q0 := 0) rfl rfl) rfl rfl hl.1 (Nat.le_of_ble_eq_true rfl) dX9_string_28 ⟨Nat.zero_le _, Nat.zero_le _⟩ ?_
      refine lv_bipush (v := 34) hx hb dX9_string_31 (by decide) ?_
      refine lv_icmp_eq (tgt := 125) hx hb dX9_string_33 (by decide) (fun c4 => ?_) (fun c4 => ?_)
      · have hm := mr_if c4 hm
        refine lv_aload_n hx hb dX9_string_125 rfl (lv_at hl 0 rfl) ?_
        refine lv_dup hx hb dX9_string_126 rfl ?_
        refine va_get (D := (dC, dI)) (ci := 0) (v := .int t_at) (C := RX9) (T := TX9) (N := 35) hx hb hts (inX9 _) hown hK hP 0 rfl rfl 2 (by decide) (hts _ (List.mem_cons_of_mem _ wf9_95)) (fun _ h9 => h9) rfl dX9_string_127 ?_
        refine lv_iconst (v := 1) hx hb dX9_string_130 (by decide) ?_
        refine lv_iadd hx hb dX9_string_131 ?_
        refine va_put (D := (dC, dI)) (ci := 0) (v := .int (t_at + 1)) (ty := .int) (C := RX9) (T := TX9) (N := 35) hx hb hts (inX9 _) tyX9 tyX9_ok nmX9 hown hK hP hD hS 0 rfl rfl 2 (by decide) (hts _ (List.mem_cons_of_mem _ wf9_95)) (fun _ h9 => h9) rfl (by decide +kernel) rfl rfl (Nat.le_of_ble_eq_true rfl) dX9_string_132 (fun H locs hP hD hS => ?_)
        have hP : va_P (dC, dI) srCl [(ob0, .inr (0, [.ref tq_bytes, .int t_length, .int (t_at + 1), .int t_deep, .int t_fault, .int t_place, .int t_end, .int t_nodes, .ref tq_kinds, .ref tq_firsts, .ref tq_numbers, .ref tq_sizes, .ref tq_inner, .ref tq_nexts, .ref tq_letters, .int t_lettered, .int t_shapes, .int t_looked, .ref tq_sorts, .ref tq_names, .ref tq_wide, .ref tq_kids, .ref tq_many, .ref tq_fallback, .int t_kidCount, .ref tq_kidShape, .ref tq_kidName, .ref tq_kidDefault, .ref tq_kidNext, .int t_done, .ref tq_finished, .int t_root, .ref tq_plain, .int t_plainSize, .ref tq_told])), (tq_bytes, .inl (cB, 4096, .inl t_bytes)), (tq_kinds, .inl (cI, 4200, .inl t_kinds)), (tq_firsts, .inl (cI, 4200, .inl t_firsts)), (tq_numbers, .inl (cJ, 4200, .inr (.inl t_numbers))), (tq_sizes, .inl (cI, 4200, .inl t_sizes)), (tq_inner, .inl (cI, 4200, .inl t_inner)), (tq_nexts, .inl (cI, 4200, .inl t_nexts)), (tq_letters, .inl (cB, 4200, .inl t_letters))] H := hP
        have hD : va_D A [(ob0, .inr (0, [.ref tq_bytes, .int t_length, .int (t_at + 1), .int t_deep, .int t_fault, .int t_place, .int t_end, .int t_nodes, .ref tq_kinds, .ref tq_firsts, .ref tq_numbers, .ref tq_sizes, .ref tq_inner, .ref tq_nexts, .ref tq_letters, .int t_lettered, .int t_shapes, .int t_looked, .ref tq_sorts, .ref tq_names, .ref tq_wide, .ref tq_kids, .ref tq_many, .ref tq_fallback, .int t_kidCount, .ref tq_kidShape, .ref tq_kidName, .ref tq_kidDefault, .ref tq_kidNext, .int t_done, .ref tq_finished, .int t_root, .ref tq_plain, .int t_plainSize, .ref tq_told])), (tq_bytes, .inl (cB, 4096, .inl t_bytes)), (tq_kinds, .inl (cI, 4200, .inl t_kinds)), (tq_firsts, .inl (cI, 4200, .inl t_firsts)), (tq_numbers, .inl (cJ, 4200, .inr (.inl t_numbers))), (tq_sizes, .inl (cI, 4200, .inl t_sizes)), (tq_inner, .inl (cI, 4200, .inl t_inner)), (tq_nexts, .inl (cI, 4200, .inl t_nexts)), (tq_letters, .inl (cB, 4200, .inl t_letters))] := hD
        refine lv_iload_n hx hb dX9_string_135 rfl (lv_at hl 1 rfl) ?_
        obtain rfl := Option.some.inj hm
        subst hQ0
        exact t2_iret (v := x1) hx hb hr (fun t ht hW => ⟨⟨rfl, by rw [ht]; exact hP, va_K.moved hW.alike hK, hD⟩, hS.F ht⟩) hS.2.2 dX9_string_136 hlocks
      · have hm := mr_un c4 hm
        refine lv_aload_n hx hb dX9_string_36 rfl (lv_at hl 0 rfl) ?_
        obtain ⟨r5, hz5, hm⟩ := mr_bind hm
        refine mr_pV (As := []) (rest := []) (sr_okZ adK adV) ⟨hx, hb, hml, hown, hts⟩ (kX9_look l htr dC dI adK adV cI cB cJ cZ cQ ob0 tq_bytes tq_kinds tq_firsts tq_numbers tq_sizes tq_inner tq_nexts tq_letters tq_sorts tq_names tq_wide tq_kids tq_many tq_fallback tq_kidShape tq_kidName tq_kidDefault tq_kidNext tq_finished tq_plain tq_told t_length t_at t_deep t_fault t_place t_end t_nodes t_lettered t_shapes t_looked t_kidCount t_done t_root t_plainSize t_bytes r5 hz5) (cwV 0 hts (g9_101 _) rfl rfl rfl (by decide +kernel) ⟨(by show 0 + 1 ≤ 12; omega), (by show 8 + (1 + 11) + (0) ≤ 211; omega)⟩) hS hP hK hz0 [0, 1] rfl (va_recv hK hP (ci := 0) (q0 := 0) rfl rfl) rfl rfl hl.1 (Nat.le_of_ble_eq_true rfl) dX9_string_37 ⟨Nat.zero_le _, Nat.zero_le _⟩ ?_
        refine lv_istore_n (lv' := [(2, .int r5), (0, .ref ob0), (1, .int x1)]) hx hb dX9_string_40 rfl hl (by decide) rfl (fun ls hl => ?_)
        refine lv_aload_n hx hb dX9_string_41 rfl (lv_at hl 1 rfl) ?_
        refine lv_iload_n hx hb dX9_string_42 rfl (lv_at hl 0 rfl) ?_
        refine lv_bipush (v := 32) hx hb dX9_string_43 (by decide) ?_
        have j59 : ∀ (t_at : Int32) (t_fault : Int32) (t_place : Int32) (t_nodes : Int32) (t_kinds : Nat → Int32) (t_firsts : Nat → Int32) (t_numbers : Nat → Int64) (t_sizes : Nat → Int32) (t_inner : Nat → Int32) (t_nexts : Nat → Int32) (t_letters : Nat → Int32) (t_lettered : Int32) (x1 : Int32) (x2 : Int32) (y0 : Int32) (H : Heap) (locs : List Loc) (ls : Array Slot), va_P (dC, dI) srCl [(ob0, .inr (0, [.ref tq_bytes, .int t_length, .int t_at, .int t_deep, .int t_fault, .int t_place, .int t_end, .int t_nodes, .ref tq_kinds, .ref tq_firsts, .ref tq_numbers, .ref tq_sizes, .ref tq_inner, .ref tq_nexts, .ref tq_letters, .int t_lettered, .int t_shapes, .int t_looked, .ref tq_sorts, .ref tq_names, .ref tq_wide, .ref tq_kids, .ref tq_many, .ref tq_fallback, .int t_kidCount, .ref tq_kidShape, .ref tq_kidName, .ref tq_kidDefault, .ref tq_kidNext, .int t_done, .ref tq_finished, .int t_root, .ref tq_plain, .int t_plainSize, .ref tq_told])), (tq_bytes, .inl (cB, 4096, .inl t_bytes)), (tq_kinds, .inl (cI, 4200, .inl t_kinds)), (tq_firsts, .inl (cI, 4200, .inl t_firsts)), (tq_numbers, .inl (cJ, 4200, .inr (.inl t_numbers))), (tq_sizes, .inl (cI, 4200, .inl t_sizes)), (tq_inner, .inl (cI, 4200, .inl t_inner)), (tq_nexts, .inl (cI, 4200, .inl t_nexts)), (tq_letters, .inl (cB, 4200, .inl t_letters))] H → va_D A [(ob0, .inr (0, [.ref tq_bytes, .int t_length, .int t_at, .int t_deep, .int t_fault, .int t_place, .int t_end, .int t_nodes, .ref tq_kinds, .ref tq_firsts, .ref tq_numbers, .ref tq_sizes, .ref tq_inner, .ref tq_nexts, .ref tq_letters, .int t_lettered, .int t_shapes, .int t_looked, .ref tq_sorts, .ref tq_names, .ref tq_wide, .ref tq_kids, .ref tq_many, .ref tq_fallback, .int t_kidCount, .ref tq_kidShape, .ref tq_kidName, .ref tq_kidDefault, .ref tq_kidNext, .int t_done, .ref tq_finished, .int t_root, .ref tq_plain, .int t_plainSize, .ref tq_told])), (tq_bytes, .inl (cB, 4096, .inl t_bytes)), (tq_kinds, .inl (cI, 4200, .inl t_kinds)), (tq_firsts, .inl (cI, 4200, .inl t_firsts)), (tq_numbers, .inl (cJ, 4200, .inr (.inl t_numbers))), (tq_sizes, .inl (cI, 4200, .inl t_sizes)), (tq_inner, .inl (cI, 4200, .inl t_inner)), (tq_nexts, .inl (cI, 4200, .inl t_nexts)), (tq_letters, .inl (cB, 4200, .inl t_letters))] → va_S A s.heap H locs → lv_has ls 3 [(0, .ref ob0), (1, .int x1), (2, .int x2)] → m_X9_string_59 t_bytes t_length (m_X9_string_27 t_bytes t_length n27) t_at t_fault t_place t_nodes t_kinds t_firsts t_numbers t_sizes t_inner t_nexts t_letters t_lettered x1 x2 y0 = some res → W p l e (headSpec wsX9_string (rmX9_string (t2_mc res) (t2_ms res))).room s m [.ref ob0].toArray below meth c H locs 0 0 Q0 (F0 m 59 ls [.int y0, .ref ob0]) := by
          intro t_at t_fault t_place t_nodes t_kinds t_firsts t_numbers t_sizes t_inner t_nexts t_letters t_lettered x1 x2 y0 H locs ls hP hD hS hl hm
          unfold m_X9_string_59 at hm
          refine lv_iconst (v := 1) hx hb dX9_string_59 (by decide) ?_
          refine lv_aload_n hx hb dX9_string_60 rfl (lv_at hl 0 rfl) ?_
          refine va_get (D := (dC, dI)) (ci := 0) (v := .int t_at) (C := RX9) (T := TX9) (N := 35) hx hb hts (inX9 _) hown hK hP 0 rfl rfl 2 (by decide) (hts _ (List.mem_cons_of_mem _ wf9_95)) (fun _ h9 => h9) rfl dX9_string_61 ?_
          rcases mr_tried hm with ⟨r6, ⟨t_fault_6, t_place_6⟩, hz6, hm⟩ | ⟨⟨t_fault_6, t_place_6⟩, hz6, hm⟩
          · try dsimp only at hm
            refine mr_wVv (As := [.int y0, .int 1, .int t_at]) (rest := []) (sr_okZ adK adV) ⟨hx, hb, hml, hown, hts⟩ (t2_okV (kX9_need l htr dC dI adK adV cI cB cJ cZ cQ ob0 tq_bytes tq_kinds tq_firsts tq_numbers tq_sizes tq_inner tq_nexts tq_letters tq_sorts tq_names tq_wide tq_kids tq_many tq_fallback tq_kidShape tq_kidName tq_kidDefault tq_kidNext tq_finished tq_plain tq_told t_length t_at t_deep t_fault t_place t_end t_nodes t_lettered t_shapes t_looked t_kidCount t_done t_root t_plainSize _ y0 1 t_at _ hz6)) (cwV 3 hts (g9_105 _) rfl rfl rfl (by decide +kernel) ⟨(by show 9 + 1 ≤ 12; omega), (by show 8 + (4 + 11) + (142) ≤ 211; omega)⟩) hS hA hP hD hK hz0 (wr := [(tq_bytes, .inl (cB, 4096, .inl t_bytes)), (tq_kinds, .inl (cI, 4200, .inl t_kinds)), (tq_firsts, .inl (cI, 4200, .inl t_firsts)), (tq_numbers, .inl (cJ, 4200, .inr (.inl t_numbers))), (tq_sizes, .inl (cI, 4200, .inl t_sizes)), (tq_inner, .inl (cI, 4200, .inl t_inner)), (tq_nexts, .inl (cI, 4200, .inl t_nexts)), (tq_letters, .inl (cB, 4200, .inl t_letters))]) (w1 := [(ob0, .inr (0, [.ref tq_bytes, .int t_length, .int t_at, .int t_deep, .int t_fault_6, .int t_place_6, .int t_end, .int t_nodes, .ref tq_kinds, .ref tq_firsts, .ref tq_numbers, .ref tq_sizes, .ref tq_inner, .ref tq_nexts, .ref tq_letters, .int t_lettered, .int t_shapes, .int t_looked, .ref tq_sorts, .ref tq_names, .ref tq_wide, .ref tq_kids, .ref tq_many, .ref tq_fallback, .int t_kidCount, .ref tq_kidShape, .ref tq_kidName, .ref tq_kidDefault, .ref tq_kidNext, .int t_done, .ref tq_finished, .int t_root, .ref tq_plain, .int t_plainSize, .ref tq_told])), (tq_bytes, .inl (cB, 4096, .inl t_bytes)), (tq_kinds, .inl (cI, 4200, .inl t_kinds)), (tq_firsts, .inl (cI, 4200, .inl t_firsts)), (tq_numbers, .inl (cJ, 4200, .inr (.inl t_numbers))), (tq_sizes, .inl (cI, 4200, .inl t_sizes)), (tq_inner, .inl (cI, 4200, .inl t_inner)), (tq_nexts, .inl (cI, 4200, .inl t_nexts)), (tq_letters, .inl (cB, 4200, .inl t_letters))]) [0] [1, 2, 3, 4, 5, 6, 7, 8] [8, 0, 1, 2, 3, 4, 5, 6, 7] rfl rfl rfl rfl rfl (by decide) rfl rfl rfl (va_recv hK hP (ci := 0) (q0 := 0) rfl rfl) rfl rfl hl.1 (Nat.le_of_ble_eq_true rfl) dX9_string_64 ⟨Nat.zero_le _, Nat.zero_le _⟩ (fun H locs hP hD hS => ?_)
            refine lv_iload_n hx hb dX9_string_67 rfl (lv_at hl 2 rfl) ?_
            refine lv_bipush (v := 92) hx hb dX9_string_68 (by decide) ?_
            have j91 : ∀ (t_at : Int32) (t_fault : Int32) (t_place : Int32) (t_nodes : Int32) (t_kinds : Nat → Int32) (t_firsts : Nat → Int32) (t_numbers : Nat → Int64) (t_sizes : Nat → Int32) (t_inner : Nat → Int32) (t_nexts : Nat → Int32) (t_letters : Nat → Int32) (t_lettered : Int32) (x1 : Int32) (x2 : Int32) (H : Heap) (locs : List Loc) (ls : Array Slot), va_P (dC, dI) srCl [(ob0, .inr (0, [.ref tq_bytes, .int t_length, .int t_at, .int t_deep, .int t_fault, .int t_place, .int t_end, .int t_nodes, .ref tq_kinds, .ref tq_firsts, .ref tq_numbers, .ref tq_sizes, .ref tq_inner, .ref tq_nexts, .ref tq_letters, .int t_lettered, .int t_shapes, .int t_looked, .ref tq_sorts, .ref tq_names, .ref tq_wide, .ref tq_kids, .ref tq_many, .ref tq_fallback, .int t_kidCount, .ref tq_kidShape, .ref tq_kidName, .ref tq_kidDefault, .ref tq_kidNext, .int t_done, .ref tq_finished, .int t_root, .ref tq_plain, .int t_plainSize, .ref tq_told])), (tq_bytes, .inl (cB, 4096, .inl t_bytes)), (tq_kinds, .inl (cI, 4200, .inl t_kinds)), (tq_firsts, .inl (cI, 4200, .inl t_firsts)), (tq_numbers, .inl (cJ, 4200, .inr (.inl t_numbers))), (tq_sizes, .inl (cI, 4200, .inl t_sizes)), (tq_inner, .inl (cI, 4200, .inl t_inner)), (tq_nexts, .inl (cI, 4200, .inl t_nexts)), (tq_letters, .inl (cB, 4200, .inl t_letters))] H → va_D A [(ob0, .inr (0, [.ref tq_bytes, .int t_length, .int t_at, .int t_deep, .int t_fault, .int t_place, .int t_end, .int t_nodes, .ref tq_kinds, .ref tq_firsts, .ref tq_numbers, .ref tq_sizes, .ref tq_inner, .ref tq_nexts, .ref tq_letters, .int t_lettered, .int t_shapes, .int t_looked, .ref tq_sorts, .ref tq_names, .ref tq_wide, .ref tq_kids, .ref tq_many, .ref tq_fallback, .int t_kidCount, .ref tq_kidShape, .ref tq_kidName, .ref tq_kidDefault, .ref tq_kidNext, .int t_done, .ref tq_finished, .int t_root, .ref tq_plain, .int t_plainSize, .ref tq_told])), (tq_bytes, .inl (cB, 4096, .inl t_bytes)), (tq_kinds, .inl (cI, 4200, .inl t_kinds)), (tq_firsts, .inl (cI, 4200, .inl t_firsts)), (tq_numbers, .inl (cJ, 4200, .inr (.inl t_numbers))), (tq_sizes, .inl (cI, 4200, .inl t_sizes)), (tq_inner, .inl (cI, 4200, .inl t_inner)), (tq_nexts, .inl (cI, 4200, .inl t_nexts)), (tq_letters, .inl (cB, 4200, .inl t_letters))] → va_S A s.heap H locs → lv_has ls 3 [(0, .ref ob0), (1, .int x1), (2, .int x2)] → m_X9_string_91 t_bytes t_length (m_X9_string_27 t_bytes t_length n27) t_at t_fault t_place t_nodes t_kinds t_firsts t_numbers t_sizes t_inner t_nexts t_letters t_lettered x1 x2 = some res → W p l e (headSpec wsX9_string (rmX9_string (t2_mc res) (t2_ms res))).room s m [.ref ob0].toArray below meth c H locs 0 0 Q0 (F0 m 91 ls []) := by
              intro t_at t_fault t_place t_nodes t_kinds t_firsts t_numbers t_sizes t_inner t_nexts t_letters t_lettered x1 x2 H locs ls hP hD hS hl hm
              unfold m_X9_string_91 at hm
              refine lv_aload_n hx hb dX9_string_91 rfl (lv_at hl 0 rfl) ?_
              refine va_get (D := (dC, dI)) (ci := 0) (v := .ref tq_letters) (C := RX9) (T := TX9) (N := 35) hx hb hts (inX9 _) hown hK hP 0 rfl rfl 14 (by decide) (hts _ (List.mem_cons_of_mem _ wf9_35)) (fun _ h9 => h9) rfl dX9_string_92 ?_
              refine lv_aload_n hx hb dX9_string_95 rfl (lv_at hl 0 rfl) ?_
              refine va_get (D := (dC, dI)) (ci := 0) (v := .int t_lettered) (C := RX9) (T := TX9) (N := 35) hx hb hts (inX9 _) hown hK hP 0 rfl rfl 15 (by decide) (hts _ (List.mem_cons_of_mem _ wf9_167)) (fun _ h9 => h9) rfl dX9_string_96 ?_
              refine lv_iload_n hx hb dX9_string_99 rfl (lv_at hl 2 rfl) ?_
              refine lv_i2b hx hb dX9_string_100 rfl ?_
              obtain ⟨h7, hm⟩ := mr_bd hm
              refine va_bast hx hb hK hP hD hS 8 1 rfl rfl h7 dX9_string_101 (fun H locs hP hD hS => ?_)
              have hP : va_P (dC, dI) srCl [(ob0, .inr (0, [.ref tq_bytes, .int t_length, .int t_at, .int t_deep, .int t_fault, .int t_place, .int t_end, .int t_nodes, .ref tq_kinds, .ref tq_firsts, .ref tq_numbers, .ref tq_sizes, .ref tq_inner, .ref tq_nexts, .ref tq_letters, .int t_lettered, .int t_shapes, .int t_looked, .ref tq_sorts, .ref tq_names, .ref tq_wide, .ref tq_kids, .ref tq_many, .ref tq_fallback, .int t_kidCount, .ref tq_kidShape, .ref tq_kidName, .ref tq_kidDefault, .ref tq_kidNext, .int t_done, .ref tq_finished, .int t_root, .ref tq_plain, .int t_plainSize, .ref tq_told])), (tq_bytes, .inl (cB, 4096, .inl t_bytes)), (tq_kinds, .inl (cI, 4200, .inl t_kinds)), (tq_firsts, .inl (cI, 4200, .inl t_firsts)), (tq_numbers, .inl (cJ, 4200, .inr (.inl t_numbers))), (tq_sizes, .inl (cI, 4200, .inl t_sizes)), (tq_inner, .inl (cI, 4200, .inl t_inner)), (tq_nexts, .inl (cI, 4200, .inl t_nexts)), (tq_letters, .inl (cB, 4200, .inl (upd t_letters (t_lettered : Int32).toNatClampNeg (vp_nar .byte ((x2 : Int32).toInt8.toInt32)))))] H := hP
              have hD : va_D A [(ob0, .inr (0, [.ref tq_bytes, .int t_length, .int t_at, .int t_deep, .int t_fault, .int t_place, .int t_end, .int t_nodes, .ref tq_kinds, .ref tq_firsts, .ref tq_numbers, .ref tq_sizes, .ref tq_inner, .ref tq_nexts, .ref tq_letters, .int t_lettered, .int t_shapes, .int t_looked, .ref tq_sorts, .ref tq_names, .ref tq_wide, .ref tq_kids, .ref tq_many, .ref tq_fallback, .int t_kidCount, .ref tq_kidShape, .ref tq_kidName, .ref tq_kidDefault, .ref tq_kidNext, .int t_done, .ref tq_finished, .int t_root, .ref tq_plain, .int t_plainSize, .ref tq_told])), (tq_bytes, .inl (cB, 4096, .inl t_bytes)), (tq_kinds, .inl (cI, 4200, .inl t_kinds)), (tq_firsts, .inl (cI, 4200, .inl t_firsts)), (tq_numbers, .inl (cJ, 4200, .inr (.inl t_numbers))), (tq_sizes, .inl (cI, 4200, .inl t_sizes)), (tq_inner, .inl (cI, 4200, .inl t_inner)), (tq_nexts, .inl (cI, 4200, .inl t_nexts)), (tq_letters, .inl (cB, 4200, .inl (upd t_letters (t_lettered : Int32).toNatClampNeg (vp_nar .byte ((x2 : Int32).toInt8.toInt32)))))] := hD
              refine lv_aload_n hx hb dX9_string_102 rfl (lv_at hl 0 rfl) ?_
              refine lv_dup hx hb dX9_string_103 rfl ?_
              refine va_get (D := (dC, dI)) (ci := 0) (v := .int t_lettered) (C := RX9) (T := TX9) (N := 35) hx hb hts (inX9 _) hown hK hP 0 rfl rfl 15 (by decide) (hts _ (List.mem_cons_of_mem _ wf9_167)) (fun _ h9 => h9) rfl dX9_string_104 ?_
              refine lv_iconst (v := 1) hx hb dX9_string_107 (by decide) ?_
              refine lv_iadd hx hb dX9_string_108 ?_
              refine va_put (D := (dC, dI)) (ci := 0) (v := .int (t_lettered + 1)) (ty := .int) (C := RX9) (T := TX9) (N := 35) hx hb hts (inX9 _) tyX9 tyX9_ok nmX9 hown hK hP hD hS 0 rfl rfl 15 (by decide) (hts _ (List.mem_cons_of_mem _ wf9_167)) (fun _ h9 => h9) rfl (by decide +kernel) rfl rfl (Nat.le_of_ble_eq_true rfl) dX9_string_109 (fun H locs hP hD hS => ?_)
              have hP : va_P (dC, dI) srCl [(ob0, .inr (0, [.ref tq_bytes, .int t_length, .int t_at, .int t_deep, .int t_fault, .int t_place, .int t_end, .int t_nodes, .ref tq_kinds, .ref tq_firsts, .ref tq_numbers, .ref tq_sizes, .ref tq_inner, .ref tq_nexts, .ref tq_letters, .int (t_lettered + 1), .int t_shapes, .int t_looked, .ref tq_sorts, .ref tq_names, .ref tq_wide, .ref tq_kids, .ref tq_many, .ref tq_fallback, .int t_kidCount, .ref tq_kidShape, .ref tq_kidName, .ref tq_kidDefault, .ref tq_kidNext, .int t_done, .ref tq_finished, .int t_root, .ref tq_plain, .int t_plainSize, .ref tq_told])), (tq_bytes, .inl (cB, 4096, .inl t_bytes)), (tq_kinds, .inl (cI, 4200, .inl t_kinds)), (tq_firsts, .inl (cI, 4200, .inl t_firsts)), (tq_numbers, .inl (cJ, 4200, .inr (.inl t_numbers))), (tq_sizes, .inl (cI, 4200, .inl t_sizes)), (tq_inner, .inl (cI, 4200, .inl t_inner)), (tq_nexts, .inl (cI, 4200, .inl t_nexts)), (tq_letters, .inl (cB, 4200, .inl (upd t_letters (t_lettered : Int32).toNatClampNeg (vp_nar .byte ((x2 : Int32).toInt8.toInt32)))))] H := hP
              have hD : va_D A [(ob0, .inr (0, [.ref tq_bytes, .int t_length, .int t_at, .int t_deep, .int t_fault, .int t_place, .int t_end, .int t_nodes, .ref tq_kinds, .ref tq_firsts, .ref tq_numbers, .ref tq_sizes, .ref tq_inner, .ref tq_nexts, .ref tq_letters, .int (t_lettered + 1), .int t_shapes, .int t_looked, .ref tq_sorts, .ref tq_names, .ref tq_wide, .ref tq_kids, .ref tq_many, .ref tq_fallback, .int t_kidCount, .ref tq_kidShape, .ref tq_kidName, .ref tq_kidDefault, .ref tq_kidNext, .int t_done, .ref tq_finished, .int t_root, .ref tq_plain, .int t_plainSize, .ref tq_told])), (tq_bytes, .inl (cB, 4096, .inl t_bytes)), (tq_kinds, .inl (cI, 4200, .inl t_kinds)), (tq_firsts, .inl (cI, 4200, .inl t_firsts)), (tq_numbers, .inl (cJ, 4200, .inr (.inl t_numbers))), (tq_sizes, .inl (cI, 4200, .inl t_sizes)), (tq_inner, .inl (cI, 4200, .inl t_inner)), (tq_nexts, .inl (cI, 4200, .inl t_nexts)), (tq_letters, .inl (cB, 4200, .inl (upd t_letters (t_lettered : Int32).toNatClampNeg (vp_nar .byte ((x2 : Int32).toInt8.toInt32)))))] := hD
              refine lv_aload_n hx hb dX9_string_112 rfl (lv_at hl 0 rfl) ?_
              refine va_get (D := (dC, dI)) (ci := 0) (v := .ref tq_sizes) (C := RX9) (T := TX9) (N := 35) hx hb hts (inX9 _) hown hK hP 0 rfl rfl 11 (by decide) (hts _ (List.mem_cons_of_mem _ wf9_26)) (fun _ h9 => h9) rfl dX9_string_113 ?_
              refine lv_iload_n hx hb dX9_string_116 rfl (lv_at hl 1 rfl) ?_
              refine lv_dup2_11 hx hb dX9_string_117 rfl rfl ?_
              obtain ⟨h8, hm⟩ := mr_bd hm
              refine va_iald hx hb hK hP 5 0 rfl rfl h8 dX9_string_118 ?_
              refine lv_iconst (v := 1) hx hb dX9_string_119 (by decide) ?_
              refine lv_iadd hx hb dX9_string_120 ?_
              obtain ⟨h9, hm⟩ := mr_bd hm
              refine va_iast hx hb hK hP hD hS 5 0 rfl rfl h9 dX9_string_121 (fun H locs hP hD hS => ?_)
              have hP : va_P (dC, dI) srCl [(ob0, .inr (0, [.ref tq_bytes, .int t_length, .int t_at, .int t_deep, .int t_fault, .int t_place, .int t_end, .int t_nodes, .ref tq_kinds, .ref tq_firsts, .ref tq_numbers, .ref tq_sizes, .ref tq_inner, .ref tq_nexts, .ref tq_letters, .int (t_lettered + 1), .int t_shapes, .int t_looked, .ref tq_sorts, .ref tq_names, .ref tq_wide, .ref tq_kids, .ref tq_many, .ref tq_fallback, .int t_kidCount, .ref tq_kidShape, .ref tq_kidName, .ref tq_kidDefault, .ref tq_kidNext, .int t_done, .ref tq_finished, .int t_root, .ref tq_plain, .int t_plainSize, .ref tq_told])), (tq_bytes, .inl (cB, 4096, .inl t_bytes)), (tq_kinds, .inl (cI, 4200, .inl t_kinds)), (tq_firsts, .inl (cI, 4200, .inl t_firsts)), (tq_numbers, .inl (cJ, 4200, .inr (.inl t_numbers))), (tq_sizes, .inl (cI, 4200, .inl (upd t_sizes (x1 : Int32).toNatClampNeg ((t_sizes (x1 : Int32).toNatClampNeg) + 1)))), (tq_inner, .inl (cI, 4200, .inl t_inner)), (tq_nexts, .inl (cI, 4200, .inl t_nexts)), (tq_letters, .inl (cB, 4200, .inl (upd t_letters (t_lettered : Int32).toNatClampNeg (vp_nar .byte ((x2 : Int32).toInt8.toInt32)))))] H := hP
              have hD : va_D A [(ob0, .inr (0, [.ref tq_bytes, .int t_length, .int t_at, .int t_deep, .int t_fault, .int t_place, .int t_end, .int t_nodes, .ref tq_kinds, .ref tq_firsts, .ref tq_numbers, .ref tq_sizes, .ref tq_inner, .ref tq_nexts, .ref tq_letters, .int (t_lettered + 1), .int t_shapes, .int t_looked, .ref tq_sorts, .ref tq_names, .ref tq_wide, .ref tq_kids, .ref tq_many, .ref tq_fallback, .int t_kidCount, .ref tq_kidShape, .ref tq_kidName, .ref tq_kidDefault, .ref tq_kidNext, .int t_done, .ref tq_finished, .int t_root, .ref tq_plain, .int t_plainSize, .ref tq_told])), (tq_bytes, .inl (cB, 4096, .inl t_bytes)), (tq_kinds, .inl (cI, 4200, .inl t_kinds)), (tq_firsts, .inl (cI, 4200, .inl t_firsts)), (tq_numbers, .inl (cJ, 4200, .inr (.inl t_numbers))), (tq_sizes, .inl (cI, 4200, .inl (upd t_sizes (x1 : Int32).toNatClampNeg ((t_sizes (x1 : Int32).toNatClampNeg) + 1)))), (tq_inner, .inl (cI, 4200, .inl t_inner)), (tq_nexts, .inl (cI, 4200, .inl t_nexts)), (tq_letters, .inl (cB, 4200, .inl (upd t_letters (t_lettered : Int32).toNatClampNeg (vp_nar .byte ((x2 : Int32).toInt8.toInt32)))))] := hD
              refine lv_goto (tgt := 27) hx hb dX9_string_122 (by decide) ?_
              exact ih27 t_at t_fault t_place t_nodes t_kinds t_firsts t_numbers (upd t_sizes (x1 : Int32).toNatClampNeg ((t_sizes (x1 : Int32).toNatClampNeg) + 1)) t_inner t_nexts (upd t_letters (t_lettered : Int32).toNatClampNeg (vp_nar .byte ((x2 : Int32).toInt8.toInt32))) (t_lettered + 1) x1 _ _ ls hP hD hS (lv_sub hl [0, 1] rfl) hm
            refine lv_icmp_ne (tgt := 81) hx hb dX9_string_70 (by decide) (fun c10 => ?_) (fun c10 => ?_)
            · have hm := mr_un c10 hm
              refine lv_aload_n hx hb dX9_string_81 rfl (lv_at hl 0 rfl) ?_
              refine lv_dup hx hb dX9_string_82 rfl ?_
              refine va_get (D := (dC, dI)) (ci := 0) (v := .int t_at) (C := RX9) (T := TX9) (N := 35) hx hb hts (inX9 _) hown hK hP 0 rfl rfl 2 (by decide) (hts _ (List.mem_cons_of_mem _ wf9_95)) (fun _ h9 => h9) rfl dX9_string_83 ?_
              refine lv_iconst (v := 1) hx hb dX9_string_86 (by decide) ?_
              refine lv_iadd hx hb dX9_string_87 ?_
              refine va_put (D := (dC, dI)) (ci := 0) (v := .int (t_at + 1)) (ty := .int) (C := RX9) (T := TX9) (N := 35) hx hb hts (inX9 _) tyX9 tyX9_ok nmX9 hown hK hP hD hS 0 rfl rfl 2 (by decide) (hts _ (List.mem_cons_of_mem _ wf9_95)) (fun _ h9 => h9) rfl (by decide +kernel) rfl rfl (Nat.le_of_ble_eq_true rfl) dX9_string_88 (fun H locs hP hD hS => ?_)
              have hP : va_P (dC, dI) srCl [(ob0, .inr (0, [.ref tq_bytes, .int t_length, .int (t_at + 1), .int t_deep, .int t_fault_6, .int t_place_6, .int t_end, .int t_nodes, .ref tq_kinds, .ref tq_firsts, .ref tq_numbers, .ref tq_sizes, .ref tq_inner, .ref tq_nexts, .ref tq_letters, .int t_lettered, .int t_shapes, .int t_looked, .ref tq_sorts, .ref tq_names, .ref tq_wide, .ref tq_kids, .ref tq_many, .ref tq_fallback, .int t_kidCount, .ref tq_kidShape, .ref tq_kidName, .ref tq_kidDefault, .ref tq_kidNext, .int t_done, .ref tq_finished, .int t_root, .ref tq_plain, .int t_plainSize, .ref tq_told])), (tq_bytes, .inl (cB, 4096, .inl t_bytes)), (tq_kinds, .inl (cI, 4200, .inl t_kinds)), (tq_firsts, .inl (cI, 4200, .inl t_firsts)), (tq_numbers, .inl (cJ, 4200, .inr (.inl t_numbers))), (tq_sizes, .inl (cI, 4200, .inl t_sizes)), (tq_inner, .inl (cI, 4200, .inl t_inner)), (tq_nexts, .inl (cI, 4200, .inl t_nexts)), (tq_letters, .inl (cB, 4200, .inl t_letters))] H := hP
              have hD : va_D A [(ob0, .inr (0, [.ref tq_bytes, .int t_length, .int (t_at + 1), .int t_deep, .int t_fault_6, .int t_place_6, .int t_end, .int t_nodes, .ref tq_kinds, .ref tq_firsts, .ref tq_numbers, .ref tq_sizes, .ref tq_inner, .ref tq_nexts, .ref tq_letters, .int t_lettered, .int t_shapes, .int t_looked, .ref tq_sorts, .ref tq_names, .ref tq_wide, .ref tq_kids, .ref tq_many, .ref tq_fallback, .int t_kidCount, .ref tq_kidShape, .ref tq_kidName, .ref tq_kidDefault, .ref tq_kidNext, .int t_done, .ref tq_finished, .int t_root, .ref tq_plain, .int t_plainSize, .ref tq_told])), (tq_bytes, .inl (cB, 4096, .inl t_bytes)), (tq_kinds, .inl (cI, 4200, .inl t_kinds)), (tq_firsts, .inl (cI, 4200, .inl t_firsts)), (tq_numbers, .inl (cJ, 4200, .inr (.inl t_numbers))), (tq_sizes, .inl (cI, 4200, .inl t_sizes)), (tq_inner, .inl (cI, 4200, .inl t_inner)), (tq_nexts, .inl (cI, 4200, .inl t_nexts)), (tq_letters, .inl (cB, 4200, .inl t_letters))] := hD
              exact j91 (t_at + 1) t_fault_6 t_place_6 t_nodes t_kinds t_firsts t_numbers t_sizes t_inner t_nexts t_letters t_lettered x1 x2 _ _ ls hP hD hS (lv_sub hl [0, 1, 2] rfl) hm
            · have hm := mr_if c10 hm
              refine lv_aload_n hx hb dX9_string_73 rfl (lv_at hl 0 rfl) ?_
              rcases mr_tried hm with ⟨r11, ⟨t_at_11, t_fault_11, t_place_11⟩, hz11, hm⟩ | ⟨⟨t_at_11, t_fault_11, t_place_11⟩, hz11, hm⟩
              · try dsimp only at hm
                refine mr_wVi (As := []) (rest := []) (sr_okZ adK adV) ⟨hx, hb, hml, hown, hts⟩ (t2_okI (kX9_escaped l htr dC dI adK adV cI cB cJ cZ cQ ob0 tq_bytes tq_kinds tq_firsts tq_numbers tq_sizes tq_inner tq_nexts tq_letters tq_sorts tq_names tq_wide tq_kids tq_many tq_fallback tq_kidShape tq_kidName tq_kidDefault tq_kidNext tq_finished tq_plain tq_told t_length t_at t_deep t_fault_6 t_place_6 t_end t_nodes t_lettered t_shapes t_looked t_kidCount t_done t_root t_plainSize t_bytes _ _ hz11)) (cwV 0 hts (g9_170 _) rfl rfl rfl (by decide +kernel) ⟨(by show 11 + 1 ≤ 12; omega), (by show 8 + (6 + 11) + (186) ≤ 211; omega)⟩) hS hA hP hD hK hz0 (wr := [(tq_kinds, .inl (cI, 4200, .inl t_kinds)), (tq_firsts, .inl (cI, 4200, .inl t_firsts)), (tq_numbers, .inl (cJ, 4200, .inr (.inl t_numbers))), (tq_sizes, .inl (cI, 4200, .inl t_sizes)), (tq_inner, .inl (cI, 4200, .inl t_inner)), (tq_nexts, .inl (cI, 4200, .inl t_nexts)), (tq_letters, .inl (cB, 4200, .inl t_letters))]) (w1 := [(ob0, .inr (0, [.ref tq_bytes, .int t_length, .int t_at_11, .int t_deep, .int t_fault_11, .int t_place_11, .int t_end, .int t_nodes, .ref tq_kinds, .ref tq_firsts, .ref tq_numbers, .ref tq_sizes, .ref tq_inner, .ref tq_nexts, .ref tq_letters, .int t_lettered, .int t_shapes, .int t_looked, .ref tq_sorts, .ref tq_names, .ref tq_wide, .ref tq_kids, .ref tq_many, .ref tq_fallback, .int t_kidCount, .ref tq_kidShape, .ref tq_kidName, .ref tq_kidDefault, .ref tq_kidNext, .int t_done, .ref tq_finished, .int t_root, .ref tq_plain, .int t_plainSize, .ref tq_told])), (tq_bytes, .inl (cB, 4096, .inl t_bytes)), (tq_kinds, .inl (cI, 4200, .inl t_kinds)), (tq_firsts, .inl (cI, 4200, .inl t_firsts)), (tq_numbers, .inl (cJ, 4200, .inr (.inl t_numbers))), (tq_sizes, .inl (cI, 4200, .inl t_sizes)), (tq_inner, .inl (cI, 4200, .inl t_inner)), (tq_nexts, .inl (cI, 4200, .inl t_nexts)), (tq_letters, .inl (cB, 4200, .inl t_letters))]) [0, 1] [2, 3, 4, 5, 6, 7, 8] [7, 8, 0, 1, 2, 3, 4, 5, 6] rfl rfl rfl rfl rfl (by decide) rfl rfl rfl (va_recv hK hP (ci := 0) (q0 := 0) rfl rfl) rfl rfl hl.1 (Nat.le_of_ble_eq_true rfl) dX9_string_74 ⟨Nat.zero_le _, Nat.zero_le _⟩ (fun H locs hP hD hS => ?_)
                refine lv_istore_n (lv' := [(2, .int r11), (0, .ref ob0), (1, .int x1)]) hx hb dX9_string_77 rfl hl (by decide) rfl (fun ls hl => ?_)
                refine lv_goto (tgt := 91) hx hb dX9_string_78 (by decide) ?_
                exact j91 t_at_11 t_fault_11 t_place_11 t_nodes t_kinds t_firsts t_numbers t_sizes t_inner t_nexts t_letters t_lettered x1 r11 _ _ ls hP hD hS (lv_sub hl [1, 2, 0] rfl) hm
              · try dsimp only at hm
                subst hm
                subst hQ0
                exact mr_xV (R := (headSpec wsX9_string (rmX9_string (t2_mc (.error (t_at_11, t_fault_11, t_place_11, t_nodes, t_kinds, t_firsts, t_numbers, t_sizes, t_inner, t_nexts, t_letters, t_lettered) : Except (Int32 × Int32 × Int32 × Int32 × (Nat → Int32) × (Nat → Int32) × (Nat → Int64) × (Nat → Int32) × (Nat → Int32) × (Nat → Int32) × (Nat → Int32) × Int32) (Int32 × (Int32 × Int32 × Int32 × Int32 × (Nat → Int32) × (Nat → Int32) × (Nat → Int64) × (Nat → Int32) × (Nat → Int32) × (Nat → Int32) × (Nat → Int32) × Int32)))) (t2_ms (.error (t_at_11, t_fault_11, t_place_11, t_nodes, t_kinds, t_firsts, t_numbers, t_sizes, t_inner, t_nexts, t_letters, t_lettered) : Except (Int32 × Int32 × Int32 × Int32 × (Nat → Int32) × (Nat → Int32) × (Nat → Int64) × (Nat → Int32) × (Nat → Int32) × (Nat → Int32) × (Nat → Int32) × Int32) (Int32 × (Int32 × Int32 × Int32 × Int32 × (Nat → Int32) × (Nat → Int32) × (Nat → Int64) × (Nat → Int32) × (Nat → Int32) × (Nat → Int32) × (Nat → Int32) × Int32)))))).room) (cells := 0) (slots := 0) (As := []) (rest := []) (wf' := (fun u : Int32 × Int32 × Int32 × Int32 × (Nat → Int32) × (Nat → Int32) × (Nat → Int64) × (Nat → Int32) × (Nat → Int32) × (Nat → Int32) × (Nat → Int32) × Int32 => [(ob0, .inr (0, [.ref tq_bytes, .int t_length, .int u.1, .int t_deep, .int u.2.1, .int u.2.2.1, .int t_end, .int u.2.2.2.1, .ref tq_kinds, .ref tq_firsts, .ref tq_numbers, .ref tq_sizes, .ref tq_inner, .ref tq_nexts, .ref tq_letters, .int u.2.2.2.2.2.2.2.2.2.2.2, .int t_shapes, .int t_looked, .ref tq_sorts, .ref tq_names, .ref tq_wide, .ref tq_kids, .ref tq_many, .ref tq_fallback, .int t_kidCount, .ref tq_kidShape, .ref tq_kidName, .ref tq_kidDefault, .ref tq_kidNext, .int t_done, .ref tq_finished, .int t_root, .ref tq_plain, .int t_plainSize, .ref tq_told])), (tq_bytes, .inl (cB, 4096, .inl t_bytes)), (tq_kinds, .inl (cI, 4200, .inl u.2.2.2.2.1)), (tq_firsts, .inl (cI, 4200, .inl u.2.2.2.2.2.1)), (tq_numbers, .inl (cJ, 4200, .inr (.inl u.2.2.2.2.2.2.1))), (tq_sizes, .inl (cI, 4200, .inl u.2.2.2.2.2.2.2.1)), (tq_inner, .inl (cI, 4200, .inl u.2.2.2.2.2.2.2.2.1)), (tq_nexts, .inl (cI, 4200, .inl u.2.2.2.2.2.2.2.2.2.1)), (tq_letters, .inl (cB, 4200, .inl u.2.2.2.2.2.2.2.2.2.2.1))])) (u' := (t_at_11, t_fault_11, t_place_11, t_nodes, t_kinds, t_firsts, t_numbers, t_sizes, t_inner, t_nexts, t_letters, t_lettered)) (sr_okZ adK adV) ⟨hx, hb, hml, hown, hts⟩ (kX9_escaped l htr dC dI adK adV cI cB cJ cZ cQ ob0 tq_bytes tq_kinds tq_firsts tq_numbers tq_sizes tq_inner tq_nexts tq_letters tq_sorts tq_names tq_wide tq_kids tq_many tq_fallback tq_kidShape tq_kidName tq_kidDefault tq_kidNext tq_finished tq_plain tq_told t_length t_at t_deep t_fault_6 t_place_6 t_end t_nodes t_lettered t_shapes t_looked t_kidCount t_done t_root t_plainSize t_bytes _ _ hz11) (cwV 0 hts (g9_170 _) rfl rfl rfl (by decide +kernel) ⟨(by show 11 + 1 ≤ 12; omega), (by show 8 + (6 + 11) + (186) ≤ 211; omega)⟩) hS hA hP hD hK hz0 (wr := [(tq_kinds, .inl (cI, 4200, .inl t_kinds)), (tq_firsts, .inl (cI, 4200, .inl t_firsts)), (tq_numbers, .inl (cJ, 4200, .inr (.inl t_numbers))), (tq_sizes, .inl (cI, 4200, .inl t_sizes)), (tq_inner, .inl (cI, 4200, .inl t_inner)), (tq_nexts, .inl (cI, 4200, .inl t_nexts)), (tq_letters, .inl (cB, 4200, .inl t_letters))]) [0, 1] [2, 3, 4, 5, 6, 7, 8] [7, 8, 0, 1, 2, 3, 4, 5, 6] rfl rfl rfl rfl rfl (by decide) rfl rfl rfl (va_recv hK hP (ci := 0) (q0 := 0) rfl rfl) rfl rfl hl.1 (Nat.le_of_ble_eq_true rfl) dX9_string_74 rfl rfl ⟨Nat.le_refl _, Nat.le_refl _⟩ hex hlocks
          · try dsimp only at hm
            subst hm
            subst hQ0
            exact mr_xV (R := (headSpec wsX9_string (rmX9_string (t2_mc (.error (t_at, t_fault_6, t_place_6, t_nodes, t_kinds, t_firsts, t_numbers, t_sizes, t_inner, t_nexts, t_letters, t_lettered) : Except (Int32 × Int32 × Int32 × Int32 × (Nat → Int32) × (Nat → Int32) × (Nat → Int64) × (Nat → Int32) × (Nat → Int32) × (Nat → Int32) × (Nat → Int32) × Int32) (Int32 × (Int32 × Int32 × Int32 × Int32 × (Nat → Int32) × (Nat → Int32) × (Nat → Int64) × (Nat → Int32) × (Nat → Int32) × (Nat → Int32) × (Nat → Int32) × Int32)))) (t2_ms (.error (t_at, t_fault_6, t_place_6, t_nodes, t_kinds, t_firsts, t_numbers, t_sizes, t_inner, t_nexts, t_letters, t_lettered) : Except (Int32 × Int32 × Int32 × Int32 × (Nat → Int32) × (Nat → Int32) × (Nat → Int64) × (Nat → Int32) × (Nat → Int32) × (Nat → Int32) × (Nat → Int32) × Int32) (Int32 × (Int32 × Int32 × Int32 × Int32 × (Nat → Int32) × (Nat → Int32) × (Nat → Int64) × (Nat → Int32) × (Nat → Int32) × (Nat → Int32) × (Nat → Int32) × Int32)))))).room) (cells := 0) (slots := 0) (As := [.int y0, .int 1, .int t_at]) (rest := []) (wf' := (fun u : Int32 × Int32 × Int32 × Int32 × (Nat → Int32) × (Nat → Int32) × (Nat → Int64) × (Nat → Int32) × (Nat → Int32) × (Nat → Int32) × (Nat → Int32) × Int32 => [(ob0, .inr (0, [.ref tq_bytes, .int t_length, .int u.1, .int t_deep, .int u.2.1, .int u.2.2.1, .int t_end, .int u.2.2.2.1, .ref tq_kinds, .ref tq_firsts, .ref tq_numbers, .ref tq_sizes, .ref tq_inner, .ref tq_nexts, .ref tq_letters, .int u.2.2.2.2.2.2.2.2.2.2.2, .int t_shapes, .int t_looked, .ref tq_sorts, .ref tq_names, .ref tq_wide, .ref tq_kids, .ref tq_many, .ref tq_fallback, .int t_kidCount, .ref tq_kidShape, .ref tq_kidName, .ref tq_kidDefault, .ref tq_kidNext, .int t_done, .ref tq_finished, .int t_root, .ref tq_plain, .int t_plainSize, .ref tq_told])), (tq_bytes, .inl (cB, 4096, .inl t_bytes)), (tq_kinds, .inl (cI, 4200, .inl u.2.2.2.2.1)), (tq_firsts, .inl (cI, 4200, .inl u.2.2.2.2.2.1)), (tq_numbers, .inl (cJ, 4200, .inr (.inl u.2.2.2.2.2.2.1))), (tq_sizes, .inl (cI, 4200, .inl u.2.2.2.2.2.2.2.1)), (tq_inner, .inl (cI, 4200, .inl u.2.2.2.2.2.2.2.2.1)), (tq_nexts, .inl (cI, 4200, .inl u.2.2.2.2.2.2.2.2.2.1)), (tq_letters, .inl (cB, 4200, .inl u.2.2.2.2.2.2.2.2.2.2.1))])) (u' := (t_at, t_fault_6, t_place_6, t_nodes, t_kinds, t_firsts, t_numbers, t_sizes, t_inner, t_nexts, t_letters, t_lettered)) (sr_okZ adK adV) ⟨hx, hb, hml, hown, hts⟩ (kX9_need l htr dC dI adK adV cI cB cJ cZ cQ ob0 tq_bytes tq_kinds tq_firsts tq_numbers tq_sizes tq_inner tq_nexts tq_letters tq_sorts tq_names tq_wide tq_kids tq_many tq_fallback tq_kidShape tq_kidName tq_kidDefault tq_kidNext tq_finished tq_plain tq_told t_length t_at t_deep t_fault t_place t_end t_nodes t_lettered t_shapes t_looked t_kidCount t_done t_root t_plainSize _ y0 1 t_at _ hz6) (cwV 3 hts (g9_105 _) rfl rfl rfl (by decide +kernel) ⟨(by show 9 + 1 ≤ 12; omega), (by show 8 + (4 + 11) + (142) ≤ 211; omega)⟩) hS hA hP hD hK hz0 (wr := [(tq_bytes, .inl (cB, 4096, .inl t_bytes)), (tq_kinds, .inl (cI, 4200, .inl t_kinds)), (tq_firsts, .inl (cI, 4200, .inl t_firsts)), (tq_numbers, .inl (cJ, 4200, .inr (.inl t_numbers))), (tq_sizes, .inl (cI, 4200, .inl t_sizes)), (tq_inner, .inl (cI, 4200, .inl t_inner)), (tq_nexts, .inl (cI, 4200, .inl t_nexts)), (tq_letters, .inl (cB, 4200, .inl t_letters))]) [0] [1, 2, 3, 4, 5, 6, 7, 8] [8, 0, 1, 2, 3, 4, 5, 6, 7] rfl rfl rfl rfl rfl (by decide) rfl rfl rfl (va_recv hK hP (ci := 0) (q0 := 0) rfl rfl) rfl rfl hl.1 (Nat.le_of_ble_eq_true rfl) dX9_string_64 rfl rfl ⟨Nat.le_refl _, Nat.le_refl _⟩ hex hlocks
        have j58 : ∀ (t_at : Int32) (t_fault : Int32) (t_place : Int32) (t_nodes : Int32) (t_kinds : Nat → Int32) (t_firsts : Nat → Int32) (t_numbers : Nat → Int64) (t_sizes : Nat → Int32) (t_inner : Nat → Int32) (t_nexts : Nat → Int32) (t_letters : Nat → Int32) (t_lettered : Int32) (x1 : Int32) (x2 : Int32) (H : Heap) (locs : List Loc) (ls : Array Slot), va_P (dC, dI) srCl [(ob0, .inr (0, [.ref tq_bytes, .int t_length, .int t_at, .int t_deep, .int t_fault, .int t_place, .int t_end, .int t_nodes, .ref tq_kinds, .ref tq_firsts, .ref tq_numbers, .ref tq_sizes, .ref tq_inner, .ref tq_nexts, .ref tq_letters, .int t_lettered, .int t_shapes, .int t_looked, .ref tq_sorts, .ref tq_names, .ref tq_wide, .ref tq_kids, .ref tq_many, .ref tq_fallback, .int t_kidCount, .ref tq_kidShape, .ref tq_kidName, .ref tq_kidDefault, .ref tq_kidNext, .int t_done, .ref tq_finished, .int t_root, .ref tq_plain, .int t_plainSize, .ref tq_told])), (tq_bytes, .inl (cB, 4096, .inl t_bytes)), (tq_kinds, .inl (cI, 4200, .inl t_kinds)), (tq_firsts, .inl (cI, 4200, .inl t_firsts)), (tq_numbers, .inl (cJ, 4200, .inr (.inl t_numbers))), (tq_sizes, .inl (cI, 4200, .inl t_sizes)), (tq_inner, .inl (cI, 4200, .inl t_inner)), (tq_nexts, .inl (cI, 4200, .inl t_nexts)), (tq_letters, .inl (cB, 4200, .inl t_letters))] H → va_D A [(ob0, .inr (0, [.ref tq_bytes, .int t_length, .int t_at, .int t_deep, .int t_fault, .int t_place, .int t_end, .int t_nodes, .ref tq_kinds, .ref tq_firsts, .ref tq_numbers, .ref tq_sizes, .ref tq_inner, .ref tq_nexts, .ref tq_letters, .int t_lettered, .int t_shapes, .int t_looked, .ref tq_sorts, .ref tq_names, .ref tq_wide, .ref tq_kids, .ref tq_many, .ref tq_fallback, .int t_kidCount, .ref tq_kidShape, .ref tq_kidName, .ref tq_kidDefault, .ref tq_kidNext, .int t_done, .ref tq_finished, .int t_root, .ref tq_plain, .int t_plainSize, .ref tq_told])), (tq_bytes, .inl (cB, 4096, .inl t_bytes)), (tq_kinds, .inl (cI, 4200, .inl t_kinds)), (tq_firsts, .inl (cI, 4200, .inl t_firsts)), (tq_numbers, .inl (cJ, 4200, .inr (.inl t_numbers))), (tq_sizes, .inl (cI, 4200, .inl t_sizes)), (tq_inner, .inl (cI, 4200, .inl t_inner)), (tq_nexts, .inl (cI, 4200, .inl t_nexts)), (tq_letters, .inl (cB, 4200, .inl t_letters))] → va_S A s.heap H locs → lv_has ls 3 [(0, .ref ob0), (1, .int x1), (2, .int x2)] → m_X9_string_58 t_bytes t_length (m_X9_string_27 t_bytes t_length n27) t_at t_fault t_place t_nodes t_kinds t_firsts t_numbers t_sizes t_inner t_nexts t_letters t_lettered x1 x2 = some res → W p l e (headSpec wsX9_string (rmX9_string (t2_mc res) (t2_ms res))).room s m [.ref ob0].toArray below meth c H locs 0 0 Q0 (F0 m 58 ls [.ref ob0]) := by
          intro t_at t_fault t_place t_nodes t_kinds t_firsts t_numbers t_sizes t_inner t_nexts t_letters t_lettered x1 x2 H locs ls hP hD hS hl hm
          unfold m_X9_string_58 at hm
          refine lv_iconst (v := 0) hx hb dX9_string_58 (by decide) ?_
          exact j59 t_at t_fault t_place t_nodes t_kinds t_firsts t_numbers t_sizes t_inner t_nexts t_letters t_lettered x1 x2 0 _ _ ls hP hD hS (lv_sub hl [0, 1, 2] rfl) hm
        refine lv_icmp_lt (tgt := 58) hx hb dX9_string_45 (by decide) (fun c12 => ?_) (fun c12 => ?_)
        · have hm := mr_if c12 hm
          exact j58 t_at t_fault t_place t_nodes t_kinds t_firsts t_numbers t_sizes t_inner t_nexts t_letters t_lettered x1 r5 _ _ ls hP hD hS (lv_sub hl [1, 2, 0] rfl) hm
        · have hm := mr_un c12 hm
          refine lv_iload_n hx hb dX9_string_48 rfl (lv_at hl 0 rfl) ?_
          refine lv_bipush (v := 126) hx hb dX9_string_49 (by decide) ?_
          refine lv_icmp_gt (tgt := 58) hx hb dX9_string_51 (by decide) (fun c13 => ?_) (fun c13 => ?_)
          · have hm := mr_if c13 hm
            exact j58 t_at t_fault t_place t_nodes t_kinds t_firsts t_numbers t_sizes t_inner t_nexts t_letters t_lettered x1 r5 _ _ ls hP hD hS (lv_sub hl [1, 2, 0] rfl) hm
          · have hm := mr_un c13 hm
            refine lv_iconst (v := 1) hx hb dX9_string_54 (by decide) ?_
            refine lv_goto (tgt := 59) hx hb dX9_string_55 (by decide) ?_
            exact j59 t_at t_fault t_place t_nodes t_kinds t_firsts t_numbers t_sizes t_inner t_nexts t_letters t_lettered x1 r5 1 _ _ ls hP hD hS (lv_sub hl [1, 2, 0] rfl) hm
  refine va_put (D := (dC, dI)) (ci := 0) (v := .int (t_at + 1)) (ty := .int) (C := RX9) (T := TX9) (N := 35) hx hb hts (inX9 _) tyX9 tyX9_ok nmX9 hown hK hP hD hS 0 rfl rfl 2 (by decide) (hts _ (List.mem_cons_of_mem _ wf9_95)) (fun _ h9 => h9) rfl (by decide +kernel) rfl rfl (Nat.le_of_ble_eq_true rfl) dX9_string_24 (fun H locs hP hD hS => ?_)
  have hP : va_P (dC, dI) srCl [(ob0, .inr (0, [.ref tq_bytes, .int t_length, .int (t_at + 1), .int t_deep, .int t_fault, .int t_place, .int t_end, .int t_nodes_1, .ref tq_kinds, .ref tq_firsts, .ref tq_numbers, .ref tq_sizes, .ref tq_inner, .ref tq_nexts, .ref tq_letters, .int t_lettered, .int t_shapes, .int t_looked, .ref tq_sorts, .ref tq_names, .ref tq_wide, .ref tq_kids, .ref tq_many, .ref tq_fallback, .int t_kidCount, .ref tq_kidShape, .ref tq_kidName, .ref tq_kidDefault, .ref tq_kidNext, .int t_done, .ref tq_finished, .int t_root, .ref tq_plain, .int t_plainSize, .ref tq_told])), (tq_bytes, .inl (cB, 4096, .inl t_bytes)), (tq_kinds, .inl (cI, 4200, .inl t_kinds_1)), (tq_firsts, .inl (cI, 4200, .inl t_firsts_1)), (tq_numbers, .inl (cJ, 4200, .inr (.inl (vp_updL t_numbers_1 (r1 : Int32).toNatClampNeg ((t_lettered : Int32).toInt64))))), (tq_sizes, .inl (cI, 4200, .inl t_sizes_1)), (tq_inner, .inl (cI, 4200, .inl t_inner_1)), (tq_nexts, .inl (cI, 4200, .inl t_nexts_1)), (tq_letters, .inl (cB, 4200, .inl t_letters))] H := hP
  have hD : va_D A [(ob0, .inr (0, [.ref tq_bytes, .int t_length, .int (t_at + 1), .int t_deep, .int t_fault, .int t_place, .int t_end, .int t_nodes_1, .ref tq_kinds, .ref tq_firsts, .ref tq_numbers, .ref tq_sizes, .ref tq_inner, .ref tq_nexts, .ref tq_letters, .int t_lettered, .int t_shapes, .int t_looked, .ref tq_sorts, .ref tq_names, .ref tq_wide, .ref tq_kids, .ref tq_many, .ref tq_fallback, .int t_kidCount, .ref tq_kidShape, .ref tq_kidName, .ref tq_kidDefault, .ref tq_kidNext, .int t_done, .ref tq_finished, .int t_root, .ref tq_plain, .int t_plainSize, .ref tq_told])), (tq_bytes, .inl (cB, 4096, .inl t_bytes)), (tq_kinds, .inl (cI, 4200, .inl t_kinds_1)), (tq_firsts, .inl (cI, 4200, .inl t_firsts_1)), (tq_numbers, .inl (cJ, 4200, .inr (.inl (vp_updL t_numbers_1 (r1 : Int32).toNatClampNeg ((t_lettered : Int32).toInt64))))), (tq_sizes, .inl (cI, 4200, .inl t_sizes_1)), (tq_inner, .inl (cI, 4200, .inl t_inner_1)), (tq_nexts, .inl (cI, 4200, .inl t_nexts_1)), (tq_letters, .inl (cB, 4200, .inl t_letters))] := hD
  exact j27 sr_fuel (t_at + 1) t_fault t_place t_nodes_1 t_kinds_1 t_firsts_1 (vp_updL t_numbers_1 (r1 : Int32).toNatClampNeg ((t_lettered : Int32).toInt64)) t_sizes_1 t_inner_1 t_nexts_1 t_letters t_lettered r1 _ _ ls hP hD hS (lv_sub hl [1, 0] rfl) hm
end
