abbrev cX8_place : ByteArray := prog_1_method_5_code
def yX8_place : MethodName := ⟨RX8, "place", "()I"⟩
def wsX8_place : List Cond := .code yX8_place cX8_place 1 (some .int) :: sr_G
theorem dX8_place_0 : decode cX8_place 0 = .ok (.aload_n 0, 1) := by decide +kernel
theorem dX8_place_1 : decode cX8_place 1 = .ok (.getfield 49, 3) := by decide +kernel
theorem dX8_place_4 : decode cX8_place 4 = .ok (.ireturn, 1) := by decide +kernel
def rmX8_place (mc ms : Nat) : Room := { frames := 0, cells := mc, slots := ms, locals := 0 }
abbrev cX8_size : ByteArray := prog_1_method_6_code
def yX8_size : MethodName := ⟨RX8, "size", "()I"⟩
def wsX8_size : List Cond := .code yX8_size cX8_size 1 (some .int) :: sr_G
theorem dX8_size_0 : decode cX8_size 0 = .ok (.aload_n 0, 1) := by decide +kernel
theorem dX8_size_1 : decode cX8_size 1 = .ok (.getfield 45, 3) := by decide +kernel
theorem dX8_size_4 : decode cX8_size 4 = .ok (.ifCond .eq 13, 3) := by decide +kernel
theorem dX8_size_7 : decode cX8_size 7 = .ok (.aload_n 0, 1) := by decide +kernel
theorem dX8_size_8 : decode cX8_size 8 = .ok (.getfield 31, 3) := by decide +kernel
theorem dX8_size_11 : decode cX8_size 11 = .ok (.invokevirtual 89, 3) := by decide +kernel
theorem dX8_size_14 : decode cX8_size 14 = .ok (.goto 4, 3) := by decide +kernel
theorem dX8_size_17 : decode cX8_size 17 = .ok (.iconst 0, 1) := by decide +kernel
theorem dX8_size_18 : decode cX8_size 18 = .ok (.ireturn, 1) := by decide +kernel
def rmX8_size (mc ms : Nat) : Room := { frames := 1, cells := mc, slots := ms, locals := 20 }
abbrev cX8_print : ByteArray := prog_1_method_8_code
def yX8_print : MethodName := ⟨RX8, "print", "()J"⟩
def wsX8_print : List Cond := .code yX8_print cX8_print 5 (some .long) :: sr_G
theorem dX8_print_0 : decode cX8_print 0 = .ok (.aload_n 0, 1) := by decide +kernel
theorem dX8_print_1 : decode cX8_print 1 = .ok (.getfield 45, 3) := by decide +kernel
theorem dX8_print_4 : decode cX8_print 4 = .ok (.ifCond .ne 5, 3) := by decide +kernel
theorem dX8_print_7 : decode cX8_print 7 = .ok (.lconst 0, 1) := by decide +kernel
theorem dX8_print_8 : decode cX8_print 8 = .ok (.lreturn, 1) := by decide +kernel
theorem dX8_print_9 : decode cX8_print 9 = .ok (.ldc2_w 101, 3) := by decide +kernel
theorem dX8_print_12 : decode cX8_print 12 = .ok (.lstore_n 1, 1) := by decide +kernel
theorem dX8_print_13 : decode cX8_print 13 = .ok (.iconst 0, 1) := by decide +kernel
theorem dX8_print_14 : decode cX8_print 14 = .ok (.istore_n 3, 1) := by decide +kernel
theorem dX8_print_15 : decode cX8_print 15 = .ok (.iload_n 3, 1) := by decide +kernel
theorem dX8_print_16 : decode cX8_print 16 = .ok (.aload_n 0, 1) := by decide +kernel
theorem dX8_print_17 : decode cX8_print 17 = .ok (.getfield 31, 3) := by decide +kernel
theorem dX8_print_20 : decode cX8_print 20 = .ok (.invokevirtual 89, 3) := by decide +kernel
theorem dX8_print_23 : decode cX8_print 23 = .ok (.if_icmp .ge 40, 3) := by decide +kernel
theorem dX8_print_26 : decode cX8_print 26 = .ok (.lload_n 1, 1) := by decide +kernel
theorem dX8_print_27 : decode cX8_print 27 = .ok (.aload_n 0, 1) := by decide +kernel
theorem dX8_print_28 : decode cX8_print 28 = .ok (.getfield 31, 3) := by decide +kernel
theorem dX8_print_31 : decode cX8_print 31 = .ok (.iload_n 3, 1) := by decide +kernel
theorem dX8_print_32 : decode cX8_print 32 = .ok (.invokevirtual 97, 3) := by decide +kernel
theorem dX8_print_35 : decode cX8_print 35 = .ok (.i2l, 1) := by decide +kernel
theorem dX8_print_36 : decode cX8_print 36 = .ok (.lxor, 1) := by decide +kernel
theorem dX8_print_37 : decode cX8_print 37 = .ok (.l2i, 1) := by decide +kernel
theorem dX8_print_38 : decode cX8_print 38 = .ok (.sipush 255, 3) := by decide +kernel
theorem dX8_print_41 : decode cX8_print 41 = .ok (.iand, 1) := by decide +kernel
theorem dX8_print_42 : decode cX8_print 42 = .ok (.istore 4, 2) := by decide +kernel
theorem dX8_print_44 : decode cX8_print 44 = .ok (.lload_n 1, 1) := by decide +kernel
theorem dX8_print_45 : decode cX8_print 45 = .ok (.bipush 8, 2) := by decide +kernel
theorem dX8_print_47 : decode cX8_print 47 = .ok (.lushr, 1) := by decide +kernel
theorem dX8_print_48 : decode cX8_print 48 = .ok (.aload_n 0, 1) := by decide +kernel
theorem dX8_print_49 : decode cX8_print 49 = .ok (.getfield 22, 3) := by decide +kernel
theorem dX8_print_52 : decode cX8_print 52 = .ok (.iload 4, 2) := by decide +kernel
theorem dX8_print_54 : decode cX8_print 54 = .ok (.laload, 1) := by decide +kernel
theorem dX8_print_55 : decode cX8_print 55 = .ok (.lxor, 1) := by decide +kernel
theorem dX8_print_56 : decode cX8_print 56 = .ok (.lstore_n 1, 1) := by decide +kernel
theorem dX8_print_57 : decode cX8_print 57 = .ok (.iinc 3 1, 3) := by decide +kernel
theorem dX8_print_60 : decode cX8_print 60 = .ok (.goto (-45), 3) := by decide +kernel
theorem dX8_print_63 : decode cX8_print 63 = .ok (.lload_n 1, 1) := by decide +kernel
theorem dX8_print_64 : decode cX8_print 64 = .ok (.lreturn, 1) := by decide +kernel
def rmX8_print (mc ms : Nat) : Room := { frames := 1, cells := mc, slots := ms, locals := 21 }
abbrev cX8_schema : ByteArray := prog_1_method_4_code
def yX8_schema : MethodName := ⟨RX8, "schema", "()I"⟩
def wsX8_schema : List Cond := .code yX8_schema cX8_schema 3 (some .int) :: sr_G
theorem dX8_schema_0 : decode cX8_schema 0 = .ok (.new 79, 3) := by decide +kernel
theorem dX8_schema_3 : decode cX8_schema 3 = .ok (.dup, 1) := by decide +kernel
theorem dX8_schema_4 : decode cX8_schema 4 = .ok (.aload_n 0, 1) := by decide +kernel
theorem dX8_schema_5 : decode cX8_schema 5 = .ok (.getfield 10, 3) := by decide +kernel
theorem dX8_schema_8 : decode cX8_schema 8 = .ok (.aload_n 0, 1) := by decide +kernel
theorem dX8_schema_9 : decode cX8_schema 9 = .ok (.getfield 31, 3) := by decide +kernel
theorem dX8_schema_12 : decode cX8_schema 12 = .ok (.aload_n 0, 1) := by decide +kernel
theorem dX8_schema_13 : decode cX8_schema 13 = .ok (.getfield 38, 3) := by decide +kernel
theorem dX8_schema_16 : decode cX8_schema 16 = .ok (.invokespecial 81, 3) := by decide +kernel
theorem dX8_schema_19 : decode cX8_schema 19 = .ok (.astore_n 1, 1) := by decide +kernel
theorem dX8_schema_20 : decode cX8_schema 20 = .ok (.aload_n 1, 1) := by decide +kernel
theorem dX8_schema_21 : decode cX8_schema 21 = .ok (.invokevirtual 84, 3) := by decide +kernel
theorem dX8_schema_24 : decode cX8_schema 24 = .ok (.istore_n 2, 1) := by decide +kernel
theorem dX8_schema_25 : decode cX8_schema 25 = .ok (.aload_n 0, 1) := by decide +kernel
theorem dX8_schema_26 : decode cX8_schema 26 = .ok (.iload_n 2, 1) := by decide +kernel
theorem dX8_schema_27 : decode cX8_schema 27 = .ok (.ifCond .ne 7, 3) := by decide +kernel
theorem dX8_schema_30 : decode cX8_schema 30 = .ok (.iconst 1, 1) := by decide +kernel
theorem dX8_schema_31 : decode cX8_schema 31 = .ok (.goto 4, 3) := by decide +kernel
theorem dX8_schema_34 : decode cX8_schema 34 = .ok (.iconst 0, 1) := by decide +kernel
theorem dX8_schema_35 : decode cX8_schema 35 = .ok (.putfield 45, 3) := by decide +kernel
theorem dX8_schema_38 : decode cX8_schema 38 = .ok (.aload_n 0, 1) := by decide +kernel
theorem dX8_schema_39 : decode cX8_schema 39 = .ok (.aload_n 1, 1) := by decide +kernel
theorem dX8_schema_40 : decode cX8_schema 40 = .ok (.invokevirtual 87, 3) := by decide +kernel
theorem dX8_schema_43 : decode cX8_schema 43 = .ok (.putfield 49, 3) := by decide +kernel
theorem dX8_schema_46 : decode cX8_schema 46 = .ok (.iload_n 2, 1) := by decide +kernel
theorem dX8_schema_47 : decode cX8_schema 47 = .ok (.ireturn, 1) := by decide +kernel
def rmX8_schema (mc ms : Nat) : Room := { frames := 81, cells := mc, slots := ms, locals := 2094 }
abbrev cX8_feed : ByteArray := prog_1_method_2_code
def yX8_feed : MethodName := ⟨RX8, "feed", "(IIIII)I"⟩
def wsX8_feed : List Cond := .code yX8_feed cX8_feed 6 (some .int) :: sr_G
theorem dX8_feed_0 : decode cX8_feed 0 = .ok (.aload_n 0, 1) := by decide +kernel
theorem dX8_feed_1 : decode cX8_feed 1 = .ok (.getfield 10, 3) := by decide +kernel
theorem dX8_feed_4 : decode cX8_feed 4 = .ok (.invokevirtual 56, 3) := by decide +kernel
theorem dX8_feed_7 : decode cX8_feed 7 = .ok (.bipush 20, 2) := by decide +kernel
theorem dX8_feed_9 : decode cX8_feed 9 = .ok (.iadd, 1) := by decide +kernel
theorem dX8_feed_10 : decode cX8_feed 10 = .ok (.sipush 4096, 3) := by decide +kernel
theorem dX8_feed_13 : decode cX8_feed 13 = .ok (.if_icmp .le 13, 3) := by decide +kernel
theorem dX8_feed_16 : decode cX8_feed 16 = .ok (.new 60, 3) := by decide +kernel
theorem dX8_feed_19 : decode cX8_feed 19 = .ok (.dup, 1) := by decide +kernel
theorem dX8_feed_20 : decode cX8_feed 20 = .ok (.ldc 62, 2) := by decide +kernel
theorem dX8_feed_22 : decode cX8_feed 22 = .ok (.invokespecial 64, 3) := by decide +kernel
theorem dX8_feed_25 : decode cX8_feed 25 = .ok (.athrow, 1) := by decide +kernel
theorem dX8_feed_26 : decode cX8_feed 26 = .ok (.aload_n 0, 1) := by decide +kernel
theorem dX8_feed_27 : decode cX8_feed 27 = .ok (.getfield 10, 3) := by decide +kernel
theorem dX8_feed_30 : decode cX8_feed 30 = .ok (.iload_n 1, 1) := by decide +kernel
theorem dX8_feed_31 : decode cX8_feed 31 = .ok (.invokevirtual 67, 3) := by decide +kernel
theorem dX8_feed_34 : decode cX8_feed 34 = .ok (.aload_n 0, 1) := by decide +kernel
theorem dX8_feed_35 : decode cX8_feed 35 = .ok (.getfield 10, 3) := by decide +kernel
theorem dX8_feed_38 : decode cX8_feed 38 = .ok (.iload_n 2, 1) := by decide +kernel
theorem dX8_feed_39 : decode cX8_feed 39 = .ok (.invokevirtual 67, 3) := by decide +kernel
theorem dX8_feed_42 : decode cX8_feed 42 = .ok (.aload_n 0, 1) := by decide +kernel
theorem dX8_feed_43 : decode cX8_feed 43 = .ok (.getfield 10, 3) := by decide +kernel
theorem dX8_feed_46 : decode cX8_feed 46 = .ok (.iload_n 3, 1) := by decide +kernel
theorem dX8_feed_47 : decode cX8_feed 47 = .ok (.invokevirtual 67, 3) := by decide +kernel
theorem dX8_feed_50 : decode cX8_feed 50 = .ok (.aload_n 0, 1) := by decide +kernel
theorem dX8_feed_51 : decode cX8_feed 51 = .ok (.getfield 10, 3) := by decide +kernel
theorem dX8_feed_54 : decode cX8_feed 54 = .ok (.iload 4, 2) := by decide +kernel
theorem dX8_feed_56 : decode cX8_feed 56 = .ok (.invokevirtual 67, 3) := by decide +kernel
theorem dX8_feed_59 : decode cX8_feed 59 = .ok (.aload_n 0, 1) := by decide +kernel
theorem dX8_feed_60 : decode cX8_feed 60 = .ok (.getfield 10, 3) := by decide +kernel
theorem dX8_feed_63 : decode cX8_feed 63 = .ok (.iload 5, 2) := by decide +kernel
theorem dX8_feed_65 : decode cX8_feed 65 = .ok (.invokevirtual 67, 3) := by decide +kernel
theorem dX8_feed_68 : decode cX8_feed 68 = .ok (.aload_n 0, 1) := by decide +kernel
theorem dX8_feed_69 : decode cX8_feed 69 = .ok (.getfield 10, 3) := by decide +kernel
theorem dX8_feed_72 : decode cX8_feed 72 = .ok (.invokevirtual 56, 3) := by decide +kernel
theorem dX8_feed_75 : decode cX8_feed 75 = .ok (.ireturn, 1) := by decide +kernel
def rmX8_feed (mc ms : Nat) : Room := { frames := 8, cells := mc, slots := ms, locals := 120 }
abbrev cX8_end : ByteArray := prog_1_method_3_code
def yX8_end : MethodName := ⟨RX8, "end", "(I)V"⟩
def wsX8_end : List Cond := .code yX8_end cX8_end 2 none :: sr_G
theorem dX8_end_0 : decode cX8_end 0 = .ok (.iload_n 1, 1) := by decide +kernel
theorem dX8_end_1 : decode cX8_end 1 = .ok (.ifCond .lt 14, 3) := by decide +kernel
theorem dX8_end_4 : decode cX8_end 4 = .ok (.iload_n 1, 1) := by decide +kernel
theorem dX8_end_5 : decode cX8_end 5 = .ok (.aload_n 0, 1) := by decide +kernel
theorem dX8_end_6 : decode cX8_end 6 = .ok (.getfield 10, 3) := by decide +kernel
theorem dX8_end_9 : decode cX8_end 9 = .ok (.invokevirtual 56, 3) := by decide +kernel
theorem dX8_end_12 : decode cX8_end 12 = .ok (.if_icmp .le 13, 3) := by decide +kernel
theorem dX8_end_15 : decode cX8_end 15 = .ok (.new 71, 3) := by decide +kernel
theorem dX8_end_18 : decode cX8_end 18 = .ok (.dup, 1) := by decide +kernel
theorem dX8_end_19 : decode cX8_end 19 = .ok (.ldc 73, 2) := by decide +kernel
theorem dX8_end_21 : decode cX8_end 21 = .ok (.invokespecial 75, 3) := by decide +kernel
theorem dX8_end_24 : decode cX8_end 24 = .ok (.athrow, 1) := by decide +kernel
theorem dX8_end_25 : decode cX8_end 25 = .ok (.aload_n 0, 1) := by decide +kernel
theorem dX8_end_26 : decode cX8_end 26 = .ok (.getfield 10, 3) := by decide +kernel
theorem dX8_end_29 : decode cX8_end 29 = .ok (.iload_n 1, 1) := by decide +kernel
theorem dX8_end_30 : decode cX8_end 30 = .ok (.invokevirtual 76, 3) := by decide +kernel
theorem dX8_end_33 : decode cX8_end 33 = .ok (.return_, 1) := by decide +kernel
def rmX8_end (mc ms : Nat) : Room := { frames := 8, cells := mc, slots := ms, locals := 120 }
abbrev cX8_letter : ByteArray := prog_1_method_7_code
def yX8_letter : MethodName := ⟨RX8, "letter", "(I)I"⟩
def wsX8_letter : List Cond := .code yX8_letter cX8_letter 2 (some .int) :: sr_G
theorem dX8_letter_0 : decode cX8_letter 0 = .ok (.aload_n 0, 1) := by decide +kernel
theorem dX8_letter_1 : decode cX8_letter 1 = .ok (.getfield 45, 3) := by decide +kernel
theorem dX8_letter_4 : decode cX8_letter 4 = .ok (.ifCond .eq 18, 3) := by decide +kernel
theorem dX8_letter_7 : decode cX8_letter 7 = .ok (.iload_n 1, 1) := by decide +kernel
theorem dX8_letter_8 : decode cX8_letter 8 = .ok (.ifCond .lt 14, 3) := by decide +kernel
theorem dX8_letter_11 : decode cX8_letter 11 = .ok (.iload_n 1, 1) := by decide +kernel
theorem dX8_letter_12 : decode cX8_letter 12 = .ok (.aload_n 0, 1) := by decide +kernel
theorem dX8_letter_13 : decode cX8_letter 13 = .ok (.getfield 31, 3) := by decide +kernel
theorem dX8_letter_16 : decode cX8_letter 16 = .ok (.invokevirtual 89, 3) := by decide +kernel
theorem dX8_letter_19 : decode cX8_letter 19 = .ok (.if_icmp .lt 13, 3) := by decide +kernel
theorem dX8_letter_22 : decode cX8_letter 22 = .ok (.new 92, 3) := by decide +kernel
theorem dX8_letter_25 : decode cX8_letter 25 = .ok (.dup, 1) := by decide +kernel
theorem dX8_letter_26 : decode cX8_letter 26 = .ok (.ldc 94, 2) := by decide +kernel
theorem dX8_letter_28 : decode cX8_letter 28 = .ok (.invokespecial 96, 3) := by decide +kernel
theorem dX8_letter_31 : decode cX8_letter 31 = .ok (.athrow, 1) := by decide +kernel
theorem dX8_letter_32 : decode cX8_letter 32 = .ok (.aload_n 0, 1) := by decide +kernel
theorem dX8_letter_33 : decode cX8_letter 33 = .ok (.getfield 31, 3) := by decide +kernel
theorem dX8_letter_36 : decode cX8_letter 36 = .ok (.iload_n 1, 1) := by decide +kernel
theorem dX8_letter_37 : decode cX8_letter 37 = .ok (.invokevirtual 97, 3) := by decide +kernel
theorem dX8_letter_40 : decode cX8_letter 40 = .ok (.ireturn, 1) := by decide +kernel
def rmX8_letter (mc ms : Nat) : Room := { frames := 8, cells := mc, slots := ms, locals := 120 }
theorem g8_89 (c0 : Cond) : GoodIn (c0 :: sr_G) (wsV RX8 89 RX6 yX6_letterCount wsX6_letterCount) := sr_V c0 (sr_ins (by decide +kernel))
theorem g8_97 (c0 : Cond) : GoodIn (c0 :: sr_G) (wsV RX8 97 RX6 yX6_letterAt wsX6_letterAt) := sr_V c0 (sr_ins (by decide +kernel))
theorem g8_84 (c0 : Cond) : GoodIn (c0 :: sr_G) (wsV RX8 84 RX4 yX4_read wsX4_read) := sr_V c0 (sr_ins (by decide +kernel))
theorem g8_87 (c0 : Cond) : GoodIn (c0 :: sr_G) (wsV RX8 87 RX4 yX4_faultPlace wsX4_faultPlace) := sr_V c0 (sr_ins (by decide +kernel))
theorem g8_56 (c0 : Cond) : GoodIn (c0 :: sr_G) (wsV RX8 56 RX7 yX7_length wsX7_length) := sr_V c0 (sr_ins (by decide +kernel))
theorem g8_67 (c0 : Cond) : GoodIn (c0 :: sr_G) (wsV RX8 67 RX7 yX7_append wsX7_append) := sr_V c0 (sr_ins (by decide +kernel))
theorem g8_76 (c0 : Cond) : GoodIn (c0 :: sr_G) (wsV RX8 76 RX7 yX7_cut wsX7_cut) := sr_V c0 (sr_ins (by decide +kernel))
theorem gI8_81 : ∀ w ∈ ([.instanceMethod yX4_init, .initialized yX4_init.cls, .code yX4_init cX4_init 4 none, .methodLink RX8 81 yX4_init] : List Cond), w ∈ sr_G := sr_ins (by decide +kernel)
theorem nw8_79 : ∀ w ∈ ([.classLink RX8 79 RX4, .instantiable RX4 5, .initialized RX4] : List Cond), w ∈ sr_G := sr_ins (by decide +kernel)
theorem thr_w8_60 {c0 : Cond} {args : Array Value} {s : State} (hts : ∀ w ∈ c0 :: sr_G, w.before args s = true) : ∀ a' U, s.WarmedH U.vm → (Cond.classLink RX8 60 "java/lang/IllegalStateException").before a' U = true ∧ (Cond.instantiable "java/lang/IllegalStateException" 6).before a' U = true ∧ (Cond.initialized "java/lang/IllegalStateException").before a' U = true :=
  fun a' U hW => ⟨sr_pay hts (sr_ins (ws := [.classLink RX8 60 "java/lang/IllegalStateException"]) (by decide +kernel) _ List.mem_cons_self) a' U hW, sr_pay hts (sr_ins (ws := [.instantiable "java/lang/IllegalStateException" 6]) (by decide +kernel) _ List.mem_cons_self) a' U hW, sr_pay hts (sr_ins (ws := [.initialized "java/lang/IllegalStateException"]) (by decide +kernel) _ List.mem_cons_self) a' U hW⟩
theorem thr_all8_64 : (Bundle.ownAtoms RX8 64 "java/lang/IllegalStateException" thr_up).all (fun a => (decide (a = .isRef (.static "java/lang/Throwable" "UNASSIGNED_STACK" "[Ljava/lang/StackTraceElement;")) || decide (a = .isRef (.static "java/lang/Throwable" "SUPPRESSED_SENTINEL" "Ljava/util/List;"))) || (decide (a ∈ sr_Y) || decide (a ∈ sr_X) || (decide (a ∈ lw_tbl) && goodWord a))) = true := by decide +kernel
theorem thr_at8_64 {c0 : Cond} {args : Array Value} {s : State} (hts : ∀ w ∈ c0 :: sr_G, w.before args s = true) (hX : ∀ a ∈ sr_X, a.before #[] s = true) : ∀ a ∈ Bundle.ownAtoms RX8 64 "java/lang/IllegalStateException" thr_up, (a = .isRef (.static "java/lang/Throwable" "UNASSIGNED_STACK" "[Ljava/lang/StackTraceElement;") ∨ a = .isRef (.static "java/lang/Throwable" "SUPPRESSED_SENTINEL" "Ljava/util/List;")) ∨ a ∈ sr_Y ∨ ∀ a' U, s.WarmedH U.vm → a.before a' U = true := by
  intro a ha
  have h1 := List.all_eq_true.mp thr_all8_64 a ha
  simp only [Bool.or_eq_true, Bool.and_eq_true, decide_eq_true_eq] at h1
  rcases h1 with h1 | (h1 | h1) | h1
  · exact Or.inl h1
  · exact Or.inr (Or.inl h1)
  · exact Or.inr (Or.inr (fun a' U hW => sr_keep (sr_Xok a h1) hW (hX a h1)))
  · exact Or.inr (Or.inr (sr_pay hts (sr_in h1.1 h1.2)))
theorem thr_w8_71 {c0 : Cond} {args : Array Value} {s : State} (hts : ∀ w ∈ c0 :: sr_G, w.before args s = true) : ∀ a' U, s.WarmedH U.vm → (Cond.classLink RX8 71 "java/lang/IllegalArgumentException").before a' U = true ∧ (Cond.instantiable "java/lang/IllegalArgumentException" 6).before a' U = true ∧ (Cond.initialized "java/lang/IllegalArgumentException").before a' U = true :=
  fun a' U hW => ⟨sr_pay hts (sr_ins (ws := [.classLink RX8 71 "java/lang/IllegalArgumentException"]) (by decide +kernel) _ List.mem_cons_self) a' U hW, sr_pay hts (sr_ins (ws := [.instantiable "java/lang/IllegalArgumentException" 6]) (by decide +kernel) _ List.mem_cons_self) a' U hW, sr_pay hts (sr_ins (ws := [.initialized "java/lang/IllegalArgumentException"]) (by decide +kernel) _ List.mem_cons_self) a' U hW⟩
theorem thr_all8_75 : (Bundle.ownAtoms RX8 75 "java/lang/IllegalArgumentException" thr_up).all (fun a => (decide (a = .isRef (.static "java/lang/Throwable" "UNASSIGNED_STACK" "[Ljava/lang/StackTraceElement;")) || decide (a = .isRef (.static "java/lang/Throwable" "SUPPRESSED_SENTINEL" "Ljava/util/List;"))) || (decide (a ∈ sr_Y) || decide (a ∈ sr_X) || (decide (a ∈ lw_tbl) && goodWord a))) = true := by decide +kernel
theorem thr_at8_75 {c0 : Cond} {args : Array Value} {s : State} (hts : ∀ w ∈ c0 :: sr_G, w.before args s = true) (hX : ∀ a ∈ sr_X, a.before #[] s = true) : ∀ a ∈ Bundle.ownAtoms RX8 75 "java/lang/IllegalArgumentException" thr_up, (a = .isRef (.static "java/lang/Throwable" "UNASSIGNED_STACK" "[Ljava/lang/StackTraceElement;") ∨ a = .isRef (.static "java/lang/Throwable" "SUPPRESSED_SENTINEL" "Ljava/util/List;")) ∨ a ∈ sr_Y ∨ ∀ a' U, s.WarmedH U.vm → a.before a' U = true := by
  intro a ha
  have h1 := List.all_eq_true.mp thr_all8_75 a ha
  simp only [Bool.or_eq_true, Bool.and_eq_true, decide_eq_true_eq] at h1
  rcases h1 with h1 | (h1 | h1) | h1
  · exact Or.inl h1
  · exact Or.inr (Or.inl h1)
  · exact Or.inr (Or.inr (fun a' U hW => sr_keep (sr_Xok a h1) hW (hX a h1)))
  · exact Or.inr (Or.inr (sr_pay hts (sr_in h1.1 h1.2)))
theorem thr_w8_92 {c0 : Cond} {args : Array Value} {s : State} (hts : ∀ w ∈ c0 :: sr_G, w.before args s = true) : ∀ a' U, s.WarmedH U.vm → (Cond.classLink RX8 92 "java/lang/IndexOutOfBoundsException").before a' U = true ∧ (Cond.instantiable "java/lang/IndexOutOfBoundsException" 6).before a' U = true ∧ (Cond.initialized "java/lang/IndexOutOfBoundsException").before a' U = true :=
  fun a' U hW => ⟨sr_pay hts (sr_ins (ws := [.classLink RX8 92 "java/lang/IndexOutOfBoundsException"]) (by decide +kernel) _ List.mem_cons_self) a' U hW, sr_pay hts (sr_ins (ws := [.instantiable "java/lang/IndexOutOfBoundsException" 6]) (by decide +kernel) _ List.mem_cons_self) a' U hW, sr_pay hts (sr_ins (ws := [.initialized "java/lang/IndexOutOfBoundsException"]) (by decide +kernel) _ List.mem_cons_self) a' U hW⟩
theorem thr_all8_96 : (Bundle.ownAtoms RX8 96 "java/lang/IndexOutOfBoundsException" thr_up).all (fun a => (decide (a = .isRef (.static "java/lang/Throwable" "UNASSIGNED_STACK" "[Ljava/lang/StackTraceElement;")) || decide (a = .isRef (.static "java/lang/Throwable" "SUPPRESSED_SENTINEL" "Ljava/util/List;"))) || (decide (a ∈ sr_Y) || decide (a ∈ sr_X) || (decide (a ∈ lw_tbl) && goodWord a))) = true := by decide +kernel
theorem thr_at8_96 {c0 : Cond} {args : Array Value} {s : State} (hts : ∀ w ∈ c0 :: sr_G, w.before args s = true) (hX : ∀ a ∈ sr_X, a.before #[] s = true) : ∀ a ∈ Bundle.ownAtoms RX8 96 "java/lang/IndexOutOfBoundsException" thr_up, (a = .isRef (.static "java/lang/Throwable" "UNASSIGNED_STACK" "[Ljava/lang/StackTraceElement;") ∨ a = .isRef (.static "java/lang/Throwable" "SUPPRESSED_SENTINEL" "Ljava/util/List;")) ∨ a ∈ sr_Y ∨ ∀ a' U, s.WarmedH U.vm → a.before a' U = true := by
  intro a ha
  have h1 := List.all_eq_true.mp thr_all8_96 a ha
  simp only [Bool.or_eq_true, Bool.and_eq_true, decide_eq_true_eq] at h1
  rcases h1 with h1 | (h1 | h1) | h1
  · exact Or.inl h1
  · exact Or.inr (Or.inl h1)
  · exact Or.inr (Or.inr (fun a' U hW => sr_keep (sr_Xok a h1) hW (hX a h1)))
  · exact Or.inr (Or.inr (sr_pay hts (sr_in h1.1 h1.2)))
