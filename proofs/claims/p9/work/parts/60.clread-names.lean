abbrev cX4_checkDefaults : ByteArray := prog_7_method_5_code
def yX4_checkDefaults : MethodName := ⟨RX4, "checkDefaults", "()V"⟩
def wsX4_checkDefaults : List Cond := .code yX4_checkDefaults cX4_checkDefaults 4 none :: sr_G
theorem dX4_checkDefaults_0 : decode cX4_checkDefaults 0 = .ok (.new 60, 3) := by decide +kernel
theorem dX4_checkDefaults_3 : decode cX4_checkDefaults 3 = .ok (.dup, 1) := by decide +kernel
theorem dX4_checkDefaults_4 : decode cX4_checkDefaults 4 = .ok (.aload_n 0, 1) := by decide +kernel
theorem dX4_checkDefaults_5 : decode cX4_checkDefaults 5 = .ok (.getfield 18, 3) := by decide +kernel
theorem dX4_checkDefaults_8 : decode cX4_checkDefaults 8 = .ok (.aload_n 0, 1) := by decide +kernel
theorem dX4_checkDefaults_9 : decode cX4_checkDefaults 9 = .ok (.getfield 22, 3) := by decide +kernel
theorem dX4_checkDefaults_12 : decode cX4_checkDefaults 12 = .ok (.invokespecial 62, 3) := by decide +kernel
theorem dX4_checkDefaults_15 : decode cX4_checkDefaults 15 = .ok (.astore_n 1, 1) := by decide +kernel
theorem dX4_checkDefaults_16 : decode cX4_checkDefaults 16 = .ok (.iconst 0, 1) := by decide +kernel
theorem dX4_checkDefaults_17 : decode cX4_checkDefaults 17 = .ok (.istore_n 2, 1) := by decide +kernel
theorem dX4_checkDefaults_18 : decode cX4_checkDefaults 18 = .ok (.iload_n 2, 1) := by decide +kernel
theorem dX4_checkDefaults_19 : decode cX4_checkDefaults 19 = .ok (.aload_n 0, 1) := by decide +kernel
theorem dX4_checkDefaults_20 : decode cX4_checkDefaults 20 = .ok (.getfield 26, 3) := by decide +kernel
theorem dX4_checkDefaults_23 : decode cX4_checkDefaults 23 = .ok (.invokevirtual 65, 3) := by decide +kernel
theorem dX4_checkDefaults_26 : decode cX4_checkDefaults 26 = .ok (.if_icmp .ge 45, 3) := by decide +kernel
theorem dX4_checkDefaults_29 : decode cX4_checkDefaults 29 = .ok (.aload_n 1, 1) := by decide +kernel
theorem dX4_checkDefaults_30 : decode cX4_checkDefaults 30 = .ok (.aload_n 0, 1) := by decide +kernel
theorem dX4_checkDefaults_31 : decode cX4_checkDefaults 31 = .ok (.getfield 26, 3) := by decide +kernel
theorem dX4_checkDefaults_34 : decode cX4_checkDefaults 34 = .ok (.iload_n 2, 1) := by decide +kernel
theorem dX4_checkDefaults_35 : decode cX4_checkDefaults 35 = .ok (.invokevirtual 68, 3) := by decide +kernel
theorem dX4_checkDefaults_38 : decode cX4_checkDefaults 38 = .ok (.aload_n 0, 1) := by decide +kernel
theorem dX4_checkDefaults_39 : decode cX4_checkDefaults 39 = .ok (.getfield 26, 3) := by decide +kernel
theorem dX4_checkDefaults_42 : decode cX4_checkDefaults 42 = .ok (.iload_n 2, 1) := by decide +kernel
theorem dX4_checkDefaults_43 : decode cX4_checkDefaults 43 = .ok (.invokevirtual 72, 3) := by decide +kernel
theorem dX4_checkDefaults_46 : decode cX4_checkDefaults 46 = .ok (.iconst 0, 1) := by decide +kernel
theorem dX4_checkDefaults_47 : decode cX4_checkDefaults 47 = .ok (.invokevirtual 75, 3) := by decide +kernel
theorem dX4_checkDefaults_50 : decode cX4_checkDefaults 50 = .ok (.istore_n 3, 1) := by decide +kernel
theorem dX4_checkDefaults_51 : decode cX4_checkDefaults 51 = .ok (.iload_n 3, 1) := by decide +kernel
theorem dX4_checkDefaults_52 : decode cX4_checkDefaults 52 = .ok (.iconst (-1), 1) := by decide +kernel
theorem dX4_checkDefaults_53 : decode cX4_checkDefaults 53 = .ok (.if_icmp .eq 12, 3) := by decide +kernel
theorem dX4_checkDefaults_56 : decode cX4_checkDefaults 56 = .ok (.aload_n 0, 1) := by decide +kernel
theorem dX4_checkDefaults_57 : decode cX4_checkDefaults 57 = .ok (.bipush 12, 2) := by decide +kernel
theorem dX4_checkDefaults_59 : decode cX4_checkDefaults 59 = .ok (.iload_n 3, 1) := by decide +kernel
theorem dX4_checkDefaults_60 : decode cX4_checkDefaults 60 = .ok (.invokevirtual 49, 3) := by decide +kernel
theorem dX4_checkDefaults_63 : decode cX4_checkDefaults 63 = .ok (.pop, 1) := by decide +kernel
theorem dX4_checkDefaults_64 : decode cX4_checkDefaults 64 = .ok (.return_, 1) := by decide +kernel
theorem dX4_checkDefaults_65 : decode cX4_checkDefaults 65 = .ok (.iinc 2 1, 3) := by decide +kernel
theorem dX4_checkDefaults_68 : decode cX4_checkDefaults 68 = .ok (.goto (-50), 3) := by decide +kernel
theorem dX4_checkDefaults_71 : decode cX4_checkDefaults 71 = .ok (.return_, 1) := by decide +kernel
def rmX4_checkDefaults (mc ms : Nat) : Room := { frames := 60, cells := mc, slots := ms, locals := 1516 }
abbrev cX4_read : ByteArray := prog_7_method_3_code
def yX4_read : MethodName := ⟨RX4, "read", "()I"⟩
def wsX4_read : List Cond := .code yX4_read cX4_read 2 (some .int) :: sr_G
theorem dX4_read_0 : decode cX4_read 0 = .ok (.aload_n 0, 1) := by decide +kernel
theorem dX4_read_1 : decode cX4_read 1 = .ok (.getfield 22, 3) := by decide +kernel
theorem dX4_read_4 : decode cX4_read 4 = .ok (.invokevirtual 30, 3) := by decide +kernel
theorem dX4_read_7 : decode cX4_read 7 = .ok (.aload_n 0, 1) := by decide +kernel
theorem dX4_read_8 : decode cX4_read 8 = .ok (.getfield 26, 3) := by decide +kernel
theorem dX4_read_11 : decode cX4_read 11 = .ok (.invokevirtual 35, 3) := by decide +kernel
theorem dX4_read_14 : decode cX4_read 14 = .ok (.aload_n 0, 1) := by decide +kernel
theorem dX4_read_15 : decode cX4_read 15 = .ok (.getfield 18, 3) := by decide +kernel
theorem dX4_read_18 : decode cX4_read 18 = .ok (.invokevirtual 38, 3) := by decide +kernel
theorem dX4_read_21 : decode cX4_read 21 = .ok (.istore_n 1, 1) := by decide +kernel
theorem dX4_read_22 : decode cX4_read 22 = .ok (.iload_n 1, 1) := by decide +kernel
theorem dX4_read_23 : decode cX4_read 23 = .ok (.iconst (-1), 1) := by decide +kernel
theorem dX4_read_24 : decode cX4_read 24 = .ok (.if_icmp .ne 19, 3) := by decide +kernel
theorem dX4_read_27 : decode cX4_read 27 = .ok (.aload_n 0, 1) := by decide +kernel
theorem dX4_read_28 : decode cX4_read 28 = .ok (.iconst 1, 1) := by decide +kernel
theorem dX4_read_29 : decode cX4_read 29 = .ok (.aload_n 0, 1) := by decide +kernel
theorem dX4_read_30 : decode cX4_read 30 = .ok (.getfield 18, 3) := by decide +kernel
theorem dX4_read_33 : decode cX4_read 33 = .ok (.invokevirtual 46, 3) := by decide +kernel
theorem dX4_read_36 : decode cX4_read 36 = .ok (.invokevirtual 49, 3) := by decide +kernel
theorem dX4_read_39 : decode cX4_read 39 = .ok (.pop, 1) := by decide +kernel
theorem dX4_read_40 : decode cX4_read 40 = .ok (.goto 18, 3) := by decide +kernel
theorem dX4_read_43 : decode cX4_read 43 = .ok (.aload_n 0, 1) := by decide +kernel
theorem dX4_read_44 : decode cX4_read 44 = .ok (.iload_n 1, 1) := by decide +kernel
theorem dX4_read_45 : decode cX4_read 45 = .ok (.iconst 0, 1) := by decide +kernel
theorem dX4_read_46 : decode cX4_read 46 = .ok (.iconst 0, 1) := by decide +kernel
theorem dX4_read_47 : decode cX4_read 47 = .ok (.invokevirtual 53, 3) := by decide +kernel
theorem dX4_read_50 : decode cX4_read 50 = .ok (.iconst (-1), 1) := by decide +kernel
theorem dX4_read_51 : decode cX4_read 51 = .ok (.if_icmp .eq 7, 3) := by decide +kernel
theorem dX4_read_54 : decode cX4_read 54 = .ok (.aload_n 0, 1) := by decide +kernel
theorem dX4_read_55 : decode cX4_read 55 = .ok (.invokevirtual 57, 3) := by decide +kernel
theorem dX4_read_58 : decode cX4_read 58 = .ok (.aload_n 0, 1) := by decide +kernel
theorem dX4_read_59 : decode cX4_read 59 = .ok (.getfield 9, 3) := by decide +kernel
theorem dX4_read_62 : decode cX4_read 62 = .ok (.ireturn, 1) := by decide +kernel
def rmX4_read (mc ms : Nat) : Room := { frames := 80, cells := mc, slots := ms, locals := 2073 }
theorem g4_65 (c0 : Cond) : GoodIn (c0 :: sr_G) (wsV RX4 65 RX11 yX11_count wsX11_count) := sr_V c0 (sr_ins (by decide +kernel))
theorem g4_68 (c0 : Cond) : GoodIn (c0 :: sr_G) (wsV RX4 68 RX11 yX11_first wsX11_first) := sr_V c0 (sr_ins (by decide +kernel))
theorem g4_72 (c0 : Cond) : GoodIn (c0 :: sr_G) (wsV RX4 72 RX11 yX11_second wsX11_second) := sr_V c0 (sr_ins (by decide +kernel))
theorem g4_30 (c0 : Cond) : GoodIn (c0 :: sr_G) (wsV RX4 30 RX6 yX6_clear wsX6_clear) := sr_V c0 (sr_ins (by decide +kernel))
theorem g4_35 (c0 : Cond) : GoodIn (c0 :: sr_G) (wsV RX4 35 RX11 yX11_clear wsX11_clear) := sr_V c0 (sr_ins (by decide +kernel))
theorem g4_38 (c0 : Cond) : GoodIn (c0 :: sr_G) (wsV RX4 38 RX7 yX7_read wsX7_read) := sr_V c0 (sr_ins (by decide +kernel))
theorem g4_57 (c0 : Cond) : GoodIn (c0 :: sr_G) (wsV RX4 57 RX4 yX4_checkDefaults wsX4_checkDefaults) := sr_V c0 (sr_ins (by decide +kernel))
theorem g4_46 (c0 : Cond) : GoodIn (c0 :: sr_G) (wsV RX4 46 RX7 yX7_wrongPlace wsX7_wrongPlace) := sr_V c0 (sr_ins (by decide +kernel))
theorem gn4_75 : (∀ w ∈ ([.instanceMethod yX0_misfit, .selects RX0 yX0_misfit yX0_misfit, .initialized yX0_misfit.cls, .code yX0_misfit cX0_misfit 5 (some .int)] : List Cond), w ∈ sr_G) ∧ (.methodLinkNest RX4 75 yX0_misfit "SchemaReader" : Cond) ∈ sr_N := ⟨sr_ins (by decide +kernel), List.mem_filter.mpr ⟨in_tables_1_3 _ (List.mem_of_getElem? (i := 195) rfl), rfl⟩⟩
theorem gI4_62 : ∀ w ∈ ([.instanceMethod yX0_init, .initialized yX0_init.cls, .code yX0_init cX0_init 3 none, .methodLink RX4 62 yX0_init] : List Cond), w ∈ sr_G := sr_ins (by decide +kernel)
theorem nw4_60 : ∀ w ∈ ([.classLink RX4 60 RX0, .instantiable RX0 2, .initialized RX0] : List Cond), w ∈ sr_G := sr_ins (by decide +kernel)
