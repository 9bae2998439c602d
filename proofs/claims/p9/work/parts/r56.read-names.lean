abbrev cX9_read : ByteArray := prog_13_method_33_code
def yX9_read : MethodName := ⟨RX9, "read", "([BII)I"⟩
def wsX9_read : List Cond := .codeWith yX9_read cX9_read 5 (some .int) [(130, 134, 137, 85)] :: sr_G
theorem dX9_read_0 : decode cX9_read 0 = .ok (.iconst 0, 1) := by decide +kernel
theorem dX9_read_1 : decode cX9_read 1 = .ok (.istore 4, 2) := by decide +kernel
theorem dX9_read_3 : decode cX9_read 3 = .ok (.iload 4, 2) := by decide +kernel
theorem dX9_read_5 : decode cX9_read 5 = .ok (.iload_n 3, 1) := by decide +kernel
theorem dX9_read_6 : decode cX9_read 6 = .ok (.if_icmp .ge 22, 3) := by decide +kernel
theorem dX9_read_9 : decode cX9_read 9 = .ok (.aload_n 0, 1) := by decide +kernel
theorem dX9_read_10 : decode cX9_read 10 = .ok (.getfield 9, 3) := by decide +kernel
theorem dX9_read_13 : decode cX9_read 13 = .ok (.iload 4, 2) := by decide +kernel
theorem dX9_read_15 : decode cX9_read 15 = .ok (.aload_n 1, 1) := by decide +kernel
theorem dX9_read_16 : decode cX9_read 16 = .ok (.iload_n 2, 1) := by decide +kernel
theorem dX9_read_17 : decode cX9_read 17 = .ok (.iload 4, 2) := by decide +kernel
theorem dX9_read_19 : decode cX9_read 19 = .ok (.iadd, 1) := by decide +kernel
theorem dX9_read_20 : decode cX9_read 20 = .ok (.baload, 1) := by decide +kernel
theorem dX9_read_21 : decode cX9_read 21 = .ok (.bastore, 1) := by decide +kernel
theorem dX9_read_22 : decode cX9_read 22 = .ok (.iinc 4 1, 3) := by decide +kernel
theorem dX9_read_25 : decode cX9_read 25 = .ok (.goto (-22), 3) := by decide +kernel
theorem dX9_read_28 : decode cX9_read 28 = .ok (.aload_n 0, 1) := by decide +kernel
theorem dX9_read_29 : decode cX9_read 29 = .ok (.iload_n 3, 1) := by decide +kernel
theorem dX9_read_30 : decode cX9_read 30 = .ok (.putfield 98, 3) := by decide +kernel
theorem dX9_read_33 : decode cX9_read 33 = .ok (.aload_n 0, 1) := by decide +kernel
theorem dX9_read_34 : decode cX9_read 34 = .ok (.iconst 0, 1) := by decide +kernel
theorem dX9_read_35 : decode cX9_read 35 = .ok (.putfield 95, 3) := by decide +kernel
theorem dX9_read_38 : decode cX9_read 38 = .ok (.aload_n 0, 1) := by decide +kernel
theorem dX9_read_39 : decode cX9_read 39 = .ok (.iconst 0, 1) := by decide +kernel
theorem dX9_read_40 : decode cX9_read 40 = .ok (.putfield 112, 3) := by decide +kernel
theorem dX9_read_43 : decode cX9_read 43 = .ok (.aload_n 0, 1) := by decide +kernel
theorem dX9_read_44 : decode cX9_read 44 = .ok (.iconst 0, 1) := by decide +kernel
theorem dX9_read_45 : decode cX9_read 45 = .ok (.putfield 109, 3) := by decide +kernel
theorem dX9_read_48 : decode cX9_read 48 = .ok (.aload_n 0, 1) := by decide +kernel
theorem dX9_read_49 : decode cX9_read 49 = .ok (.iconst 0, 1) := by decide +kernel
theorem dX9_read_50 : decode cX9_read 50 = .ok (.putfield 167, 3) := by decide +kernel
theorem dX9_read_53 : decode cX9_read 53 = .ok (.aload_n 0, 1) := by decide +kernel
theorem dX9_read_54 : decode cX9_read 54 = .ok (.bipush 6, 2) := by decide +kernel
theorem dX9_read_56 : decode cX9_read 56 = .ok (.putfield 189, 3) := by decide +kernel
theorem dX9_read_59 : decode cX9_read 59 = .ok (.iconst 0, 1) := by decide +kernel
theorem dX9_read_60 : decode cX9_read 60 = .ok (.istore 4, 2) := by decide +kernel
theorem dX9_read_62 : decode cX9_read 62 = .ok (.iload 4, 2) := by decide +kernel
theorem dX9_read_64 : decode cX9_read 64 = .ok (.bipush 6, 2) := by decide +kernel
theorem dX9_read_66 : decode cX9_read 66 = .ok (.if_icmp .ge 34, 3) := by decide +kernel
theorem dX9_read_69 : decode cX9_read 69 = .ok (.aload_n 0, 1) := by decide +kernel
theorem dX9_read_70 : decode cX9_read 70 = .ok (.getfield 38, 3) := by decide +kernel
theorem dX9_read_73 : decode cX9_read 73 = .ok (.iload 4, 2) := by decide +kernel
theorem dX9_read_75 : decode cX9_read 75 = .ok (.iload 4, 2) := by decide +kernel
theorem dX9_read_77 : decode cX9_read 77 = .ok (.iastore, 1) := by decide +kernel
theorem dX9_read_78 : decode cX9_read 78 = .ok (.aload_n 0, 1) := by decide +kernel
theorem dX9_read_79 : decode cX9_read 79 = .ok (.getfield 41, 3) := by decide +kernel
theorem dX9_read_82 : decode cX9_read 82 = .ok (.iload 4, 2) := by decide +kernel
theorem dX9_read_84 : decode cX9_read 84 = .ok (.iconst (-1), 1) := by decide +kernel
theorem dX9_read_85 : decode cX9_read 85 = .ok (.iastore, 1) := by decide +kernel
theorem dX9_read_86 : decode cX9_read 86 = .ok (.aload_n 0, 1) := by decide +kernel
theorem dX9_read_87 : decode cX9_read 87 = .ok (.getfield 47, 3) := by decide +kernel
theorem dX9_read_90 : decode cX9_read 90 = .ok (.iload 4, 2) := by decide +kernel
theorem dX9_read_92 : decode cX9_read 92 = .ok (.iconst (-1), 1) := by decide +kernel
theorem dX9_read_93 : decode cX9_read 93 = .ok (.iastore, 1) := by decide +kernel
theorem dX9_read_94 : decode cX9_read 94 = .ok (.iinc 4 1, 3) := by decide +kernel
theorem dX9_read_97 : decode cX9_read 97 = .ok (.goto (-35), 3) := by decide +kernel
theorem dX9_read_100 : decode cX9_read 100 = .ok (.aload_n 0, 1) := by decide +kernel
theorem dX9_read_101 : decode cX9_read 101 = .ok (.iconst 0, 1) := by decide +kernel
theorem dX9_read_102 : decode cX9_read 102 = .ok (.putfield 195, 3) := by decide +kernel
theorem dX9_read_105 : decode cX9_read 105 = .ok (.aload_n 0, 1) := by decide +kernel
theorem dX9_read_106 : decode cX9_read 106 = .ok (.iconst 0, 1) := by decide +kernel
theorem dX9_read_107 : decode cX9_read 107 = .ok (.putfield 192, 3) := by decide +kernel
theorem dX9_read_110 : decode cX9_read 110 = .ok (.aload_n 0, 1) := by decide +kernel
theorem dX9_read_111 : decode cX9_read 111 = .ok (.iconst 0, 1) := by decide +kernel
theorem dX9_read_112 : decode cX9_read 112 = .ok (.putfield 271, 3) := by decide +kernel
theorem dX9_read_115 : decode cX9_read 115 = .ok (.aload_n 0, 1) := by decide +kernel
theorem dX9_read_116 : decode cX9_read 116 = .ok (.iconst 0, 1) := by decide +kernel
theorem dX9_read_117 : decode cX9_read 117 = .ok (.putfield 78, 3) := by decide +kernel
theorem dX9_read_120 : decode cX9_read 120 = .ok (.aload_n 0, 1) := by decide +kernel
theorem dX9_read_121 : decode cX9_read 121 = .ok (.iconst (-1), 1) := by decide +kernel
theorem dX9_read_122 : decode cX9_read 122 = .ok (.putfield 82, 3) := by decide +kernel
theorem dX9_read_125 : decode cX9_read 125 = .ok (.aload_n 0, 1) := by decide +kernel
theorem dX9_read_126 : decode cX9_read 126 = .ok (.iconst 0, 1) := by decide +kernel
theorem dX9_read_127 : decode cX9_read 127 = .ok (.putfield 280, 3) := by decide +kernel
theorem dX9_read_130 : decode cX9_read 130 = .ok (.aload_n 0, 1) := by decide +kernel
theorem dX9_read_131 : decode cX9_read 131 = .ok (.invokevirtual 283, 3) := by decide +kernel
theorem dX9_read_134 : decode cX9_read 134 = .ok (.goto 10, 3) := by decide +kernel
theorem dX9_read_137 : decode cX9_read 137 = .ok (.astore 4, 2) := by decide +kernel
theorem dX9_read_139 : decode cX9_read 139 = .ok (.aload_n 0, 1) := by decide +kernel
theorem dX9_read_140 : decode cX9_read 140 = .ok (.getfield 78, 3) := by decide +kernel
theorem dX9_read_143 : decode cX9_read 143 = .ok (.ireturn, 1) := by decide +kernel
theorem dX9_read_144 : decode cX9_read 144 = .ok (.iconst 0, 1) := by decide +kernel
theorem dX9_read_145 : decode cX9_read 145 = .ok (.istore 4, 2) := by decide +kernel
theorem dX9_read_147 : decode cX9_read 147 = .ok (.iload 4, 2) := by decide +kernel
theorem dX9_read_149 : decode cX9_read 149 = .ok (.aload_n 0, 1) := by decide +kernel
theorem dX9_read_150 : decode cX9_read 150 = .ok (.getfield 189, 3) := by decide +kernel
theorem dX9_read_153 : decode cX9_read 153 = .ok (.if_icmp .ge 17, 3) := by decide +kernel
theorem dX9_read_156 : decode cX9_read 156 = .ok (.aload_n 0, 1) := by decide +kernel
theorem dX9_read_157 : decode cX9_read 157 = .ok (.getfield 74, 3) := by decide +kernel
theorem dX9_read_160 : decode cX9_read 160 = .ok (.iload 4, 2) := by decide +kernel
theorem dX9_read_162 : decode cX9_read 162 = .ok (.iconst 0, 1) := by decide +kernel
theorem dX9_read_163 : decode cX9_read 163 = .ok (.bastore, 1) := by decide +kernel
theorem dX9_read_164 : decode cX9_read 164 = .ok (.iinc 4 1, 3) := by decide +kernel
theorem dX9_read_167 : decode cX9_read 167 = .ok (.goto (-20), 3) := by decide +kernel
theorem dX9_read_170 : decode cX9_read 170 = .ok (.aload_n 0, 1) := by decide +kernel
theorem dX9_read_171 : decode cX9_read 171 = .ok (.aload_n 0, 1) := by decide +kernel
theorem dX9_read_172 : decode cX9_read 172 = .ok (.getfield 286, 3) := by decide +kernel
theorem dX9_read_175 : decode cX9_read 175 = .ok (.invokevirtual 289, 3) := by decide +kernel
theorem dX9_read_178 : decode cX9_read 178 = .ok (.iconst 0, 1) := by decide +kernel
theorem dX9_read_179 : decode cX9_read 179 = .ok (.ireturn, 1) := by decide +kernel
def rmX9_read (mc ms : Nat) : Room := { frames := 87, cells := mc, slots := ms, locals := 1911 }
theorem g9_283 (c0 : Cond) : GoodIn (c0 :: sr_G) (wsV RX9 283 RX9 yX9_readAll wsX9_readAll) := sr_V c0 (sr_ins (by decide +kernel))
theorem ck9_85 : (.classLink RX9 85 "java/lang/IllegalStateException" : Cond) ∈ sr_G := sr_ins (ws := [_]) (by decide +kernel) _ List.mem_cons_self
