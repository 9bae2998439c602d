set_option maxHeartbeats 4000000 in
set_option maxRecDepth 100000 in
theorem kX0_isOfKind (l : Launch) (htr : l.stackTraces = false) (dC : Nat → ClassId) (dI : Nat → Nat → Nat) (adK adV : Nat → Nat) (cI cB cJ cZ cQ : ClassId) (obF obT obS tq_tape tq_said tq_inner tq_next tq_amount obK sq_plain sq_kinds sq_meant sq_firsts sq_nexts sq_names sq_fieldNames sq_amounts sq_fieldDefaults sq_enumDefaults : Nat) (t_length : Int32) (t_wrongPlace : Int32) (s_letterCount : Int32) (s_slotCount : Int32) (t_tape : Nat → Int32) (t_said : Nat → Int32) (t_amount : Nat → Int32) (s_plain : Nat → Int32) (s_kinds : Nat → Int32) (s_meant : Nat → Int32) (s_firsts : Nat → Int32) (s_amounts : Nat → Int32) (a0 : Int32) (a1 : Int32) (res : Int32) (hm : m_X0_isOfKind t_tape t_said t_amount t_length s_plain s_kinds s_meant s_firsts s_amounts s_letterCount a0 a1 = some res) : Met l yX0_isOfKind wsX0_isOfKind (rmX0_isOfKind 0 0) (pcR (sr_Z adK adV) (dC, dI) srCl [(cI, .int), (cB, .byte), (cJ, .long), (cZ, .boolean), (cQ, .object "SchemaReader$Schema")] [.ref obF, .int a0, .int a1] [(obF, .inr (4, [.ref obT, .ref obS])), (obT, .inr (9, [.ref tq_tape, .ref tq_said, .ref tq_inner, .ref tq_next, .ref tq_amount, .ref obK, .int t_length, .int t_wrongPlace])), (tq_tape, .inl (cB, 4096, .inl t_tape)), (tq_said, .inl (cB, 4096, .inl t_said)), (tq_amount, .inl (cI, 4096, .inl t_amount)), (obS, .inr (8, [.ref sq_plain, .ref sq_kinds, .ref sq_meant, .ref sq_firsts, .ref sq_nexts, .ref sq_names, .ref sq_fieldNames, .ref sq_amounts, .ref sq_fieldDefaults, .ref sq_enumDefaults, .int s_letterCount, .int s_slotCount])), (sq_plain, .inl (cB, 4096, .inl s_plain)), (sq_kinds, .inl (cI, 128, .inl s_kinds)), (sq_meant, .inl (cI, 128, .inl s_meant)), (sq_firsts, .inl (cI, 128, .inl s_firsts)), (sq_amounts, .inl (cI, 128, .inl s_amounts))]) (k2_QcV (.int res)) 0 0 (fun _ => False) := by
  refine Met.ofW (cc := cX0_isOfKind) (maxL := 3) (ret := (some .boolean)) (by decide) rfl ?_
  intro p e s m args below meth c s₁ B hml hv
  obtain ⟨rfl, hP, hK, hz0⟩ := hv
  have hx := B.exec
  have hb := B.bytes
  have hr := B.returns
  have hts := atoms_spec (ws := wsX0_isOfKind) B.pre
  have hown : s.vm.findClass RX0 = some m.cls := findClass_of_methodNamed B.named
  have hlocks := B.notSynchronized
  have hS : va_S (fun _ => False) s.heap s.heap [] := va_S.rf
  generalize hQ0 : MQ below (k2_QcV (.int res)) [.ref obF, .int a0, .int a1].toArray s 0 0 (fun _ => False) = Q0
  have hl := lv_entry [.ref obF, .int a0, .int a1] (n := 3) (Nat.le_of_ble_eq_true rfl)
  rw [lg_entry_eq]
  generalize (lg_sl [.ref obF, .int a0, .int a1] ++ List.replicate (3 - (lg_sl [.ref obF, .int a0, .int a1]).length) Slot.unset).toArray = ls at hl ⊢
  have hl : lv_has ls 3 [(0, .ref obF), (1, .int a0), (2, .int a1)] := hl
  unfold m_X0_isOfKind at hm
  refine lv_aload_n hx hb dX0_isOfKind_0 rfl (lv_at hl 0 rfl) ?_
  refine va_get (D := (dC, dI)) (ci := 4) (v := .ref obS) (C := RX0) (T := TX0) (N := 2) hx hb hts (inX0 _) hown hK hP 0 rfl rfl 1 (by decide) (hts _ (List.mem_cons_of_mem _ wf0_15)) (fun _ h9 => h9) rfl dX0_isOfKind_1 ?_
  refine lv_iload_n hx hb dX0_isOfKind_4 rfl (lv_at hl 1 rfl) ?_
  obtain ⟨r1, hz1, hm⟩ := mr_bind hm
  refine mr_pV (As := [.int a0]) (rest := []) (sr_okZ adK adV) ⟨hx, hb, hml, hown, hts⟩ (kX6_kind l htr dC dI adK adV cI cB cJ cZ cQ obS sq_plain sq_kinds sq_meant sq_firsts sq_nexts sq_names sq_fieldNames sq_amounts sq_fieldDefaults sq_enumDefaults s_letterCount s_slotCount s_kinds s_meant a0 r1 hz1) (cwV 1 hts (g0_19 _) rfl rfl rfl (by decide +kernel) ⟨(by show 1 + 1 ≤ 4; omega), (by show 8 + (2 + 11) + (21) ≤ 93; omega)⟩) hS hP hK hz0 [5, 7, 8] rfl (va_recv hK hP (ci := 8) (q0 := 5) rfl rfl) rfl rfl hl.1 (Nat.le_of_ble_eq_true rfl) dX0_isOfKind_5 ⟨Nat.zero_le _, Nat.zero_le _⟩ ?_
  by_cases c2 : r1 = 0
  · have hm := mr_if c2 hm
    refine lv_tableIn (tgt := 68) hx hb dX0_isOfKind_8 (by rw [c2] <;> decide) (by rw [c2] <;> decide) (by rw [c2] <;> rfl) (by decide) ?_
    refine lv_aload_n hx hb dX0_isOfKind_68 rfl (lv_at hl 0 rfl) ?_
    refine va_get (D := (dC, dI)) (ci := 4) (v := .ref obT) (C := RX0) (T := TX0) (N := 2) hx hb hts (inX0 _) hown hK hP 0 rfl rfl 0 (by decide) (hts _ (List.mem_cons_of_mem _ wf0_9)) (fun _ h9 => h9) rfl dX0_isOfKind_69 ?_
    refine lv_iload_n hx hb dX0_isOfKind_72 rfl (lv_at hl 2 rfl) ?_
    obtain ⟨r3, hz3, hm⟩ := mr_bind hm
    refine mr_pV (As := [.int a1]) (rest := []) (sr_okZ adK adV) ⟨hx, hb, hml, hown, hts⟩ (kX7_byteAt l htr dC dI adK adV cI cB cJ cZ cQ obT tq_tape tq_said tq_inner tq_next tq_amount obK t_length t_wrongPlace t_tape a1 r3 hz3) (cwV 1 hts (g0_46 _) rfl rfl rfl (by decide +kernel) ⟨(by show 0 + 1 ≤ 4; omega), (by show 8 + (2 + 11) + (0) ≤ 93; omega)⟩) hS hP hK hz0 [1, 2] rfl (va_recv hK hP (ci := 9) (q0 := 1) rfl rfl) rfl rfl hl.1 (Nat.le_of_ble_eq_true rfl) dX0_isOfKind_73 ⟨Nat.zero_le _, Nat.zero_le _⟩ ?_
    refine lv_bipush (v := 110) hx hb dX0_isOfKind_76 (by decide) ?_
    refine lv_icmp_ne (tgt := 85) hx hb dX0_isOfKind_78 (by decide) (fun c4 => ?_) (fun c4 => ?_)
    · have hm := mr_un c4 hm
      refine lv_iconst (v := 0) hx hb dX0_isOfKind_85 (by decide) ?_
      obtain rfl := Option.some.inj hm
      subst hQ0
      exact W.zret (v := 0) hx hb hr rfl (fun t ht hW => ⟨rfl, ht⟩) (fun q h => by cases h) dX0_isOfKind_86
    · have hm := mr_if c4 hm
      refine lv_iconst (v := 1) hx hb dX0_isOfKind_81 (by decide) ?_
      refine lv_goto (tgt := 86) hx hb dX0_isOfKind_82 (by decide) ?_
      obtain rfl := Option.some.inj hm
      subst hQ0
      exact W.zret (v := 1) hx hb hr rfl (fun t ht hW => ⟨rfl, ht⟩) (fun q h => by cases h) dX0_isOfKind_86
  have hm := mr_un c2 hm
  by_cases c5 : r1 = 1
  · have hm := mr_if c5 hm
    refine lv_tableIn (tgt := 87) hx hb dX0_isOfKind_8 (by rw [c5] <;> decide) (by rw [c5] <;> decide) (by rw [c5] <;> rfl) (by decide) ?_
    refine lv_aload_n hx hb dX0_isOfKind_87 rfl (lv_at hl 0 rfl) ?_
    refine va_get (D := (dC, dI)) (ci := 4) (v := .ref obT) (C := RX0) (T := TX0) (N := 2) hx hb hts (inX0 _) hown hK hP 0 rfl rfl 0 (by decide) (hts _ (List.mem_cons_of_mem _ wf0_9)) (fun _ h9 => h9) rfl dX0_isOfKind_88 ?_
    refine lv_iload_n hx hb dX0_isOfKind_91 rfl (lv_at hl 2 rfl) ?_
    obtain ⟨r6, hz6, hm⟩ := mr_bind hm
    refine mr_pV (As := [.int a1]) (rest := []) (sr_okZ adK adV) ⟨hx, hb, hml, hown, hts⟩ (kX7_byteAt l htr dC dI adK adV cI cB cJ cZ cQ obT tq_tape tq_said tq_inner tq_next tq_amount obK t_length t_wrongPlace t_tape a1 r6 hz6) (cwV 1 hts (g0_46 _) rfl rfl rfl (by decide +kernel) ⟨(by show 0 + 1 ≤ 4; omega), (by show 8 + (2 + 11) + (0) ≤ 93; omega)⟩) hS hP hK hz0 [1, 2] rfl (va_recv hK hP (ci := 9) (q0 := 1) rfl rfl) rfl rfl hl.1 (Nat.le_of_ble_eq_true rfl) dX0_isOfKind_92 ⟨Nat.zero_le _, Nat.zero_le _⟩ ?_
    refine lv_bipush (v := 116) hx hb dX0_isOfKind_95 (by decide) ?_
    refine lv_icmp_eq (tgt := 113) hx hb dX0_isOfKind_97 (by decide) (fun c7 => ?_) (fun c7 => ?_)
    · have hm := mr_if c7 hm
      refine lv_iconst (v := 1) hx hb dX0_isOfKind_113 (by decide) ?_
      refine lv_goto (tgt := 118) hx hb dX0_isOfKind_114 (by decide) ?_
      obtain rfl := Option.some.inj hm
      subst hQ0
      exact W.zret (v := 1) hx hb hr rfl (fun t ht hW => ⟨rfl, ht⟩) (fun q h => by cases h) dX0_isOfKind_118
    · have hm := mr_un c7 hm
      refine lv_aload_n hx hb dX0_isOfKind_100 rfl (lv_at hl 0 rfl) ?_
      refine va_get (D := (dC, dI)) (ci := 4) (v := .ref obT) (C := RX0) (T := TX0) (N := 2) hx hb hts (inX0 _) hown hK hP 0 rfl rfl 0 (by decide) (hts _ (List.mem_cons_of_mem _ wf0_9)) (fun _ h9 => h9) rfl dX0_isOfKind_101 ?_
      refine lv_iload_n hx hb dX0_isOfKind_104 rfl (lv_at hl 2 rfl) ?_
      obtain ⟨r8, hz8, hm⟩ := mr_bind hm
      refine mr_pV (As := [.int a1]) (rest := []) (sr_okZ adK adV) ⟨hx, hb, hml, hown, hts⟩ (kX7_byteAt l htr dC dI adK adV cI cB cJ cZ cQ obT tq_tape tq_said tq_inner tq_next tq_amount obK t_length t_wrongPlace t_tape a1 r8 hz8) (cwV 1 hts (g0_46 _) rfl rfl rfl (by decide +kernel) ⟨(by show 0 + 1 ≤ 4; omega), (by show 8 + (2 + 11) + (0) ≤ 93; omega)⟩) hS hP hK hz0 [1, 2] rfl (va_recv hK hP (ci := 9) (q0 := 1) rfl rfl) rfl rfl hl.1 (Nat.le_of_ble_eq_true rfl) dX0_isOfKind_105 ⟨Nat.zero_le _, Nat.zero_le _⟩ ?_
      refine lv_bipush (v := 102) hx hb dX0_isOfKind_108 (by decide) ?_
      refine lv_icmp_ne (tgt := 117) hx hb dX0_isOfKind_110 (by decide) (fun c9 => ?_) (fun c9 => ?_)
      · have hm := mr_un c9 hm
        refine lv_iconst (v := 0) hx hb dX0_isOfKind_117 (by decide) ?_
        obtain rfl := Option.some.inj hm
        subst hQ0
        exact W.zret (v := 0) hx hb hr rfl (fun t ht hW => ⟨rfl, ht⟩) (fun q h => by cases h) dX0_isOfKind_118
      · have hm := mr_if c9 hm
        refine lv_iconst (v := 1) hx hb dX0_isOfKind_113 (by decide) ?_
        refine lv_goto (tgt := 118) hx hb dX0_isOfKind_114 (by decide) ?_
        obtain rfl := Option.some.inj hm
        subst hQ0
        exact W.zret (v := 1) hx hb hr rfl (fun t ht hW => ⟨rfl, ht⟩) (fun q h => by cases h) dX0_isOfKind_118
  have hm := mr_un c5 hm
  by_cases c10 : r1 = 2
  · have hm := mr_if c10 hm
    refine lv_tableIn (tgt := 119) hx hb dX0_isOfKind_8 (by rw [c10] <;> decide) (by rw [c10] <;> decide) (by rw [c10] <;> rfl) (by decide) ?_
    refine lv_aload_n hx hb dX0_isOfKind_119 rfl (lv_at hl 0 rfl) ?_
    refine va_get (D := (dC, dI)) (ci := 4) (v := .ref obT) (C := RX0) (T := TX0) (N := 2) hx hb hts (inX0 _) hown hK hP 0 rfl rfl 0 (by decide) (hts _ (List.mem_cons_of_mem _ wf0_9)) (fun _ h9 => h9) rfl dX0_isOfKind_120 ?_
    refine lv_iload_n hx hb dX0_isOfKind_123 rfl (lv_at hl 2 rfl) ?_
    obtain ⟨r11, hz11, hm⟩ := mr_bind hm
    refine mr_pV (As := [.int a1]) (rest := []) (sr_okZ adK adV) ⟨hx, hb, hml, hown, hts⟩ (kX7_isNumber l htr dC dI adK adV cI cB cJ cZ cQ obT tq_tape tq_said tq_inner tq_next tq_amount obK t_length t_wrongPlace t_tape a1 r11 hz11) (cwV 1 hts (g0_49 _) rfl rfl rfl (by decide +kernel) ⟨(by show 1 + 1 ≤ 4; omega), (by show 8 + (3 + 11) + (21) ≤ 93; omega)⟩) hS hP hK hz0 [1, 2] rfl (va_recv hK hP (ci := 9) (q0 := 1) rfl rfl) rfl rfl hl.1 (Nat.le_of_ble_eq_true rfl) dX0_isOfKind_124 ⟨Nat.zero_le _, Nat.zero_le _⟩ ?_
    refine lv_if_eq (tgt := 156) hx hb dX0_isOfKind_127 (by decide) (fun c12 => ?_) (fun c12 => ?_)
    · have hm := mr_if c12 hm
      refine lv_iconst (v := 0) hx hb dX0_isOfKind_156 (by decide) ?_
      obtain rfl := Option.some.inj hm
      subst hQ0
      exact W.zret (v := 0) hx hb hr rfl (fun t ht hW => ⟨rfl, ht⟩) (fun q h => by cases h) dX0_isOfKind_157
    · have hm := mr_un c12 hm
      refine lv_aload_n hx hb dX0_isOfKind_130 rfl (lv_at hl 0 rfl) ?_
      refine va_get (D := (dC, dI)) (ci := 4) (v := .ref obT) (C := RX0) (T := TX0) (N := 2) hx hb hts (inX0 _) hown hK hP 0 rfl rfl 0 (by decide) (hts _ (List.mem_cons_of_mem _ wf0_9)) (fun _ h9 => h9) rfl dX0_isOfKind_131 ?_
      refine lv_iload_n hx hb dX0_isOfKind_134 rfl (lv_at hl 2 rfl) ?_
      obtain ⟨r13, hz13, hm⟩ := mr_bind hm
      refine mr_pV (As := [.int a1]) (rest := []) (sr_okZ adK adV) ⟨hx, hb, hml, hown, hts⟩ (kX7_numberAt l htr dC dI adK adV cI cB cJ cZ cQ obT tq_tape tq_said tq_inner tq_next tq_amount obK t_length t_wrongPlace t_tape a1 r13 hz13) (cwV 1 hts (g0_53 _) rfl rfl rfl (by decide +kernel) ⟨(by show 1 + 1 ≤ 4; omega), (by show 8 + (6 + 11) + (21) ≤ 93; omega)⟩) hS hP hK hz0 [1, 2] rfl (va_recv hK hP (ci := 9) (q0 := 1) rfl rfl) rfl rfl hl.1 (Nat.le_of_ble_eq_true rfl) dX0_isOfKind_135 ⟨Nat.zero_le _, Nat.zero_le _⟩ ?_
      refine lv_aload_n hx hb dX0_isOfKind_138 rfl (lv_at hl 0 rfl) ?_
      refine va_get (D := (dC, dI)) (ci := 4) (v := .ref obT) (C := RX0) (T := TX0) (N := 2) hx hb hts (inX0 _) hown hK hP 0 rfl rfl 0 (by decide) (hts _ (List.mem_cons_of_mem _ wf0_9)) (fun _ h9 => h9) rfl dX0_isOfKind_139 ?_
      refine lv_iload_n hx hb dX0_isOfKind_142 rfl (lv_at hl 2 rfl) ?_
      obtain ⟨r14, hz14, hm⟩ := mr_bind hm
      refine mr_pV (As := [.int a1]) (rest := [.long r13]) (sr_okZ adK adV) ⟨hx, hb, hml, hown, hts⟩ (kX7_numberAt l htr dC dI adK adV cI cB cJ cZ cQ obT tq_tape tq_said tq_inner tq_next tq_amount obK t_length t_wrongPlace t_tape a1 r14 hz14) (cwV 1 hts (g0_53 _) rfl rfl rfl (by decide +kernel) ⟨(by show 1 + 1 ≤ 4; omega), (by show 8 + (6 + 11) + (21) ≤ 93; omega)⟩) hS hP hK hz0 [1, 2] rfl (va_recv hK hP (ci := 9) (q0 := 1) rfl rfl) rfl rfl hl.1 (Nat.le_of_ble_eq_true rfl) dX0_isOfKind_143 ⟨Nat.zero_le _, Nat.zero_le _⟩ ?_
      refine lv_l2i hx hb dX0_isOfKind_146 rfl ?_
      refine lv_i2l hx hb dX0_isOfKind_147 rfl ?_
      refine W.lcmp hx hb dX0_isOfKind_148 ?_
      refine lv_if_ne (tgt := 156) hx hb dX0_isOfKind_149 (by decide) (fun c15 => ?_) (fun c15 => ?_)
      · have hm := mr_un c15 hm
        refine lv_iconst (v := 0) hx hb dX0_isOfKind_156 (by decide) ?_
        obtain rfl := Option.some.inj hm
        subst hQ0
        exact W.zret (v := 0) hx hb hr rfl (fun t ht hW => ⟨rfl, ht⟩) (fun q h => by cases h) dX0_isOfKind_157
      · have hm := mr_if c15 hm
        refine lv_iconst (v := 1) hx hb dX0_isOfKind_152 (by decide) ?_
        refine lv_goto (tgt := 157) hx hb dX0_isOfKind_153 (by decide) ?_
        obtain rfl := Option.some.inj hm
        subst hQ0
        exact W.zret (v := 1) hx hb hr rfl (fun t ht hW => ⟨rfl, ht⟩) (fun q h => by cases h) dX0_isOfKind_157
  have hm := mr_un c10 hm
  by_cases c16 : r1 = 3
  · have hm := mr_if c16 hm
    refine lv_tableIn (tgt := 158) hx hb dX0_isOfKind_8 (by rw [c16] <;> decide) (by rw [c16] <;> decide) (by rw [c16] <;> rfl) (by decide) ?_
    refine lv_aload_n hx hb dX0_isOfKind_158 rfl (lv_at hl 0 rfl) ?_
    refine va_get (D := (dC, dI)) (ci := 4) (v := .ref obT) (C := RX0) (T := TX0) (N := 2) hx hb hts (inX0 _) hown hK hP 0 rfl rfl 0 (by decide) (hts _ (List.mem_cons_of_mem _ wf0_9)) (fun _ h9 => h9) rfl dX0_isOfKind_159 ?_
    refine lv_iload_n hx hb dX0_isOfKind_162 rfl (lv_at hl 2 rfl) ?_
    obtain ⟨r17, hz17, hm⟩ := mr_bind hm
    refine mr_pV (As := [.int a1]) (rest := []) (sr_okZ adK adV) ⟨hx, hb, hml, hown, hts⟩ (kX7_isNumber l htr dC dI adK adV cI cB cJ cZ cQ obT tq_tape tq_said tq_inner tq_next tq_amount obK t_length t_wrongPlace t_tape a1 r17 hz17) (cwV 1 hts (g0_49 _) rfl rfl rfl (by decide +kernel) ⟨(by show 1 + 1 ≤ 4; omega), (by show 8 + (3 + 11) + (21) ≤ 93; omega)⟩) hS hP hK hz0 [1, 2] rfl (va_recv hK hP (ci := 9) (q0 := 1) rfl rfl) rfl rfl hl.1 (Nat.le_of_ble_eq_true rfl) dX0_isOfKind_163 ⟨Nat.zero_le _, Nat.zero_le _⟩ ?_
    obtain ⟨h18, hm⟩ := mr_bz hm
    obtain rfl := Option.some.inj hm
    subst hQ0
    exact W.zret (v := r17) hx hb hr h18 (fun t ht hW => ⟨rfl, ht⟩) (fun q h => by cases h) dX0_isOfKind_166
  have hm := mr_un c16 hm
  by_cases c19 : r1 = 4
  · have hm := mr_if c19 hm
    refine lv_tableIn (tgt := 167) hx hb dX0_isOfKind_8 (by rw [c19] <;> decide) (by rw [c19] <;> decide) (by rw [c19] <;> rfl) (by decide) ?_
    refine lv_aload_n hx hb dX0_isOfKind_167 rfl (lv_at hl 0 rfl) ?_
    refine va_get (D := (dC, dI)) (ci := 4) (v := .ref obT) (C := RX0) (T := TX0) (N := 2) hx hb hts (inX0 _) hown hK hP 0 rfl rfl 0 (by decide) (hts _ (List.mem_cons_of_mem _ wf0_9)) (fun _ h9 => h9) rfl dX0_isOfKind_168 ?_
    refine lv_iload_n hx hb dX0_isOfKind_171 rfl (lv_at hl 2 rfl) ?_
    obtain ⟨r20, hz20, hm⟩ := mr_bind hm
    refine mr_pV (As := [.int a1]) (rest := []) (sr_okZ adK adV) ⟨hx, hb, hml, hown, hts⟩ (kX7_isString l htr dC dI adK adV cI cB cJ cZ cQ obT tq_tape tq_said tq_inner tq_next tq_amount obK t_length t_wrongPlace t_tape a1 r20 hz20) (cwV 1 hts (g0_57 _) rfl rfl rfl (by decide +kernel) ⟨(by show 1 + 1 ≤ 4; omega), (by show 8 + (2 + 11) + (21) ≤ 93; omega)⟩) hS hP hK hz0 [1, 2] rfl (va_recv hK hP (ci := 9) (q0 := 1) rfl rfl) rfl rfl hl.1 (Nat.le_of_ble_eq_true rfl) dX0_isOfKind_172 ⟨Nat.zero_le _, Nat.zero_le _⟩ ?_
    obtain ⟨h21, hm⟩ := mr_bz hm
    obtain rfl := Option.some.inj hm
    subst hQ0
    exact W.zret (v := r20) hx hb hr h21 (fun t ht hW => ⟨rfl, ht⟩) (fun q h => by cases h) dX0_isOfKind_175
  have hm := mr_un c19 hm
  by_cases c22 : r1 = 5
  · have hm := mr_if c22 hm
    refine lv_tableIn (tgt := 167) hx hb dX0_isOfKind_8 (by rw [c22] <;> decide) (by rw [c22] <;> decide) (by rw [c22] <;> rfl) (by decide) ?_
    refine lv_aload_n hx hb dX0_isOfKind_167 rfl (lv_at hl 0 rfl) ?_
    refine va_get (D := (dC, dI)) (ci := 4) (v := .ref obT) (C := RX0) (T := TX0) (N := 2) hx hb hts (inX0 _) hown hK hP 0 rfl rfl 0 (by decide) (hts _ (List.mem_cons_of_mem _ wf0_9)) (fun _ h9 => h9) rfl dX0_isOfKind_168 ?_
    refine lv_iload_n hx hb dX0_isOfKind_171 rfl (lv_at hl 2 rfl) ?_
    obtain ⟨r23, hz23, hm⟩ := mr_bind hm
    refine mr_pV (As := [.int a1]) (rest := []) (sr_okZ adK adV) ⟨hx, hb, hml, hown, hts⟩ (kX7_isString l htr dC dI adK adV cI cB cJ cZ cQ obT tq_tape tq_said tq_inner tq_next tq_amount obK t_length t_wrongPlace t_tape a1 r23 hz23) (cwV 1 hts (g0_57 _) rfl rfl rfl (by decide +kernel) ⟨(by show 1 + 1 ≤ 4; omega), (by show 8 + (2 + 11) + (21) ≤ 93; omega)⟩) hS hP hK hz0 [1, 2] rfl (va_recv hK hP (ci := 9) (q0 := 1) rfl rfl) rfl rfl hl.1 (Nat.le_of_ble_eq_true rfl) dX0_isOfKind_172 ⟨Nat.zero_le _, Nat.zero_le _⟩ ?_
    obtain ⟨h24, hm⟩ := mr_bz hm
    obtain rfl := Option.some.inj hm
    subst hQ0
    exact W.zret (v := r23) hx hb hr h24 (fun t ht hW => ⟨rfl, ht⟩) (fun q h => by cases h) dX0_isOfKind_175
  have hm := mr_un c22 hm
  by_cases c25 : r1 = 6
  · have hm := mr_if c25 hm
    refine lv_tableIn (tgt := 245) hx hb dX0_isOfKind_8 (by rw [c25] <;> decide) (by rw [c25] <;> decide) (by rw [c25] <;> rfl) (by decide) ?_
    refine lv_aload_n hx hb dX0_isOfKind_245 rfl (lv_at hl 0 rfl) ?_
    refine va_get (D := (dC, dI)) (ci := 4) (v := .ref obT) (C := RX0) (T := TX0) (N := 2) hx hb hts (inX0 _) hown hK hP 0 rfl rfl 0 (by decide) (hts _ (List.mem_cons_of_mem _ wf0_9)) (fun _ h9 => h9) rfl dX0_isOfKind_246 ?_
    refine lv_iload_n hx hb dX0_isOfKind_249 rfl (lv_at hl 2 rfl) ?_
    obtain ⟨r26, hz26, hm⟩ := mr_bind hm
    refine mr_pV (As := [.int a1]) (rest := []) (sr_okZ adK adV) ⟨hx, hb, hml, hown, hts⟩ (kX7_isList l htr dC dI adK adV cI cB cJ cZ cQ obT tq_tape tq_said tq_inner tq_next tq_amount obK t_length t_wrongPlace t_tape a1 r26 hz26) (cwV 1 hts (g0_68 _) rfl rfl rfl (by decide +kernel) ⟨(by show 1 + 1 ≤ 4; omega), (by show 8 + (2 + 11) + (21) ≤ 93; omega)⟩) hS hP hK hz0 [1, 2] rfl (va_recv hK hP (ci := 9) (q0 := 1) rfl rfl) rfl rfl hl.1 (Nat.le_of_ble_eq_true rfl) dX0_isOfKind_250 ⟨Nat.zero_le _, Nat.zero_le _⟩ ?_
    obtain ⟨h27, hm⟩ := mr_bz hm
    obtain rfl := Option.some.inj hm
    subst hQ0
    exact W.zret (v := r26) hx hb hr h27 (fun t ht hW => ⟨rfl, ht⟩) (fun q h => by cases h) dX0_isOfKind_253
  have hm := mr_un c25 hm
  by_cases c28 : r1 = 7
  · have hm := mr_if c28 hm
    refine lv_tableIn (tgt := 254) hx hb dX0_isOfKind_8 (by rw [c28] <;> decide) (by rw [c28] <;> decide) (by rw [c28] <;> rfl) (by decide) ?_
    refine lv_aload_n hx hb dX0_isOfKind_254 rfl (lv_at hl 0 rfl) ?_
    refine va_get (D := (dC, dI)) (ci := 4) (v := .ref obT) (C := RX0) (T := TX0) (N := 2) hx hb hts (inX0 _) hown hK hP 0 rfl rfl 0 (by decide) (hts _ (List.mem_cons_of_mem _ wf0_9)) (fun _ h9 => h9) rfl dX0_isOfKind_255 ?_
    refine lv_iload_n hx hb dX0_isOfKind_258 rfl (lv_at hl 2 rfl) ?_
    obtain ⟨r29, hz29, hm⟩ := mr_bind hm
    refine mr_pV (As := [.int a1]) (rest := []) (sr_okZ adK adV) ⟨hx, hb, hml, hown, hts⟩ (kX7_isObject l htr dC dI adK adV cI cB cJ cZ cQ obT tq_tape tq_said tq_inner tq_next tq_amount obK t_length t_wrongPlace t_tape a1 r29 hz29) (cwV 1 hts (g0_71 _) rfl rfl rfl (by decide +kernel) ⟨(by show 1 + 1 ≤ 4; omega), (by show 8 + (2 + 11) + (21) ≤ 93; omega)⟩) hS hP hK hz0 [1, 2] rfl (va_recv hK hP (ci := 9) (q0 := 1) rfl rfl) rfl rfl hl.1 (Nat.le_of_ble_eq_true rfl) dX0_isOfKind_259 ⟨Nat.zero_le _, Nat.zero_le _⟩ ?_
    obtain ⟨h30, hm⟩ := mr_bz hm
    obtain rfl := Option.some.inj hm
    subst hQ0
    exact W.zret (v := r29) hx hb hr h30 (fun t ht hW => ⟨rfl, ht⟩) (fun q h => by cases h) dX0_isOfKind_262
  have hm := mr_un c28 hm
  by_cases c31 : r1 = 8
  · have hm := mr_if c31 hm
    refine lv_tableIn (tgt := 176) hx hb dX0_isOfKind_8 (by rw [c31] <;> decide) (by rw [c31] <;> decide) (by rw [c31] <;> rfl) (by decide) ?_
    refine lv_aload_n hx hb dX0_isOfKind_176 rfl (lv_at hl 0 rfl) ?_
    refine va_get (D := (dC, dI)) (ci := 4) (v := .ref obT) (C := RX0) (T := TX0) (N := 2) hx hb hts (inX0 _) hown hK hP 0 rfl rfl 0 (by decide) (hts _ (List.mem_cons_of_mem _ wf0_9)) (fun _ h9 => h9) rfl dX0_isOfKind_177 ?_
    refine lv_iload_n hx hb dX0_isOfKind_180 rfl (lv_at hl 2 rfl) ?_
    obtain ⟨r32, hz32, hm⟩ := mr_bind hm
    refine mr_pV (As := [.int a1]) (rest := []) (sr_okZ adK adV) ⟨hx, hb, hml, hown, hts⟩ (kX7_isString l htr dC dI adK adV cI cB cJ cZ cQ obT tq_tape tq_said tq_inner tq_next tq_amount obK t_length t_wrongPlace t_tape a1 r32 hz32) (cwV 1 hts (g0_57 _) rfl rfl rfl (by decide +kernel) ⟨(by show 1 + 1 ≤ 4; omega), (by show 8 + (2 + 11) + (21) ≤ 93; omega)⟩) hS hP hK hz0 [1, 2] rfl (va_recv hK hP (ci := 9) (q0 := 1) rfl rfl) rfl rfl hl.1 (Nat.le_of_ble_eq_true rfl) dX0_isOfKind_181 ⟨Nat.zero_le _, Nat.zero_le _⟩ ?_
    refine lv_if_eq (tgt := 210) hx hb dX0_isOfKind_184 (by decide) (fun c33 => ?_) (fun c33 => ?_)
    · have hm := mr_if c33 hm
      refine lv_iconst (v := 0) hx hb dX0_isOfKind_210 (by decide) ?_
      obtain rfl := Option.some.inj hm
      subst hQ0
      exact W.zret (v := 0) hx hb hr rfl (fun t ht hW => ⟨rfl, ht⟩) (fun q h => by cases h) dX0_isOfKind_211
    · have hm := mr_un c33 hm
      refine lv_aload_n hx hb dX0_isOfKind_187 rfl (lv_at hl 0 rfl) ?_
      refine va_get (D := (dC, dI)) (ci := 4) (v := .ref obT) (C := RX0) (T := TX0) (N := 2) hx hb hts (inX0 _) hown hK hP 0 rfl rfl 0 (by decide) (hts _ (List.mem_cons_of_mem _ wf0_9)) (fun _ h9 => h9) rfl dX0_isOfKind_188 ?_
      refine lv_iload_n hx hb dX0_isOfKind_191 rfl (lv_at hl 2 rfl) ?_
      obtain ⟨r34, hz34, hm⟩ := mr_bind hm
      refine mr_pV (As := [.int a1]) (rest := []) (sr_okZ adK adV) ⟨hx, hb, hml, hown, hts⟩ (kX7_amount l htr dC dI adK adV cI cB cJ cZ cQ obT tq_tape tq_said tq_inner tq_next tq_amount obK t_length t_wrongPlace t_amount a1 r34 hz34) (cwV 1 hts (g0_60 _) rfl rfl rfl (by decide +kernel) ⟨(by show 1 + 1 ≤ 4; omega), (by show 8 + (2 + 11) + (21) ≤ 93; omega)⟩) hS hP hK hz0 [1, 4] rfl (va_recv hK hP (ci := 9) (q0 := 1) rfl rfl) rfl rfl hl.1 (Nat.le_of_ble_eq_true rfl) dX0_isOfKind_192 ⟨Nat.zero_le _, Nat.zero_le _⟩ ?_
      refine lv_aload_n hx hb dX0_isOfKind_195 rfl (lv_at hl 0 rfl) ?_
      refine va_get (D := (dC, dI)) (ci := 4) (v := .ref obS) (C := RX0) (T := TX0) (N := 2) hx hb hts (inX0 _) hown hK hP 0 rfl rfl 1 (by decide) (hts _ (List.mem_cons_of_mem _ wf0_15)) (fun _ h9 => h9) rfl dX0_isOfKind_196 ?_
      refine lv_iload_n hx hb dX0_isOfKind_199 rfl (lv_at hl 1 rfl) ?_
      obtain ⟨r35, hz35, hm⟩ := mr_bind hm
      refine mr_pV (As := [.int a0]) (rest := [.int r34]) (sr_okZ adK adV) ⟨hx, hb, hml, hown, hts⟩ (kX6_amount l htr dC dI adK adV cI cB cJ cZ cQ obS sq_plain sq_kinds sq_meant sq_firsts sq_nexts sq_names sq_fieldNames sq_amounts sq_fieldDefaults sq_enumDefaults s_letterCount s_slotCount s_meant s_amounts a0 r35 hz35) (cwV 1 hts (g0_63 _) rfl rfl rfl (by decide +kernel) ⟨(by show 1 + 1 ≤ 4; omega), (by show 8 + (2 + 11) + (21) ≤ 93; omega)⟩) hS hP hK hz0 [5, 8, 10] rfl (va_recv hK hP (ci := 8) (q0 := 5) rfl rfl) rfl rfl hl.1 (Nat.le_of_ble_eq_true rfl) dX0_isOfKind_200 ⟨Nat.zero_le _, Nat.zero_le _⟩ ?_
      refine lv_icmp_ne (tgt := 210) hx hb dX0_isOfKind_203 (by decide) (fun c36 => ?_) (fun c36 => ?_)
      · have hm := mr_un c36 hm
        refine lv_iconst (v := 0) hx hb dX0_isOfKind_210 (by decide) ?_
        obtain rfl := Option.some.inj hm
        subst hQ0
        exact W.zret (v := 0) hx hb hr rfl (fun t ht hW => ⟨rfl, ht⟩) (fun q h => by cases h) dX0_isOfKind_211
      · have hm := mr_if c36 hm
        refine lv_iconst (v := 1) hx hb dX0_isOfKind_206 (by decide) ?_
        refine lv_goto (tgt := 211) hx hb dX0_isOfKind_207 (by decide) ?_
        obtain rfl := Option.some.inj hm
        subst hQ0
        exact W.zret (v := 1) hx hb hr rfl (fun t ht hW => ⟨rfl, ht⟩) (fun q h => by cases h) dX0_isOfKind_211
  have hm := mr_un c31 hm
  by_cases c37 : r1 = 9
  · have hm := mr_if c37 hm
    refine lv_tableIn (tgt := 212) hx hb dX0_isOfKind_8 (by rw [c37] <;> decide) (by rw [c37] <;> decide) (by rw [c37] <;> rfl) (by decide) ?_
    refine lv_aload_n hx hb dX0_isOfKind_212 rfl (lv_at hl 0 rfl) ?_
    refine va_get (D := (dC, dI)) (ci := 4) (v := .ref obT) (C := RX0) (T := TX0) (N := 2) hx hb hts (inX0 _) hown hK hP 0 rfl rfl 0 (by decide) (hts _ (List.mem_cons_of_mem _ wf0_9)) (fun _ h9 => h9) rfl dX0_isOfKind_213 ?_
    refine lv_iload_n hx hb dX0_isOfKind_216 rfl (lv_at hl 2 rfl) ?_
    obtain ⟨r38, hz38, hm⟩ := mr_bind hm
    refine mr_pV (As := [.int a1]) (rest := []) (sr_okZ adK adV) ⟨hx, hb, hml, hown, hts⟩ (kX7_isString l htr dC dI adK adV cI cB cJ cZ cQ obT tq_tape tq_said tq_inner tq_next tq_amount obK t_length t_wrongPlace t_tape a1 r38 hz38) (cwV 1 hts (g0_57 _) rfl rfl rfl (by decide +kernel) ⟨(by show 1 + 1 ≤ 4; omega), (by show 8 + (2 + 11) + (21) ≤ 93; omega)⟩) hS hP hK hz0 [1, 2] rfl (va_recv hK hP (ci := 9) (q0 := 1) rfl rfl) rfl rfl hl.1 (Nat.le_of_ble_eq_true rfl) dX0_isOfKind_217 ⟨Nat.zero_le _, Nat.zero_le _⟩ ?_
    refine lv_if_eq (tgt := 243) hx hb dX0_isOfKind_220 (by decide) (fun c39 => ?_) (fun c39 => ?_)
    · have hm := mr_if c39 hm
      refine lv_iconst (v := 0) hx hb dX0_isOfKind_243 (by decide) ?_
      obtain rfl := Option.some.inj hm
      subst hQ0
      exact W.zret (v := 0) hx hb hr rfl (fun t ht hW => ⟨rfl, ht⟩) (fun q h => by cases h) dX0_isOfKind_244
    · have hm := mr_un c39 hm
      refine lv_aload_n hx hb dX0_isOfKind_223 rfl (lv_at hl 0 rfl) ?_
      refine va_get (D := (dC, dI)) (ci := 4) (v := .ref obS) (C := RX0) (T := TX0) (N := 2) hx hb hts (inX0 _) hown hK hP 0 rfl rfl 1 (by decide) (hts _ (List.mem_cons_of_mem _ wf0_15)) (fun _ h9 => h9) rfl dX0_isOfKind_224 ?_
      refine lv_iload_n hx hb dX0_isOfKind_227 rfl (lv_at hl 1 rfl) ?_
      refine lv_aload_n hx hb dX0_isOfKind_228 rfl (lv_at hl 0 rfl) ?_
      refine va_get (D := (dC, dI)) (ci := 4) (v := .ref obT) (C := RX0) (T := TX0) (N := 2) hx hb hts (inX0 _) hown hK hP 0 rfl rfl 0 (by decide) (hts _ (List.mem_cons_of_mem _ wf0_9)) (fun _ h9 => h9) rfl dX0_isOfKind_229 ?_
      refine lv_iload_n hx hb dX0_isOfKind_232 rfl (lv_at hl 2 rfl) ?_
      obtain ⟨r40, hz40, hm⟩ := mr_bind hm
      refine mr_pV (As := [.int a0, .ref obT, .int a1]) (rest := []) (sr_okZ adK adV) ⟨hx, hb, hml, hown, hts⟩ (kX6_hasSymbol l htr dC dI adK adV cI cB cJ cZ cQ obS sq_plain sq_kinds sq_meant sq_firsts sq_nexts sq_names sq_fieldNames sq_amounts sq_fieldDefaults sq_enumDefaults obT tq_tape tq_said tq_inner tq_next tq_amount obK s_letterCount s_slotCount t_length t_wrongPlace s_plain s_meant s_firsts s_amounts t_said t_amount a0 a1 r40 hz40) (cwV 3 hts (g0_64 _) rfl rfl rfl (by decide +kernel) ⟨(by show 3 + 1 ≤ 4; omega), (by show 8 + (6 + 11) + (68) ≤ 93; omega)⟩) hS hP hK hz0 [5, 6, 8, 9, 10, 1, 3, 4] rfl (va_recv hK hP (ci := 8) (q0 := 5) rfl rfl) rfl rfl hl.1 (Nat.le_of_ble_eq_true rfl) dX0_isOfKind_233 ⟨Nat.zero_le _, Nat.zero_le _⟩ ?_
      refine lv_if_eq (tgt := 243) hx hb dX0_isOfKind_236 (by decide) (fun c41 => ?_) (fun c41 => ?_)
      · have hm := mr_if c41 hm
        refine lv_iconst (v := 0) hx hb dX0_isOfKind_243 (by decide) ?_
        obtain rfl := Option.some.inj hm
        subst hQ0
        exact W.zret (v := 0) hx hb hr rfl (fun t ht hW => ⟨rfl, ht⟩) (fun q h => by cases h) dX0_isOfKind_244
      · have hm := mr_un c41 hm
        refine lv_iconst (v := 1) hx hb dX0_isOfKind_239 (by decide) ?_
        refine lv_goto (tgt := 244) hx hb dX0_isOfKind_240 (by decide) ?_
        obtain rfl := Option.some.inj hm
        subst hQ0
        exact W.zret (v := 1) hx hb hr rfl (fun t ht hW => ⟨rfl, ht⟩) (fun q h => by cases h) dX0_isOfKind_244
  have hm := mr_un c37 hm
  by_cases c42 : r1 = 10
  · have hm := mr_if c42 hm
    refine lv_tableIn (tgt := 254) hx hb dX0_isOfKind_8 (by rw [c42] <;> decide) (by rw [c42] <;> decide) (by rw [c42] <;> rfl) (by decide) ?_
    refine lv_aload_n hx hb dX0_isOfKind_254 rfl (lv_at hl 0 rfl) ?_
    refine va_get (D := (dC, dI)) (ci := 4) (v := .ref obT) (C := RX0) (T := TX0) (N := 2) hx hb hts (inX0 _) hown hK hP 0 rfl rfl 0 (by decide) (hts _ (List.mem_cons_of_mem _ wf0_9)) (fun _ h9 => h9) rfl dX0_isOfKind_255 ?_
    refine lv_iload_n hx hb dX0_isOfKind_258 rfl (lv_at hl 2 rfl) ?_
    obtain ⟨r43, hz43, hm⟩ := mr_bind hm
    refine mr_pV (As := [.int a1]) (rest := []) (sr_okZ adK adV) ⟨hx, hb, hml, hown, hts⟩ (kX7_isObject l htr dC dI adK adV cI cB cJ cZ cQ obT tq_tape tq_said tq_inner tq_next tq_amount obK t_length t_wrongPlace t_tape a1 r43 hz43) (cwV 1 hts (g0_71 _) rfl rfl rfl (by decide +kernel) ⟨(by show 1 + 1 ≤ 4; omega), (by show 8 + (2 + 11) + (21) ≤ 93; omega)⟩) hS hP hK hz0 [1, 2] rfl (va_recv hK hP (ci := 9) (q0 := 1) rfl rfl) rfl rfl hl.1 (Nat.le_of_ble_eq_true rfl) dX0_isOfKind_259 ⟨Nat.zero_le _, Nat.zero_le _⟩ ?_
    obtain ⟨h44, hm⟩ := mr_bz hm
    obtain rfl := Option.some.inj hm
    subst hQ0
    exact W.zret (v := r43) hx hb hr h44 (fun t ht hW => ⟨rfl, ht⟩) (fun q h => by cases h) dX0_isOfKind_262
  have hm := mr_un c42 hm
  refine lv_tableOut (tgt := 263) hx hb dX0_isOfKind_8 (by have q0 := mr_ne c2 (K := 0) (by decide); have q1 := mr_ne c5 (K := 1) (by decide); have q2 := mr_ne c10 (K := 2) (by decide); have q3 := mr_ne c16 (K := 3) (by decide); have q4 := mr_ne c19 (K := 4) (by decide); have q5 := mr_ne c22 (K := 5) (by decide); have q6 := mr_ne c25 (K := 6) (by decide); have q7 := mr_ne c28 (K := 7) (by decide); have q8 := mr_ne c31 (K := 8) (by decide); have q9 := mr_ne c37 (K := 9) (by decide); have q10 := mr_ne c42 (K := 10) (by decide); omega) (by decide) ?_
  refine lv_iconst (v := 0) hx hb dX0_isOfKind_263 (by decide) ?_
  obtain rfl := Option.some.inj hm
  subst hQ0
  exact W.zret (v := 0) hx hb hr rfl (fun t ht hW => ⟨rfl, ht⟩) (fun q h => by cases h) dX0_isOfKind_264
set_option maxHeartbeats 4000000 in
set_option maxRecDepth 100000 in
theorem kX0_memberFor (l : Launch) (htr : l.stackTraces = false) (dC : Nat → ClassId) (dI : Nat → Nat → Nat) (adK adV : Nat → Nat) (cI cB cJ cZ cQ : ClassId) (obF obT obS tq_tape tq_said tq_inner tq_next tq_amount obK sq_plain sq_kinds sq_meant sq_firsts sq_nexts sq_names sq_fieldNames sq_amounts sq_fieldDefaults sq_enumDefaults : Nat) (t_length : Int32) (t_wrongPlace : Int32) (s_letterCount : Int32) (s_slotCount : Int32) (t_said : Nat → Int32) (t_inner : Nat → Int32) (t_next : Nat → Int32) (t_amount : Nat → Int32) (s_plain : Nat → Int32) (a0 : Int32) (a1 : Int32) (res : Int32) (hm : m_X0_memberFor t_said t_inner t_next t_amount s_plain s_letterCount a0 a1 = some res) : Met l yX0_memberFor wsX0_memberFor (rmX0_memberFor 0 0) (pcR (sr_Z adK adV) (dC, dI) srCl [(cI, .int), (cB, .byte), (cJ, .long), (cZ, .boolean), (cQ, .object "SchemaReader$Schema")] [.ref obF, .int a0, .int a1] [(obF, .inr (4, [.ref obT, .ref obS])), (obT, .inr (9, [.ref tq_tape, .ref tq_said, .ref tq_inner, .ref tq_next, .ref tq_amount, .ref obK, .int t_length, .int t_wrongPlace])), (tq_said, .inl (cB, 4096, .inl t_said)), (tq_inner, .inl (cI, 4096, .inl t_inner)), (tq_next, .inl (cI, 4096, .inl t_next)), (tq_amount, .inl (cI, 4096, .inl t_amount)), (obS, .inr (8, [.ref sq_plain, .ref sq_kinds, .ref sq_meant, .ref sq_firsts, .ref sq_nexts, .ref sq_names, .ref sq_fieldNames, .ref sq_amounts, .ref sq_fieldDefaults, .ref sq_enumDefaults, .int s_letterCount, .int s_slotCount])), (sq_plain, .inl (cB, 4096, .inl s_plain))]) (k2_QcV (.int res)) 0 0 (fun _ => False) := by
  refine Met.ofW (cc := cX0_memberFor) (maxL := 5) (ret := (some .int)) (by decide) rfl ?_
  intro p e s m args below meth c s₁ B hml hv
  obtain ⟨rfl, hP, hK, hz0⟩ := hv
  have hx := B.exec
  have hb := B.bytes
  have hr := B.returns
  have hts := atoms_spec (ws := wsX0_memberFor) B.pre
  have hown : s.vm.findClass RX0 = some m.cls := findClass_of_methodNamed B.named
  have hlocks := B.notSynchronized
  have hS : va_S (fun _ => False) s.heap s.heap [] := va_S.rf
  generalize hQ0 : MQ below (k2_QcV (.int res)) [.ref obF, .int a0, .int a1].toArray s 0 0 (fun _ => False) = Q0
  have hl := lv_entry [.ref obF, .int a0, .int a1] (n := 5) (Nat.le_of_ble_eq_true rfl)
  rw [lg_entry_eq]
  generalize (lg_sl [.ref obF, .int a0, .int a1] ++ List.replicate (5 - (lg_sl [.ref obF, .int a0, .int a1]).length) Slot.unset).toArray = ls at hl ⊢
  have hl : lv_has ls 5 [(0, .ref obF), (1, .int a0), (2, .int a1)] := hl
  unfold m_X0_memberFor at hm
  refine lv_aload_n hx hb dX0_memberFor_0 rfl (lv_at hl 0 rfl) ?_
  refine va_get (D := (dC, dI)) (ci := 4) (v := .ref obT) (C := RX0) (T := TX0) (N := 2) hx hb hts (inX0 _) hown hK hP 0 rfl rfl 0 (by decide) (hts _ (List.mem_cons_of_mem _ wf0_9)) (fun _ h9 => h9) rfl dX0_memberFor_1 ?_
  refine lv_iload_n hx hb dX0_memberFor_4 rfl (lv_at hl 2 rfl) ?_
  obtain ⟨r1, hz1, hm⟩ := mr_bind hm
  refine mr_pV (As := [.int a1]) (rest := []) (sr_okZ adK adV) ⟨hx, hb, hml, hown, hts⟩ (kX7_inner l htr dC dI adK adV cI cB cJ cZ cQ obT tq_tape tq_said tq_inner tq_next tq_amount obK t_length t_wrongPlace t_inner a1 r1 hz1) (cwV 1 hts (g0_74 _) rfl rfl rfl (by decide +kernel) ⟨(by show 1 + 1 ≤ 3; omega), (by show 8 + (2 + 11) + (21) ≤ 68; omega)⟩) hS hP hK hz0 [1, 3] rfl (va_recv hK hP (ci := 9) (q0 := 1) rfl rfl) rfl rfl hl.1 (Nat.le_of_ble_eq_true rfl) dX0_memberFor_5 ⟨Nat.zero_le _, Nat.zero_le _⟩ ?_
  refine lv_istore_n (lv' := [(3, .int r1), (0, .ref obF), (1, .int a0), (2, .int a1)]) hx hb dX0_memberFor_8 rfl hl (by decide) rfl (fun ls hl => ?_)
  refine lv_iconst (v := 0) hx hb dX0_memberFor_9 (by decide) ?_
  have j12 : ∀ (n12 : Nat) (x1 : Int32) (x2 : Int32) (x3 : Int32) (x4 : Int32) (ls : Array Slot), lv_has ls 5 [(0, .ref obF), (1, .int x1), (2, .int x2), (3, .int x3), (4, .int x4)] → m_X0_memberFor_12 t_said t_inner t_next t_amount s_plain s_letterCount n12 x1 x2 x3 x4 = some res → W p l e (headSpec wsX0_memberFor (rmX0_memberFor 0 0)).room s m [.ref obF, .int a0, .int a1].toArray below meth c s.heap [] 0 0 Q0 (F0 m 12 ls []) := by
    intro n12
    induction n12 with
    | zero => intro x1 x2 x3 x4 ls hl hm; exact nomatch (show (none : Option _) = some res from hm)
    | succ n12 ih12 =>
      intro x1 x2 x3 x4 ls hl hm
      rw [m_X0_memberFor_12] at hm
      refine lv_iload hx hb dX0_memberFor_12 (lv_at hl 4 rfl) ?_
      refine lv_aload_n hx hb dX0_memberFor_14 rfl (lv_at hl 0 rfl) ?_
      refine va_get (D := (dC, dI)) (ci := 4) (v := .ref obT) (C := RX0) (T := TX0) (N := 2) hx hb hts (inX0 _) hown hK hP 0 rfl rfl 0 (by decide) (hts _ (List.mem_cons_of_mem _ wf0_9)) (fun _ h9 => h9) rfl dX0_memberFor_15 ?_
      refine lv_iload_n hx hb dX0_memberFor_18 rfl (lv_at hl 2 rfl) ?_
      obtain ⟨r2, hz2, hm⟩ := mr_bind hm
      refine mr_pV (As := [.int x2]) (rest := [.int x4]) (sr_okZ adK adV) ⟨hx, hb, hml, hown, hts⟩ (kX7_amount l htr dC dI adK adV cI cB cJ cZ cQ obT tq_tape tq_said tq_inner tq_next tq_amount obK t_length t_wrongPlace t_amount x2 r2 hz2) (cwV 1 hts (g0_60 _) rfl rfl rfl (by decide +kernel) ⟨(by show 1 + 1 ≤ 3; omega), (by show 8 + (2 + 11) + (21) ≤ 68; omega)⟩) hS hP hK hz0 [1, 5] rfl (va_recv hK hP (ci := 9) (q0 := 1) rfl rfl) rfl rfl hl.1 (Nat.le_of_ble_eq_true rfl) dX0_memberFor_19 ⟨Nat.zero_le _, Nat.zero_le _⟩ ?_
      refine lv_icmp_ge (tgt := 65) hx hb dX0_memberFor_22 (by decide) (fun c3 => ?_) (fun c3 => ?_)
      · have hm := mr_if c3 hm
        refine lv_iconst (v := -1) hx hb dX0_memberFor_65 (by decide) ?_
        obtain rfl := Option.some.inj hm
        subst hQ0
        exact W.iret (v := (-1)) hx hb hr (fun t ht hW => ⟨rfl, ht⟩) (fun q h => by cases h) dX0_memberFor_66
      · have hm := mr_un c3 hm
        refine lv_aload_n hx hb dX0_memberFor_25 rfl (lv_at hl 0 rfl) ?_
        refine va_get (D := (dC, dI)) (ci := 4) (v := .ref obS) (C := RX0) (T := TX0) (N := 2) hx hb hts (inX0 _) hown hK hP 0 rfl rfl 1 (by decide) (hts _ (List.mem_cons_of_mem _ wf0_15)) (fun _ h9 => h9) rfl dX0_memberFor_26 ?_
        refine lv_iload_n hx hb dX0_memberFor_29 rfl (lv_at hl 1 rfl) ?_
        refine lv_aload_n hx hb dX0_memberFor_30 rfl (lv_at hl 0 rfl) ?_
        refine va_get (D := (dC, dI)) (ci := 4) (v := .ref obT) (C := RX0) (T := TX0) (N := 2) hx hb hts (inX0 _) hown hK hP 0 rfl rfl 0 (by decide) (hts _ (List.mem_cons_of_mem _ wf0_9)) (fun _ h9 => h9) rfl dX0_memberFor_31 ?_
        refine lv_iload_n hx hb dX0_memberFor_34 rfl (lv_at hl 3 rfl) ?_
        obtain ⟨r4, hz4, hm⟩ := mr_bind hm
        refine mr_pV (As := [.int x1, .ref obT, .int x3]) (rest := []) (sr_okZ adK adV) ⟨hx, hb, hml, hown, hts⟩ (kX6_isSaid l htr dC dI adK adV cI cB cJ cZ cQ obS sq_plain sq_kinds sq_meant sq_firsts sq_nexts sq_names sq_fieldNames sq_amounts sq_fieldDefaults sq_enumDefaults obT tq_tape tq_said tq_inner tq_next tq_amount obK s_letterCount s_slotCount t_length t_wrongPlace s_plain t_said t_amount x1 x3 r4 hz4) (cwV 3 hts (g0_91 _) rfl rfl rfl (by decide +kernel) ⟨(by show 2 + 1 ≤ 3; omega), (by show 8 + (7 + 11) + (42) ≤ 68; omega)⟩) hS hP hK hz0 [6, 7, 1, 2, 5] rfl (va_recv hK hP (ci := 8) (q0 := 6) rfl rfl) rfl rfl hl.1 (Nat.le_of_ble_eq_true rfl) dX0_memberFor_35 ⟨Nat.zero_le _, Nat.zero_le _⟩ ?_
        refine lv_if_eq (tgt := 50) hx hb dX0_memberFor_38 (by decide) (fun c5 => ?_) (fun c5 => ?_)
        · have hm := mr_if c5 hm
          refine lv_aload_n hx hb dX0_memberFor_50 rfl (lv_at hl 0 rfl) ?_
          refine va_get (D := (dC, dI)) (ci := 4) (v := .ref obT) (C := RX0) (T := TX0) (N := 2) hx hb hts (inX0 _) hown hK hP 0 rfl rfl 0 (by decide) (hts _ (List.mem_cons_of_mem _ wf0_9)) (fun _ h9 => h9) rfl dX0_memberFor_51 ?_
          refine lv_iload_n hx hb dX0_memberFor_54 rfl (lv_at hl 3 rfl) ?_
          obtain ⟨r6, hz6, hm⟩ := mr_bind hm
          refine mr_pV (As := [.int x3]) (rest := []) (sr_okZ adK adV) ⟨hx, hb, hml, hown, hts⟩ (kX7_next l htr dC dI adK adV cI cB cJ cZ cQ obT tq_tape tq_said tq_inner tq_next tq_amount obK t_length t_wrongPlace t_next x3 r6 hz6) (cwV 1 hts (g0_80 _) rfl rfl rfl (by decide +kernel) ⟨(by show 1 + 1 ≤ 3; omega), (by show 8 + (2 + 11) + (21) ≤ 68; omega)⟩) hS hP hK hz0 [1, 4] rfl (va_recv hK hP (ci := 9) (q0 := 1) rfl rfl) rfl rfl hl.1 (Nat.le_of_ble_eq_true rfl) dX0_memberFor_55 ⟨Nat.zero_le _, Nat.zero_le _⟩ ?_
          refine lv_istore_n (lv' := [(3, .int r6), (0, .ref obF), (1, .int x1), (2, .int x2), (4, .int x4)]) hx hb dX0_memberFor_58 rfl hl (by decide) rfl (fun ls hl => ?_)
          refine lv_iinc (v := x4 + 1) (lv' := [(4, .int (x4 + 1)), (3, .int r6), (0, .ref obF), (1, .int x1), (2, .int x2)]) hx hb dX0_memberFor_59 hl (k := 4) rfl rfl (by decide) rfl (fun ls hl => ?_)
          refine lv_goto (tgt := 12) hx hb dX0_memberFor_62 (by decide) ?_
          exact ih12 x1 x2 r6 (x4 + 1) ls (lv_sub hl [2, 3, 4, 1, 0] rfl) hm
        · have hm := mr_un c5 hm
          refine lv_aload_n hx hb dX0_memberFor_41 rfl (lv_at hl 0 rfl) ?_
          refine va_get (D := (dC, dI)) (ci := 4) (v := .ref obT) (C := RX0) (T := TX0) (N := 2) hx hb hts (inX0 _) hown hK hP 0 rfl rfl 0 (by decide) (hts _ (List.mem_cons_of_mem _ wf0_9)) (fun _ h9 => h9) rfl dX0_memberFor_42 ?_
          refine lv_iload_n hx hb dX0_memberFor_45 rfl (lv_at hl 3 rfl) ?_
          obtain ⟨r7, hz7, hm⟩ := mr_bind hm
          refine mr_pV (As := [.int x3]) (rest := []) (sr_okZ adK adV) ⟨hx, hb, hml, hown, hts⟩ (kX7_inner l htr dC dI adK adV cI cB cJ cZ cQ obT tq_tape tq_said tq_inner tq_next tq_amount obK t_length t_wrongPlace t_inner x3 r7 hz7) (cwV 1 hts (g0_74 _) rfl rfl rfl (by decide +kernel) ⟨(by show 1 + 1 ≤ 3; omega), (by show 8 + (2 + 11) + (21) ≤ 68; omega)⟩) hS hP hK hz0 [1, 3] rfl (va_recv hK hP (ci := 9) (q0 := 1) rfl rfl) rfl rfl hl.1 (Nat.le_of_ble_eq_true rfl) dX0_memberFor_46 ⟨Nat.zero_le _, Nat.zero_le _⟩ ?_
          obtain rfl := Option.some.inj hm
          subst hQ0
          exact W.iret (v := r7) hx hb hr (fun t ht hW => ⟨rfl, ht⟩) (fun q h => by cases h) dX0_memberFor_49
  refine lv_istore (lv' := [(4, .int 0), (3, .int r1), (0, .ref obF), (1, .int a0), (2, .int a1)]) hx hb dX0_memberFor_10 hl (by decide) rfl (fun ls hl => ?_)
  exact j12 sr_fuel a0 a1 r1 0 ls (lv_sub hl [2, 3, 4, 1, 0] rfl) hm
set_option maxHeartbeats 4000000 in
set_option maxRecDepth 100000 in
theorem kX0_misfitInList (l : Launch) (htr : l.stackTraces = false) (dC : Nat → ClassId) (dI : Nat → Nat → Nat) (adK adV : Nat → Nat) (cI cB cJ cZ cQ : ClassId) (obF obT obS tq_tape tq_said tq_inner tq_next tq_amount obK sq_plain sq_kinds sq_meant sq_firsts sq_nexts sq_names sq_fieldNames sq_amounts sq_fieldDefaults sq_enumDefaults : Nat) (f_misfit : (Nat → Int32) → (Nat → Int32) → (Nat → Int32) → (Nat → Int32) → (Nat → Int32) → Int32 → (Nat → Int32) → (Nat → Int32) → (Nat → Int32) → (Nat → Int32) → (Nat → Int32) → (Nat → Int32) → (Nat → Int32) → Int32 → Int32 → Int32 → Int32 → Option (Int32)) (d : Nat) (hrec : ∀ (t_length : Int32) (t_wrongPlace : Int32) (s_letterCount : Int32) (s_slotCount : Int32) (t_tape : Nat → Int32) (t_said : Nat → Int32) (t_inner : Nat → Int32) (t_next : Nat → Int32) (t_amount : Nat → Int32) (s_plain : Nat → Int32) (s_kinds : Nat → Int32) (s_meant : Nat → Int32) (s_firsts : Nat → Int32) (s_nexts : Nat → Int32) (s_fieldNames : Nat → Int32) (s_amounts : Nat → Int32) (a0 : Int32) (a1 : Int32) (a2 : Int32) (res : Int32), f_misfit t_tape t_said t_inner t_next t_amount t_length s_plain s_kinds s_meant s_firsts s_nexts s_fieldNames s_amounts s_letterCount a0 a1 a2 = some res → Met l yX0_misfit wsX0_misfit (rmX0_misfit d 0 0) (pcR (sr_Z adK adV) (dC, dI) srCl [(cI, .int), (cB, .byte), (cJ, .long), (cZ, .boolean), (cQ, .object "SchemaReader$Schema")] [.ref obF, .int a0, .int a1, .int a2] [(obF, .inr (4, [.ref obT, .ref obS])), (obT, .inr (9, [.ref tq_tape, .ref tq_said, .ref tq_inner, .ref tq_next, .ref tq_amount, .ref obK, .int t_length, .int t_wrongPlace])), (tq_tape, .inl (cB, 4096, .inl t_tape)), (tq_said, .inl (cB, 4096, .inl t_said)), (tq_inner, .inl (cI, 4096, .inl t_inner)), (tq_next, .inl (cI, 4096, .inl t_next)), (tq_amount, .inl (cI, 4096, .inl t_amount)), (obS, .inr (8, [.ref sq_plain, .ref sq_kinds, .ref sq_meant, .ref sq_firsts, .ref sq_nexts, .ref sq_names, .ref sq_fieldNames, .ref sq_amounts, .ref sq_fieldDefaults, .ref sq_enumDefaults, .int s_letterCount, .int s_slotCount])), (sq_plain, .inl (cB, 4096, .inl s_plain)), (sq_kinds, .inl (cI, 128, .inl s_kinds)), (sq_meant, .inl (cI, 128, .inl s_meant)), (sq_firsts, .inl (cI, 128, .inl s_firsts)), (sq_nexts, .inl (cI, 128, .inl s_nexts)), (sq_fieldNames, .inl (cI, 128, .inl s_fieldNames)), (sq_amounts, .inl (cI, 128, .inl s_amounts))]) (k2_QcV (.int res)) 0 0 (fun _ => False)) (t_length : Int32) (t_wrongPlace : Int32) (s_letterCount : Int32) (s_slotCount : Int32) (t_tape : Nat → Int32) (t_said : Nat → Int32) (t_inner : Nat → Int32) (t_next : Nat → Int32) (t_amount : Nat → Int32) (s_plain : Nat → Int32) (s_kinds : Nat → Int32) (s_meant : Nat → Int32) (s_firsts : Nat → Int32) (s_nexts : Nat → Int32) (s_fieldNames : Nat → Int32) (s_amounts : Nat → Int32) (a0 : Int32) (a1 : Int32) (a2 : Int32) (res : Int32) (hm : m_X0_misfitInList f_misfit t_tape t_said t_inner t_next t_amount t_length s_plain s_kinds s_meant s_firsts s_nexts s_fieldNames s_amounts s_letterCount a0 a1 a2 = some res) : Met l yX0_misfitInList wsX0_misfitInList (rmX0_misfitInList d 0 0) (pcR (sr_Z adK adV) (dC, dI) srCl [(cI, .int), (cB, .byte), (cJ, .long), (cZ, .boolean), (cQ, .object "SchemaReader$Schema")] [.ref obF, .int a0, .int a1, .int a2] [(obF, .inr (4, [.ref obT, .ref obS])), (obT, .inr (9, [.ref tq_tape, .ref tq_said, .ref tq_inner, .ref tq_next, .ref tq_amount, .ref obK, .int t_length, .int t_wrongPlace])), (tq_tape, .inl (cB, 4096, .inl t_tape)), (tq_said, .inl (cB, 4096, .inl t_said)), (tq_inner, .inl (cI, 4096, .inl t_inner)), (tq_next, .inl (cI, 4096, .inl t_next)), (tq_amount, .inl (cI, 4096, .inl t_amount)), (obS, .inr (8, [.ref sq_plain, .ref sq_kinds, .ref sq_meant, .ref sq_firsts, .ref sq_nexts, .ref sq_names, .ref sq_fieldNames, .ref sq_amounts, .ref sq_fieldDefaults, .ref sq_enumDefaults, .int s_letterCount, .int s_slotCount])), (sq_plain, .inl (cB, 4096, .inl s_plain)), (sq_kinds, .inl (cI, 128, .inl s_kinds)), (sq_meant, .inl (cI, 128, .inl s_meant)), (sq_firsts, .inl (cI, 128, .inl s_firsts)), (sq_nexts, .inl (cI, 128, .inl s_nexts)), (sq_fieldNames, .inl (cI, 128, .inl s_fieldNames)), (sq_amounts, .inl (cI, 128, .inl s_amounts))]) (k2_QcV (.int res)) 0 0 (fun _ => False) := by
  refine Met.ofW (cc := cX0_misfitInList) (maxL := 7) (ret := (some .int)) (by decide) rfl ?_
  intro p e s m args below meth c s₁ B hml hv
  obtain ⟨rfl, hP, hK, hz0⟩ := hv
  have hx := B.exec
  have hb := B.bytes
  have hr := B.returns
  have hts := atoms_spec (ws := wsX0_misfitInList) B.pre
  have hown : s.vm.findClass RX0 = some m.cls := findClass_of_methodNamed B.named
  have hlocks := B.notSynchronized
  have hS : va_S (fun _ => False) s.heap s.heap [] := va_S.rf
  generalize hQ0 : MQ below (k2_QcV (.int res)) [.ref obF, .int a0, .int a1, .int a2].toArray s 0 0 (fun _ => False) = Q0
  have hl := lv_entry [.ref obF, .int a0, .int a1, .int a2] (n := 7) (Nat.le_of_ble_eq_true rfl)
  rw [lg_entry_eq]
  generalize (lg_sl [.ref obF, .int a0, .int a1, .int a2] ++ List.replicate (7 - (lg_sl [.ref obF, .int a0, .int a1, .int a2]).length) Slot.unset).toArray = ls at hl ⊢
  have hl : lv_has ls 7 [(0, .ref obF), (1, .int a0), (2, .int a1), (3, .int a2)] := hl
  unfold m_X0_misfitInList at hm
  refine lv_aload_n hx hb dX0_misfitInList_0 rfl (lv_at hl 0 rfl) ?_
  refine va_get (D := (dC, dI)) (ci := 4) (v := .ref obT) (C := RX0) (T := TX0) (N := 2) hx hb hts (inX0 _) hown hK hP 0 rfl rfl 0 (by decide) (hts _ (List.mem_cons_of_mem _ wf0_9)) (fun _ h9 => h9) rfl dX0_misfitInList_1 ?_
  refine lv_iload_n hx hb dX0_misfitInList_4 rfl (lv_at hl 2 rfl) ?_
  obtain ⟨r1, hz1, hm⟩ := mr_bind hm
  refine mr_pV (As := [.int a1]) (rest := []) (sr_okZ adK adV) ⟨hx, hb, hml, hown, hts⟩ (kX7_inner l htr dC dI adK adV cI cB cJ cZ cQ obT tq_tape tq_said tq_inner tq_next tq_amount obK t_length t_wrongPlace t_inner a1 r1 hz1) (cwV 1 hts (g0_74 _) rfl rfl rfl (by decide +kernel) ⟨(by show 1 + 1 ≤ 2 * d + 6; omega), (by show 8 + (2 + 11) + (21) ≤ 51 * d + 139; omega)⟩) hS hP hK hz0 [1, 4] rfl (va_recv hK hP (ci := 9) (q0 := 1) rfl rfl) rfl rfl hl.1 (Nat.le_of_ble_eq_true rfl) dX0_misfitInList_5 ⟨Nat.zero_le _, Nat.zero_le _⟩ ?_
  refine lv_istore (lv' := [(4, .int r1), (0, .ref obF), (1, .int a0), (2, .int a1), (3, .int a2)]) hx hb dX0_misfitInList_8 hl (by decide) rfl (fun ls hl => ?_)
  refine lv_iconst (v := 0) hx hb dX0_misfitInList_10 (by decide) ?_
  have j13 : ∀ (n13 : Nat) (x1 : Int32) (x2 : Int32) (x3 : Int32) (x4 : Int32) (x5 : Int32) (ls : Array Slot), lv_has ls 7 [(0, .ref obF), (1, .int x1), (2, .int x2), (3, .int x3), (4, .int x4), (5, .int x5)] → m_X0_misfitInList_13 f_misfit t_tape t_said t_inner t_next t_amount t_length s_plain s_kinds s_meant s_firsts s_nexts s_fieldNames s_amounts s_letterCount n13 x1 x2 x3 x4 x5 = some res → W p l e (headSpec wsX0_misfitInList (rmX0_misfitInList d 0 0)).room s m [.ref obF, .int a0, .int a1, .int a2].toArray below meth c s.heap [] 0 0 Q0 (F0 m 13 ls []) := by
    intro n13
    induction n13 with
    | zero => intro x1 x2 x3 x4 x5 ls hl hm; exact nomatch (show (none : Option _) = some res from hm)
    | succ n13 ih13 =>
      intro x1 x2 x3 x4 x5 ls hl hm
      rw [m_X0_misfitInList_13] at hm
      refine lv_iload hx hb dX0_misfitInList_13 (lv_at hl 5 rfl) ?_
      refine lv_aload_n hx hb dX0_misfitInList_15 rfl (lv_at hl 0 rfl) ?_
      refine va_get (D := (dC, dI)) (ci := 4) (v := .ref obT) (C := RX0) (T := TX0) (N := 2) hx hb hts (inX0 _) hown hK hP 0 rfl rfl 0 (by decide) (hts _ (List.mem_cons_of_mem _ wf0_9)) (fun _ h9 => h9) rfl dX0_misfitInList_16 ?_
      refine lv_iload_n hx hb dX0_misfitInList_19 rfl (lv_at hl 2 rfl) ?_
      obtain ⟨r2, hz2, hm⟩ := mr_bind hm
      refine mr_pV (As := [.int x2]) (rest := [.int x5]) (sr_okZ adK adV) ⟨hx, hb, hml, hown, hts⟩ (kX7_amount l htr dC dI adK adV cI cB cJ cZ cQ obT tq_tape tq_said tq_inner tq_next tq_amount obK t_length t_wrongPlace t_amount x2 r2 hz2) (cwV 1 hts (g0_60 _) rfl rfl rfl (by decide +kernel) ⟨(by show 1 + 1 ≤ 2 * d + 6; omega), (by show 8 + (2 + 11) + (21) ≤ 51 * d + 139; omega)⟩) hS hP hK hz0 [1, 6] rfl (va_recv hK hP (ci := 9) (q0 := 1) rfl rfl) rfl rfl hl.1 (Nat.le_of_ble_eq_true rfl) dX0_misfitInList_20 ⟨Nat.zero_le _, Nat.zero_le _⟩ ?_
      refine lv_icmp_ge (tgt := 64) hx hb dX0_misfitInList_23 (by decide) (fun c3 => ?_) (fun c3 => ?_)
      · have hm := mr_if c3 hm
        refine lv_iconst (v := -1) hx hb dX0_misfitInList_64 (by decide) ?_
        obtain rfl := Option.some.inj hm
        subst hQ0
        exact W.iret (v := (-1)) hx hb hr (fun t ht hW => ⟨rfl, ht⟩) (fun q h => by cases h) dX0_misfitInList_65
      · have hm := mr_un c3 hm
        refine lv_aload_n hx hb dX0_misfitInList_26 rfl (lv_at hl 0 rfl) ?_
        refine lv_iload_n hx hb dX0_misfitInList_27 rfl (lv_at hl 1 rfl) ?_
        refine lv_iload hx hb dX0_misfitInList_28 (lv_at hl 4 rfl) ?_
        refine lv_iload_n hx hb dX0_misfitInList_30 rfl (lv_at hl 3 rfl) ?_
        refine lv_iconst (v := 1) hx hb dX0_misfitInList_31 (by decide) ?_
        refine lv_iadd hx hb dX0_misfitInList_32 ?_
        obtain ⟨r4, hz4, hm⟩ := mr_bind hm
        refine mr_pV (As := [.int x1, .int x4, .int (x3 + 1)]) (rest := []) (sr_okZ adK adV) ⟨hx, hb, hml, hown, hts⟩ (hrec t_length t_wrongPlace s_letterCount s_slotCount t_tape t_said t_inner t_next t_amount s_plain s_kinds s_meant s_firsts s_nexts s_fieldNames s_amounts x1 x4 (x3 + 1) r4 hz4) (cwV 3 hts (g0_77 _) rfl rfl rfl (by decide +kernel) ⟨(by show 2 * d + 5 + 1 ≤ 2 * d + 6; omega), (by show 8 + (5 + 11) + (51 * d + 115) ≤ 51 * d + 139; omega)⟩) hS hP hK hz0 [0, 1, 2, 3, 4, 5, 6, 7, 8, 9, 10, 11, 12, 13, 14] rfl (va_recv hK hP (ci := 4) (q0 := 0) rfl rfl) rfl rfl hl.1 (Nat.le_of_ble_eq_true rfl) dX0_misfitInList_33 ⟨Nat.zero_le _, Nat.zero_le _⟩ ?_
        refine lv_istore (lv' := [(6, .int r4), (0, .ref obF), (1, .int x1), (2, .int x2), (3, .int x3), (4, .int x4), (5, .int x5)]) hx hb dX0_misfitInList_36 hl (by decide) rfl (fun ls hl => ?_)
        refine lv_iload hx hb dX0_misfitInList_38 (lv_at hl 0 rfl) ?_
        refine lv_iconst (v := -1) hx hb dX0_misfitInList_40 (by decide) ?_
        refine lv_icmp_eq (tgt := 47) hx hb dX0_misfitInList_41 (by decide) (fun c5 => ?_) (fun c5 => ?_)
        · have hm := mr_if c5 hm
          refine lv_aload_n hx hb dX0_misfitInList_47 rfl (lv_at hl 1 rfl) ?_
          refine va_get (D := (dC, dI)) (ci := 4) (v := .ref obT) (C := RX0) (T := TX0) (N := 2) hx hb hts (inX0 _) hown hK hP 0 rfl rfl 0 (by decide) (hts _ (List.mem_cons_of_mem _ wf0_9)) (fun _ h9 => h9) rfl dX0_misfitInList_48 ?_
          refine lv_iload hx hb dX0_misfitInList_51 (lv_at hl 5 rfl) ?_
          obtain ⟨r6, hz6, hm⟩ := mr_bind hm
          refine mr_pV (As := [.int x4]) (rest := []) (sr_okZ adK adV) ⟨hx, hb, hml, hown, hts⟩ (kX7_next l htr dC dI adK adV cI cB cJ cZ cQ obT tq_tape tq_said tq_inner tq_next tq_amount obK t_length t_wrongPlace t_next x4 r6 hz6) (cwV 1 hts (g0_80 _) rfl rfl rfl (by decide +kernel) ⟨(by show 1 + 1 ≤ 2 * d + 6; omega), (by show 8 + (2 + 11) + (21) ≤ 51 * d + 139; omega)⟩) hS hP hK hz0 [1, 5] rfl (va_recv hK hP (ci := 9) (q0 := 1) rfl rfl) rfl rfl hl.1 (Nat.le_of_ble_eq_true rfl) dX0_misfitInList_53 ⟨Nat.zero_le _, Nat.zero_le _⟩ ?_
          refine lv_istore (lv' := [(4, .int r6), (6, .int r4), (0, .ref obF), (1, .int x1), (2, .int x2), (3, .int x3), (5, .int x5)]) hx hb dX0_misfitInList_56 hl (by decide) rfl (fun ls hl => ?_)
          refine lv_iinc (v := x5 + 1) (lv' := [(5, .int (x5 + 1)), (4, .int r6), (6, .int r4), (0, .ref obF), (1, .int x1), (2, .int x2), (3, .int x3)]) hx hb dX0_misfitInList_58 hl (k := 6) rfl rfl (by decide) rfl (fun ls hl => ?_)
          refine lv_goto (tgt := 13) hx hb dX0_misfitInList_61 (by decide) ?_
          exact ih13 x1 x2 x3 r6 (x5 + 1) ls (lv_sub hl [3, 4, 5, 6, 1, 0] rfl) hm
        · have hm := mr_un c5 hm
          refine lv_iload hx hb dX0_misfitInList_44 (lv_at hl 0 rfl) ?_
          obtain rfl := Option.some.inj hm
          subst hQ0
          exact W.iret (v := r4) hx hb hr (fun t ht hW => ⟨rfl, ht⟩) (fun q h => by cases h) dX0_misfitInList_46
  refine lv_istore (lv' := [(5, .int 0), (4, .int r1), (0, .ref obF), (1, .int a0), (2, .int a1), (3, .int a2)]) hx hb dX0_misfitInList_11 hl (by decide) rfl (fun ls hl => ?_)
  exact j13 sr_fuel a0 a1 a2 r1 0 ls (lv_sub hl [2, 3, 4, 5, 1, 0] rfl) hm
set_option maxHeartbeats 4000000 in
set_option maxRecDepth 100000 in
theorem kX0_misfitInMap (l : Launch) (htr : l.stackTraces = false) (dC : Nat → ClassId) (dI : Nat → Nat → Nat) (adK adV : Nat → Nat) (cI cB cJ cZ cQ : ClassId) (obF obT obS tq_tape tq_said tq_inner tq_next tq_amount obK sq_plain sq_kinds sq_meant sq_firsts sq_nexts sq_names sq_fieldNames sq_amounts sq_fieldDefaults sq_enumDefaults : Nat) (f_misfit : (Nat → Int32) → (Nat → Int32) → (Nat → Int32) → (Nat → Int32) → (Nat → Int32) → Int32 → (Nat → Int32) → (Nat → Int32) → (Nat → Int32) → (Nat → Int32) → (Nat → Int32) → (Nat → Int32) → (Nat → Int32) → Int32 → Int32 → Int32 → Int32 → Option (Int32)) (d : Nat) (hrec : ∀ (t_length : Int32) (t_wrongPlace : Int32) (s_letterCount : Int32) (s_slotCount : Int32) (t_tape : Nat → Int32) (t_said : Nat → Int32) (t_inner : Nat → Int32) (t_next : Nat → Int32) (t_amount : Nat → Int32) (s_plain : Nat → Int32) (s_kinds : Nat → Int32) (s_meant : Nat → Int32) (s_firsts : Nat → Int32) (s_nexts : Nat → Int32) (s_fieldNames : Nat → Int32) (s_amounts : Nat → Int32) (a0 : Int32) (a1 : Int32) (a2 : Int32) (res : Int32), f_misfit t_tape t_said t_inner t_next t_amount t_length s_plain s_kinds s_meant s_firsts s_nexts s_fieldNames s_amounts s_letterCount a0 a1 a2 = some res → Met l yX0_misfit wsX0_misfit (rmX0_misfit d 0 0) (pcR (sr_Z adK adV) (dC, dI) srCl [(cI, .int), (cB, .byte), (cJ, .long), (cZ, .boolean), (cQ, .object "SchemaReader$Schema")] [.ref obF, .int a0, .int a1, .int a2] [(obF, .inr (4, [.ref obT, .ref obS])), (obT, .inr (9, [.ref tq_tape, .ref tq_said, .ref tq_inner, .ref tq_next, .ref tq_amount, .ref obK, .int t_length, .int t_wrongPlace])), (tq_tape, .inl (cB, 4096, .inl t_tape)), (tq_said, .inl (cB, 4096, .inl t_said)), (tq_inner, .inl (cI, 4096, .inl t_inner)), (tq_next, .inl (cI, 4096, .inl t_next)), (tq_amount, .inl (cI, 4096, .inl t_amount)), (obS, .inr (8, [.ref sq_plain, .ref sq_kinds, .ref sq_meant, .ref sq_firsts, .ref sq_nexts, .ref sq_names, .ref sq_fieldNames, .ref sq_amounts, .ref sq_fieldDefaults, .ref sq_enumDefaults, .int s_letterCount, .int s_slotCount])), (sq_plain, .inl (cB, 4096, .inl s_plain)), (sq_kinds, .inl (cI, 128, .inl s_kinds)), (sq_meant, .inl (cI, 128, .inl s_meant)), (sq_firsts, .inl (cI, 128, .inl s_firsts)), (sq_nexts, .inl (cI, 128, .inl s_nexts)), (sq_fieldNames, .inl (cI, 128, .inl s_fieldNames)), (sq_amounts, .inl (cI, 128, .inl s_amounts))]) (k2_QcV (.int res)) 0 0 (fun _ => False)) (t_length : Int32) (t_wrongPlace : Int32) (s_letterCount : Int32) (s_slotCount : Int32) (t_tape : Nat → Int32) (t_said : Nat → Int32) (t_inner : Nat → Int32) (t_next : Nat → Int32) (t_amount : Nat → Int32) (s_plain : Nat → Int32) (s_kinds : Nat → Int32) (s_meant : Nat → Int32) (s_firsts : Nat → Int32) (s_nexts : Nat → Int32) (s_fieldNames : Nat → Int32) (s_amounts : Nat → Int32) (a0 : Int32) (a1 : Int32) (a2 : Int32) (res : Int32) (hm : m_X0_misfitInMap f_misfit t_tape t_said t_inner t_next t_amount t_length s_plain s_kinds s_meant s_firsts s_nexts s_fieldNames s_amounts s_letterCount a0 a1 a2 = some res) : Met l yX0_misfitInMap wsX0_misfitInMap (rmX0_misfitInMap d 0 0) (pcR (sr_Z adK adV) (dC, dI) srCl [(cI, .int), (cB, .byte), (cJ, .long), (cZ, .boolean), (cQ, .object "SchemaReader$Schema")] [.ref obF, .int a0, .int a1, .int a2] [(obF, .inr (4, [.ref obT, .ref obS])), (obT, .inr (9, [.ref tq_tape, .ref tq_said, .ref tq_inner, .ref tq_next, .ref tq_amount, .ref obK, .int t_length, .int t_wrongPlace])), (tq_tape, .inl (cB, 4096, .inl t_tape)), (tq_said, .inl (cB, 4096, .inl t_said)), (tq_inner, .inl (cI, 4096, .inl t_inner)), (tq_next, .inl (cI, 4096, .inl t_next)), (tq_amount, .inl (cI, 4096, .inl t_amount)), (obS, .inr (8, [.ref sq_plain, .ref sq_kinds, .ref sq_meant, .ref sq_firsts, .ref sq_nexts, .ref sq_names, .ref sq_fieldNames, .ref sq_amounts, .ref sq_fieldDefaults, .ref sq_enumDefaults, .int s_letterCount, .int s_slotCount])), (sq_plain, .inl (cB, 4096, .inl s_plain)), (sq_kinds, .inl (cI, 128, .inl s_kinds)), (sq_meant, .inl (cI, 128, .inl s_meant)), (sq_firsts, .inl (cI, 128, .inl s_firsts)), (sq_nexts, .inl (cI, 128, .inl s_nexts)), (sq_fieldNames, .inl (cI, 128, .inl s_fieldNames)), (sq_amounts, .inl (cI, 128, .inl s_amounts))]) (k2_QcV (.int res)) 0 0 (fun _ => False) := by
  refine Met.ofW (cc := cX0_misfitInMap) (maxL := 7) (ret := (some .int)) (by decide) rfl ?_
  intro p e s m args below meth c s₁ B hml hv
  obtain ⟨rfl, hP, hK, hz0⟩ := hv
  have hx := B.exec
  have hb := B.bytes
  have hr := B.returns
  have hts := atoms_spec (ws := wsX0_misfitInMap) B.pre
  have hown : s.vm.findClass RX0 = some m.cls := findClass_of_methodNamed B.named
  have hlocks := B.notSynchronized
  have hS : va_S (fun _ => False) s.heap s.heap [] := va_S.rf
  generalize hQ0 : MQ below (k2_QcV (.int res)) [.ref obF, .int a0, .int a1, .int a2].toArray s 0 0 (fun _ => False) = Q0
  have hl := lv_entry [.ref obF, .int a0, .int a1, .int a2] (n := 7) (Nat.le_of_ble_eq_true rfl)
  rw [lg_entry_eq]
  generalize (lg_sl [.ref obF, .int a0, .int a1, .int a2] ++ List.replicate (7 - (lg_sl [.ref obF, .int a0, .int a1, .int a2]).length) Slot.unset).toArray = ls at hl ⊢
  have hl : lv_has ls 7 [(0, .ref obF), (1, .int a0), (2, .int a1), (3, .int a2)] := hl
  unfold m_X0_misfitInMap at hm
  refine lv_aload_n hx hb dX0_misfitInMap_0 rfl (lv_at hl 0 rfl) ?_
  refine va_get (D := (dC, dI)) (ci := 4) (v := .ref obT) (C := RX0) (T := TX0) (N := 2) hx hb hts (inX0 _) hown hK hP 0 rfl rfl 0 (by decide) (hts _ (List.mem_cons_of_mem _ wf0_9)) (fun _ h9 => h9) rfl dX0_misfitInMap_1 ?_
  refine lv_iload_n hx hb dX0_misfitInMap_4 rfl (lv_at hl 2 rfl) ?_
  obtain ⟨r1, hz1, hm⟩ := mr_bind hm
  refine mr_pV (As := [.int a1]) (rest := []) (sr_okZ adK adV) ⟨hx, hb, hml, hown, hts⟩ (kX7_inner l htr dC dI adK adV cI cB cJ cZ cQ obT tq_tape tq_said tq_inner tq_next tq_amount obK t_length t_wrongPlace t_inner a1 r1 hz1) (cwV 1 hts (g0_74 _) rfl rfl rfl (by decide +kernel) ⟨(by show 1 + 1 ≤ 2 * d + 6; omega), (by show 8 + (2 + 11) + (21) ≤ 51 * d + 139; omega)⟩) hS hP hK hz0 [1, 4] rfl (va_recv hK hP (ci := 9) (q0 := 1) rfl rfl) rfl rfl hl.1 (Nat.le_of_ble_eq_true rfl) dX0_misfitInMap_5 ⟨Nat.zero_le _, Nat.zero_le _⟩ ?_
  refine lv_istore (lv' := [(4, .int r1), (0, .ref obF), (1, .int a0), (2, .int a1), (3, .int a2)]) hx hb dX0_misfitInMap_8 hl (by decide) rfl (fun ls hl => ?_)
  refine lv_iconst (v := 0) hx hb dX0_misfitInMap_10 (by decide) ?_
  have j13 : ∀ (n13 : Nat) (x1 : Int32) (x2 : Int32) (x3 : Int32) (x4 : Int32) (x5 : Int32) (ls : Array Slot), lv_has ls 7 [(0, .ref obF), (1, .int x1), (2, .int x2), (3, .int x3), (4, .int x4), (5, .int x5)] → m_X0_misfitInMap_13 f_misfit t_tape t_said t_inner t_next t_amount t_length s_plain s_kinds s_meant s_firsts s_nexts s_fieldNames s_amounts s_letterCount n13 x1 x2 x3 x4 x5 = some res → W p l e (headSpec wsX0_misfitInMap (rmX0_misfitInMap d 0 0)).room s m [.ref obF, .int a0, .int a1, .int a2].toArray below meth c s.heap [] 0 0 Q0 (F0 m 13 ls []) := by
    intro n13
    induction n13 with
    | zero => intro x1 x2 x3 x4 x5 ls hl hm; exact nomatch (show (none : Option _) = some res from hm)
    | succ n13 ih13 =>
      intro x1 x2 x3 x4 x5 ls hl hm
      rw [m_X0_misfitInMap_13] at hm
      refine lv_iload hx hb dX0_misfitInMap_13 (lv_at hl 5 rfl) ?_
      refine lv_aload_n hx hb dX0_misfitInMap_15 rfl (lv_at hl 0 rfl) ?_
      refine va_get (D := (dC, dI)) (ci := 4) (v := .ref obT) (C := RX0) (T := TX0) (N := 2) hx hb hts (inX0 _) hown hK hP 0 rfl rfl 0 (by decide) (hts _ (List.mem_cons_of_mem _ wf0_9)) (fun _ h9 => h9) rfl dX0_misfitInMap_16 ?_
      refine lv_iload_n hx hb dX0_misfitInMap_19 rfl (lv_at hl 2 rfl) ?_
      obtain ⟨r2, hz2, hm⟩ := mr_bind hm
      refine mr_pV (As := [.int x2]) (rest := [.int x5]) (sr_okZ adK adV) ⟨hx, hb, hml, hown, hts⟩ (kX7_amount l htr dC dI adK adV cI cB cJ cZ cQ obT tq_tape tq_said tq_inner tq_next tq_amount obK t_length t_wrongPlace t_amount x2 r2 hz2) (cwV 1 hts (g0_60 _) rfl rfl rfl (by decide +kernel) ⟨(by show 1 + 1 ≤ 2 * d + 6; omega), (by show 8 + (2 + 11) + (21) ≤ 51 * d + 139; omega)⟩) hS hP hK hz0 [1, 6] rfl (va_recv hK hP (ci := 9) (q0 := 1) rfl rfl) rfl rfl hl.1 (Nat.le_of_ble_eq_true rfl) dX0_misfitInMap_20 ⟨Nat.zero_le _, Nat.zero_le _⟩ ?_
      refine lv_icmp_ge (tgt := 71) hx hb dX0_misfitInMap_23 (by decide) (fun c3 => ?_) (fun c3 => ?_)
      · have hm := mr_if c3 hm
        refine lv_iconst (v := -1) hx hb dX0_misfitInMap_71 (by decide) ?_
        obtain rfl := Option.some.inj hm
        subst hQ0
        exact W.iret (v := (-1)) hx hb hr (fun t ht hW => ⟨rfl, ht⟩) (fun q h => by cases h) dX0_misfitInMap_72
      · have hm := mr_un c3 hm
        refine lv_aload_n hx hb dX0_misfitInMap_26 rfl (lv_at hl 0 rfl) ?_
        refine lv_iload_n hx hb dX0_misfitInMap_27 rfl (lv_at hl 1 rfl) ?_
        refine lv_aload_n hx hb dX0_misfitInMap_28 rfl (lv_at hl 0 rfl) ?_
        refine va_get (D := (dC, dI)) (ci := 4) (v := .ref obT) (C := RX0) (T := TX0) (N := 2) hx hb hts (inX0 _) hown hK hP 0 rfl rfl 0 (by decide) (hts _ (List.mem_cons_of_mem _ wf0_9)) (fun _ h9 => h9) rfl dX0_misfitInMap_29 ?_
        refine lv_iload hx hb dX0_misfitInMap_32 (lv_at hl 4 rfl) ?_
        obtain ⟨r4, hz4, hm⟩ := mr_bind hm
        refine mr_pV (As := [.int x4]) (rest := [.int x1, .ref obF]) (sr_okZ adK adV) ⟨hx, hb, hml, hown, hts⟩ (kX7_inner l htr dC dI adK adV cI cB cJ cZ cQ obT tq_tape tq_said tq_inner tq_next tq_amount obK t_length t_wrongPlace t_inner x4 r4 hz4) (cwV 1 hts (g0_74 _) rfl rfl rfl (by decide +kernel) ⟨(by show 1 + 1 ≤ 2 * d + 6; omega), (by show 8 + (2 + 11) + (21) ≤ 51 * d + 139; omega)⟩) hS hP hK hz0 [1, 4] rfl (va_recv hK hP (ci := 9) (q0 := 1) rfl rfl) rfl rfl hl.1 (Nat.le_of_ble_eq_true rfl) dX0_misfitInMap_34 ⟨Nat.zero_le _, Nat.zero_le _⟩ ?_
        refine lv_iload_n hx hb dX0_misfitInMap_37 rfl (lv_at hl 3 rfl) ?_
        refine lv_iconst (v := 1) hx hb dX0_misfitInMap_38 (by decide) ?_
        refine lv_iadd hx hb dX0_misfitInMap_39 ?_
        obtain ⟨r5, hz5, hm⟩ := mr_bind hm
        refine mr_pV (As := [.int x1, .int r4, .int (x3 + 1)]) (rest := []) (sr_okZ adK adV) ⟨hx, hb, hml, hown, hts⟩ (hrec t_length t_wrongPlace s_letterCount s_slotCount t_tape t_said t_inner t_next t_amount s_plain s_kinds s_meant s_firsts s_nexts s_fieldNames s_amounts x1 r4 (x3 + 1) r5 hz5) (cwV 3 hts (g0_77 _) rfl rfl rfl (by decide +kernel) ⟨(by show 2 * d + 5 + 1 ≤ 2 * d + 6; omega), (by show 8 + (5 + 11) + (51 * d + 115) ≤ 51 * d + 139; omega)⟩) hS hP hK hz0 [0, 1, 2, 3, 4, 5, 6, 7, 8, 9, 10, 11, 12, 13, 14] rfl (va_recv hK hP (ci := 4) (q0 := 0) rfl rfl) rfl rfl hl.1 (Nat.le_of_ble_eq_true rfl) dX0_misfitInMap_40 ⟨Nat.zero_le _, Nat.zero_le _⟩ ?_
        refine lv_istore (lv' := [(6, .int r5), (0, .ref obF), (1, .int x1), (2, .int x2), (3, .int x3), (4, .int x4), (5, .int x5)]) hx hb dX0_misfitInMap_43 hl (by decide) rfl (fun ls hl => ?_)
        refine lv_iload hx hb dX0_misfitInMap_45 (lv_at hl 0 rfl) ?_
        refine lv_iconst (v := -1) hx hb dX0_misfitInMap_47 (by decide) ?_
        refine lv_icmp_eq (tgt := 54) hx hb dX0_misfitInMap_48 (by decide) (fun c6 => ?_) (fun c6 => ?_)
        · have hm := mr_if c6 hm
          refine lv_aload_n hx hb dX0_misfitInMap_54 rfl (lv_at hl 1 rfl) ?_
          refine va_get (D := (dC, dI)) (ci := 4) (v := .ref obT) (C := RX0) (T := TX0) (N := 2) hx hb hts (inX0 _) hown hK hP 0 rfl rfl 0 (by decide) (hts _ (List.mem_cons_of_mem _ wf0_9)) (fun _ h9 => h9) rfl dX0_misfitInMap_55 ?_
          refine lv_iload hx hb dX0_misfitInMap_58 (lv_at hl 5 rfl) ?_
          obtain ⟨r7, hz7, hm⟩ := mr_bind hm
          refine mr_pV (As := [.int x4]) (rest := []) (sr_okZ adK adV) ⟨hx, hb, hml, hown, hts⟩ (kX7_next l htr dC dI adK adV cI cB cJ cZ cQ obT tq_tape tq_said tq_inner tq_next tq_amount obK t_length t_wrongPlace t_next x4 r7 hz7) (cwV 1 hts (g0_80 _) rfl rfl rfl (by decide +kernel) ⟨(by show 1 + 1 ≤ 2 * d + 6; omega), (by show 8 + (2 + 11) + (21) ≤ 51 * d + 139; omega)⟩) hS hP hK hz0 [1, 5] rfl (va_recv hK hP (ci := 9) (q0 := 1) rfl rfl) rfl rfl hl.1 (Nat.le_of_ble_eq_true rfl) dX0_misfitInMap_60 ⟨Nat.zero_le _, Nat.zero_le _⟩ ?_
          refine lv_istore (lv' := [(4, .int r7), (6, .int r5), (0, .ref obF), (1, .int x1), (2, .int x2), (3, .int x3), (5, .int x5)]) hx hb dX0_misfitInMap_63 hl (by decide) rfl (fun ls hl => ?_)
          refine lv_iinc (v := x5 + 1) (lv' := [(5, .int (x5 + 1)), (4, .int r7), (6, .int r5), (0, .ref obF), (1, .int x1), (2, .int x2), (3, .int x3)]) hx hb dX0_misfitInMap_65 hl (k := 6) rfl rfl (by decide) rfl (fun ls hl => ?_)
          refine lv_goto (tgt := 13) hx hb dX0_misfitInMap_68 (by decide) ?_
          exact ih13 x1 x2 x3 r7 (x5 + 1) ls (lv_sub hl [3, 4, 5, 6, 1, 0] rfl) hm
        · have hm := mr_un c6 hm
          refine lv_iload hx hb dX0_misfitInMap_51 (lv_at hl 0 rfl) ?_
          obtain rfl := Option.some.inj hm
          subst hQ0
          exact W.iret (v := r5) hx hb hr (fun t ht hW => ⟨rfl, ht⟩) (fun q h => by cases h) dX0_misfitInMap_53
  refine lv_istore (lv' := [(5, .int 0), (4, .int r1), (0, .ref obF), (1, .int a0), (2, .int a1), (3, .int a2)]) hx hb dX0_misfitInMap_11 hl (by decide) rfl (fun ls hl => ?_)
  exact j13 sr_fuel a0 a1 a2 r1 0 ls (lv_sub hl [2, 3, 4, 5, 1, 0] rfl) hm
set_option maxHeartbeats 4000000 in
set_option maxRecDepth 100000 in
theorem kX0_misfitInRecord (l : Launch) (htr : l.stackTraces = false) (dC : Nat → ClassId) (dI : Nat → Nat → Nat) (adK adV : Nat → Nat) (cI cB cJ cZ cQ : ClassId) (obF obT obS tq_tape tq_said tq_inner tq_next tq_amount obK sq_plain sq_kinds sq_meant sq_firsts sq_nexts sq_names sq_fieldNames sq_amounts sq_fieldDefaults sq_enumDefaults : Nat) (f_misfit : (Nat → Int32) → (Nat → Int32) → (Nat → Int32) → (Nat → Int32) → (Nat → Int32) → Int32 → (Nat → Int32) → (Nat → Int32) → (Nat → Int32) → (Nat → Int32) → (Nat → Int32) → (Nat → Int32) → (Nat → Int32) → Int32 → Int32 → Int32 → Int32 → Option (Int32)) (d : Nat) (hrec : ∀ (t_length : Int32) (t_wrongPlace : Int32) (s_letterCount : Int32) (s_slotCount : Int32) (t_tape : Nat → Int32) (t_said : Nat → Int32) (t_inner : Nat → Int32) (t_next : Nat → Int32) (t_amount : Nat → Int32) (s_plain : Nat → Int32) (s_kinds : Nat → Int32) (s_meant : Nat → Int32) (s_firsts : Nat → Int32) (s_nexts : Nat → Int32) (s_fieldNames : Nat → Int32) (s_amounts : Nat → Int32) (a0 : Int32) (a1 : Int32) (a2 : Int32) (res : Int32), f_misfit t_tape t_said t_inner t_next t_amount t_length s_plain s_kinds s_meant s_firsts s_nexts s_fieldNames s_amounts s_letterCount a0 a1 a2 = some res → Met l yX0_misfit wsX0_misfit (rmX0_misfit d 0 0) (pcR (sr_Z adK adV) (dC, dI) srCl [(cI, .int), (cB, .byte), (cJ, .long), (cZ, .boolean), (cQ, .object "SchemaReader$Schema")] [.ref obF, .int a0, .int a1, .int a2] [(obF, .inr (4, [.ref obT, .ref obS])), (obT, .inr (9, [.ref tq_tape, .ref tq_said, .ref tq_inner, .ref tq_next, .ref tq_amount, .ref obK, .int t_length, .int t_wrongPlace])), (tq_tape, .inl (cB, 4096, .inl t_tape)), (tq_said, .inl (cB, 4096, .inl t_said)), (tq_inner, .inl (cI, 4096, .inl t_inner)), (tq_next, .inl (cI, 4096, .inl t_next)), (tq_amount, .inl (cI, 4096, .inl t_amount)), (obS, .inr (8, [.ref sq_plain, .ref sq_kinds, .ref sq_meant, .ref sq_firsts, .ref sq_nexts, .ref sq_names, .ref sq_fieldNames, .ref sq_amounts, .ref sq_fieldDefaults, .ref sq_enumDefaults, .int s_letterCount, .int s_slotCount])), (sq_plain, .inl (cB, 4096, .inl s_plain)), (sq_kinds, .inl (cI, 128, .inl s_kinds)), (sq_meant, .inl (cI, 128, .inl s_meant)), (sq_firsts, .inl (cI, 128, .inl s_firsts)), (sq_nexts, .inl (cI, 128, .inl s_nexts)), (sq_fieldNames, .inl (cI, 128, .inl s_fieldNames)), (sq_amounts, .inl (cI, 128, .inl s_amounts))]) (k2_QcV (.int res)) 0 0 (fun _ => False)) (t_length : Int32) (t_wrongPlace : Int32) (s_letterCount : Int32) (s_slotCount : Int32) (t_tape : Nat → Int32) (t_said : Nat → Int32) (t_inner : Nat → Int32) (t_next : Nat → Int32) (t_amount : Nat → Int32) (s_plain : Nat → Int32) (s_kinds : Nat → Int32) (s_meant : Nat → Int32) (s_firsts : Nat → Int32) (s_nexts : Nat → Int32) (s_fieldNames : Nat → Int32) (s_amounts : Nat → Int32) (a0 : Int32) (a1 : Int32) (a2 : Int32) (res : Int32) (hm : m_X0_misfitInRecord f_misfit t_tape t_said t_inner t_next t_amount t_length s_plain s_kinds s_meant s_firsts s_nexts s_fieldNames s_amounts s_letterCount a0 a1 a2 = some res) : Met l yX0_misfitInRecord wsX0_misfitInRecord (rmX0_misfitInRecord d 0 0) (pcR (sr_Z adK adV) (dC, dI) srCl [(cI, .int), (cB, .byte), (cJ, .long), (cZ, .boolean), (cQ, .object "SchemaReader$Schema")] [.ref obF, .int a0, .int a1, .int a2] [(obF, .inr (4, [.ref obT, .ref obS])), (obT, .inr (9, [.ref tq_tape, .ref tq_said, .ref tq_inner, .ref tq_next, .ref tq_amount, .ref obK, .int t_length, .int t_wrongPlace])), (tq_tape, .inl (cB, 4096, .inl t_tape)), (tq_said, .inl (cB, 4096, .inl t_said)), (tq_inner, .inl (cI, 4096, .inl t_inner)), (tq_next, .inl (cI, 4096, .inl t_next)), (tq_amount, .inl (cI, 4096, .inl t_amount)), (obS, .inr (8, [.ref sq_plain, .ref sq_kinds, .ref sq_meant, .ref sq_firsts, .ref sq_nexts, .ref sq_names, .ref sq_fieldNames, .ref sq_amounts, .ref sq_fieldDefaults, .ref sq_enumDefaults, .int s_letterCount, .int s_slotCount])), (sq_plain, .inl (cB, 4096, .inl s_plain)), (sq_kinds, .inl (cI, 128, .inl s_kinds)), (sq_meant, .inl (cI, 128, .inl s_meant)), (sq_firsts, .inl (cI, 128, .inl s_firsts)), (sq_nexts, .inl (cI, 128, .inl s_nexts)), (sq_fieldNames, .inl (cI, 128, .inl s_fieldNames)), (sq_amounts, .inl (cI, 128, .inl s_amounts))]) (k2_QcV (.int res)) 0 0 (fun _ => False) := by
  refine Met.ofW (cc := cX0_misfitInRecord) (maxL := 8) (ret := (some .int)) (by decide) rfl ?_
  intro p e s m args below meth c s₁ B hml hv
  obtain ⟨rfl, hP, hK, hz0⟩ := hv
  have hx := B.exec
  have hb := B.bytes
  have hr := B.returns
  have hts := atoms_spec (ws := wsX0_misfitInRecord) B.pre
  have hown : s.vm.findClass RX0 = some m.cls := findClass_of_methodNamed B.named
  have hlocks := B.notSynchronized
  have hS : va_S (fun _ => False) s.heap s.heap [] := va_S.rf
  generalize hQ0 : MQ below (k2_QcV (.int res)) [.ref obF, .int a0, .int a1, .int a2].toArray s 0 0 (fun _ => False) = Q0
  have hl := lv_entry [.ref obF, .int a0, .int a1, .int a2] (n := 8) (Nat.le_of_ble_eq_true rfl)
  rw [lg_entry_eq]
  generalize (lg_sl [.ref obF, .int a0, .int a1, .int a2] ++ List.replicate (8 - (lg_sl [.ref obF, .int a0, .int a1, .int a2]).length) Slot.unset).toArray = ls at hl ⊢
  have hl : lv_has ls 8 [(0, .ref obF), (1, .int a0), (2, .int a1), (3, .int a2)] := hl
  unfold m_X0_misfitInRecord at hm
  refine lv_aload_n hx hb dX0_misfitInRecord_0 rfl (lv_at hl 0 rfl) ?_
  refine va_get (D := (dC, dI)) (ci := 4) (v := .ref obS) (C := RX0) (T := TX0) (N := 2) hx hb hts (inX0 _) hown hK hP 0 rfl rfl 1 (by decide) (hts _ (List.mem_cons_of_mem _ wf0_15)) (fun _ h9 => h9) rfl dX0_misfitInRecord_1 ?_
  refine lv_iload_n hx hb dX0_misfitInRecord_4 rfl (lv_at hl 1 rfl) ?_
  obtain ⟨r1, hz1, hm⟩ := mr_bind hm
  refine mr_pV (As := [.int a0]) (rest := []) (sr_okZ adK adV) ⟨hx, hb, hml, hown, hts⟩ (kX6_first l htr dC dI adK adV cI cB cJ cZ cQ obS sq_plain sq_kinds sq_meant sq_firsts sq_nexts sq_names sq_fieldNames sq_amounts sq_fieldDefaults sq_enumDefaults s_letterCount s_slotCount s_meant s_firsts a0 r1 hz1) (cwV 1 hts (g0_27 _) rfl rfl rfl (by decide +kernel) ⟨(by show 1 + 1 ≤ 2 * d + 6; omega), (by show 8 + (2 + 11) + (21) ≤ 51 * d + 139; omega)⟩) hS hP hK hz0 [7, 10, 11] rfl (va_recv hK hP (ci := 8) (q0 := 7) rfl rfl) rfl rfl hl.1 (Nat.le_of_ble_eq_true rfl) dX0_misfitInRecord_5 ⟨Nat.zero_le _, Nat.zero_le _⟩ ?_
  refine lv_istore (lv' := [(4, .int r1), (0, .ref obF), (1, .int a0), (2, .int a1), (3, .int a2)]) hx hb dX0_misfitInRecord_8 hl (by decide) rfl (fun ls hl => ?_)
  refine lv_iconst (v := 0) hx hb dX0_misfitInRecord_10 (by decide) ?_
  have j13 : ∀ (n13 : Nat) (x1 : Int32) (x2 : Int32) (x3 : Int32) (x4 : Int32) (x5 : Int32) (ls : Array Slot), lv_has ls 8 [(0, .ref obF), (1, .int x1), (2, .int x2), (3, .int x3), (4, .int x4), (5, .int x5)] → m_X0_misfitInRecord_13 f_misfit t_tape t_said t_inner t_next t_amount t_length s_plain s_kinds s_meant s_firsts s_nexts s_fieldNames s_amounts s_letterCount n13 x1 x2 x3 x4 x5 = some res → W p l e (headSpec wsX0_misfitInRecord (rmX0_misfitInRecord d 0 0)).room s m [.ref obF, .int a0, .int a1, .int a2].toArray below meth c s.heap [] 0 0 Q0 (F0 m 13 ls []) := by
    intro n13
    induction n13 with
    | zero => intro x1 x2 x3 x4 x5 ls hl hm; exact nomatch (show (none : Option _) = some res from hm)
    | succ n13 ih13 =>
      intro x1 x2 x3 x4 x5 ls hl hm
      rw [m_X0_misfitInRecord_13] at hm
      refine lv_iload hx hb dX0_misfitInRecord_13 (lv_at hl 5 rfl) ?_
      refine lv_aload_n hx hb dX0_misfitInRecord_15 rfl (lv_at hl 0 rfl) ?_
      refine va_get (D := (dC, dI)) (ci := 4) (v := .ref obS) (C := RX0) (T := TX0) (N := 2) hx hb hts (inX0 _) hown hK hP 0 rfl rfl 1 (by decide) (hts _ (List.mem_cons_of_mem _ wf0_15)) (fun _ h9 => h9) rfl dX0_misfitInRecord_16 ?_
      refine lv_iload_n hx hb dX0_misfitInRecord_19 rfl (lv_at hl 1 rfl) ?_
      obtain ⟨r2, hz2, hm⟩ := mr_bind hm
      refine mr_pV (As := [.int x1]) (rest := [.int x5]) (sr_okZ adK adV) ⟨hx, hb, hml, hown, hts⟩ (kX6_amount l htr dC dI adK adV cI cB cJ cZ cQ obS sq_plain sq_kinds sq_meant sq_firsts sq_nexts sq_names sq_fieldNames sq_amounts sq_fieldDefaults sq_enumDefaults s_letterCount s_slotCount s_meant s_amounts x1 r2 hz2) (cwV 1 hts (g0_63 _) rfl rfl rfl (by decide +kernel) ⟨(by show 1 + 1 ≤ 2 * d + 6; omega), (by show 8 + (2 + 11) + (21) ≤ 51 * d + 139; omega)⟩) hS hP hK hz0 [7, 10, 14] rfl (va_recv hK hP (ci := 8) (q0 := 7) rfl rfl) rfl rfl hl.1 (Nat.le_of_ble_eq_true rfl) dX0_misfitInRecord_20 ⟨Nat.zero_le _, Nat.zero_le _⟩ ?_
      refine lv_icmp_ge (tgt := 91) hx hb dX0_misfitInRecord_23 (by decide) (fun c3 => ?_) (fun c3 => ?_)
      · have hm := mr_if c3 hm
        refine lv_iconst (v := -1) hx hb dX0_misfitInRecord_91 (by decide) ?_
        obtain rfl := Option.some.inj hm
        subst hQ0
        exact W.iret (v := (-1)) hx hb hr (fun t ht hW => ⟨rfl, ht⟩) (fun q h => by cases h) dX0_misfitInRecord_92
      · have hm := mr_un c3 hm
        refine lv_aload_n hx hb dX0_misfitInRecord_26 rfl (lv_at hl 0 rfl) ?_
        refine lv_aload_n hx hb dX0_misfitInRecord_27 rfl (lv_at hl 0 rfl) ?_
        refine va_get (D := (dC, dI)) (ci := 4) (v := .ref obS) (C := RX0) (T := TX0) (N := 2) hx hb hts (inX0 _) hown hK hP 0 rfl rfl 1 (by decide) (hts _ (List.mem_cons_of_mem _ wf0_15)) (fun _ h9 => h9) rfl dX0_misfitInRecord_28 ?_
        refine lv_iload hx hb dX0_misfitInRecord_31 (lv_at hl 4 rfl) ?_
        obtain ⟨r4, hz4, hm⟩ := mr_bind hm
        refine mr_pV (As := [.int x4]) (rest := [.ref obF]) (sr_okZ adK adV) ⟨hx, hb, hml, hown, hts⟩ (kX6_fieldName l htr dC dI adK adV cI cB cJ cZ cQ obS sq_plain sq_kinds sq_meant sq_firsts sq_nexts sq_names sq_fieldNames sq_amounts sq_fieldDefaults sq_enumDefaults s_letterCount s_slotCount s_fieldNames x4 r4 hz4) (cwV 1 hts (g0_83 _) rfl rfl rfl (by decide +kernel) ⟨(by show 1 + 1 ≤ 2 * d + 6; omega), (by show 8 + (2 + 11) + (21) ≤ 51 * d + 139; omega)⟩) hS hP hK hz0 [7, 13] rfl (va_recv hK hP (ci := 8) (q0 := 7) rfl rfl) rfl rfl hl.1 (Nat.le_of_ble_eq_true rfl) dX0_misfitInRecord_33 ⟨Nat.zero_le _, Nat.zero_le _⟩ ?_
        refine lv_iload_n hx hb dX0_misfitInRecord_36 rfl (lv_at hl 2 rfl) ?_
        obtain ⟨r5, hz5, hm⟩ := mr_bind hm
        refine mr_pV (As := [.int r4, .int x2]) (rest := []) (sr_okZ adK adV) ⟨hx, hb, hml, hown, hts⟩ (kX0_memberFor l htr dC dI adK adV cI cB cJ cZ cQ obF obT obS tq_tape tq_said tq_inner tq_next tq_amount obK sq_plain sq_kinds sq_meant sq_firsts sq_nexts sq_names sq_fieldNames sq_amounts sq_fieldDefaults sq_enumDefaults t_length t_wrongPlace s_letterCount s_slotCount t_said t_inner t_next t_amount s_plain r4 x2 r5 hz5) (cwV 2 hts (g0_86 _) rfl rfl rfl (by decide +kernel) ⟨(by show 3 + 1 ≤ 2 * d + 6; omega), (by show 8 + (5 + 11) + (68) ≤ 51 * d + 139; omega)⟩) hS hP hK hz0 [0, 1, 3, 4, 5, 6, 7, 8] rfl (va_recv hK hP (ci := 4) (q0 := 0) rfl rfl) rfl rfl hl.1 (Nat.le_of_ble_eq_true rfl) dX0_misfitInRecord_37 ⟨Nat.zero_le _, Nat.zero_le _⟩ ?_
        refine lv_istore (lv' := [(6, .int r5), (0, .ref obF), (1, .int x1), (2, .int x2), (3, .int x3), (4, .int x4), (5, .int x5)]) hx hb dX0_misfitInRecord_40 hl (by decide) rfl (fun ls hl => ?_)
        refine lv_iload hx hb dX0_misfitInRecord_42 (lv_at hl 0 rfl) ?_
        refine lv_iconst (v := -1) hx hb dX0_misfitInRecord_44 (by decide) ?_
        have j63 : ∀ (x1 : Int32) (x2 : Int32) (x3 : Int32) (x4 : Int32) (x5 : Int32) (y0 : Int32) (ls : Array Slot), lv_has ls 8 [(0, .ref obF), (1, .int x1), (2, .int x2), (3, .int x3), (4, .int x4), (5, .int x5)] → m_X0_misfitInRecord_63 f_misfit t_tape t_said t_inner t_next t_amount t_length s_plain s_kinds s_meant s_firsts s_nexts s_fieldNames s_amounts s_letterCount (m_X0_misfitInRecord_13 f_misfit t_tape t_said t_inner t_next t_amount t_length s_plain s_kinds s_meant s_firsts s_nexts s_fieldNames s_amounts s_letterCount n13) x1 x2 x3 x4 x5 y0 = some res → W p l e (headSpec wsX0_misfitInRecord (rmX0_misfitInRecord d 0 0)).room s m [.ref obF, .int a0, .int a1, .int a2].toArray below meth c s.heap [] 0 0 Q0 (F0 m 63 ls [.int y0]) := by
          intro x1 x2 x3 x4 x5 y0 ls hl hm
          unfold m_X0_misfitInRecord_63 at hm
          refine lv_istore (lv' := [(7, .int y0), (0, .ref obF), (1, .int x1), (2, .int x2), (3, .int x3), (4, .int x4), (5, .int x5)]) hx hb dX0_misfitInRecord_63 hl (by decide) rfl (fun ls hl => ?_)
          refine lv_iload hx hb dX0_misfitInRecord_65 (lv_at hl 0 rfl) ?_
          refine lv_iconst (v := -1) hx hb dX0_misfitInRecord_67 (by decide) ?_
          refine lv_icmp_eq (tgt := 74) hx hb dX0_misfitInRecord_68 (by decide) (fun c6 => ?_) (fun c6 => ?_)
          · have hm := mr_if c6 hm
            refine lv_aload_n hx hb dX0_misfitInRecord_74 rfl (lv_at hl 1 rfl) ?_
            refine va_get (D := (dC, dI)) (ci := 4) (v := .ref obS) (C := RX0) (T := TX0) (N := 2) hx hb hts (inX0 _) hown hK hP 0 rfl rfl 1 (by decide) (hts _ (List.mem_cons_of_mem _ wf0_15)) (fun _ h9 => h9) rfl dX0_misfitInRecord_75 ?_
            refine lv_iload hx hb dX0_misfitInRecord_78 (lv_at hl 5 rfl) ?_
            obtain ⟨r7, hz7, hm⟩ := mr_bind hm
            refine mr_pV (As := [.int x4]) (rest := []) (sr_okZ adK adV) ⟨hx, hb, hml, hown, hts⟩ (kX6_next l htr dC dI adK adV cI cB cJ cZ cQ obS sq_plain sq_kinds sq_meant sq_firsts sq_nexts sq_names sq_fieldNames sq_amounts sq_fieldDefaults sq_enumDefaults s_letterCount s_slotCount s_nexts x4 r7 hz7) (cwV 1 hts (g0_90 _) rfl rfl rfl (by decide +kernel) ⟨(by show 1 + 1 ≤ 2 * d + 6; omega), (by show 8 + (2 + 11) + (21) ≤ 51 * d + 139; omega)⟩) hS hP hK hz0 [7, 12] rfl (va_recv hK hP (ci := 8) (q0 := 7) rfl rfl) rfl rfl hl.1 (Nat.le_of_ble_eq_true rfl) dX0_misfitInRecord_80 ⟨Nat.zero_le _, Nat.zero_le _⟩ ?_
            refine lv_istore (lv' := [(4, .int r7), (7, .int y0), (0, .ref obF), (1, .int x1), (2, .int x2), (3, .int x3), (5, .int x5)]) hx hb dX0_misfitInRecord_83 hl (by decide) rfl (fun ls hl => ?_)
            refine lv_iinc (v := x5 + 1) (lv' := [(5, .int (x5 + 1)), (4, .int r7), (7, .int y0), (0, .ref obF), (1, .int x1), (2, .int x2), (3, .int x3)]) hx hb dX0_misfitInRecord_85 hl (k := 6) rfl rfl (by decide) rfl (fun ls hl => ?_)
            refine lv_goto (tgt := 13) hx hb dX0_misfitInRecord_88 (by decide) ?_
            exact ih13 x1 x2 x3 r7 (x5 + 1) ls (lv_sub hl [3, 4, 5, 6, 1, 0] rfl) hm
          · have hm := mr_un c6 hm
            refine lv_iload hx hb dX0_misfitInRecord_71 (lv_at hl 0 rfl) ?_
            obtain rfl := Option.some.inj hm
            subst hQ0
            exact W.iret (v := y0) hx hb hr (fun t ht hW => ⟨rfl, ht⟩) (fun q h => by cases h) dX0_misfitInRecord_73
        refine lv_icmp_ne (tgt := 52) hx hb dX0_misfitInRecord_45 (by decide) (fun c8 => ?_) (fun c8 => ?_)
        · have hm := mr_un c8 hm
          refine lv_aload_n hx hb dX0_misfitInRecord_52 rfl (lv_at hl 1 rfl) ?_
          refine lv_iload hx hb dX0_misfitInRecord_53 (lv_at hl 5 rfl) ?_
          refine lv_iload hx hb dX0_misfitInRecord_55 (lv_at hl 0 rfl) ?_
          refine lv_iload_n hx hb dX0_misfitInRecord_57 rfl (lv_at hl 4 rfl) ?_
          refine lv_iconst (v := 1) hx hb dX0_misfitInRecord_58 (by decide) ?_
          refine lv_iadd hx hb dX0_misfitInRecord_59 ?_
          obtain ⟨r9, hz9, hm⟩ := mr_bind hm
          refine mr_pV (As := [.int x4, .int r5, .int (x3 + 1)]) (rest := []) (sr_okZ adK adV) ⟨hx, hb, hml, hown, hts⟩ (hrec t_length t_wrongPlace s_letterCount s_slotCount t_tape t_said t_inner t_next t_amount s_plain s_kinds s_meant s_firsts s_nexts s_fieldNames s_amounts x4 r5 (x3 + 1) r9 hz9) (cwV 3 hts (g0_77 _) rfl rfl rfl (by decide +kernel) ⟨(by show 2 * d + 5 + 1 ≤ 2 * d + 6; omega), (by show 8 + (5 + 11) + (51 * d + 115) ≤ 51 * d + 139; omega)⟩) hS hP hK hz0 [0, 1, 2, 3, 4, 5, 6, 7, 8, 9, 10, 11, 12, 13, 14] rfl (va_recv hK hP (ci := 4) (q0 := 0) rfl rfl) rfl rfl hl.1 (Nat.le_of_ble_eq_true rfl) dX0_misfitInRecord_60 ⟨Nat.zero_le _, Nat.zero_le _⟩ ?_
          exact j63 x1 x2 x3 x4 x5 r9 ls (lv_sub hl [1, 2, 3, 4, 5, 6] rfl) hm
        · have hm := mr_if c8 hm
          refine lv_iload_n hx hb dX0_misfitInRecord_48 rfl (lv_at hl 3 rfl) ?_
          refine lv_goto (tgt := 63) hx hb dX0_misfitInRecord_49 (by decide) ?_
          exact j63 x1 x2 x3 x4 x5 x2 ls (lv_sub hl [1, 2, 3, 4, 5, 6] rfl) hm
  refine lv_istore (lv' := [(5, .int 0), (4, .int r1), (0, .ref obF), (1, .int a0), (2, .int a1), (3, .int a2)]) hx hb dX0_misfitInRecord_11 hl (by decide) rfl (fun ls hl => ?_)
  exact j13 sr_fuel a0 a1 a2 r1 0 ls (lv_sub hl [2, 3, 4, 5, 1, 0] rfl) hm
set_option maxHeartbeats 4000000 in
set_option maxRecDepth 100000 in
theorem kX0_misfit (l : Launch) (htr : l.stackTraces = false) (dC : Nat → ClassId) (dI : Nat → Nat → Nat) (adK adV : Nat → Nat) (cI cB cJ cZ cQ : ClassId) (obF obT obS tq_tape tq_said tq_inner tq_next tq_amount obK sq_plain sq_kinds sq_meant sq_firsts sq_nexts sq_names sq_fieldNames sq_amounts sq_fieldDefaults sq_enumDefaults : Nat) : ∀ (d : Nat) (t_length : Int32) (t_wrongPlace : Int32) (s_letterCount : Int32) (s_slotCount : Int32) (t_tape : Nat → Int32) (t_said : Nat → Int32) (t_inner : Nat → Int32) (t_next : Nat → Int32) (t_amount : Nat → Int32) (s_plain : Nat → Int32) (s_kinds : Nat → Int32) (s_meant : Nat → Int32) (s_firsts : Nat → Int32) (s_nexts : Nat → Int32) (s_fieldNames : Nat → Int32) (s_amounts : Nat → Int32) (a0 : Int32) (a1 : Int32) (a2 : Int32) (res : Int32), m_X0_misfit d t_tape t_said t_inner t_next t_amount t_length s_plain s_kinds s_meant s_firsts s_nexts s_fieldNames s_amounts s_letterCount a0 a1 a2 = some res → Met l yX0_misfit wsX0_misfit (rmX0_misfit d 0 0) (pcR (sr_Z adK adV) (dC, dI) srCl [(cI, .int), (cB, .byte), (cJ, .long), (cZ, .boolean), (cQ, .object "SchemaReader$Schema")] [.ref obF, .int a0, .int a1, .int a2] [(obF, .inr (4, [.ref obT, .ref obS])), (obT, .inr (9, [.ref tq_tape, .ref tq_said, .ref tq_inner, .ref tq_next, .ref tq_amount, .ref obK, .int t_length, .int t_wrongPlace])), (tq_tape, .inl (cB, 4096, .inl t_tape)), (tq_said, .inl (cB, 4096, .inl t_said)), (tq_inner, .inl (cI, 4096, .inl t_inner)), (tq_next, .inl (cI, 4096, .inl t_next)), (tq_amount, .inl (cI, 4096, .inl t_amount)), (obS, .inr (8, [.ref sq_plain, .ref sq_kinds, .ref sq_meant, .ref sq_firsts, .ref sq_nexts, .ref sq_names, .ref sq_fieldNames, .ref sq_amounts, .ref sq_fieldDefaults, .ref sq_enumDefaults, .int s_letterCount, .int s_slotCount])), (sq_plain, .inl (cB, 4096, .inl s_plain)), (sq_kinds, .inl (cI, 128, .inl s_kinds)), (sq_meant, .inl (cI, 128, .inl s_meant)), (sq_firsts, .inl (cI, 128, .inl s_firsts)), (sq_nexts, .inl (cI, 128, .inl s_nexts)), (sq_fieldNames, .inl (cI, 128, .inl s_fieldNames)), (sq_amounts, .inl (cI, 128, .inl s_amounts))]) (k2_QcV (.int res)) 0 0 (fun _ => False) := by
  intro d
  induction d with
  | zero => intro t_length t_wrongPlace s_letterCount s_slotCount t_tape t_said t_inner t_next t_amount s_plain s_kinds s_meant s_firsts s_nexts s_fieldNames s_amounts a0 a1 a2 res hm; exact nomatch (show (none : Option _) = some res from hm)
  | succ d ihd =>
    intro t_length t_wrongPlace s_letterCount s_slotCount t_tape t_said t_inner t_next t_amount s_plain s_kinds s_meant s_firsts s_nexts s_fieldNames s_amounts a0 a1 a2 res hm
    refine Met.ofW (cc := cX0_misfit) (maxL := 5) (ret := (some .int)) (by decide) rfl ?_
    intro p e s m args below meth c s₁ B hml hv
    obtain ⟨rfl, hP, hK, hz0⟩ := hv
    have hx := B.exec
    have hb := B.bytes
    have hr := B.returns
    have hts := atoms_spec (ws := wsX0_misfit) B.pre
    have hown : s.vm.findClass RX0 = some m.cls := findClass_of_methodNamed B.named
    have hlocks := B.notSynchronized
    have hS : va_S (fun _ => False) s.heap s.heap [] := va_S.rf
    generalize hQ0 : MQ below (k2_QcV (.int res)) [.ref obF, .int a0, .int a1, .int a2].toArray s 0 0 (fun _ => False) = Q0
    have hl := lv_entry [.ref obF, .int a0, .int a1, .int a2] (n := 5) (Nat.le_of_ble_eq_true rfl)
    rw [lg_entry_eq]
    generalize (lg_sl [.ref obF, .int a0, .int a1, .int a2] ++ List.replicate (5 - (lg_sl [.ref obF, .int a0, .int a1, .int a2]).length) Slot.unset).toArray = ls at hl ⊢
    have hl : lv_has ls 5 [(0, .ref obF), (1, .int a0), (2, .int a1), (3, .int a2)] := hl
    rw [m_X0_misfit] at hm
    refine lv_aload_n hx hb dX0_misfit_0 rfl (lv_at hl 0 rfl) ?_
    refine va_get (D := (dC, dI)) (ci := 4) (v := .ref obS) (C := RX0) (T := TX0) (N := 2) hx hb hts (inX0 _) hown hK hP 0 rfl rfl 1 (by decide) (hts _ (List.mem_cons_of_mem _ wf0_15)) (fun _ h9 => h9) rfl dX0_misfit_1 ?_
    refine lv_iload_n hx hb dX0_misfit_4 rfl (lv_at hl 1 rfl) ?_
    obtain ⟨r1, hz1, hm⟩ := mr_bind hm
    refine mr_pV (As := [.int a0]) (rest := []) (sr_okZ adK adV) ⟨hx, hb, hml, hown, hts⟩ (kX6_kind l htr dC dI adK adV cI cB cJ cZ cQ obS sq_plain sq_kinds sq_meant sq_firsts sq_nexts sq_names sq_fieldNames sq_amounts sq_fieldDefaults sq_enumDefaults s_letterCount s_slotCount s_kinds s_meant a0 r1 hz1) (cwV 1 hts (g0_19 _) rfl rfl rfl (by decide +kernel) ⟨(by show 1 + 1 ≤ 2 * (d + 1) + 5; omega), (by show 8 + (2 + 11) + (21) ≤ 51 * (d + 1) + 115; omega)⟩) hS hP hK hz0 [7, 9, 10] rfl (va_recv hK hP (ci := 8) (q0 := 7) rfl rfl) rfl rfl hl.1 (Nat.le_of_ble_eq_true rfl) dX0_misfit_5 ⟨Nat.zero_le _, Nat.zero_le _⟩ ?_
    refine lv_bipush (v := 11) hx hb dX0_misfit_8 (by decide) ?_
    have j25 : ∀ (x2 : Int32) (x3 : Int32) (y0 : Int32) (ls : Array Slot), lv_has ls 5 [(0, .ref obF), (2, .int x2), (3, .int x3)] → m_X0_misfit_25 (m_X0_misfit d) t_tape t_said t_inner t_next t_amount t_length s_plain s_kinds s_meant s_firsts s_nexts s_fieldNames s_amounts s_letterCount x2 x3 y0 = some res → W p l e (headSpec wsX0_misfit (rmX0_misfit (d + 1) 0 0)).room s m [.ref obF, .int a0, .int a1, .int a2].toArray below meth c s.heap [] 0 0 Q0 (F0 m 25 ls [.int y0]) := by
      intro x2 x3 y0 ls hl hm
      unfold m_X0_misfit_25 at hm
      refine lv_istore (lv' := [(4, .int y0), (0, .ref obF), (2, .int x2), (3, .int x3)]) hx hb dX0_misfit_25 hl (by decide) rfl (fun ls hl => ?_)
      refine lv_iload_n hx hb dX0_misfit_27 rfl (lv_at hl 3 rfl) ?_
      refine lv_bipush (v := 24) hx hb dX0_misfit_28 (by decide) ?_
      refine lv_icmp_gt (tgt := 43) hx hb dX0_misfit_30 (by decide) (fun c2 => ?_) (fun c2 => ?_)
      · have hm := mr_if c2 hm
        refine lv_iload_n hx hb dX0_misfit_43 rfl (lv_at hl 2 rfl) ?_
        obtain rfl := Option.some.inj hm
        subst hQ0
        exact W.iret (v := x2) hx hb hr (fun t ht hW => ⟨rfl, ht⟩) (fun q h => by cases h) dX0_misfit_44
      · have hm := mr_un c2 hm
        refine lv_aload_n hx hb dX0_misfit_33 rfl (lv_at hl 1 rfl) ?_
        refine lv_iload hx hb dX0_misfit_34 (lv_at hl 0 rfl) ?_
        refine lv_iload_n hx hb dX0_misfit_36 rfl (lv_at hl 2 rfl) ?_
        obtain ⟨r3, hz3, hm⟩ := mr_bind hm
        refine mr_pV (As := [.int y0, .int x2]) (rest := []) (sr_okZ adK adV) ⟨hx, hb, hml, hown, hts⟩ (kX0_isOfKind l htr dC dI adK adV cI cB cJ cZ cQ obF obT obS tq_tape tq_said tq_inner tq_next tq_amount obK sq_plain sq_kinds sq_meant sq_firsts sq_nexts sq_names sq_fieldNames sq_amounts sq_fieldDefaults sq_enumDefaults t_length t_wrongPlace s_letterCount s_slotCount t_tape t_said t_amount s_plain s_kinds s_meant s_firsts s_amounts y0 x2 r3 hz3) (cwV 2 hts (g0_32 _) rfl rfl rfl (by decide +kernel) ⟨(by show 4 + 1 ≤ 2 * (d + 1) + 5; omega), (by show 8 + (3 + 11) + (93) ≤ 51 * (d + 1) + 115; omega)⟩) hS hP hK hz0 [0, 1, 2, 3, 6, 7, 8, 9, 10, 11, 14] rfl (va_recv hK hP (ci := 4) (q0 := 0) rfl rfl) rfl rfl hl.1 (Nat.le_of_ble_eq_true rfl) dX0_misfit_37 ⟨Nat.zero_le _, Nat.zero_le _⟩ ?_
        refine lv_if_ne (tgt := 45) hx hb dX0_misfit_40 (by decide) (fun c4 => ?_) (fun c4 => ?_)
        · have hm := mr_un c4 hm
          refine lv_aload_n hx hb dX0_misfit_45 rfl (lv_at hl 1 rfl) ?_
          refine va_get (D := (dC, dI)) (ci := 4) (v := .ref obS) (C := RX0) (T := TX0) (N := 2) hx hb hts (inX0 _) hown hK hP 0 rfl rfl 1 (by decide) (hts _ (List.mem_cons_of_mem _ wf0_15)) (fun _ h9 => h9) rfl dX0_misfit_46 ?_
          refine lv_iload hx hb dX0_misfit_49 (lv_at hl 0 rfl) ?_
          obtain ⟨r5, hz5, hm⟩ := mr_bind hm
          refine mr_pV (As := [.int y0]) (rest := []) (sr_okZ adK adV) ⟨hx, hb, hml, hown, hts⟩ (kX6_kind l htr dC dI adK adV cI cB cJ cZ cQ obS sq_plain sq_kinds sq_meant sq_firsts sq_nexts sq_names sq_fieldNames sq_amounts sq_fieldDefaults sq_enumDefaults s_letterCount s_slotCount s_kinds s_meant y0 r5 hz5) (cwV 1 hts (g0_19 _) rfl rfl rfl (by decide +kernel) ⟨(by show 1 + 1 ≤ 2 * (d + 1) + 5; omega), (by show 8 + (2 + 11) + (21) ≤ 51 * (d + 1) + 115; omega)⟩) hS hP hK hz0 [7, 9, 10] rfl (va_recv hK hP (ci := 8) (q0 := 7) rfl rfl) rfl rfl hl.1 (Nat.le_of_ble_eq_true rfl) dX0_misfit_51 ⟨Nat.zero_le _, Nat.zero_le _⟩ ?_
          by_cases c6 : r5 = 6
          · have hm := mr_if c6 hm
            refine lv_tableIn (tgt := 88) hx hb dX0_misfit_54 (by rw [c6] <;> decide) (by rw [c6] <;> decide) (by rw [c6] <;> rfl) (by decide) ?_
            refine lv_aload_n hx hb dX0_misfit_88 rfl (lv_at hl 1 rfl) ?_
            refine lv_aload_n hx hb dX0_misfit_89 rfl (lv_at hl 1 rfl) ?_
            refine va_get (D := (dC, dI)) (ci := 4) (v := .ref obS) (C := RX0) (T := TX0) (N := 2) hx hb hts (inX0 _) hown hK hP 0 rfl rfl 1 (by decide) (hts _ (List.mem_cons_of_mem _ wf0_15)) (fun _ h9 => h9) rfl dX0_misfit_90 ?_
            refine lv_iload hx hb dX0_misfit_93 (lv_at hl 0 rfl) ?_
            obtain ⟨r7, hz7, hm⟩ := mr_bind hm
            refine mr_pV (As := [.int y0]) (rest := [.ref obF]) (sr_okZ adK adV) ⟨hx, hb, hml, hown, hts⟩ (kX6_first l htr dC dI adK adV cI cB cJ cZ cQ obS sq_plain sq_kinds sq_meant sq_firsts sq_nexts sq_names sq_fieldNames sq_amounts sq_fieldDefaults sq_enumDefaults s_letterCount s_slotCount s_meant s_firsts y0 r7 hz7) (cwV 1 hts (g0_27 _) rfl rfl rfl (by decide +kernel) ⟨(by show 1 + 1 ≤ 2 * (d + 1) + 5; omega), (by show 8 + (2 + 11) + (21) ≤ 51 * (d + 1) + 115; omega)⟩) hS hP hK hz0 [7, 10, 11] rfl (va_recv hK hP (ci := 8) (q0 := 7) rfl rfl) rfl rfl hl.1 (Nat.le_of_ble_eq_true rfl) dX0_misfit_95 ⟨Nat.zero_le _, Nat.zero_le _⟩ ?_
            refine lv_iload_n hx hb dX0_misfit_98 rfl (lv_at hl 2 rfl) ?_
            refine lv_iload_n hx hb dX0_misfit_99 rfl (lv_at hl 3 rfl) ?_
            obtain ⟨r8, hz8, hm⟩ := mr_bind hm
            refine mr_pV (As := [.int r7, .int x2, .int x3]) (rest := []) (sr_okZ adK adV) ⟨hx, hb, hml, hown, hts⟩ (kX0_misfitInList l htr dC dI adK adV cI cB cJ cZ cQ obF obT obS tq_tape tq_said tq_inner tq_next tq_amount obK sq_plain sq_kinds sq_meant sq_firsts sq_nexts sq_names sq_fieldNames sq_amounts sq_fieldDefaults sq_enumDefaults (m_X0_misfit d) d ihd t_length t_wrongPlace s_letterCount s_slotCount t_tape t_said t_inner t_next t_amount s_plain s_kinds s_meant s_firsts s_nexts s_fieldNames s_amounts r7 x2 x3 r8 hz8) (cwV 3 hts (g0_36 _) rfl rfl rfl (by decide +kernel) ⟨(by show 2 * d + 6 + 1 ≤ 2 * (d + 1) + 5; omega), (by show 8 + (7 + 11) + (51 * d + 139) ≤ 51 * (d + 1) + 115; omega)⟩) hS hP hK hz0 [0, 1, 2, 3, 4, 5, 6, 7, 8, 9, 10, 11, 12, 13, 14] rfl (va_recv hK hP (ci := 4) (q0 := 0) rfl rfl) rfl rfl hl.1 (Nat.le_of_ble_eq_true rfl) dX0_misfit_100 ⟨Nat.zero_le _, Nat.zero_le _⟩ ?_
            obtain rfl := Option.some.inj hm
            subst hQ0
            exact W.iret (v := r8) hx hb hr (fun t ht hW => ⟨rfl, ht⟩) (fun q h => by cases h) dX0_misfit_103
          have hm := mr_un c6 hm
          by_cases c9 : r5 = 7
          · have hm := mr_if c9 hm
            refine lv_tableIn (tgt := 104) hx hb dX0_misfit_54 (by rw [c9] <;> decide) (by rw [c9] <;> decide) (by rw [c9] <;> rfl) (by decide) ?_
            refine lv_aload_n hx hb dX0_misfit_104 rfl (lv_at hl 1 rfl) ?_
            refine lv_aload_n hx hb dX0_misfit_105 rfl (lv_at hl 1 rfl) ?_
            refine va_get (D := (dC, dI)) (ci := 4) (v := .ref obS) (C := RX0) (T := TX0) (N := 2) hx hb hts (inX0 _) hown hK hP 0 rfl rfl 1 (by decide) (hts _ (List.mem_cons_of_mem _ wf0_15)) (fun _ h9 => h9) rfl dX0_misfit_106 ?_
            refine lv_iload hx hb dX0_misfit_109 (lv_at hl 0 rfl) ?_
            obtain ⟨r10, hz10, hm⟩ := mr_bind hm
            refine mr_pV (As := [.int y0]) (rest := [.ref obF]) (sr_okZ adK adV) ⟨hx, hb, hml, hown, hts⟩ (kX6_first l htr dC dI adK adV cI cB cJ cZ cQ obS sq_plain sq_kinds sq_meant sq_firsts sq_nexts sq_names sq_fieldNames sq_amounts sq_fieldDefaults sq_enumDefaults s_letterCount s_slotCount s_meant s_firsts y0 r10 hz10) (cwV 1 hts (g0_27 _) rfl rfl rfl (by decide +kernel) ⟨(by show 1 + 1 ≤ 2 * (d + 1) + 5; omega), (by show 8 + (2 + 11) + (21) ≤ 51 * (d + 1) + 115; omega)⟩) hS hP hK hz0 [7, 10, 11] rfl (va_recv hK hP (ci := 8) (q0 := 7) rfl rfl) rfl rfl hl.1 (Nat.le_of_ble_eq_true rfl) dX0_misfit_111 ⟨Nat.zero_le _, Nat.zero_le _⟩ ?_
            refine lv_iload_n hx hb dX0_misfit_114 rfl (lv_at hl 2 rfl) ?_
            refine lv_iload_n hx hb dX0_misfit_115 rfl (lv_at hl 3 rfl) ?_
            obtain ⟨r11, hz11, hm⟩ := mr_bind hm
            refine mr_pV (As := [.int r10, .int x2, .int x3]) (rest := []) (sr_okZ adK adV) ⟨hx, hb, hml, hown, hts⟩ (kX0_misfitInMap l htr dC dI adK adV cI cB cJ cZ cQ obF obT obS tq_tape tq_said tq_inner tq_next tq_amount obK sq_plain sq_kinds sq_meant sq_firsts sq_nexts sq_names sq_fieldNames sq_amounts sq_fieldDefaults sq_enumDefaults (m_X0_misfit d) d ihd t_length t_wrongPlace s_letterCount s_slotCount t_tape t_said t_inner t_next t_amount s_plain s_kinds s_meant s_firsts s_nexts s_fieldNames s_amounts r10 x2 x3 r11 hz11) (cwV 3 hts (g0_40 _) rfl rfl rfl (by decide +kernel) ⟨(by show 2 * d + 6 + 1 ≤ 2 * (d + 1) + 5; omega), (by show 8 + (7 + 11) + (51 * d + 139) ≤ 51 * (d + 1) + 115; omega)⟩) hS hP hK hz0 [0, 1, 2, 3, 4, 5, 6, 7, 8, 9, 10, 11, 12, 13, 14] rfl (va_recv hK hP (ci := 4) (q0 := 0) rfl rfl) rfl rfl hl.1 (Nat.le_of_ble_eq_true rfl) dX0_misfit_116 ⟨Nat.zero_le _, Nat.zero_le _⟩ ?_
            obtain rfl := Option.some.inj hm
            subst hQ0
            exact W.iret (v := r11) hx hb hr (fun t ht hW => ⟨rfl, ht⟩) (fun q h => by cases h) dX0_misfit_119
          have hm := mr_un c9 hm
          by_cases c12 : r5 = 8
          · have hm := mr_if c12 hm
            refine lv_tableIn (tgt := 129) hx hb dX0_misfit_54 (by rw [c12] <;> decide) (by rw [c12] <;> decide) (by rw [c12] <;> rfl) (by decide) ?_
            refine lv_iconst (v := -1) hx hb dX0_misfit_129 (by decide) ?_
            obtain rfl := Option.some.inj hm
            subst hQ0
            exact W.iret (v := (-1)) hx hb hr (fun t ht hW => ⟨rfl, ht⟩) (fun q h => by cases h) dX0_misfit_130
          have hm := mr_un c12 hm
          by_cases c13 : r5 = 9
          · have hm := mr_if c13 hm
            refine lv_tableIn (tgt := 129) hx hb dX0_misfit_54 (by rw [c13] <;> decide) (by rw [c13] <;> decide) (by rw [c13] <;> rfl) (by decide) ?_
            refine lv_iconst (v := -1) hx hb dX0_misfit_129 (by decide) ?_
            obtain rfl := Option.some.inj hm
            subst hQ0
            exact W.iret (v := (-1)) hx hb hr (fun t ht hW => ⟨rfl, ht⟩) (fun q h => by cases h) dX0_misfit_130
          have hm := mr_un c13 hm
          by_cases c14 : r5 = 10
          · have hm := mr_if c14 hm
            refine lv_tableIn (tgt := 120) hx hb dX0_misfit_54 (by rw [c14] <;> decide) (by rw [c14] <;> decide) (by rw [c14] <;> rfl) (by decide) ?_
            refine lv_aload_n hx hb dX0_misfit_120 rfl (lv_at hl 1 rfl) ?_
            refine lv_iload hx hb dX0_misfit_121 (lv_at hl 0 rfl) ?_
            refine lv_iload_n hx hb dX0_misfit_123 rfl (lv_at hl 2 rfl) ?_
            refine lv_iload_n hx hb dX0_misfit_124 rfl (lv_at hl 3 rfl) ?_
            obtain ⟨r15, hz15, hm⟩ := mr_bind hm
            refine mr_pV (As := [.int y0, .int x2, .int x3]) (rest := []) (sr_okZ adK adV) ⟨hx, hb, hml, hown, hts⟩ (kX0_misfitInRecord l htr dC dI adK adV cI cB cJ cZ cQ obF obT obS tq_tape tq_said tq_inner tq_next tq_amount obK sq_plain sq_kinds sq_meant sq_firsts sq_nexts sq_names sq_fieldNames sq_amounts sq_fieldDefaults sq_enumDefaults (m_X0_misfit d) d ihd t_length t_wrongPlace s_letterCount s_slotCount t_tape t_said t_inner t_next t_amount s_plain s_kinds s_meant s_firsts s_nexts s_fieldNames s_amounts y0 x2 x3 r15 hz15) (cwV 3 hts (g0_43 _) rfl rfl rfl (by decide +kernel) ⟨(by show 2 * d + 6 + 1 ≤ 2 * (d + 1) + 5; omega), (by show 8 + (8 + 11) + (51 * d + 139) ≤ 51 * (d + 1) + 115; omega)⟩) hS hP hK hz0 [0, 1, 2, 3, 4, 5, 6, 7, 8, 9, 10, 11, 12, 13, 14] rfl (va_recv hK hP (ci := 4) (q0 := 0) rfl rfl) rfl rfl hl.1 (Nat.le_of_ble_eq_true rfl) dX0_misfit_125 ⟨Nat.zero_le _, Nat.zero_le _⟩ ?_
            obtain rfl := Option.some.inj hm
            subst hQ0
            exact W.iret (v := r15) hx hb hr (fun t ht hW => ⟨rfl, ht⟩) (fun q h => by cases h) dX0_misfit_128
          have hm := mr_un c14 hm
          refine lv_tableOut (tgt := 129) hx hb dX0_misfit_54 (by have q0 := mr_ne c6 (K := 6) (by decide); have q1 := mr_ne c9 (K := 7) (by decide); have q2 := mr_ne c12 (K := 8) (by decide); have q3 := mr_ne c13 (K := 9) (by decide); have q4 := mr_ne c14 (K := 10) (by decide); omega) (by decide) ?_
          refine lv_iconst (v := -1) hx hb dX0_misfit_129 (by decide) ?_
          obtain rfl := Option.some.inj hm
          subst hQ0
          exact W.iret (v := (-1)) hx hb hr (fun t ht hW => ⟨rfl, ht⟩) (fun q h => by cases h) dX0_misfit_130
        · have hm := mr_if c4 hm
          refine lv_iload_n hx hb dX0_misfit_43 rfl (lv_at hl 2 rfl) ?_
          obtain rfl := Option.some.inj hm
          subst hQ0
          exact W.iret (v := x2) hx hb hr (fun t ht hW => ⟨rfl, ht⟩) (fun q h => by cases h) dX0_misfit_44
    refine lv_icmp_ne (tgt := 24) hx hb dX0_misfit_10 (by decide) (fun c16 => ?_) (fun c16 => ?_)
    · have hm := mr_un c16 hm
      refine lv_iload_n hx hb dX0_misfit_24 rfl (lv_at hl 1 rfl) ?_
      exact j25 a1 a2 a0 ls (lv_sub hl [0, 2, 3] rfl) hm
    · have hm := mr_if c16 hm
      refine lv_aload_n hx hb dX0_misfit_13 rfl (lv_at hl 0 rfl) ?_
      refine va_get (D := (dC, dI)) (ci := 4) (v := .ref obS) (C := RX0) (T := TX0) (N := 2) hx hb hts (inX0 _) hown hK hP 0 rfl rfl 1 (by decide) (hts _ (List.mem_cons_of_mem _ wf0_15)) (fun _ h9 => h9) rfl dX0_misfit_14 ?_
      refine lv_iload_n hx hb dX0_misfit_17 rfl (lv_at hl 1 rfl) ?_
      obtain ⟨r17, hz17, hm⟩ := mr_bind hm
      refine mr_pV (As := [.int a0]) (rest := []) (sr_okZ adK adV) ⟨hx, hb, hml, hown, hts⟩ (kX6_first l htr dC dI adK adV cI cB cJ cZ cQ obS sq_plain sq_kinds sq_meant sq_firsts sq_nexts sq_names sq_fieldNames sq_amounts sq_fieldDefaults sq_enumDefaults s_letterCount s_slotCount s_meant s_firsts a0 r17 hz17) (cwV 1 hts (g0_27 _) rfl rfl rfl (by decide +kernel) ⟨(by show 1 + 1 ≤ 2 * (d + 1) + 5; omega), (by show 8 + (2 + 11) + (21) ≤ 51 * (d + 1) + 115; omega)⟩) hS hP hK hz0 [7, 10, 11] rfl (va_recv hK hP (ci := 8) (q0 := 7) rfl rfl) rfl rfl hl.1 (Nat.le_of_ble_eq_true rfl) dX0_misfit_18 ⟨Nat.zero_le _, Nat.zero_le _⟩ ?_
      refine lv_goto (tgt := 25) hx hb dX0_misfit_21 (by decide) ?_
      exact j25 a1 a2 r17 ls (lv_sub hl [0, 2, 3] rfl) hm
