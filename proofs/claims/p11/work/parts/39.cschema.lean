section
set_option maxHeartbeats 4000000 in
set_option maxRecDepth 100000 in
theorem kX3_isNamed (l : Launch) (htr : l.stackTraces = false) (dC : Nat → ClassId) (dI : Nat → Nat → Nat) (adK adV : Nat → Nat) (cI cB cJ cZ cQ : ClassId) (a0 : Int32) (res : Int32) (hm : m_X3_isNamed a0 = some res) : Met l yX3_isNamed wsX3_isNamed (rmX3_isNamed 0 0) (pcR (sr_Z adK adV) (dC, dI) srCl [(cI, .int), (cB, .byte), (cJ, .long), (cZ, .boolean), (cQ, .object "SchemaReader$Schema")] [.int a0] []) (k2_QcV (.int res)) 0 0 (fun _ => False) := by
  refine Met.ofW (cc := cX3_isNamed) (maxL := 1) (ret := (some .boolean)) (by decide) rfl ?_
  intro p e s m args below meth c s₁ B hml hv
  obtain ⟨rfl, hP, hK, hz0⟩ := hv
  have hx := B.exec
  have hb := B.bytes
  have hr := B.returns
  have hts := atoms_spec (ws := wsX3_isNamed) B.pre
  have hown : s.vm.findClass RX3 = some m.cls := findClass_of_methodNamed B.named
  have hlocks := B.notSynchronized
  have hS : va_S (fun _ => False) s.heap s.heap [] := va_S.rf
  generalize hQ0 : MQ below (k2_QcV (.int res)) [.int a0].toArray s 0 0 (fun _ => False) = Q0
  have hl := lv_entry [.int a0] (n := 1) (Nat.le_of_ble_eq_true rfl)
  rw [lg_entry_eq]
  generalize (lg_sl [.int a0] ++ List.replicate (1 - (lg_sl [.int a0]).length) Slot.unset).toArray = ls at hl ⊢
  have hl : lv_has ls 1 [(0, .int a0)] := hl
  unfold m_X3_isNamed at hm
  refine lv_iload_n hx hb dX3_isNamed_0 rfl (lv_at hl 0 rfl) ?_
  refine lv_bipush (v := 8) hx hb dX3_isNamed_1 (by decide) ?_
  refine lv_icmp_eq (tgt := 18) hx hb dX3_isNamed_3 (by decide) (fun c1 => ?_) (fun c1 => ?_)
  · have hm := mr_if c1 hm
    refine lv_iconst (v := 1) hx hb dX3_isNamed_18 (by decide) ?_
    refine lv_goto (tgt := 23) hx hb dX3_isNamed_19 (by decide) ?_
    obtain rfl := Option.some.inj hm
    subst hQ0
    exact W.zret (v := 1) hx hb hr rfl (fun t ht hW => ⟨rfl, ht⟩) (fun q h => by cases h) dX3_isNamed_23
  · have hm := mr_un c1 hm
    refine lv_iload_n hx hb dX3_isNamed_6 rfl (lv_at hl 0 rfl) ?_
    refine lv_bipush (v := 9) hx hb dX3_isNamed_7 (by decide) ?_
    refine lv_icmp_eq (tgt := 18) hx hb dX3_isNamed_9 (by decide) (fun c2 => ?_) (fun c2 => ?_)
    · have hm := mr_if c2 hm
      refine lv_iconst (v := 1) hx hb dX3_isNamed_18 (by decide) ?_
      refine lv_goto (tgt := 23) hx hb dX3_isNamed_19 (by decide) ?_
      obtain rfl := Option.some.inj hm
      subst hQ0
      exact W.zret (v := 1) hx hb hr rfl (fun t ht hW => ⟨rfl, ht⟩) (fun q h => by cases h) dX3_isNamed_23
    · have hm := mr_un c2 hm
      refine lv_iload_n hx hb dX3_isNamed_12 rfl (lv_at hl 0 rfl) ?_
      refine lv_bipush (v := 10) hx hb dX3_isNamed_13 (by decide) ?_
      refine lv_icmp_ne (tgt := 22) hx hb dX3_isNamed_15 (by decide) (fun c3 => ?_) (fun c3 => ?_)
      · have hm := mr_un c3 hm
        refine lv_iconst (v := 0) hx hb dX3_isNamed_22 (by decide) ?_
        obtain rfl := Option.some.inj hm
        subst hQ0
        exact W.zret (v := 0) hx hb hr rfl (fun t ht hW => ⟨rfl, ht⟩) (fun q h => by cases h) dX3_isNamed_23
      · have hm := mr_if c3 hm
        refine lv_iconst (v := 1) hx hb dX3_isNamed_18 (by decide) ?_
        refine lv_goto (tgt := 23) hx hb dX3_isNamed_19 (by decide) ?_
        obtain rfl := Option.some.inj hm
        subst hQ0
        exact W.zret (v := 1) hx hb hr rfl (fun t ht hW => ⟨rfl, ht⟩) (fun q h => by cases h) dX3_isNamed_23
set_option maxHeartbeats 4000000 in
set_option maxRecDepth 100000 in
theorem kX3_word (l : Launch) (htr : l.stackTraces = false) (dC : Nat → ClassId) (dI : Nat → Nat → Nat) (adK adV : Nat → Nat) (cI cB cJ cZ cQ : ClassId) (a0 : Int32) (res : Nat) (hm : m_X3_word a0 = some res) : Met l yX3_word wsX3_word (rmX3_word 0 0) (pcR (sr_Z adK adV) (dC, dI) srCl [(cI, .int), (cB, .byte), (cJ, .long), (cZ, .boolean), (cQ, .object "SchemaReader$Schema")] [.int a0] []) (k2_QcV (.ref (adK res))) 0 0 (fun _ => False) := by
  refine Met.ofW (cc := cX3_word) (maxL := 1) (ret := (some (.object "java/lang/String"))) (by decide) rfl ?_
  intro p e s m args below meth c s₁ B hml hv
  obtain ⟨rfl, hP, hK, hz0⟩ := hv
  have hx := B.exec
  have hb := B.bytes
  have hr := B.returns
  have hts := atoms_spec (ws := wsX3_word) B.pre
  have hown : s.vm.findClass RX3 = some m.cls := findClass_of_methodNamed B.named
  have hlocks := B.notSynchronized
  have hS : va_S (fun _ => False) s.heap s.heap [] := va_S.rf
  generalize hQ0 : MQ below (k2_QcV (.ref (adK res))) [.int a0].toArray s 0 0 (fun _ => False) = Q0
  have hl := lv_entry [.int a0] (n := 1) (Nat.le_of_ble_eq_true rfl)
  rw [lg_entry_eq]
  generalize (lg_sl [.int a0] ++ List.replicate (1 - (lg_sl [.int a0]).length) Slot.unset).toArray = ls at hl ⊢
  have hl : lv_has ls 1 [(0, .int a0)] := hl
  unfold m_X3_word at hm
  refine lv_iload_n hx hb dX3_word_0 rfl (lv_at hl 0 rfl) ?_
  by_cases c1 : a0 = 0
  · have hm := mr_if c1 hm
    refine lv_tableIn (tgt := 60) hx hb dX3_word_1 (by rw [c1] <;> decide) (by rw [c1] <;> decide) (by rw [c1] <;> rfl) (by decide) ?_
    refine va_ldcS hx hb hown (hz0.1 3 (by decide)).2 dX3_word_60 ?_
    obtain rfl := Option.some.inj hm
    subst hQ0
    exact W.aret (v := .ref (adK 3)) hx hb hr (Or.inl ⟨_, rfl⟩) (Or.inr ⟨_, rfl⟩) (fun t ht hW => ⟨rfl, ht⟩) (fun q h => by cases h) dX3_word_62
  have hm := mr_un c1 hm
  by_cases c2 : a0 = 1
  · have hm := mr_if c2 hm
    refine lv_tableIn (tgt := 63) hx hb dX3_word_1 (by rw [c2] <;> decide) (by rw [c2] <;> decide) (by rw [c2] <;> rfl) (by decide) ?_
    refine va_ldcS hx hb hown (hz0.1 4 (by decide)).2 dX3_word_63 ?_
    obtain rfl := Option.some.inj hm
    subst hQ0
    exact W.aret (v := .ref (adK 4)) hx hb hr (Or.inl ⟨_, rfl⟩) (Or.inr ⟨_, rfl⟩) (fun t ht hW => ⟨rfl, ht⟩) (fun q h => by cases h) dX3_word_65
  have hm := mr_un c2 hm
  by_cases c3 : a0 = 2
  · have hm := mr_if c3 hm
    refine lv_tableIn (tgt := 66) hx hb dX3_word_1 (by rw [c3] <;> decide) (by rw [c3] <;> decide) (by rw [c3] <;> rfl) (by decide) ?_
    refine va_ldcS hx hb hown (hz0.1 5 (by decide)).2 dX3_word_66 ?_
    obtain rfl := Option.some.inj hm
    subst hQ0
    exact W.aret (v := .ref (adK 5)) hx hb hr (Or.inl ⟨_, rfl⟩) (Or.inr ⟨_, rfl⟩) (fun t ht hW => ⟨rfl, ht⟩) (fun q h => by cases h) dX3_word_68
  have hm := mr_un c3 hm
  by_cases c4 : a0 = 3
  · have hm := mr_if c4 hm
    refine lv_tableIn (tgt := 69) hx hb dX3_word_1 (by rw [c4] <;> decide) (by rw [c4] <;> decide) (by rw [c4] <;> rfl) (by decide) ?_
    refine va_ldcS hx hb hown (hz0.1 6 (by decide)).2 dX3_word_69 ?_
    obtain rfl := Option.some.inj hm
    subst hQ0
    exact W.aret (v := .ref (adK 6)) hx hb hr (Or.inl ⟨_, rfl⟩) (Or.inr ⟨_, rfl⟩) (fun t ht hW => ⟨rfl, ht⟩) (fun q h => by cases h) dX3_word_71
  have hm := mr_un c4 hm
  by_cases c5 : a0 = 4
  · have hm := mr_if c5 hm
    refine lv_tableIn (tgt := 72) hx hb dX3_word_1 (by rw [c5] <;> decide) (by rw [c5] <;> decide) (by rw [c5] <;> rfl) (by decide) ?_
    refine va_ldcS hx hb hown (hz0.1 7 (by decide)).2 dX3_word_72 ?_
    obtain rfl := Option.some.inj hm
    subst hQ0
    exact W.aret (v := .ref (adK 7)) hx hb hr (Or.inl ⟨_, rfl⟩) (Or.inr ⟨_, rfl⟩) (fun t ht hW => ⟨rfl, ht⟩) (fun q h => by cases h) dX3_word_74
  have hm := mr_un c5 hm
  by_cases c6 : a0 = 5
  · have hm := mr_if c6 hm
    refine lv_tableIn (tgt := 75) hx hb dX3_word_1 (by rw [c6] <;> decide) (by rw [c6] <;> decide) (by rw [c6] <;> rfl) (by decide) ?_
    refine va_ldcS hx hb hown (hz0.1 8 (by decide)).2 dX3_word_75 ?_
    obtain rfl := Option.some.inj hm
    subst hQ0
    exact W.aret (v := .ref (adK 8)) hx hb hr (Or.inl ⟨_, rfl⟩) (Or.inr ⟨_, rfl⟩) (fun t ht hW => ⟨rfl, ht⟩) (fun q h => by cases h) dX3_word_77
  have hm := mr_un c6 hm
  by_cases c7 : a0 = 6
  · have hm := mr_if c7 hm
    refine lv_tableIn (tgt := 78) hx hb dX3_word_1 (by rw [c7] <;> decide) (by rw [c7] <;> decide) (by rw [c7] <;> rfl) (by decide) ?_
    refine va_ldcS hx hb hown (hz0.1 9 (by decide)).2 dX3_word_78 ?_
    obtain rfl := Option.some.inj hm
    subst hQ0
    exact W.aret (v := .ref (adK 9)) hx hb hr (Or.inl ⟨_, rfl⟩) (Or.inr ⟨_, rfl⟩) (fun t ht hW => ⟨rfl, ht⟩) (fun q h => by cases h) dX3_word_80
  have hm := mr_un c7 hm
  by_cases c8 : a0 = 7
  · have hm := mr_if c8 hm
    refine lv_tableIn (tgt := 81) hx hb dX3_word_1 (by rw [c8] <;> decide) (by rw [c8] <;> decide) (by rw [c8] <;> rfl) (by decide) ?_
    refine va_ldcS hx hb hown (hz0.1 10 (by decide)).2 dX3_word_81 ?_
    obtain rfl := Option.some.inj hm
    subst hQ0
    exact W.aret (v := .ref (adK 10)) hx hb hr (Or.inl ⟨_, rfl⟩) (Or.inr ⟨_, rfl⟩) (fun t ht hW => ⟨rfl, ht⟩) (fun q h => by cases h) dX3_word_83
  have hm := mr_un c8 hm
  by_cases c9 : a0 = 8
  · have hm := mr_if c9 hm
    refine lv_tableIn (tgt := 84) hx hb dX3_word_1 (by rw [c9] <;> decide) (by rw [c9] <;> decide) (by rw [c9] <;> rfl) (by decide) ?_
    refine va_ldcS hx hb hown (hz0.1 11 (by decide)).2 dX3_word_84 ?_
    obtain rfl := Option.some.inj hm
    subst hQ0
    exact W.aret (v := .ref (adK 11)) hx hb hr (Or.inl ⟨_, rfl⟩) (Or.inr ⟨_, rfl⟩) (fun t ht hW => ⟨rfl, ht⟩) (fun q h => by cases h) dX3_word_86
  have hm := mr_un c9 hm
  by_cases c10 : a0 = 9
  · have hm := mr_if c10 hm
    refine lv_tableIn (tgt := 87) hx hb dX3_word_1 (by rw [c10] <;> decide) (by rw [c10] <;> decide) (by rw [c10] <;> rfl) (by decide) ?_
    refine va_ldcS hx hb hown (hz0.1 12 (by decide)).2 dX3_word_87 ?_
    obtain rfl := Option.some.inj hm
    subst hQ0
    exact W.aret (v := .ref (adK 12)) hx hb hr (Or.inl ⟨_, rfl⟩) (Or.inr ⟨_, rfl⟩) (fun t ht hW => ⟨rfl, ht⟩) (fun q h => by cases h) dX3_word_89
  have hm := mr_un c10 hm
  by_cases c11 : a0 = 10
  · have hm := mr_if c11 hm
    refine lv_tableIn (tgt := 90) hx hb dX3_word_1 (by rw [c11] <;> decide) (by rw [c11] <;> decide) (by rw [c11] <;> rfl) (by decide) ?_
    refine va_ldcS hx hb hown (hz0.1 13 (by decide)).2 dX3_word_90 ?_
    obtain rfl := Option.some.inj hm
    subst hQ0
    exact W.aret (v := .ref (adK 13)) hx hb hr (Or.inl ⟨_, rfl⟩) (Or.inr ⟨_, rfl⟩) (fun t ht hW => ⟨rfl, ht⟩) (fun q h => by cases h) dX3_word_92
  have hm := mr_un c11 hm
  refine lv_tableOut (tgt := 93) hx hb dX3_word_1 (by have q0 := mr_ne c1 (K := 0) (by decide); have q1 := mr_ne c2 (K := 1) (by decide); have q2 := mr_ne c3 (K := 2) (by decide); have q3 := mr_ne c4 (K := 3) (by decide); have q4 := mr_ne c5 (K := 4) (by decide); have q5 := mr_ne c6 (K := 5) (by decide); have q6 := mr_ne c7 (K := 6) (by decide); have q7 := mr_ne c8 (K := 7) (by decide); have q8 := mr_ne c9 (K := 8) (by decide); have q9 := mr_ne c10 (K := 9) (by decide); have q10 := mr_ne c11 (K := 10) (by decide); omega) (by decide) ?_
  refine va_ldcS hx hb hown (hz0.1 14 (by decide)).2 dX3_word_93 ?_
  obtain rfl := Option.some.inj hm
  subst hQ0
  exact W.aret (v := .ref (adK 14)) hx hb hr (Or.inl ⟨_, rfl⟩) (Or.inr ⟨_, rfl⟩) (fun t ht hW => ⟨rfl, ht⟩) (fun q h => by cases h) dX3_word_95
set_option maxHeartbeats 4000000 in
set_option maxRecDepth 100000 in
theorem kX3_said (l : Launch) (htr : l.stackTraces = false) (dC : Nat → ClassId) (dI : Nat → Nat → Nat) (adK adV : Nat → Nat) (cI cB cJ cZ cQ : ClassId) (obT tq_tape tq_said tq_inner tq_next tq_amount obK : Nat) (t_length : Int32) (t_wrongPlace : Int32) (t_tape : Nat → Int32) (t_said : Nat → Int32) (t_amount : Nat → Int32) (a1 : Int32) (res : Int32) (hm : m_X3_said t_tape t_said t_amount t_length a1 = some res) : Met l yX3_said wsX3_said (rmX3_said 0 0) (pcR (sr_Z adK adV) (dC, dI) srCl [(cI, .int), (cB, .byte), (cJ, .long), (cZ, .boolean), (cQ, .object "SchemaReader$Schema")] [.ref obT, .int a1] [(obT, .inr (9, [.ref tq_tape, .ref tq_said, .ref tq_inner, .ref tq_next, .ref tq_amount, .ref obK, .int t_length, .int t_wrongPlace])), (tq_tape, .inl (cB, 4096, .inl t_tape)), (tq_said, .inl (cB, 4096, .inl t_said)), (tq_amount, .inl (cI, 4096, .inl t_amount))]) (k2_QcV (.int res)) 0 0 (fun _ => False) := by
  refine Met.ofW (cc := cX3_said) (maxL := 3) (ret := (some .int)) (by decide) rfl ?_
  intro p e s m args below meth c s₁ B hml hv
  obtain ⟨rfl, hP, hK, hz0⟩ := hv
  have hx := B.exec
  have hb := B.bytes
  have hr := B.returns
  have hts := atoms_spec (ws := wsX3_said) B.pre
  have hown : s.vm.findClass RX3 = some m.cls := findClass_of_methodNamed B.named
  have hlocks := B.notSynchronized
  have hS : va_S (fun _ => False) s.heap s.heap [] := va_S.rf
  generalize hQ0 : MQ below (k2_QcV (.int res)) [.ref obT, .int a1].toArray s 0 0 (fun _ => False) = Q0
  have hl := lv_entry [.ref obT, .int a1] (n := 3) (Nat.le_of_ble_eq_true rfl)
  rw [lg_entry_eq]
  generalize (lg_sl [.ref obT, .int a1] ++ List.replicate (3 - (lg_sl [.ref obT, .int a1]).length) Slot.unset).toArray = ls at hl ⊢
  have hl : lv_has ls 3 [(0, .ref obT), (1, .int a1)] := hl
  unfold m_X3_said at hm
  refine lv_iconst (v := 0) hx hb dX3_said_0 (by decide) ?_
  have j2 : ∀ (n2 : Nat) (x1 : Int32) (x2 : Int32) (ls : Array Slot), lv_has ls 3 [(0, .ref obT), (1, .int x1), (2, .int x2)] → m_X3_said_2 t_tape t_said t_amount t_length n2 x1 x2 = some res → W p l e (headSpec wsX3_said (rmX3_said 0 0)).room s m [.ref obT, .int a1].toArray below meth c s.heap [] 0 0 Q0 (F0 m 2 ls []) := by
    intro n2
    induction n2 with
    | zero => intro x1 x2 ls hl hm; exact nomatch (show (none : Option _) = some res from hm)
    | succ n2 ih2 =>
      intro x1 x2 ls hl hm
      rw [m_X3_said_2] at hm
      refine lv_iload_n hx hb dX3_said_2 rfl (lv_at hl 2 rfl) ?_
      refine lv_bipush (v := 10) hx hb dX3_said_3 (by decide) ?_
      refine lv_icmp_gt (tgt := 28) hx hb dX3_said_5 (by decide) (fun c1 => ?_) (fun c1 => ?_)
      · have hm := mr_if c1 hm
        refine lv_iconst (v := -1) hx hb dX3_said_28 (by decide) ?_
        obtain rfl := Option.some.inj hm
        subst hQ0
        exact W.iret (v := (-1)) hx hb hr (fun t ht hW => ⟨rfl, ht⟩) (fun q h => by cases h) dX3_said_29
      · have hm := mr_un c1 hm
        refine lv_aload_n hx hb dX3_said_8 rfl (lv_at hl 0 rfl) ?_
        refine lv_iload_n hx hb dX3_said_9 rfl (lv_at hl 1 rfl) ?_
        refine lv_iload_n hx hb dX3_said_10 rfl (lv_at hl 2 rfl) ?_
        obtain ⟨r2, hz2, hm⟩ := mr_bind hm
        refine mr_pS (As := [.int x2]) (rest := [.int x1, .ref obT]) (sr_okZ adK adV) ⟨hx, hb, hml, hown, hts⟩ (kX3_word l htr dC dI adK adV cI cB cJ cZ cQ  x2 r2 hz2) (va_cwS 1 hts (g3_35 _) rfl rfl rfl (by decide +kernel) ⟨(by show 0 + 1 ≤ 5; omega), (by show 8 + (1 + 11) + (0) ≤ 108; omega)⟩) hS hP hK hz0 [] rfl rfl rfl hl.1 (Nat.le_of_ble_eq_true rfl) dX3_said_11 ⟨Nat.zero_le _, Nat.zero_le _⟩ ?_
        obtain ⟨r3, hz3, hm⟩ := mr_bind hm
        refine mr_pV (As := [.int x1, .ref (adK r2)]) (rest := []) (sr_okZ adK adV) ⟨hx, hb, hml, hown, hts⟩ (kX7_says l htr dC dI adK adV cI cB cJ cZ cQ obT tq_tape tq_said tq_inner tq_next tq_amount obK t_length t_wrongPlace t_tape t_said t_amount x1 r2 r3 hz3) (cwV 2 hts (g3_39 _) rfl rfl rfl (by decide +kernel) ⟨(by show 4 + 1 ≤ 5; omega), (by show 8 + (4 + 11) + (85) ≤ 108; omega)⟩) hS hP hK hz0 [0, 1, 2, 3] rfl (va_recv hK hP (ci := 9) (q0 := 0) rfl rfl) rfl rfl hl.1 (Nat.le_of_ble_eq_true rfl) dX3_said_14 ⟨Nat.zero_le _, Nat.zero_le _⟩ ?_
        refine lv_if_eq (tgt := 22) hx hb dX3_said_17 (by decide) (fun c4 => ?_) (fun c4 => ?_)
        · have hm := mr_if c4 hm
          refine lv_iinc (v := x2 + 1) (lv' := [(2, .int (x2 + 1)), (0, .ref obT), (1, .int x1)]) hx hb dX3_said_22 hl (k := 2) rfl rfl (by decide) rfl (fun ls hl => ?_)
          refine lv_goto (tgt := 2) hx hb dX3_said_25 (by decide) ?_
          exact ih2 x1 (x2 + 1) ls (lv_sub hl [1, 2, 0] rfl) hm
        · have hm := mr_un c4 hm
          refine lv_iload_n hx hb dX3_said_20 rfl (lv_at hl 2 rfl) ?_
          obtain rfl := Option.some.inj hm
          subst hQ0
          exact W.iret (v := x2) hx hb hr (fun t ht hW => ⟨rfl, ht⟩) (fun q h => by cases h) dX3_said_21
  refine lv_istore_n (lv' := [(2, .int 0), (0, .ref obT), (1, .int a1)]) hx hb dX3_said_1 rfl hl (by decide) rfl (fun ls hl => ?_)
  exact j2 sr_fuel a1 0 ls (lv_sub hl [1, 2, 0] rfl) hm
set_option maxHeartbeats 4000000 in
set_option maxRecDepth 100000 in
theorem kX6_isSlot (l : Launch) (htr : l.stackTraces = false) (dC : Nat → ClassId) (dI : Nat → Nat → Nat) (adK adV : Nat → Nat) (cI cB cJ cZ cQ : ClassId) (a0 : Int32) (res : Int32) (hm : m_X6_isSlot a0 = some res) : Met l yX6_isSlot wsX6_isSlot (rmX6_isSlot 0 0) (pcR (sr_Z adK adV) (dC, dI) srCl [(cI, .int), (cB, .byte), (cJ, .long), (cZ, .boolean), (cQ, .object "SchemaReader$Schema")] [.int a0] []) (k2_QcV (.int res)) 0 0 (fun _ => False) := by
  refine Met.ofW (cc := cX6_isSlot) (maxL := 1) (ret := (some .boolean)) (by decide) rfl ?_
  intro p e s m args below meth c s₁ B hml hv
  obtain ⟨rfl, hP, hK, hz0⟩ := hv
  have hx := B.exec
  have hb := B.bytes
  have hr := B.returns
  have hts := atoms_spec (ws := wsX6_isSlot) B.pre
  have hown : s.vm.findClass RX6 = some m.cls := findClass_of_methodNamed B.named
  have hlocks := B.notSynchronized
  have hS : va_S (fun _ => False) s.heap s.heap [] := va_S.rf
  generalize hQ0 : MQ below (k2_QcV (.int res)) [.int a0].toArray s 0 0 (fun _ => False) = Q0
  have hl := lv_entry [.int a0] (n := 1) (Nat.le_of_ble_eq_true rfl)
  rw [lg_entry_eq]
  generalize (lg_sl [.int a0] ++ List.replicate (1 - (lg_sl [.int a0]).length) Slot.unset).toArray = ls at hl ⊢
  have hl : lv_has ls 1 [(0, .int a0)] := hl
  unfold m_X6_isSlot at hm
  refine lv_iload_n hx hb dX6_isSlot_0 rfl (lv_at hl 0 rfl) ?_
  refine lv_if_lt (tgt := 15) hx hb dX6_isSlot_1 (by decide) (fun c1 => ?_) (fun c1 => ?_)
  · have hm := mr_if c1 hm
    refine lv_iconst (v := 0) hx hb dX6_isSlot_15 (by decide) ?_
    obtain rfl := Option.some.inj hm
    subst hQ0
    exact W.zret (v := 0) hx hb hr rfl (fun t ht hW => ⟨rfl, ht⟩) (fun q h => by cases h) dX6_isSlot_16
  · have hm := mr_un c1 hm
    refine lv_iload_n hx hb dX6_isSlot_4 rfl (lv_at hl 0 rfl) ?_
    refine lv_sipush (v := 128) hx hb dX6_isSlot_5 (by decide) ?_
    refine lv_icmp_ge (tgt := 15) hx hb dX6_isSlot_8 (by decide) (fun c2 => ?_) (fun c2 => ?_)
    · have hm := mr_if c2 hm
      refine lv_iconst (v := 0) hx hb dX6_isSlot_15 (by decide) ?_
      obtain rfl := Option.some.inj hm
      subst hQ0
      exact W.zret (v := 0) hx hb hr rfl (fun t ht hW => ⟨rfl, ht⟩) (fun q h => by cases h) dX6_isSlot_16
    · have hm := mr_un c2 hm
      refine lv_iconst (v := 1) hx hb dX6_isSlot_11 (by decide) ?_
      refine lv_goto (tgt := 16) hx hb dX6_isSlot_12 (by decide) ?_
      obtain rfl := Option.some.inj hm
      subst hQ0
      exact W.zret (v := 1) hx hb hr rfl (fun t ht hW => ⟨rfl, ht⟩) (fun q h => by cases h) dX6_isSlot_16
set_option maxHeartbeats 4000000 in
set_option maxRecDepth 100000 in
theorem kX6_clear (l : Launch) (htr : l.stackTraces = false) (dC : Nat → ClassId) (dI : Nat → Nat → Nat) (adK adV : Nat → Nat) (cI cB cJ cZ cQ : ClassId) (obS sq_plain sq_kinds sq_meant sq_firsts sq_nexts sq_names sq_fieldNames sq_amounts sq_fieldDefaults sq_enumDefaults : Nat) (s_letterCount : Int32) (s_slotCount : Int32) (sz : Nat) (res : Int32 × Int32) (hm : m_X6_clear s_letterCount s_slotCount = some res) : Met l yX6_clear wsX6_clear (rmX6_clear 0 0) (pcW (sr_Z adK adV) (dC, dI) srCl [(cI, .int), (cB, .byte), (cJ, .long), (cZ, .boolean), (cQ, .object "SchemaReader$Schema")] [.ref obS] [(obS, .inr (8, [.ref sq_plain, .ref sq_kinds, .ref sq_meant, .ref sq_firsts, .ref sq_nexts, .ref sq_names, .ref sq_fieldNames, .ref sq_amounts, .ref sq_fieldDefaults, .ref sq_enumDefaults, .int s_letterCount, .int s_slotCount]))] sz) (va_Qv (fun u' => u' = res) (pcB (dC, dI) srCl [(cI, .int), (cB, .byte), (cJ, .long), (cZ, .boolean), (cQ, .object "SchemaReader$Schema")] (fun u : Int32 × Int32 => [(obS, .inr (8, [.ref sq_plain, .ref sq_kinds, .ref sq_meant, .ref sq_firsts, .ref sq_nexts, .ref sq_names, .ref sq_fieldNames, .ref sq_amounts, .ref sq_fieldDefaults, .ref sq_enumDefaults, .int u.1, .int u.2]))]) (va_A [(obS, .inr (8, [.ref sq_plain, .ref sq_kinds, .ref sq_meant, .ref sq_firsts, .ref sq_nexts, .ref sq_names, .ref sq_fieldNames, .ref sq_amounts, .ref sq_fieldDefaults, .ref sq_enumDefaults, .int s_letterCount, .int s_slotCount]))] sz)) (va_A [(obS, .inr (8, [.ref sq_plain, .ref sq_kinds, .ref sq_meant, .ref sq_firsts, .ref sq_nexts, .ref sq_names, .ref sq_fieldNames, .ref sq_amounts, .ref sq_fieldDefaults, .ref sq_enumDefaults, .int s_letterCount, .int s_slotCount]))] sz)) 0 0 (va_A [(obS, .inr (8, [.ref sq_plain, .ref sq_kinds, .ref sq_meant, .ref sq_firsts, .ref sq_nexts, .ref sq_names, .ref sq_fieldNames, .ref sq_amounts, .ref sq_fieldDefaults, .ref sq_enumDefaults, .int s_letterCount, .int s_slotCount]))] sz) := by
  refine Met.ofW (cc := cX6_clear) (maxL := 1) (ret := none) (by decide) rfl ?_
  intro p e s m args below meth c s₁ B hml hv
  obtain ⟨rfl, hsz, hP, hK, hD0, hz0⟩ := hv
  have hx := B.exec
  have hb := B.bytes
  have hr := B.returns
  have hts := atoms_spec (ws := wsX6_clear) B.pre
  have hown : s.vm.findClass RX6 = some m.cls := findClass_of_methodNamed B.named
  have hlocks := B.notSynchronized
  subst hsz
  have hD := hD0.self (sz := s.heap.size)
  generalize hAe : va_A [(obS, .inr (8, [.ref sq_plain, .ref sq_kinds, .ref sq_meant, .ref sq_firsts, .ref sq_nexts, .ref sq_names, .ref sq_fieldNames, .ref sq_amounts, .ref sq_fieldDefaults, .ref sq_enumDefaults, .int s_letterCount, .int s_slotCount]))] s.heap.size = A at hD hz0 ⊢
  have hA : ∀ q : Nat, s.heap.size ≤ q → A q := fun q h => by rw [← hAe]; exact Or.inr h
  have hS : va_S A s.heap s.heap [] := va_S.rf
  generalize hQ0 : MQ below (va_Qv (fun u' => u' = res) (pcB (dC, dI) srCl [(cI, .int), (cB, .byte), (cJ, .long), (cZ, .boolean), (cQ, .object "SchemaReader$Schema")] (fun u : Int32 × Int32 => [(obS, .inr (8, [.ref sq_plain, .ref sq_kinds, .ref sq_meant, .ref sq_firsts, .ref sq_nexts, .ref sq_names, .ref sq_fieldNames, .ref sq_amounts, .ref sq_fieldDefaults, .ref sq_enumDefaults, .int u.1, .int u.2]))]) A) A) [.ref obS].toArray s 0 0 A = Q0
  have hl := lv_entry [.ref obS] (n := 1) (Nat.le_of_ble_eq_true rfl)
  rw [lg_entry_eq]
  generalize (lg_sl [.ref obS] ++ List.replicate (1 - (lg_sl [.ref obS]).length) Slot.unset).toArray = ls at hl ⊢
  have hl : lv_has ls 1 [(0, .ref obS)] := hl
  unfold m_X6_clear at hm
  refine lv_aload_n hx hb dX6_clear_0 rfl (lv_at hl 0 rfl) ?_
  refine lv_iconst (v := 0) hx hb dX6_clear_1 (by decide) ?_
  refine va_put (D := (dC, dI)) (ci := 8) (v := .int 0) (ty := .int) (C := RX6) (T := TX6) (N := 12) hx hb hts (inX6 _) tyX6 tyX6_ok nmX6 hown hK hP hD hS 0 rfl rfl 10 (by decide) (hts _ (List.mem_cons_of_mem _ wf6_44)) (fun _ h9 => h9) rfl (by decide +kernel) rfl rfl (Nat.le_of_ble_eq_true rfl) dX6_clear_2 (fun H locs hP hD hS => ?_)
  have hP : va_P (dC, dI) srCl [(obS, .inr (8, [.ref sq_plain, .ref sq_kinds, .ref sq_meant, .ref sq_firsts, .ref sq_nexts, .ref sq_names, .ref sq_fieldNames, .ref sq_amounts, .ref sq_fieldDefaults, .ref sq_enumDefaults, .int 0, .int s_slotCount]))] H := hP
  have hD : va_D A [(obS, .inr (8, [.ref sq_plain, .ref sq_kinds, .ref sq_meant, .ref sq_firsts, .ref sq_nexts, .ref sq_names, .ref sq_fieldNames, .ref sq_amounts, .ref sq_fieldDefaults, .ref sq_enumDefaults, .int 0, .int s_slotCount]))] := hD
  refine lv_aload_n hx hb dX6_clear_5 rfl (lv_at hl 0 rfl) ?_
  refine lv_iconst (v := 0) hx hb dX6_clear_6 (by decide) ?_
  refine va_put (D := (dC, dI)) (ci := 8) (v := .int 0) (ty := .int) (C := RX6) (T := TX6) (N := 12) hx hb hts (inX6 _) tyX6 tyX6_ok nmX6 hown hK hP hD hS 0 rfl rfl 11 (by decide) (hts _ (List.mem_cons_of_mem _ wf6_48)) (fun _ h9 => h9) rfl (by decide +kernel) rfl rfl (Nat.le_of_ble_eq_true rfl) dX6_clear_7 (fun H locs hP hD hS => ?_)
  have hP : va_P (dC, dI) srCl [(obS, .inr (8, [.ref sq_plain, .ref sq_kinds, .ref sq_meant, .ref sq_firsts, .ref sq_nexts, .ref sq_names, .ref sq_fieldNames, .ref sq_amounts, .ref sq_fieldDefaults, .ref sq_enumDefaults, .int 0, .int 0]))] H := hP
  have hD : va_D A [(obS, .inr (8, [.ref sq_plain, .ref sq_kinds, .ref sq_meant, .ref sq_firsts, .ref sq_nexts, .ref sq_names, .ref sq_fieldNames, .ref sq_amounts, .ref sq_fieldDefaults, .ref sq_enumDefaults, .int 0, .int 0]))] := hD
  obtain rfl := Option.some.inj hm
  subst hQ0
  exact W.vret hx hb hr (fun t ht hW => ⟨⟨(0, 0), rfl, rfl, by rw [ht]; exact hP, va_K.moved hW.alike hK, hD⟩, hS.F ht⟩) hS.2.2 dX6_clear_10
set_option maxHeartbeats 4000000 in
set_option maxRecDepth 100000 in
theorem kX6_letterCount (l : Launch) (htr : l.stackTraces = false) (dC : Nat → ClassId) (dI : Nat → Nat → Nat) (adK adV : Nat → Nat) (cI cB cJ cZ cQ : ClassId) (obS sq_plain sq_kinds sq_meant sq_firsts sq_nexts sq_names sq_fieldNames sq_amounts sq_fieldDefaults sq_enumDefaults : Nat) (s_letterCount : Int32) (s_slotCount : Int32) (res : Int32) (hm : m_X6_letterCount s_letterCount = some res) : Met l yX6_letterCount wsX6_letterCount (rmX6_letterCount 0 0) (pcR (sr_Z adK adV) (dC, dI) srCl [(cI, .int), (cB, .byte), (cJ, .long), (cZ, .boolean), (cQ, .object "SchemaReader$Schema")] [.ref obS] [(obS, .inr (8, [.ref sq_plain, .ref sq_kinds, .ref sq_meant, .ref sq_firsts, .ref sq_nexts, .ref sq_names, .ref sq_fieldNames, .ref sq_amounts, .ref sq_fieldDefaults, .ref sq_enumDefaults, .int s_letterCount, .int s_slotCount]))]) (k2_QcV (.int res)) 0 0 (fun _ => False) := by
  refine Met.ofW (cc := cX6_letterCount) (maxL := 1) (ret := (some .int)) (by decide) rfl ?_
  intro p e s m args below meth c s₁ B hml hv
  obtain ⟨rfl, hP, hK, hz0⟩ := hv
  have hx := B.exec
  have hb := B.bytes
  have hr := B.returns
  have hts := atoms_spec (ws := wsX6_letterCount) B.pre
  have hown : s.vm.findClass RX6 = some m.cls := findClass_of_methodNamed B.named
  have hlocks := B.notSynchronized
  have hS : va_S (fun _ => False) s.heap s.heap [] := va_S.rf
  generalize hQ0 : MQ below (k2_QcV (.int res)) [.ref obS].toArray s 0 0 (fun _ => False) = Q0
  have hl := lv_entry [.ref obS] (n := 1) (Nat.le_of_ble_eq_true rfl)
  rw [lg_entry_eq]
  generalize (lg_sl [.ref obS] ++ List.replicate (1 - (lg_sl [.ref obS]).length) Slot.unset).toArray = ls at hl ⊢
  have hl : lv_has ls 1 [(0, .ref obS)] := hl
  unfold m_X6_letterCount at hm
  refine lv_aload_n hx hb dX6_letterCount_0 rfl (lv_at hl 0 rfl) ?_
  refine va_get (D := (dC, dI)) (ci := 8) (v := .int s_letterCount) (C := RX6) (T := TX6) (N := 12) hx hb hts (inX6 _) hown hK hP 0 rfl rfl 10 (by decide) (hts _ (List.mem_cons_of_mem _ wf6_44)) (fun _ h9 => h9) rfl dX6_letterCount_1 ?_
  obtain rfl := Option.some.inj hm
  subst hQ0
  exact W.iret (v := s_letterCount) hx hb hr (fun t ht hW => ⟨rfl, ht⟩) (fun q h => by cases h) dX6_letterCount_4
set_option maxHeartbeats 4000000 in
set_option maxRecDepth 100000 in
theorem kX6_letterAt (l : Launch) (htr : l.stackTraces = false) (dC : Nat → ClassId) (dI : Nat → Nat → Nat) (adK adV : Nat → Nat) (cI cB cJ cZ cQ : ClassId) (obS sq_plain sq_kinds sq_meant sq_firsts sq_nexts sq_names sq_fieldNames sq_amounts sq_fieldDefaults sq_enumDefaults : Nat) (s_letterCount : Int32) (s_slotCount : Int32) (s_plain : Nat → Int32) (a0 : Int32) (res : Int32) (hm : m_X6_letterAt s_plain s_letterCount a0 = some res) : Met l yX6_letterAt wsX6_letterAt (rmX6_letterAt 0 0) (pcR (sr_Z adK adV) (dC, dI) srCl [(cI, .int), (cB, .byte), (cJ, .long), (cZ, .boolean), (cQ, .object "SchemaReader$Schema")] [.ref obS, .int a0] [(obS, .inr (8, [.ref sq_plain, .ref sq_kinds, .ref sq_meant, .ref sq_firsts, .ref sq_nexts, .ref sq_names, .ref sq_fieldNames, .ref sq_amounts, .ref sq_fieldDefaults, .ref sq_enumDefaults, .int s_letterCount, .int s_slotCount])), (sq_plain, .inl (cB, 4096, .inl s_plain))]) (k2_QcV (.int res)) 0 0 (fun _ => False) := by
  refine Met.ofW (cc := cX6_letterAt) (maxL := 2) (ret := (some .int)) (by decide) rfl ?_
  intro p e s m args below meth c s₁ B hml hv
  obtain ⟨rfl, hP, hK, hz0⟩ := hv
  have hx := B.exec
  have hb := B.bytes
  have hr := B.returns
  have hts := atoms_spec (ws := wsX6_letterAt) B.pre
  have hown : s.vm.findClass RX6 = some m.cls := findClass_of_methodNamed B.named
  have hlocks := B.notSynchronized
  have hS : va_S (fun _ => False) s.heap s.heap [] := va_S.rf
  generalize hQ0 : MQ below (k2_QcV (.int res)) [.ref obS, .int a0].toArray s 0 0 (fun _ => False) = Q0
  have hl := lv_entry [.ref obS, .int a0] (n := 2) (Nat.le_of_ble_eq_true rfl)
  rw [lg_entry_eq]
  generalize (lg_sl [.ref obS, .int a0] ++ List.replicate (2 - (lg_sl [.ref obS, .int a0]).length) Slot.unset).toArray = ls at hl ⊢
  have hl : lv_has ls 2 [(0, .ref obS), (1, .int a0)] := hl
  unfold m_X6_letterAt at hm
  refine lv_iload_n hx hb dX6_letterAt_0 rfl (lv_at hl 1 rfl) ?_
  refine lv_if_lt (tgt := 25) hx hb dX6_letterAt_1 (by decide) (fun c1 => ?_) (fun c1 => ?_)
  · have hm := mr_if c1 hm
    refine lv_iconst (v := -1) hx hb dX6_letterAt_25 (by decide) ?_
    obtain rfl := Option.some.inj hm
    subst hQ0
    exact W.iret (v := (-1)) hx hb hr (fun t ht hW => ⟨rfl, ht⟩) (fun q h => by cases h) dX6_letterAt_26
  · have hm := mr_un c1 hm
    refine lv_iload_n hx hb dX6_letterAt_4 rfl (lv_at hl 1 rfl) ?_
    refine lv_aload_n hx hb dX6_letterAt_5 rfl (lv_at hl 0 rfl) ?_
    refine va_get (D := (dC, dI)) (ci := 8) (v := .int s_letterCount) (C := RX6) (T := TX6) (N := 12) hx hb hts (inX6 _) hown hK hP 0 rfl rfl 10 (by decide) (hts _ (List.mem_cons_of_mem _ wf6_44)) (fun _ h9 => h9) rfl dX6_letterAt_6 ?_
    refine lv_icmp_ge (tgt := 25) hx hb dX6_letterAt_9 (by decide) (fun c2 => ?_) (fun c2 => ?_)
    · have hm := mr_if c2 hm
      refine lv_iconst (v := -1) hx hb dX6_letterAt_25 (by decide) ?_
      obtain rfl := Option.some.inj hm
      subst hQ0
      exact W.iret (v := (-1)) hx hb hr (fun t ht hW => ⟨rfl, ht⟩) (fun q h => by cases h) dX6_letterAt_26
    · have hm := mr_un c2 hm
      refine lv_aload_n hx hb dX6_letterAt_12 rfl (lv_at hl 0 rfl) ?_
      refine va_get (D := (dC, dI)) (ci := 8) (v := .ref sq_plain) (C := RX6) (T := TX6) (N := 12) hx hb hts (inX6 _) hown hK hP 0 rfl rfl 0 (by decide) (hts _ (List.mem_cons_of_mem _ wf6_9)) (fun _ h9 => h9) rfl dX6_letterAt_13 ?_
      refine lv_iload_n hx hb dX6_letterAt_16 rfl (lv_at hl 1 rfl) ?_
      obtain ⟨h3, hm⟩ := mr_bd hm
      refine va_bald hx hb hK hP 1 1 rfl rfl h3 dX6_letterAt_17 ?_
      refine lv_sipush (v := 255) hx hb dX6_letterAt_18 (by decide) ?_
      refine lv_iand hx hb dX6_letterAt_21 ?_
      refine lv_goto (tgt := 26) hx hb dX6_letterAt_22 (by decide) ?_
      obtain rfl := Option.some.inj hm
      subst hQ0
      exact W.iret (v := ((s_plain (a0 : Int32).toNatClampNeg) &&& 255)) hx hb hr (fun t ht hW => ⟨rfl, ht⟩) (fun q h => by cases h) dX6_letterAt_26
set_option maxHeartbeats 4000000 in
set_option maxRecDepth 100000 in
theorem kX6_open (l : Launch) (htr : l.stackTraces = false) (dC : Nat → ClassId) (dI : Nat → Nat → Nat) (adK adV : Nat → Nat) (cI cB cJ cZ cQ : ClassId) (obS sq_plain sq_kinds sq_meant sq_firsts sq_nexts sq_names sq_fieldNames sq_amounts sq_fieldDefaults sq_enumDefaults : Nat) (s_letterCount : Int32) (s_slotCount : Int32) (s_kinds : Nat → Int32) (s_meant : Nat → Int32) (s_firsts : Nat → Int32) (s_nexts : Nat → Int32) (s_names : Nat → Int32) (s_fieldNames : Nat → Int32) (s_amounts : Nat → Int32) (s_fieldDefaults : Nat → Int32) (s_enumDefaults : Nat → Int32) (sz : Nat) (res : Int32 × (Nat → Int32) × (Nat → Int32) × (Nat → Int32) × (Nat → Int32) × (Nat → Int32) × (Nat → Int32) × (Nat → Int32) × (Nat → Int32) × (Nat → Int32) × Int32) (hm : m_X6_open s_kinds s_meant s_firsts s_nexts s_names s_fieldNames s_amounts s_fieldDefaults s_enumDefaults s_slotCount = some res) : Met l yX6_open wsX6_open (rmX6_open 0 0) (pcW (sr_Z adK adV) (dC, dI) srCl [(cI, .int), (cB, .byte), (cJ, .long), (cZ, .boolean), (cQ, .object "SchemaReader$Schema")] [.ref obS] [(obS, .inr (8, [.ref sq_plain, .ref sq_kinds, .ref sq_meant, .ref sq_firsts, .ref sq_nexts, .ref sq_names, .ref sq_fieldNames, .ref sq_amounts, .ref sq_fieldDefaults, .ref sq_enumDefaults, .int s_letterCount, .int s_slotCount])), (sq_kinds, .inl (cI, 128, .inl s_kinds)), (sq_meant, .inl (cI, 128, .inl s_meant)), (sq_firsts, .inl (cI, 128, .inl s_firsts)), (sq_nexts, .inl (cI, 128, .inl s_nexts)), (sq_names, .inl (cI, 128, .inl s_names)), (sq_fieldNames, .inl (cI, 128, .inl s_fieldNames)), (sq_amounts, .inl (cI, 128, .inl s_amounts)), (sq_fieldDefaults, .inl (cZ, 128, .inl s_fieldDefaults)), (sq_enumDefaults, .inl (cZ, 128, .inl s_enumDefaults))] sz) (va_Qi (fun r' u' => r' = res.1 ∧ u' = res.2) (pcB (dC, dI) srCl [(cI, .int), (cB, .byte), (cJ, .long), (cZ, .boolean), (cQ, .object "SchemaReader$Schema")] (fun u : (Nat → Int32) × (Nat → Int32) × (Nat → Int32) × (Nat → Int32) × (Nat → Int32) × (Nat → Int32) × (Nat → Int32) × (Nat → Int32) × (Nat → Int32) × Int32 => [(obS, .inr (8, [.ref sq_plain, .ref sq_kinds, .ref sq_meant, .ref sq_firsts, .ref sq_nexts, .ref sq_names, .ref sq_fieldNames, .ref sq_amounts, .ref sq_fieldDefaults, .ref sq_enumDefaults, .int s_letterCount, .int u.2.2.2.2.2.2.2.2.2])), (sq_kinds, .inl (cI, 128, .inl u.1)), (sq_meant, .inl (cI, 128, .inl u.2.1)), (sq_firsts, .inl (cI, 128, .inl u.2.2.1)), (sq_nexts, .inl (cI, 128, .inl u.2.2.2.1)), (sq_names, .inl (cI, 128, .inl u.2.2.2.2.1)), (sq_fieldNames, .inl (cI, 128, .inl u.2.2.2.2.2.1)), (sq_amounts, .inl (cI, 128, .inl u.2.2.2.2.2.2.1)), (sq_fieldDefaults, .inl (cZ, 128, .inl u.2.2.2.2.2.2.2.1)), (sq_enumDefaults, .inl (cZ, 128, .inl u.2.2.2.2.2.2.2.2.1))]) (va_A [(obS, .inr (8, [.ref sq_plain, .ref sq_kinds, .ref sq_meant, .ref sq_firsts, .ref sq_nexts, .ref sq_names, .ref sq_fieldNames, .ref sq_amounts, .ref sq_fieldDefaults, .ref sq_enumDefaults, .int s_letterCount, .int s_slotCount])), (sq_kinds, .inl (cI, 128, .inl s_kinds)), (sq_meant, .inl (cI, 128, .inl s_meant)), (sq_firsts, .inl (cI, 128, .inl s_firsts)), (sq_nexts, .inl (cI, 128, .inl s_nexts)), (sq_names, .inl (cI, 128, .inl s_names)), (sq_fieldNames, .inl (cI, 128, .inl s_fieldNames)), (sq_amounts, .inl (cI, 128, .inl s_amounts)), (sq_fieldDefaults, .inl (cZ, 128, .inl s_fieldDefaults)), (sq_enumDefaults, .inl (cZ, 128, .inl s_enumDefaults))] sz)) (va_A [(obS, .inr (8, [.ref sq_plain, .ref sq_kinds, .ref sq_meant, .ref sq_firsts, .ref sq_nexts, .ref sq_names, .ref sq_fieldNames, .ref sq_amounts, .ref sq_fieldDefaults, .ref sq_enumDefaults, .int s_letterCount, .int s_slotCount])), (sq_kinds, .inl (cI, 128, .inl s_kinds)), (sq_meant, .inl (cI, 128, .inl s_meant)), (sq_firsts, .inl (cI, 128, .inl s_firsts)), (sq_nexts, .inl (cI, 128, .inl s_nexts)), (sq_names, .inl (cI, 128, .inl s_names)), (sq_fieldNames, .inl (cI, 128, .inl s_fieldNames)), (sq_amounts, .inl (cI, 128, .inl s_amounts)), (sq_fieldDefaults, .inl (cZ, 128, .inl s_fieldDefaults)), (sq_enumDefaults, .inl (cZ, 128, .inl s_enumDefaults))] sz)) 0 0 (va_A [(obS, .inr (8, [.ref sq_plain, .ref sq_kinds, .ref sq_meant, .ref sq_firsts, .ref sq_nexts, .ref sq_names, .ref sq_fieldNames, .ref sq_amounts, .ref sq_fieldDefaults, .ref sq_enumDefaults, .int s_letterCount, .int s_slotCount])), (sq_kinds, .inl (cI, 128, .inl s_kinds)), (sq_meant, .inl (cI, 128, .inl s_meant)), (sq_firsts, .inl (cI, 128, .inl s_firsts)), (sq_nexts, .inl (cI, 128, .inl s_nexts)), (sq_names, .inl (cI, 128, .inl s_names)), (sq_fieldNames, .inl (cI, 128, .inl s_fieldNames)), (sq_amounts, .inl (cI, 128, .inl s_amounts)), (sq_fieldDefaults, .inl (cZ, 128, .inl s_fieldDefaults)), (sq_enumDefaults, .inl (cZ, 128, .inl s_enumDefaults))] sz) := by
  refine Met.ofW (cc := cX6_open) (maxL := 2) (ret := (some .int)) (by decide) rfl ?_
  intro p e s m args below meth c s₁ B hml hv
  obtain ⟨rfl, hsz, hP, hK, hD0, hz0⟩ := hv
  have hx := B.exec
  have hb := B.bytes
  have hr := B.returns
  have hts := atoms_spec (ws := wsX6_open) B.pre
  have hown : s.vm.findClass RX6 = some m.cls := findClass_of_methodNamed B.named
  have hlocks := B.notSynchronized
  subst hsz
  have hD := hD0.self (sz := s.heap.size)
  generalize hAe : va_A [(obS, .inr (8, [.ref sq_plain, .ref sq_kinds, .ref sq_meant, .ref sq_firsts, .ref sq_nexts, .ref sq_names, .ref sq_fieldNames, .ref sq_amounts, .ref sq_fieldDefaults, .ref sq_enumDefaults, .int s_letterCount, .int s_slotCount])), (sq_kinds, .inl (cI, 128, .inl s_kinds)), (sq_meant, .inl (cI, 128, .inl s_meant)), (sq_firsts, .inl (cI, 128, .inl s_firsts)), (sq_nexts, .inl (cI, 128, .inl s_nexts)), (sq_names, .inl (cI, 128, .inl s_names)), (sq_fieldNames, .inl (cI, 128, .inl s_fieldNames)), (sq_amounts, .inl (cI, 128, .inl s_amounts)), (sq_fieldDefaults, .inl (cZ, 128, .inl s_fieldDefaults)), (sq_enumDefaults, .inl (cZ, 128, .inl s_enumDefaults))] s.heap.size = A at hD hz0 ⊢
  have hA : ∀ q : Nat, s.heap.size ≤ q → A q := fun q h => by rw [← hAe]; exact Or.inr h
  have hS : va_S A s.heap s.heap [] := va_S.rf
  generalize hQ0 : MQ below (va_Qi (fun r' u' => r' = res.1 ∧ u' = res.2) (pcB (dC, dI) srCl [(cI, .int), (cB, .byte), (cJ, .long), (cZ, .boolean), (cQ, .object "SchemaReader$Schema")] (fun u : (Nat → Int32) × (Nat → Int32) × (Nat → Int32) × (Nat → Int32) × (Nat → Int32) × (Nat → Int32) × (Nat → Int32) × (Nat → Int32) × (Nat → Int32) × Int32 => [(obS, .inr (8, [.ref sq_plain, .ref sq_kinds, .ref sq_meant, .ref sq_firsts, .ref sq_nexts, .ref sq_names, .ref sq_fieldNames, .ref sq_amounts, .ref sq_fieldDefaults, .ref sq_enumDefaults, .int s_letterCount, .int u.2.2.2.2.2.2.2.2.2])), (sq_kinds, .inl (cI, 128, .inl u.1)), (sq_meant, .inl (cI, 128, .inl u.2.1)), (sq_firsts, .inl (cI, 128, .inl u.2.2.1)), (sq_nexts, .inl (cI, 128, .inl u.2.2.2.1)), (sq_names, .inl (cI, 128, .inl u.2.2.2.2.1)), (sq_fieldNames, .inl (cI, 128, .inl u.2.2.2.2.2.1)), (sq_amounts, .inl (cI, 128, .inl u.2.2.2.2.2.2.1)), (sq_fieldDefaults, .inl (cZ, 128, .inl u.2.2.2.2.2.2.2.1)), (sq_enumDefaults, .inl (cZ, 128, .inl u.2.2.2.2.2.2.2.2.1))]) A) A) [.ref obS].toArray s 0 0 A = Q0
  have hl := lv_entry [.ref obS] (n := 2) (Nat.le_of_ble_eq_true rfl)
  rw [lg_entry_eq]
  generalize (lg_sl [.ref obS] ++ List.replicate (2 - (lg_sl [.ref obS]).length) Slot.unset).toArray = ls at hl ⊢
  have hl : lv_has ls 2 [(0, .ref obS)] := hl
  unfold m_X6_open at hm
  refine lv_aload_n hx hb dX6_open_0 rfl (lv_at hl 0 rfl) ?_
  refine va_get (D := (dC, dI)) (ci := 8) (v := .int s_slotCount) (C := RX6) (T := TX6) (N := 12) hx hb hts (inX6 _) hown hK hP 0 rfl rfl 11 (by decide) (hts _ (List.mem_cons_of_mem _ wf6_48)) (fun _ h9 => h9) rfl dX6_open_1 ?_
  refine lv_sipush (v := 128) hx hb dX6_open_4 (by decide) ?_
  refine lv_icmp_lt (tgt := 12) hx hb dX6_open_7 (by decide) (fun c1 => ?_) (fun c1 => ?_)
  · have hm := mr_if c1 hm
    refine lv_aload_n hx hb dX6_open_12 rfl (lv_at hl 0 rfl) ?_
    refine va_get (D := (dC, dI)) (ci := 8) (v := .int s_slotCount) (C := RX6) (T := TX6) (N := 12) hx hb hts (inX6 _) hown hK hP 0 rfl rfl 11 (by decide) (hts _ (List.mem_cons_of_mem _ wf6_48)) (fun _ h9 => h9) rfl dX6_open_13 ?_
    refine lv_istore_n (lv' := [(1, .int s_slotCount), (0, .ref obS)]) hx hb dX6_open_16 rfl hl (by decide) rfl (fun ls hl => ?_)
    refine lv_aload_n hx hb dX6_open_17 rfl (lv_at hl 1 rfl) ?_
    refine lv_dup hx hb dX6_open_18 rfl ?_
    refine va_get (D := (dC, dI)) (ci := 8) (v := .int s_slotCount) (C := RX6) (T := TX6) (N := 12) hx hb hts (inX6 _) hown hK hP 0 rfl rfl 11 (by decide) (hts _ (List.mem_cons_of_mem _ wf6_48)) (fun _ h9 => h9) rfl dX6_open_19 ?_
    refine lv_iconst (v := 1) hx hb dX6_open_22 (by decide) ?_
    refine lv_iadd hx hb dX6_open_23 ?_
    refine va_put (D := (dC, dI)) (ci := 8) (v := .int (s_slotCount + 1)) (ty := .int) (C := RX6) (T := TX6) (N := 12) hx hb hts (inX6 _) tyX6 tyX6_ok nmX6 hown hK hP hD hS 0 rfl rfl 11 (by decide) (hts _ (List.mem_cons_of_mem _ wf6_48)) (fun _ h9 => h9) rfl (by decide +kernel) rfl rfl (Nat.le_of_ble_eq_true rfl) dX6_open_24 (fun H locs hP hD hS => ?_)
    have hP : va_P (dC, dI) srCl [(obS, .inr (8, [.ref sq_plain, .ref sq_kinds, .ref sq_meant, .ref sq_firsts, .ref sq_nexts, .ref sq_names, .ref sq_fieldNames, .ref sq_amounts, .ref sq_fieldDefaults, .ref sq_enumDefaults, .int s_letterCount, .int (s_slotCount + 1)])), (sq_kinds, .inl (cI, 128, .inl s_kinds)), (sq_meant, .inl (cI, 128, .inl s_meant)), (sq_firsts, .inl (cI, 128, .inl s_firsts)), (sq_nexts, .inl (cI, 128, .inl s_nexts)), (sq_names, .inl (cI, 128, .inl s_names)), (sq_fieldNames, .inl (cI, 128, .inl s_fieldNames)), (sq_amounts, .inl (cI, 128, .inl s_amounts)), (sq_fieldDefaults, .inl (cZ, 128, .inl s_fieldDefaults)), (sq_enumDefaults, .inl (cZ, 128, .inl s_enumDefaults))] H := hP
    have hD : va_D A [(obS, .inr (8, [.ref sq_plain, .ref sq_kinds, .ref sq_meant, .ref sq_firsts, .ref sq_nexts, .ref sq_names, .ref sq_fieldNames, .ref sq_amounts, .ref sq_fieldDefaults, .ref sq_enumDefaults, .int s_letterCount, .int (s_slotCount + 1)])), (sq_kinds, .inl (cI, 128, .inl s_kinds)), (sq_meant, .inl (cI, 128, .inl s_meant)), (sq_firsts, .inl (cI, 128, .inl s_firsts)), (sq_nexts, .inl (cI, 128, .inl s_nexts)), (sq_names, .inl (cI, 128, .inl s_names)), (sq_fieldNames, .inl (cI, 128, .inl s_fieldNames)), (sq_amounts, .inl (cI, 128, .inl s_amounts)), (sq_fieldDefaults, .inl (cZ, 128, .inl s_fieldDefaults)), (sq_enumDefaults, .inl (cZ, 128, .inl s_enumDefaults))] := hD
    refine lv_aload_n hx hb dX6_open_27 rfl (lv_at hl 1 rfl) ?_
    refine va_get (D := (dC, dI)) (ci := 8) (v := .ref sq_kinds) (C := RX6) (T := TX6) (N := 12) hx hb hts (inX6 _) hown hK hP 0 rfl rfl 1 (by decide) (hts _ (List.mem_cons_of_mem _ wf6_15)) (fun _ h9 => h9) rfl dX6_open_28 ?_
    refine lv_iload_n hx hb dX6_open_31 rfl (lv_at hl 0 rfl) ?_
    refine lv_iconst (v := -1) hx hb dX6_open_32 (by decide) ?_
    obtain ⟨h2, hm⟩ := mr_bd hm
    refine va_iast hx hb hK hP hD hS 1 0 rfl rfl h2 dX6_open_33 (fun H locs hP hD hS => ?_)
    have hP : va_P (dC, dI) srCl [(obS, .inr (8, [.ref sq_plain, .ref sq_kinds, .ref sq_meant, .ref sq_firsts, .ref sq_nexts, .ref sq_names, .ref sq_fieldNames, .ref sq_amounts, .ref sq_fieldDefaults, .ref sq_enumDefaults, .int s_letterCount, .int (s_slotCount + 1)])), (sq_kinds, .inl (cI, 128, .inl (upd s_kinds (s_slotCount : Int32).toNatClampNeg (-1)))), (sq_meant, .inl (cI, 128, .inl s_meant)), (sq_firsts, .inl (cI, 128, .inl s_firsts)), (sq_nexts, .inl (cI, 128, .inl s_nexts)), (sq_names, .inl (cI, 128, .inl s_names)), (sq_fieldNames, .inl (cI, 128, .inl s_fieldNames)), (sq_amounts, .inl (cI, 128, .inl s_amounts)), (sq_fieldDefaults, .inl (cZ, 128, .inl s_fieldDefaults)), (sq_enumDefaults, .inl (cZ, 128, .inl s_enumDefaults))] H := hP
    have hD : va_D A [(obS, .inr (8, [.ref sq_plain, .ref sq_kinds, .ref sq_meant, .ref sq_firsts, .ref sq_nexts, .ref sq_names, .ref sq_fieldNames, .ref sq_amounts, .ref sq_fieldDefaults, .ref sq_enumDefaults, .int s_letterCount, .int (s_slotCount + 1)])), (sq_kinds, .inl (cI, 128, .inl (upd s_kinds (s_slotCount : Int32).toNatClampNeg (-1)))), (sq_meant, .inl (cI, 128, .inl s_meant)), (sq_firsts, .inl (cI, 128, .inl s_firsts)), (sq_nexts, .inl (cI, 128, .inl s_nexts)), (sq_names, .inl (cI, 128, .inl s_names)), (sq_fieldNames, .inl (cI, 128, .inl s_fieldNames)), (sq_amounts, .inl (cI, 128, .inl s_amounts)), (sq_fieldDefaults, .inl (cZ, 128, .inl s_fieldDefaults)), (sq_enumDefaults, .inl (cZ, 128, .inl s_enumDefaults))] := hD
    refine lv_aload_n hx hb dX6_open_34 rfl (lv_at hl 1 rfl) ?_
    refine va_get (D := (dC, dI)) (ci := 8) (v := .ref sq_meant) (C := RX6) (T := TX6) (N := 12) hx hb hts (inX6 _) hown hK hP 0 rfl rfl 2 (by decide) (hts _ (List.mem_cons_of_mem _ wf6_19)) (fun _ h9 => h9) rfl dX6_open_35 ?_
    refine lv_iload_n hx hb dX6_open_38 rfl (lv_at hl 0 rfl) ?_
    refine lv_iload_n hx hb dX6_open_39 rfl (lv_at hl 0 rfl) ?_
    obtain ⟨h3, hm⟩ := mr_bd hm
    refine va_iast hx hb hK hP hD hS 2 0 rfl rfl h3 dX6_open_40 (fun H locs hP hD hS => ?_)
    have hP : va_P (dC, dI) srCl [(obS, .inr (8, [.ref sq_plain, .ref sq_kinds, .ref sq_meant, .ref sq_firsts, .ref sq_nexts, .ref sq_names, .ref sq_fieldNames, .ref sq_amounts, .ref sq_fieldDefaults, .ref sq_enumDefaults, .int s_letterCount, .int (s_slotCount + 1)])), (sq_kinds, .inl (cI, 128, .inl (upd s_kinds (s_slotCount : Int32).toNatClampNeg (-1)))), (sq_meant, .inl (cI, 128, .inl (upd s_meant (s_slotCount : Int32).toNatClampNeg s_slotCount))), (sq_firsts, .inl (cI, 128, .inl s_firsts)), (sq_nexts, .inl (cI, 128, .inl s_nexts)), (sq_names, .inl (cI, 128, .inl s_names)), (sq_fieldNames, .inl (cI, 128, .inl s_fieldNames)), (sq_amounts, .inl (cI, 128, .inl s_amounts)), (sq_fieldDefaults, .inl (cZ, 128, .inl s_fieldDefaults)), (sq_enumDefaults, .inl (cZ, 128, .inl s_enumDefaults))] H := hP
    have hD : va_D A [(obS, .inr (8, [.ref sq_plain, .ref sq_kinds, .ref sq_meant, .ref sq_firsts, .ref sq_nexts, .ref sq_names, .ref sq_fieldNames, .ref sq_amounts, .ref sq_fieldDefaults, .ref sq_enumDefaults, .int s_letterCount, .int (s_slotCount + 1)])), (sq_kinds, .inl (cI, 128, .inl (upd s_kinds (s_slotCount : Int32).toNatClampNeg (-1)))), (sq_meant, .inl (cI, 128, .inl (upd s_meant (s_slotCount : Int32).toNatClampNeg s_slotCount))), (sq_firsts, .inl (cI, 128, .inl s_firsts)), (sq_nexts, .inl (cI, 128, .inl s_nexts)), (sq_names, .inl (cI, 128, .inl s_names)), (sq_fieldNames, .inl (cI, 128, .inl s_fieldNames)), (sq_amounts, .inl (cI, 128, .inl s_amounts)), (sq_fieldDefaults, .inl (cZ, 128, .inl s_fieldDefaults)), (sq_enumDefaults, .inl (cZ, 128, .inl s_enumDefaults))] := hD
    refine lv_aload_n hx hb dX6_open_41 rfl (lv_at hl 1 rfl) ?_
    refine va_get (D := (dC, dI)) (ci := 8) (v := .ref sq_firsts) (C := RX6) (T := TX6) (N := 12) hx hb hts (inX6 _) hown hK hP 0 rfl rfl 3 (by decide) (hts _ (List.mem_cons_of_mem _ wf6_22)) (fun _ h9 => h9) rfl dX6_open_42 ?_
    refine lv_iload_n hx hb dX6_open_45 rfl (lv_at hl 0 rfl) ?_
    refine lv_iconst (v := -1) hx hb dX6_open_46 (by decide) ?_
    obtain ⟨h4, hm⟩ := mr_bd hm
    refine va_iast hx hb hK hP hD hS 3 0 rfl rfl h4 dX6_open_47 (fun H locs hP hD hS => ?_)
    have hP : va_P (dC, dI) srCl [(obS, .inr (8, [.ref sq_plain, .ref sq_kinds, .ref sq_meant, .ref sq_firsts, .ref sq_nexts, .ref sq_names, .ref sq_fieldNames, .ref sq_amounts, .ref sq_fieldDefaults, .ref sq_enumDefaults, .int s_letterCount, .int (s_slotCount + 1)])), (sq_kinds, .inl (cI, 128, .inl (upd s_kinds (s_slotCount : Int32).toNatClampNeg (-1)))), (sq_meant, .inl (cI, 128, .inl (upd s_meant (s_slotCount : Int32).toNatClampNeg s_slotCount))), (sq_firsts, .inl (cI, 128, .inl (upd s_firsts (s_slotCount : Int32).toNatClampNeg (-1)))), (sq_nexts, .inl (cI, 128, .inl s_nexts)), (sq_names, .inl (cI, 128, .inl s_names)), (sq_fieldNames, .inl (cI, 128, .inl s_fieldNames)), (sq_amounts, .inl (cI, 128, .inl s_amounts)), (sq_fieldDefaults, .inl (cZ, 128, .inl s_fieldDefaults)), (sq_enumDefaults, .inl (cZ, 128, .inl s_enumDefaults))] H := hP
    have hD : va_D A [(obS, .inr (8, [.ref sq_plain, .ref sq_kinds, .ref sq_meant, .ref sq_firsts, .ref sq_nexts, .ref sq_names, .ref sq_fieldNames, .ref sq_amounts, .ref sq_fieldDefaults, .ref sq_enumDefaults, .int s_letterCount, .int (s_slotCount + 1)])), (sq_kinds, .inl (cI, 128, .inl (upd s_kinds (s_slotCount : Int32).toNatClampNeg (-1)))), (sq_meant, .inl (cI, 128, .inl (upd s_meant (s_slotCount : Int32).toNatClampNeg s_slotCount))), (sq_firsts, .inl (cI, 128, .inl (upd s_firsts (s_slotCount : Int32).toNatClampNeg (-1)))), (sq_nexts, .inl (cI, 128, .inl s_nexts)), (sq_names, .inl (cI, 128, .inl s_names)), (sq_fieldNames, .inl (cI, 128, .inl s_fieldNames)), (sq_amounts, .inl (cI, 128, .inl s_amounts)), (sq_fieldDefaults, .inl (cZ, 128, .inl s_fieldDefaults)), (sq_enumDefaults, .inl (cZ, 128, .inl s_enumDefaults))] := hD
    refine lv_aload_n hx hb dX6_open_48 rfl (lv_at hl 1 rfl) ?_
    refine va_get (D := (dC, dI)) (ci := 8) (v := .ref sq_nexts) (C := RX6) (T := TX6) (N := 12) hx hb hts (inX6 _) hown hK hP 0 rfl rfl 4 (by decide) (hts _ (List.mem_cons_of_mem _ wf6_25)) (fun _ h9 => h9) rfl dX6_open_49 ?_
    refine lv_iload_n hx hb dX6_open_52 rfl (lv_at hl 0 rfl) ?_
    refine lv_iconst (v := -1) hx hb dX6_open_53 (by decide) ?_
    obtain ⟨h5, hm⟩ := mr_bd hm
    refine va_iast hx hb hK hP hD hS 4 0 rfl rfl h5 dX6_open_54 (fun H locs hP hD hS => ?_)
    have hP : va_P (dC, dI) srCl [(obS, .inr (8, [.ref sq_plain, .ref sq_kinds, .ref sq_meant, .ref sq_firsts, .ref sq_nexts, .ref sq_names, .ref sq_fieldNames, .ref sq_amounts, .ref sq_fieldDefaults, .ref sq_enumDefaults, .int s_letterCount, .int (s_slotCount + 1)])), (sq_kinds, .inl (cI, 128, .inl (upd s_kinds (s_slotCount : Int32).toNatClampNeg (-1)))), (sq_meant, .inl (cI, 128, .inl (upd s_meant (s_slotCount : Int32).toNatClampNeg s_slotCount))), (sq_firsts, .inl (cI, 128, .inl (upd s_firsts (s_slotCount : Int32).toNatClampNeg (-1)))), (sq_nexts, .inl (cI, 128, .inl (upd s_nexts (s_slotCount : Int32).toNatClampNeg (-1)))), (sq_names, .inl (cI, 128, .inl s_names)), (sq_fieldNames, .inl (cI, 128, .inl s_fieldNames)), (sq_amounts, .inl (cI, 128, .inl s_amounts)), (sq_fieldDefaults, .inl (cZ, 128, .inl s_fieldDefaults)), (sq_enumDefaults, .inl (cZ, 128, .inl s_enumDefaults))] H := hP
    have hD : va_D A [(obS, .inr (8, [.ref sq_plain, .ref sq_kinds, .ref sq_meant, .ref sq_firsts, .ref sq_nexts, .ref sq_names, .ref sq_fieldNames, .ref sq_amounts, .ref sq_fieldDefaults, .ref sq_enumDefaults, .int s_letterCount, .int (s_slotCount + 1)])), (sq_kinds, .inl (cI, 128, .inl (upd s_kinds (s_slotCount : Int32).toNatClampNeg (-1)))), (sq_meant, .inl (cI, 128, .inl (upd s_meant (s_slotCount : Int32).toNatClampNeg s_slotCount))), (sq_firsts, .inl (cI, 128, .inl (upd s_firsts (s_slotCount : Int32).toNatClampNeg (-1)))), (sq_nexts, .inl (cI, 128, .inl (upd s_nexts (s_slotCount : Int32).toNatClampNeg (-1)))), (sq_names, .inl (cI, 128, .inl s_names)), (sq_fieldNames, .inl (cI, 128, .inl s_fieldNames)), (sq_amounts, .inl (cI, 128, .inl s_amounts)), (sq_fieldDefaults, .inl (cZ, 128, .inl s_fieldDefaults)), (sq_enumDefaults, .inl (cZ, 128, .inl s_enumDefaults))] := hD
    refine lv_aload_n hx hb dX6_open_55 rfl (lv_at hl 1 rfl) ?_
    refine va_get (D := (dC, dI)) (ci := 8) (v := .ref sq_names) (C := RX6) (T := TX6) (N := 12) hx hb hts (inX6 _) hown hK hP 0 rfl rfl 5 (by decide) (hts _ (List.mem_cons_of_mem _ wf6_28)) (fun _ h9 => h9) rfl dX6_open_56 ?_
    refine lv_iload_n hx hb dX6_open_59 rfl (lv_at hl 0 rfl) ?_
    refine lv_iconst (v := -1) hx hb dX6_open_60 (by decide) ?_
    obtain ⟨h6, hm⟩ := mr_bd hm
    refine va_iast hx hb hK hP hD hS 5 0 rfl rfl h6 dX6_open_61 (fun H locs hP hD hS => ?_)
    have hP : va_P (dC, dI) srCl [(obS, .inr (8, [.ref sq_plain, .ref sq_kinds, .ref sq_meant, .ref sq_firsts, .ref sq_nexts, .ref sq_names, .ref sq_fieldNames, .ref sq_amounts, .ref sq_fieldDefaults, .ref sq_enumDefaults, .int s_letterCount, .int (s_slotCount + 1)])), (sq_kinds, .inl (cI, 128, .inl (upd s_kinds (s_slotCount : Int32).toNatClampNeg (-1)))), (sq_meant, .inl (cI, 128, .inl (upd s_meant (s_slotCount : Int32).toNatClampNeg s_slotCount))), (sq_firsts, .inl (cI, 128, .inl (upd s_firsts (s_slotCount : Int32).toNatClampNeg (-1)))), (sq_nexts, .inl (cI, 128, .inl (upd s_nexts (s_slotCount : Int32).toNatClampNeg (-1)))), (sq_names, .inl (cI, 128, .inl (upd s_names (s_slotCount : Int32).toNatClampNeg (-1)))), (sq_fieldNames, .inl (cI, 128, .inl s_fieldNames)), (sq_amounts, .inl (cI, 128, .inl s_amounts)), (sq_fieldDefaults, .inl (cZ, 128, .inl s_fieldDefaults)), (sq_enumDefaults, .inl (cZ, 128, .inl s_enumDefaults))] H := hP
    have hD : va_D A [(obS, .inr (8, [.ref sq_plain, .ref sq_kinds, .ref sq_meant, .ref sq_firsts, .ref sq_nexts, .ref sq_names, .ref sq_fieldNames, .ref sq_amounts, .ref sq_fieldDefaults, .ref sq_enumDefaults, .int s_letterCount, .int (s_slotCount + 1)])), (sq_kinds, .inl (cI, 128, .inl (upd s_kinds (s_slotCount : Int32).toNatClampNeg (-1)))), (sq_meant, .inl (cI, 128, .inl (upd s_meant (s_slotCount : Int32).toNatClampNeg s_slotCount))), (sq_firsts, .inl (cI, 128, .inl (upd s_firsts (s_slotCount : Int32).toNatClampNeg (-1)))), (sq_nexts, .inl (cI, 128, .inl (upd s_nexts (s_slotCount : Int32).toNatClampNeg (-1)))), (sq_names, .inl (cI, 128, .inl (upd s_names (s_slotCount : Int32).toNatClampNeg (-1)))), (sq_fieldNames, .inl (cI, 128, .inl s_fieldNames)), (sq_amounts, .inl (cI, 128, .inl s_amounts)), (sq_fieldDefaults, .inl (cZ, 128, .inl s_fieldDefaults)), (sq_enumDefaults, .inl (cZ, 128, .inl s_enumDefaults))] := hD
    refine lv_aload_n hx hb dX6_open_62 rfl (lv_at hl 1 rfl) ?_
    refine va_get (D := (dC, dI)) (ci := 8) (v := .ref sq_fieldNames) (C := RX6) (T := TX6) (N := 12) hx hb hts (inX6 _) hown hK hP 0 rfl rfl 6 (by decide) (hts _ (List.mem_cons_of_mem _ wf6_31)) (fun _ h9 => h9) rfl dX6_open_63 ?_
    refine lv_iload_n hx hb dX6_open_66 rfl (lv_at hl 0 rfl) ?_
    refine lv_iconst (v := -1) hx hb dX6_open_67 (by decide) ?_
    obtain ⟨h7, hm⟩ := mr_bd hm
    refine va_iast hx hb hK hP hD hS 6 0 rfl rfl h7 dX6_open_68 (fun H locs hP hD hS => ?_)
    have hP : va_P (dC, dI) srCl [(obS, .inr (8, [.ref sq_plain, .ref sq_kinds, .ref sq_meant, .ref sq_firsts, .ref sq_nexts, .ref sq_names, .ref sq_fieldNames, .ref sq_amounts, .ref sq_fieldDefaults, .ref sq_enumDefaults, .int s_letterCount, .int (s_slotCount + 1)])), (sq_kinds, .inl (cI, 128, .inl (upd s_kinds (s_slotCount : Int32).toNatClampNeg (-1)))), (sq_meant, .inl (cI, 128, .inl (upd s_meant (s_slotCount : Int32).toNatClampNeg s_slotCount))), (sq_firsts, .inl (cI, 128, .inl (upd s_firsts (s_slotCount : Int32).toNatClampNeg (-1)))), (sq_nexts, .inl (cI, 128, .inl (upd s_nexts (s_slotCount : Int32).toNatClampNeg (-1)))), (sq_names, .inl (cI, 128, .inl (upd s_names (s_slotCount : Int32).toNatClampNeg (-1)))), (sq_fieldNames, .inl (cI, 128, .inl (upd s_fieldNames (s_slotCount : Int32).toNatClampNeg (-1)))), (sq_amounts, .inl (cI, 128, .inl s_amounts)), (sq_fieldDefaults, .inl (cZ, 128, .inl s_fieldDefaults)), (sq_enumDefaults, .inl (cZ, 128, .inl s_enumDefaults))] H := hP
    have hD : va_D A [(obS, .inr (8, [.ref sq_plain, .ref sq_kinds, .ref sq_meant, .ref sq_firsts, .ref sq_nexts, .ref sq_names, .ref sq_fieldNames, .ref sq_amounts, .ref sq_fieldDefaults, .ref sq_enumDefaults, .int s_letterCount, .int (s_slotCount + 1)])), (sq_kinds, .inl (cI, 128, .inl (upd s_kinds (s_slotCount : Int32).toNatClampNeg (-1)))), (sq_meant, .inl (cI, 128, .inl (upd s_meant (s_slotCount : Int32).toNatClampNeg s_slotCount))), (sq_firsts, .inl (cI, 128, .inl (upd s_firsts (s_slotCount : Int32).toNatClampNeg (-1)))), (sq_nexts, .inl (cI, 128, .inl (upd s_nexts (s_slotCount : Int32).toNatClampNeg (-1)))), (sq_names, .inl (cI, 128, .inl (upd s_names (s_slotCount : Int32).toNatClampNeg (-1)))), (sq_fieldNames, .inl (cI, 128, .inl (upd s_fieldNames (s_slotCount : Int32).toNatClampNeg (-1)))), (sq_amounts, .inl (cI, 128, .inl s_amounts)), (sq_fieldDefaults, .inl (cZ, 128, .inl s_fieldDefaults)), (sq_enumDefaults, .inl (cZ, 128, .inl s_enumDefaults))] := hD
    refine lv_aload_n hx hb dX6_open_69 rfl (lv_at hl 1 rfl) ?_
    refine va_get (D := (dC, dI)) (ci := 8) (v := .ref sq_amounts) (C := RX6) (T := TX6) (N := 12) hx hb hts (inX6 _) hown hK hP 0 rfl rfl 7 (by decide) (hts _ (List.mem_cons_of_mem _ wf6_34)) (fun _ h9 => h9) rfl dX6_open_70 ?_
    refine lv_iload_n hx hb dX6_open_73 rfl (lv_at hl 0 rfl) ?_
    refine lv_iconst (v := 0) hx hb dX6_open_74 (by decide) ?_
    obtain ⟨h8, hm⟩ := mr_bd hm
    refine va_iast hx hb hK hP hD hS 7 0 rfl rfl h8 dX6_open_75 (fun H locs hP hD hS => ?_)
    have hP : va_P (dC, dI) srCl [(obS, .inr (8, [.ref sq_plain, .ref sq_kinds, .ref sq_meant, .ref sq_firsts, .ref sq_nexts, .ref sq_names, .ref sq_fieldNames, .ref sq_amounts, .ref sq_fieldDefaults, .ref sq_enumDefaults, .int s_letterCount, .int (s_slotCount + 1)])), (sq_kinds, .inl (cI, 128, .inl (upd s_kinds (s_slotCount : Int32).toNatClampNeg (-1)))), (sq_meant, .inl (cI, 128, .inl (upd s_meant (s_slotCount : Int32).toNatClampNeg s_slotCount))), (sq_firsts, .inl (cI, 128, .inl (upd s_firsts (s_slotCount : Int32).toNatClampNeg (-1)))), (sq_nexts, .inl (cI, 128, .inl (upd s_nexts (s_slotCount : Int32).toNatClampNeg (-1)))), (sq_names, .inl (cI, 128, .inl (upd s_names (s_slotCount : Int32).toNatClampNeg (-1)))), (sq_fieldNames, .inl (cI, 128, .inl (upd s_fieldNames (s_slotCount : Int32).toNatClampNeg (-1)))), (sq_amounts, .inl (cI, 128, .inl (upd s_amounts (s_slotCount : Int32).toNatClampNeg 0))), (sq_fieldDefaults, .inl (cZ, 128, .inl s_fieldDefaults)), (sq_enumDefaults, .inl (cZ, 128, .inl s_enumDefaults))] H := hP
    have hD : va_D A [(obS, .inr (8, [.ref sq_plain, .ref sq_kinds, .ref sq_meant, .ref sq_firsts, .ref sq_nexts, .ref sq_names, .ref sq_fieldNames, .ref sq_amounts, .ref sq_fieldDefaults, .ref sq_enumDefaults, .int s_letterCount, .int (s_slotCount + 1)])), (sq_kinds, .inl (cI, 128, .inl (upd s_kinds (s_slotCount : Int32).toNatClampNeg (-1)))), (sq_meant, .inl (cI, 128, .inl (upd s_meant (s_slotCount : Int32).toNatClampNeg s_slotCount))), (sq_firsts, .inl (cI, 128, .inl (upd s_firsts (s_slotCount : Int32).toNatClampNeg (-1)))), (sq_nexts, .inl (cI, 128, .inl (upd s_nexts (s_slotCount : Int32).toNatClampNeg (-1)))), (sq_names, .inl (cI, 128, .inl (upd s_names (s_slotCount : Int32).toNatClampNeg (-1)))), (sq_fieldNames, .inl (cI, 128, .inl (upd s_fieldNames (s_slotCount : Int32).toNatClampNeg (-1)))), (sq_amounts, .inl (cI, 128, .inl (upd s_amounts (s_slotCount : Int32).toNatClampNeg 0))), (sq_fieldDefaults, .inl (cZ, 128, .inl s_fieldDefaults)), (sq_enumDefaults, .inl (cZ, 128, .inl s_enumDefaults))] := hD
    refine lv_aload_n hx hb dX6_open_76 rfl (lv_at hl 1 rfl) ?_
    refine va_get (D := (dC, dI)) (ci := 8) (v := .ref sq_fieldDefaults) (C := RX6) (T := TX6) (N := 12) hx hb hts (inX6 _) hown hK hP 0 rfl rfl 8 (by decide) (hts _ (List.mem_cons_of_mem _ wf6_37)) (fun _ h9 => h9) rfl dX6_open_77 ?_
    refine lv_iload_n hx hb dX6_open_80 rfl (lv_at hl 0 rfl) ?_
    refine lv_iconst (v := 0) hx hb dX6_open_81 (by decide) ?_
    obtain ⟨h9, hm⟩ := mr_bd hm
    refine va_zast hx hb hK hP hD hS 8 3 rfl rfl h9 dX6_open_82 (fun H locs hP hD hS => ?_)
    have hP : va_P (dC, dI) srCl [(obS, .inr (8, [.ref sq_plain, .ref sq_kinds, .ref sq_meant, .ref sq_firsts, .ref sq_nexts, .ref sq_names, .ref sq_fieldNames, .ref sq_amounts, .ref sq_fieldDefaults, .ref sq_enumDefaults, .int s_letterCount, .int (s_slotCount + 1)])), (sq_kinds, .inl (cI, 128, .inl (upd s_kinds (s_slotCount : Int32).toNatClampNeg (-1)))), (sq_meant, .inl (cI, 128, .inl (upd s_meant (s_slotCount : Int32).toNatClampNeg s_slotCount))), (sq_firsts, .inl (cI, 128, .inl (upd s_firsts (s_slotCount : Int32).toNatClampNeg (-1)))), (sq_nexts, .inl (cI, 128, .inl (upd s_nexts (s_slotCount : Int32).toNatClampNeg (-1)))), (sq_names, .inl (cI, 128, .inl (upd s_names (s_slotCount : Int32).toNatClampNeg (-1)))), (sq_fieldNames, .inl (cI, 128, .inl (upd s_fieldNames (s_slotCount : Int32).toNatClampNeg (-1)))), (sq_amounts, .inl (cI, 128, .inl (upd s_amounts (s_slotCount : Int32).toNatClampNeg 0))), (sq_fieldDefaults, .inl (cZ, 128, .inl (upd s_fieldDefaults (s_slotCount : Int32).toNatClampNeg (vp_nar .boolean 0)))), (sq_enumDefaults, .inl (cZ, 128, .inl s_enumDefaults))] H := hP
    have hD : va_D A [(obS, .inr (8, [.ref sq_plain, .ref sq_kinds, .ref sq_meant, .ref sq_firsts, .ref sq_nexts, .ref sq_names, .ref sq_fieldNames, .ref sq_amounts, .ref sq_fieldDefaults, .ref sq_enumDefaults, .int s_letterCount, .int (s_slotCount + 1)])), (sq_kinds, .inl (cI, 128, .inl (upd s_kinds (s_slotCount : Int32).toNatClampNeg (-1)))), (sq_meant, .inl (cI, 128, .inl (upd s_meant (s_slotCount : Int32).toNatClampNeg s_slotCount))), (sq_firsts, .inl (cI, 128, .inl (upd s_firsts (s_slotCount : Int32).toNatClampNeg (-1)))), (sq_nexts, .inl (cI, 128, .inl (upd s_nexts (s_slotCount : Int32).toNatClampNeg (-1)))), (sq_names, .inl (cI, 128, .inl (upd s_names (s_slotCount : Int32).toNatClampNeg (-1)))), (sq_fieldNames, .inl (cI, 128, .inl (upd s_fieldNames (s_slotCount : Int32).toNatClampNeg (-1)))), (sq_amounts, .inl (cI, 128, .inl (upd s_amounts (s_slotCount : Int32).toNatClampNeg 0))), (sq_fieldDefaults, .inl (cZ, 128, .inl (upd s_fieldDefaults (s_slotCount : Int32).toNatClampNeg (vp_nar .boolean 0)))), (sq_enumDefaults, .inl (cZ, 128, .inl s_enumDefaults))] := hD
    refine lv_aload_n hx hb dX6_open_83 rfl (lv_at hl 1 rfl) ?_
    refine va_get (D := (dC, dI)) (ci := 8) (v := .ref sq_enumDefaults) (C := RX6) (T := TX6) (N := 12) hx hb hts (inX6 _) hown hK hP 0 rfl rfl 9 (by decide) (hts _ (List.mem_cons_of_mem _ wf6_41)) (fun _ h9 => h9) rfl dX6_open_84 ?_
    refine lv_iload_n hx hb dX6_open_87 rfl (lv_at hl 0 rfl) ?_
    refine lv_iconst (v := 0) hx hb dX6_open_88 (by decide) ?_
    obtain ⟨h10, hm⟩ := mr_bd hm
    refine va_zast hx hb hK hP hD hS 9 3 rfl rfl h10 dX6_open_89 (fun H locs hP hD hS => ?_)
    have hP : va_P (dC, dI) srCl [(obS, .inr (8, [.ref sq_plain, .ref sq_kinds, .ref sq_meant, .ref sq_firsts, .ref sq_nexts, .ref sq_names, .ref sq_fieldNames, .ref sq_amounts, .ref sq_fieldDefaults, .ref sq_enumDefaults, .int s_letterCount, .int (s_slotCount + 1)])), (sq_kinds, .inl (cI, 128, .inl (upd s_kinds (s_slotCount : Int32).toNatClampNeg (-1)))), (sq_meant, .inl (cI, 128, .inl (upd s_meant (s_slotCount : Int32).toNatClampNeg s_slotCount))), (sq_firsts, .inl (cI, 128, .inl (upd s_firsts (s_slotCount : Int32).toNatClampNeg (-1)))), (sq_nexts, .inl (cI, 128, .inl (upd s_nexts (s_slotCount : Int32).toNatClampNeg (-1)))), (sq_names, .inl (cI, 128, .inl (upd s_names (s_slotCount : Int32).toNatClampNeg (-1)))), (sq_fieldNames, .inl (cI, 128, .inl (upd s_fieldNames (s_slotCount : Int32).toNatClampNeg (-1)))), (sq_amounts, .inl (cI, 128, .inl (upd s_amounts (s_slotCount : Int32).toNatClampNeg 0))), (sq_fieldDefaults, .inl (cZ, 128, .inl (upd s_fieldDefaults (s_slotCount : Int32).toNatClampNeg (vp_nar .boolean 0)))), (sq_enumDefaults, .inl (cZ, 128, .inl (upd s_enumDefaults (s_slotCount : Int32).toNatClampNeg (vp_nar .boolean 0))))] H := hP
    have hD : va_D A [(obS, .inr (8, [.ref sq_plain, .ref sq_kinds, .ref sq_meant, .ref sq_firsts, .ref sq_nexts, .ref sq_names, .ref sq_fieldNames, .ref sq_amounts, .ref sq_fieldDefaults, .ref sq_enumDefaults, .int s_letterCount, .int (s_slotCount + 1)])), (sq_kinds, .inl (cI, 128, .inl (upd s_kinds (s_slotCount : Int32).toNatClampNeg (-1)))), (sq_meant, .inl (cI, 128, .inl (upd s_meant (s_slotCount : Int32).toNatClampNeg s_slotCount))), (sq_firsts, .inl (cI, 128, .inl (upd s_firsts (s_slotCount : Int32).toNatClampNeg (-1)))), (sq_nexts, .inl (cI, 128, .inl (upd s_nexts (s_slotCount : Int32).toNatClampNeg (-1)))), (sq_names, .inl (cI, 128, .inl (upd s_names (s_slotCount : Int32).toNatClampNeg (-1)))), (sq_fieldNames, .inl (cI, 128, .inl (upd s_fieldNames (s_slotCount : Int32).toNatClampNeg (-1)))), (sq_amounts, .inl (cI, 128, .inl (upd s_amounts (s_slotCount : Int32).toNatClampNeg 0))), (sq_fieldDefaults, .inl (cZ, 128, .inl (upd s_fieldDefaults (s_slotCount : Int32).toNatClampNeg (vp_nar .boolean 0)))), (sq_enumDefaults, .inl (cZ, 128, .inl (upd s_enumDefaults (s_slotCount : Int32).toNatClampNeg (vp_nar .boolean 0))))] := hD
    refine lv_iload_n hx hb dX6_open_90 rfl (lv_at hl 0 rfl) ?_
    obtain rfl := Option.some.inj hm
    subst hQ0
    exact W.iret (v := s_slotCount) hx hb hr (fun t ht hW => ⟨⟨s_slotCount, ((upd s_kinds (s_slotCount : Int32).toNatClampNeg (-1)), (upd s_meant (s_slotCount : Int32).toNatClampNeg s_slotCount), (upd s_firsts (s_slotCount : Int32).toNatClampNeg (-1)), (upd s_nexts (s_slotCount : Int32).toNatClampNeg (-1)), (upd s_names (s_slotCount : Int32).toNatClampNeg (-1)), (upd s_fieldNames (s_slotCount : Int32).toNatClampNeg (-1)), (upd s_amounts (s_slotCount : Int32).toNatClampNeg 0), (upd s_fieldDefaults (s_slotCount : Int32).toNatClampNeg (vp_nar .boolean 0)), (upd s_enumDefaults (s_slotCount : Int32).toNatClampNeg (vp_nar .boolean 0)), (s_slotCount + 1)), rfl, ⟨rfl, rfl⟩, by rw [ht]; exact hP, va_K.moved hW.alike hK, hD⟩, hS.F ht⟩) hS.2.2 dX6_open_91
  · have hm := mr_un c1 hm
    refine lv_iconst (v := -1) hx hb dX6_open_10 (by decide) ?_
    obtain rfl := Option.some.inj hm
    subst hQ0
    exact W.iret (v := (-1)) hx hb hr (fun t ht hW => ⟨⟨(-1), (s_kinds, s_meant, s_firsts, s_nexts, s_names, s_fieldNames, s_amounts, s_fieldDefaults, s_enumDefaults, s_slotCount), rfl, ⟨rfl, rfl⟩, by rw [ht]; exact hP, va_K.moved hW.alike hK, hD⟩, hS.F ht⟩) hS.2.2 dX6_open_11
set_option maxHeartbeats 4000000 in
set_option maxRecDepth 100000 in
theorem kX6_meant (l : Launch) (htr : l.stackTraces = false) (dC : Nat → ClassId) (dI : Nat → Nat → Nat) (adK adV : Nat → Nat) (cI cB cJ cZ cQ : ClassId) (obS sq_plain sq_kinds sq_meant sq_firsts sq_nexts sq_names sq_fieldNames sq_amounts sq_fieldDefaults sq_enumDefaults : Nat) (s_letterCount : Int32) (s_slotCount : Int32) (s_meant : Nat → Int32) (a0 : Int32) (res : Int32) (hm : m_X6_meant s_meant a0 = some res) : Met l yX6_meant wsX6_meant (rmX6_meant 0 0) (pcR (sr_Z adK adV) (dC, dI) srCl [(cI, .int), (cB, .byte), (cJ, .long), (cZ, .boolean), (cQ, .object "SchemaReader$Schema")] [.ref obS, .int a0] [(obS, .inr (8, [.ref sq_plain, .ref sq_kinds, .ref sq_meant, .ref sq_firsts, .ref sq_nexts, .ref sq_names, .ref sq_fieldNames, .ref sq_amounts, .ref sq_fieldDefaults, .ref sq_enumDefaults, .int s_letterCount, .int s_slotCount])), (sq_meant, .inl (cI, 128, .inl s_meant))]) (k2_QcV (.int res)) 0 0 (fun _ => False) := by
  refine Met.ofW (cc := cX6_meant) (maxL := 2) (ret := (some .int)) (by decide) rfl ?_
  intro p e s m args below meth c s₁ B hml hv
  obtain ⟨rfl, hP, hK, hz0⟩ := hv
  have hx := B.exec
  have hb := B.bytes
  have hr := B.returns
  have hts := atoms_spec (ws := wsX6_meant) B.pre
  have hown : s.vm.findClass RX6 = some m.cls := findClass_of_methodNamed B.named
  have hlocks := B.notSynchronized
  have hS : va_S (fun _ => False) s.heap s.heap [] := va_S.rf
  generalize hQ0 : MQ below (k2_QcV (.int res)) [.ref obS, .int a0].toArray s 0 0 (fun _ => False) = Q0
  have hl := lv_entry [.ref obS, .int a0] (n := 2) (Nat.le_of_ble_eq_true rfl)
  rw [lg_entry_eq]
  generalize (lg_sl [.ref obS, .int a0] ++ List.replicate (2 - (lg_sl [.ref obS, .int a0]).length) Slot.unset).toArray = ls at hl ⊢
  have hl : lv_has ls 2 [(0, .ref obS), (1, .int a0)] := hl
  unfold m_X6_meant at hm
  refine lv_aload_n hx hb dX6_meant_0 rfl (lv_at hl 0 rfl) ?_
  refine va_get (D := (dC, dI)) (ci := 8) (v := .ref sq_meant) (C := RX6) (T := TX6) (N := 12) hx hb hts (inX6 _) hown hK hP 0 rfl rfl 2 (by decide) (hts _ (List.mem_cons_of_mem _ wf6_19)) (fun _ h9 => h9) rfl dX6_meant_1 ?_
  refine lv_iload_n hx hb dX6_meant_4 rfl (lv_at hl 1 rfl) ?_
  obtain ⟨r1, hz1, hm⟩ := mr_bind hm
  refine mr_pSN (As := [.ref sq_meant, .int a0]) (rest := []) (sr_okZ adK adV) ⟨hx, hb, hml, hown, hts⟩ (kX8_entry l htr dC dI adK adV cI cB cJ cZ cQ sq_meant s_meant 128 a0 r1 hz1) (sr_cnS 2 hts rfl gn6_51.1 (hz0.2.2.2.2.2.2.1 _ gn6_51.2) rfl rfl (by decide +kernel) ⟨(by show 0 + 1 ≤ 1; omega), (by show 8 + (2 + 11) + (0) ≤ 21; omega)⟩) hS hP hK hz0 [1] rfl rfl rfl hl.1 (Nat.le_of_ble_eq_true rfl) dX6_meant_5 ⟨Nat.zero_le _, Nat.zero_le _⟩ ?_
  obtain rfl := Option.some.inj hm
  subst hQ0
  exact W.iret (v := r1) hx hb hr (fun t ht hW => ⟨rfl, ht⟩) (fun q h => by cases h) dX6_meant_8
set_option maxHeartbeats 4000000 in
set_option maxRecDepth 100000 in
theorem kX6_kind (l : Launch) (htr : l.stackTraces = false) (dC : Nat → ClassId) (dI : Nat → Nat → Nat) (adK adV : Nat → Nat) (cI cB cJ cZ cQ : ClassId) (obS sq_plain sq_kinds sq_meant sq_firsts sq_nexts sq_names sq_fieldNames sq_amounts sq_fieldDefaults sq_enumDefaults : Nat) (s_letterCount : Int32) (s_slotCount : Int32) (s_kinds : Nat → Int32) (s_meant : Nat → Int32) (a0 : Int32) (res : Int32) (hm : m_X6_kind s_kinds s_meant a0 = some res) : Met l yX6_kind wsX6_kind (rmX6_kind 0 0) (pcR (sr_Z adK adV) (dC, dI) srCl [(cI, .int), (cB, .byte), (cJ, .long), (cZ, .boolean), (cQ, .object "SchemaReader$Schema")] [.ref obS, .int a0] [(obS, .inr (8, [.ref sq_plain, .ref sq_kinds, .ref sq_meant, .ref sq_firsts, .ref sq_nexts, .ref sq_names, .ref sq_fieldNames, .ref sq_amounts, .ref sq_fieldDefaults, .ref sq_enumDefaults, .int s_letterCount, .int s_slotCount])), (sq_kinds, .inl (cI, 128, .inl s_kinds)), (sq_meant, .inl (cI, 128, .inl s_meant))]) (k2_QcV (.int res)) 0 0 (fun _ => False) := by
  refine Met.ofW (cc := cX6_kind) (maxL := 2) (ret := (some .int)) (by decide) rfl ?_
  intro p e s m args below meth c s₁ B hml hv
  obtain ⟨rfl, hP, hK, hz0⟩ := hv
  have hx := B.exec
  have hb := B.bytes
  have hr := B.returns
  have hts := atoms_spec (ws := wsX6_kind) B.pre
  have hown : s.vm.findClass RX6 = some m.cls := findClass_of_methodNamed B.named
  have hlocks := B.notSynchronized
  have hS : va_S (fun _ => False) s.heap s.heap [] := va_S.rf
  generalize hQ0 : MQ below (k2_QcV (.int res)) [.ref obS, .int a0].toArray s 0 0 (fun _ => False) = Q0
  have hl := lv_entry [.ref obS, .int a0] (n := 2) (Nat.le_of_ble_eq_true rfl)
  rw [lg_entry_eq]
  generalize (lg_sl [.ref obS, .int a0] ++ List.replicate (2 - (lg_sl [.ref obS, .int a0]).length) Slot.unset).toArray = ls at hl ⊢
  have hl : lv_has ls 2 [(0, .ref obS), (1, .int a0)] := hl
  unfold m_X6_kind at hm
  refine lv_aload_n hx hb dX6_kind_0 rfl (lv_at hl 0 rfl) ?_
  refine va_get (D := (dC, dI)) (ci := 8) (v := .ref sq_kinds) (C := RX6) (T := TX6) (N := 12) hx hb hts (inX6 _) hown hK hP 0 rfl rfl 1 (by decide) (hts _ (List.mem_cons_of_mem _ wf6_15)) (fun _ h9 => h9) rfl dX6_kind_1 ?_
  refine lv_aload_n hx hb dX6_kind_4 rfl (lv_at hl 0 rfl) ?_
  refine va_get (D := (dC, dI)) (ci := 8) (v := .ref sq_meant) (C := RX6) (T := TX6) (N := 12) hx hb hts (inX6 _) hown hK hP 0 rfl rfl 2 (by decide) (hts _ (List.mem_cons_of_mem _ wf6_19)) (fun _ h9 => h9) rfl dX6_kind_5 ?_
  refine lv_iload_n hx hb dX6_kind_8 rfl (lv_at hl 1 rfl) ?_
  obtain ⟨r1, hz1, hm⟩ := mr_bind hm
  refine mr_pSN (As := [.ref sq_meant, .int a0]) (rest := [.ref sq_kinds]) (sr_okZ adK adV) ⟨hx, hb, hml, hown, hts⟩ (kX8_entry l htr dC dI adK adV cI cB cJ cZ cQ sq_meant s_meant 128 a0 r1 hz1) (sr_cnS 2 hts rfl gn6_51.1 (hz0.2.2.2.2.2.2.1 _ gn6_51.2) rfl rfl (by decide +kernel) ⟨(by show 0 + 1 ≤ 1; omega), (by show 8 + (2 + 11) + (0) ≤ 21; omega)⟩) hS hP hK hz0 [2] rfl rfl rfl hl.1 (Nat.le_of_ble_eq_true rfl) dX6_kind_9 ⟨Nat.zero_le _, Nat.zero_le _⟩ ?_
  obtain ⟨r2, hz2, hm⟩ := mr_bind hm
  refine mr_pSN (As := [.ref sq_kinds, .int r1]) (rest := []) (sr_okZ adK adV) ⟨hx, hb, hml, hown, hts⟩ (kX8_entry l htr dC dI adK adV cI cB cJ cZ cQ sq_kinds s_kinds 128 r1 r2 hz2) (sr_cnS 2 hts rfl gn6_51.1 (hz0.2.2.2.2.2.2.1 _ gn6_51.2) rfl rfl (by decide +kernel) ⟨(by show 0 + 1 ≤ 1; omega), (by show 8 + (2 + 11) + (0) ≤ 21; omega)⟩) hS hP hK hz0 [1] rfl rfl rfl hl.1 (Nat.le_of_ble_eq_true rfl) dX6_kind_12 ⟨Nat.zero_le _, Nat.zero_le _⟩ ?_
  obtain rfl := Option.some.inj hm
  subst hQ0
  exact W.iret (v := r2) hx hb hr (fun t ht hW => ⟨rfl, ht⟩) (fun q h => by cases h) dX6_kind_15
set_option maxHeartbeats 4000000 in
set_option maxRecDepth 100000 in
theorem kX6_first (l : Launch) (htr : l.stackTraces = false) (dC : Nat → ClassId) (dI : Nat → Nat → Nat) (adK adV : Nat → Nat) (cI cB cJ cZ cQ : ClassId) (obS sq_plain sq_kinds sq_meant sq_firsts sq_nexts sq_names sq_fieldNames sq_amounts sq_fieldDefaults sq_enumDefaults : Nat) (s_letterCount : Int32) (s_slotCount : Int32) (s_meant : Nat → Int32) (s_firsts : Nat → Int32) (a0 : Int32) (res : Int32) (hm : m_X6_first s_meant s_firsts a0 = some res) : Met l yX6_first wsX6_first (rmX6_first 0 0) (pcR (sr_Z adK adV) (dC, dI) srCl [(cI, .int), (cB, .byte), (cJ, .long), (cZ, .boolean), (cQ, .object "SchemaReader$Schema")] [.ref obS, .int a0] [(obS, .inr (8, [.ref sq_plain, .ref sq_kinds, .ref sq_meant, .ref sq_firsts, .ref sq_nexts, .ref sq_names, .ref sq_fieldNames, .ref sq_amounts, .ref sq_fieldDefaults, .ref sq_enumDefaults, .int s_letterCount, .int s_slotCount])), (sq_meant, .inl (cI, 128, .inl s_meant)), (sq_firsts, .inl (cI, 128, .inl s_firsts))]) (k2_QcV (.int res)) 0 0 (fun _ => False) := by
  refine Met.ofW (cc := cX6_first) (maxL := 2) (ret := (some .int)) (by decide) rfl ?_
  intro p e s m args below meth c s₁ B hml hv
  obtain ⟨rfl, hP, hK, hz0⟩ := hv
  have hx := B.exec
  have hb := B.bytes
  have hr := B.returns
  have hts := atoms_spec (ws := wsX6_first) B.pre
  have hown : s.vm.findClass RX6 = some m.cls := findClass_of_methodNamed B.named
  have hlocks := B.notSynchronized
  have hS : va_S (fun _ => False) s.heap s.heap [] := va_S.rf
  generalize hQ0 : MQ below (k2_QcV (.int res)) [.ref obS, .int a0].toArray s 0 0 (fun _ => False) = Q0
  have hl := lv_entry [.ref obS, .int a0] (n := 2) (Nat.le_of_ble_eq_true rfl)
  rw [lg_entry_eq]
  generalize (lg_sl [.ref obS, .int a0] ++ List.replicate (2 - (lg_sl [.ref obS, .int a0]).length) Slot.unset).toArray = ls at hl ⊢
  have hl : lv_has ls 2 [(0, .ref obS), (1, .int a0)] := hl
  unfold m_X6_first at hm
  refine lv_aload_n hx hb dX6_first_0 rfl (lv_at hl 0 rfl) ?_
  refine va_get (D := (dC, dI)) (ci := 8) (v := .ref sq_firsts) (C := RX6) (T := TX6) (N := 12) hx hb hts (inX6 _) hown hK hP 0 rfl rfl 3 (by decide) (hts _ (List.mem_cons_of_mem _ wf6_22)) (fun _ h9 => h9) rfl dX6_first_1 ?_
  refine lv_aload_n hx hb dX6_first_4 rfl (lv_at hl 0 rfl) ?_
  refine va_get (D := (dC, dI)) (ci := 8) (v := .ref sq_meant) (C := RX6) (T := TX6) (N := 12) hx hb hts (inX6 _) hown hK hP 0 rfl rfl 2 (by decide) (hts _ (List.mem_cons_of_mem _ wf6_19)) (fun _ h9 => h9) rfl dX6_first_5 ?_
  refine lv_iload_n hx hb dX6_first_8 rfl (lv_at hl 1 rfl) ?_
  obtain ⟨r1, hz1, hm⟩ := mr_bind hm
  refine mr_pSN (As := [.ref sq_meant, .int a0]) (rest := [.ref sq_firsts]) (sr_okZ adK adV) ⟨hx, hb, hml, hown, hts⟩ (kX8_entry l htr dC dI adK adV cI cB cJ cZ cQ sq_meant s_meant 128 a0 r1 hz1) (sr_cnS 2 hts rfl gn6_51.1 (hz0.2.2.2.2.2.2.1 _ gn6_51.2) rfl rfl (by decide +kernel) ⟨(by show 0 + 1 ≤ 1; omega), (by show 8 + (2 + 11) + (0) ≤ 21; omega)⟩) hS hP hK hz0 [1] rfl rfl rfl hl.1 (Nat.le_of_ble_eq_true rfl) dX6_first_9 ⟨Nat.zero_le _, Nat.zero_le _⟩ ?_
  obtain ⟨r2, hz2, hm⟩ := mr_bind hm
  refine mr_pSN (As := [.ref sq_firsts, .int r1]) (rest := []) (sr_okZ adK adV) ⟨hx, hb, hml, hown, hts⟩ (kX8_entry l htr dC dI adK adV cI cB cJ cZ cQ sq_firsts s_firsts 128 r1 r2 hz2) (sr_cnS 2 hts rfl gn6_51.1 (hz0.2.2.2.2.2.2.1 _ gn6_51.2) rfl rfl (by decide +kernel) ⟨(by show 0 + 1 ≤ 1; omega), (by show 8 + (2 + 11) + (0) ≤ 21; omega)⟩) hS hP hK hz0 [2] rfl rfl rfl hl.1 (Nat.le_of_ble_eq_true rfl) dX6_first_12 ⟨Nat.zero_le _, Nat.zero_le _⟩ ?_
  obtain rfl := Option.some.inj hm
  subst hQ0
  exact W.iret (v := r2) hx hb hr (fun t ht hW => ⟨rfl, ht⟩) (fun q h => by cases h) dX6_first_15
set_option maxHeartbeats 4000000 in
set_option maxRecDepth 100000 in
theorem kX6_next (l : Launch) (htr : l.stackTraces = false) (dC : Nat → ClassId) (dI : Nat → Nat → Nat) (adK adV : Nat → Nat) (cI cB cJ cZ cQ : ClassId) (obS sq_plain sq_kinds sq_meant sq_firsts sq_nexts sq_names sq_fieldNames sq_amounts sq_fieldDefaults sq_enumDefaults : Nat) (s_letterCount : Int32) (s_slotCount : Int32) (s_nexts : Nat → Int32) (a0 : Int32) (res : Int32) (hm : m_X6_next s_nexts a0 = some res) : Met l yX6_next wsX6_next (rmX6_next 0 0) (pcR (sr_Z adK adV) (dC, dI) srCl [(cI, .int), (cB, .byte), (cJ, .long), (cZ, .boolean), (cQ, .object "SchemaReader$Schema")] [.ref obS, .int a0] [(obS, .inr (8, [.ref sq_plain, .ref sq_kinds, .ref sq_meant, .ref sq_firsts, .ref sq_nexts, .ref sq_names, .ref sq_fieldNames, .ref sq_amounts, .ref sq_fieldDefaults, .ref sq_enumDefaults, .int s_letterCount, .int s_slotCount])), (sq_nexts, .inl (cI, 128, .inl s_nexts))]) (k2_QcV (.int res)) 0 0 (fun _ => False) := by
  refine Met.ofW (cc := cX6_next) (maxL := 2) (ret := (some .int)) (by decide) rfl ?_
  intro p e s m args below meth c s₁ B hml hv
  obtain ⟨rfl, hP, hK, hz0⟩ := hv
  have hx := B.exec
  have hb := B.bytes
  have hr := B.returns
  have hts := atoms_spec (ws := wsX6_next) B.pre
  have hown : s.vm.findClass RX6 = some m.cls := findClass_of_methodNamed B.named
  have hlocks := B.notSynchronized
  have hS : va_S (fun _ => False) s.heap s.heap [] := va_S.rf
  generalize hQ0 : MQ below (k2_QcV (.int res)) [.ref obS, .int a0].toArray s 0 0 (fun _ => False) = Q0
  have hl := lv_entry [.ref obS, .int a0] (n := 2) (Nat.le_of_ble_eq_true rfl)
  rw [lg_entry_eq]
  generalize (lg_sl [.ref obS, .int a0] ++ List.replicate (2 - (lg_sl [.ref obS, .int a0]).length) Slot.unset).toArray = ls at hl ⊢
  have hl : lv_has ls 2 [(0, .ref obS), (1, .int a0)] := hl
  unfold m_X6_next at hm
  refine lv_aload_n hx hb dX6_next_0 rfl (lv_at hl 0 rfl) ?_
  refine va_get (D := (dC, dI)) (ci := 8) (v := .ref sq_nexts) (C := RX6) (T := TX6) (N := 12) hx hb hts (inX6 _) hown hK hP 0 rfl rfl 4 (by decide) (hts _ (List.mem_cons_of_mem _ wf6_25)) (fun _ h9 => h9) rfl dX6_next_1 ?_
  refine lv_iload_n hx hb dX6_next_4 rfl (lv_at hl 1 rfl) ?_
  obtain ⟨r1, hz1, hm⟩ := mr_bind hm
  refine mr_pSN (As := [.ref sq_nexts, .int a0]) (rest := []) (sr_okZ adK adV) ⟨hx, hb, hml, hown, hts⟩ (kX8_entry l htr dC dI adK adV cI cB cJ cZ cQ sq_nexts s_nexts 128 a0 r1 hz1) (sr_cnS 2 hts rfl gn6_51.1 (hz0.2.2.2.2.2.2.1 _ gn6_51.2) rfl rfl (by decide +kernel) ⟨(by show 0 + 1 ≤ 1; omega), (by show 8 + (2 + 11) + (0) ≤ 21; omega)⟩) hS hP hK hz0 [1] rfl rfl rfl hl.1 (Nat.le_of_ble_eq_true rfl) dX6_next_5 ⟨Nat.zero_le _, Nat.zero_le _⟩ ?_
  obtain rfl := Option.some.inj hm
  subst hQ0
  exact W.iret (v := r1) hx hb hr (fun t ht hW => ⟨rfl, ht⟩) (fun q h => by cases h) dX6_next_8
set_option maxHeartbeats 4000000 in
set_option maxRecDepth 100000 in
theorem kX6_amount (l : Launch) (htr : l.stackTraces = false) (dC : Nat → ClassId) (dI : Nat → Nat → Nat) (adK adV : Nat → Nat) (cI cB cJ cZ cQ : ClassId) (obS sq_plain sq_kinds sq_meant sq_firsts sq_nexts sq_names sq_fieldNames sq_amounts sq_fieldDefaults sq_enumDefaults : Nat) (s_letterCount : Int32) (s_slotCount : Int32) (s_meant : Nat → Int32) (s_amounts : Nat → Int32) (a0 : Int32) (res : Int32) (hm : m_X6_amount s_meant s_amounts a0 = some res) : Met l yX6_amount wsX6_amount (rmX6_amount 0 0) (pcR (sr_Z adK adV) (dC, dI) srCl [(cI, .int), (cB, .byte), (cJ, .long), (cZ, .boolean), (cQ, .object "SchemaReader$Schema")] [.ref obS, .int a0] [(obS, .inr (8, [.ref sq_plain, .ref sq_kinds, .ref sq_meant, .ref sq_firsts, .ref sq_nexts, .ref sq_names, .ref sq_fieldNames, .ref sq_amounts, .ref sq_fieldDefaults, .ref sq_enumDefaults, .int s_letterCount, .int s_slotCount])), (sq_meant, .inl (cI, 128, .inl s_meant)), (sq_amounts, .inl (cI, 128, .inl s_amounts))]) (k2_QcV (.int res)) 0 0 (fun _ => False) := by
  refine Met.ofW (cc := cX6_amount) (maxL := 2) (ret := (some .int)) (by decide) rfl ?_
  intro p e s m args below meth c s₁ B hml hv
  obtain ⟨rfl, hP, hK, hz0⟩ := hv
  have hx := B.exec
  have hb := B.bytes
  have hr := B.returns
  have hts := atoms_spec (ws := wsX6_amount) B.pre
  have hown : s.vm.findClass RX6 = some m.cls := findClass_of_methodNamed B.named
  have hlocks := B.notSynchronized
  have hS : va_S (fun _ => False) s.heap s.heap [] := va_S.rf
  generalize hQ0 : MQ below (k2_QcV (.int res)) [.ref obS, .int a0].toArray s 0 0 (fun _ => False) = Q0
  have hl := lv_entry [.ref obS, .int a0] (n := 2) (Nat.le_of_ble_eq_true rfl)
  rw [lg_entry_eq]
  generalize (lg_sl [.ref obS, .int a0] ++ List.replicate (2 - (lg_sl [.ref obS, .int a0]).length) Slot.unset).toArray = ls at hl ⊢
  have hl : lv_has ls 2 [(0, .ref obS), (1, .int a0)] := hl
  unfold m_X6_amount at hm
  refine lv_aload_n hx hb dX6_amount_0 rfl (lv_at hl 0 rfl) ?_
  refine va_get (D := (dC, dI)) (ci := 8) (v := .ref sq_amounts) (C := RX6) (T := TX6) (N := 12) hx hb hts (inX6 _) hown hK hP 0 rfl rfl 7 (by decide) (hts _ (List.mem_cons_of_mem _ wf6_34)) (fun _ h9 => h9) rfl dX6_amount_1 ?_
  refine lv_aload_n hx hb dX6_amount_4 rfl (lv_at hl 0 rfl) ?_
  refine va_get (D := (dC, dI)) (ci := 8) (v := .ref sq_meant) (C := RX6) (T := TX6) (N := 12) hx hb hts (inX6 _) hown hK hP 0 rfl rfl 2 (by decide) (hts _ (List.mem_cons_of_mem _ wf6_19)) (fun _ h9 => h9) rfl dX6_amount_5 ?_
  refine lv_iload_n hx hb dX6_amount_8 rfl (lv_at hl 1 rfl) ?_
  obtain ⟨r1, hz1, hm⟩ := mr_bind hm
  refine mr_pSN (As := [.ref sq_meant, .int a0]) (rest := [.ref sq_amounts]) (sr_okZ adK adV) ⟨hx, hb, hml, hown, hts⟩ (kX8_entry l htr dC dI adK adV cI cB cJ cZ cQ sq_meant s_meant 128 a0 r1 hz1) (sr_cnS 2 hts rfl gn6_51.1 (hz0.2.2.2.2.2.2.1 _ gn6_51.2) rfl rfl (by decide +kernel) ⟨(by show 0 + 1 ≤ 1; omega), (by show 8 + (2 + 11) + (0) ≤ 21; omega)⟩) hS hP hK hz0 [1] rfl rfl rfl hl.1 (Nat.le_of_ble_eq_true rfl) dX6_amount_9 ⟨Nat.zero_le _, Nat.zero_le _⟩ ?_
  obtain ⟨r2, hz2, hm⟩ := mr_bind hm
  refine mr_pSN (As := [.ref sq_amounts, .int r1]) (rest := []) (sr_okZ adK adV) ⟨hx, hb, hml, hown, hts⟩ (kX8_entry l htr dC dI adK adV cI cB cJ cZ cQ sq_amounts s_amounts 128 r1 r2 hz2) (sr_cnS 2 hts rfl gn6_51.1 (hz0.2.2.2.2.2.2.1 _ gn6_51.2) rfl rfl (by decide +kernel) ⟨(by show 0 + 1 ≤ 1; omega), (by show 8 + (2 + 11) + (0) ≤ 21; omega)⟩) hS hP hK hz0 [2] rfl rfl rfl hl.1 (Nat.le_of_ble_eq_true rfl) dX6_amount_12 ⟨Nat.zero_le _, Nat.zero_le _⟩ ?_
  obtain rfl := Option.some.inj hm
  subst hQ0
  exact W.iret (v := r2) hx hb hr (fun t ht hW => ⟨rfl, ht⟩) (fun q h => by cases h) dX6_amount_15
set_option maxHeartbeats 4000000 in
set_option maxRecDepth 100000 in
theorem kX6_name (l : Launch) (htr : l.stackTraces = false) (dC : Nat → ClassId) (dI : Nat → Nat → Nat) (adK adV : Nat → Nat) (cI cB cJ cZ cQ : ClassId) (obS sq_plain sq_kinds sq_meant sq_firsts sq_nexts sq_names sq_fieldNames sq_amounts sq_fieldDefaults sq_enumDefaults : Nat) (s_letterCount : Int32) (s_slotCount : Int32) (s_meant : Nat → Int32) (s_names : Nat → Int32) (a0 : Int32) (res : Int32) (hm : m_X6_name s_meant s_names a0 = some res) : Met l yX6_name wsX6_name (rmX6_name 0 0) (pcR (sr_Z adK adV) (dC, dI) srCl [(cI, .int), (cB, .byte), (cJ, .long), (cZ, .boolean), (cQ, .object "SchemaReader$Schema")] [.ref obS, .int a0] [(obS, .inr (8, [.ref sq_plain, .ref sq_kinds, .ref sq_meant, .ref sq_firsts, .ref sq_nexts, .ref sq_names, .ref sq_fieldNames, .ref sq_amounts, .ref sq_fieldDefaults, .ref sq_enumDefaults, .int s_letterCount, .int s_slotCount])), (sq_meant, .inl (cI, 128, .inl s_meant)), (sq_names, .inl (cI, 128, .inl s_names))]) (k2_QcV (.int res)) 0 0 (fun _ => False) := by
  refine Met.ofW (cc := cX6_name) (maxL := 2) (ret := (some .int)) (by decide) rfl ?_
  intro p e s m args below meth c s₁ B hml hv
  obtain ⟨rfl, hP, hK, hz0⟩ := hv
  have hx := B.exec
  have hb := B.bytes
  have hr := B.returns
  have hts := atoms_spec (ws := wsX6_name) B.pre
  have hown : s.vm.findClass RX6 = some m.cls := findClass_of_methodNamed B.named
  have hlocks := B.notSynchronized
  have hS : va_S (fun _ => False) s.heap s.heap [] := va_S.rf
  generalize hQ0 : MQ below (k2_QcV (.int res)) [.ref obS, .int a0].toArray s 0 0 (fun _ => False) = Q0
  have hl := lv_entry [.ref obS, .int a0] (n := 2) (Nat.le_of_ble_eq_true rfl)
  rw [lg_entry_eq]
  generalize (lg_sl [.ref obS, .int a0] ++ List.replicate (2 - (lg_sl [.ref obS, .int a0]).length) Slot.unset).toArray = ls at hl ⊢
  have hl : lv_has ls 2 [(0, .ref obS), (1, .int a0)] := hl
  unfold m_X6_name at hm
  refine lv_aload_n hx hb dX6_name_0 rfl (lv_at hl 0 rfl) ?_
  refine va_get (D := (dC, dI)) (ci := 8) (v := .ref sq_names) (C := RX6) (T := TX6) (N := 12) hx hb hts (inX6 _) hown hK hP 0 rfl rfl 5 (by decide) (hts _ (List.mem_cons_of_mem _ wf6_28)) (fun _ h9 => h9) rfl dX6_name_1 ?_
  refine lv_aload_n hx hb dX6_name_4 rfl (lv_at hl 0 rfl) ?_
  refine va_get (D := (dC, dI)) (ci := 8) (v := .ref sq_meant) (C := RX6) (T := TX6) (N := 12) hx hb hts (inX6 _) hown hK hP 0 rfl rfl 2 (by decide) (hts _ (List.mem_cons_of_mem _ wf6_19)) (fun _ h9 => h9) rfl dX6_name_5 ?_
  refine lv_iload_n hx hb dX6_name_8 rfl (lv_at hl 1 rfl) ?_
  obtain ⟨r1, hz1, hm⟩ := mr_bind hm
  refine mr_pSN (As := [.ref sq_meant, .int a0]) (rest := [.ref sq_names]) (sr_okZ adK adV) ⟨hx, hb, hml, hown, hts⟩ (kX8_entry l htr dC dI adK adV cI cB cJ cZ cQ sq_meant s_meant 128 a0 r1 hz1) (sr_cnS 2 hts rfl gn6_51.1 (hz0.2.2.2.2.2.2.1 _ gn6_51.2) rfl rfl (by decide +kernel) ⟨(by show 0 + 1 ≤ 1; omega), (by show 8 + (2 + 11) + (0) ≤ 21; omega)⟩) hS hP hK hz0 [1] rfl rfl rfl hl.1 (Nat.le_of_ble_eq_true rfl) dX6_name_9 ⟨Nat.zero_le _, Nat.zero_le _⟩ ?_
  obtain ⟨r2, hz2, hm⟩ := mr_bind hm
  refine mr_pSN (As := [.ref sq_names, .int r1]) (rest := []) (sr_okZ adK adV) ⟨hx, hb, hml, hown, hts⟩ (kX8_entry l htr dC dI adK adV cI cB cJ cZ cQ sq_names s_names 128 r1 r2 hz2) (sr_cnS 2 hts rfl gn6_51.1 (hz0.2.2.2.2.2.2.1 _ gn6_51.2) rfl rfl (by decide +kernel) ⟨(by show 0 + 1 ≤ 1; omega), (by show 8 + (2 + 11) + (0) ≤ 21; omega)⟩) hS hP hK hz0 [2] rfl rfl rfl hl.1 (Nat.le_of_ble_eq_true rfl) dX6_name_12 ⟨Nat.zero_le _, Nat.zero_le _⟩ ?_
  obtain rfl := Option.some.inj hm
  subst hQ0
  exact W.iret (v := r2) hx hb hr (fun t ht hW => ⟨rfl, ht⟩) (fun q h => by cases h) dX6_name_15
set_option maxHeartbeats 4000000 in
set_option maxRecDepth 100000 in
theorem kX6_fieldName (l : Launch) (htr : l.stackTraces = false) (dC : Nat → ClassId) (dI : Nat → Nat → Nat) (adK adV : Nat → Nat) (cI cB cJ cZ cQ : ClassId) (obS sq_plain sq_kinds sq_meant sq_firsts sq_nexts sq_names sq_fieldNames sq_amounts sq_fieldDefaults sq_enumDefaults : Nat) (s_letterCount : Int32) (s_slotCount : Int32) (s_fieldNames : Nat → Int32) (a0 : Int32) (res : Int32) (hm : m_X6_fieldName s_fieldNames a0 = some res) : Met l yX6_fieldName wsX6_fieldName (rmX6_fieldName 0 0) (pcR (sr_Z adK adV) (dC, dI) srCl [(cI, .int), (cB, .byte), (cJ, .long), (cZ, .boolean), (cQ, .object "SchemaReader$Schema")] [.ref obS, .int a0] [(obS, .inr (8, [.ref sq_plain, .ref sq_kinds, .ref sq_meant, .ref sq_firsts, .ref sq_nexts, .ref sq_names, .ref sq_fieldNames, .ref sq_amounts, .ref sq_fieldDefaults, .ref sq_enumDefaults, .int s_letterCount, .int s_slotCount])), (sq_fieldNames, .inl (cI, 128, .inl s_fieldNames))]) (k2_QcV (.int res)) 0 0 (fun _ => False) := by
  refine Met.ofW (cc := cX6_fieldName) (maxL := 2) (ret := (some .int)) (by decide) rfl ?_
  intro p e s m args below meth c s₁ B hml hv
  obtain ⟨rfl, hP, hK, hz0⟩ := hv
  have hx := B.exec
  have hb := B.bytes
  have hr := B.returns
  have hts := atoms_spec (ws := wsX6_fieldName) B.pre
  have hown : s.vm.findClass RX6 = some m.cls := findClass_of_methodNamed B.named
  have hlocks := B.notSynchronized
  have hS : va_S (fun _ => False) s.heap s.heap [] := va_S.rf
  generalize hQ0 : MQ below (k2_QcV (.int res)) [.ref obS, .int a0].toArray s 0 0 (fun _ => False) = Q0
  have hl := lv_entry [.ref obS, .int a0] (n := 2) (Nat.le_of_ble_eq_true rfl)
  rw [lg_entry_eq]
  generalize (lg_sl [.ref obS, .int a0] ++ List.replicate (2 - (lg_sl [.ref obS, .int a0]).length) Slot.unset).toArray = ls at hl ⊢
  have hl : lv_has ls 2 [(0, .ref obS), (1, .int a0)] := hl
  unfold m_X6_fieldName at hm
  refine lv_aload_n hx hb dX6_fieldName_0 rfl (lv_at hl 0 rfl) ?_
  refine va_get (D := (dC, dI)) (ci := 8) (v := .ref sq_fieldNames) (C := RX6) (T := TX6) (N := 12) hx hb hts (inX6 _) hown hK hP 0 rfl rfl 6 (by decide) (hts _ (List.mem_cons_of_mem _ wf6_31)) (fun _ h9 => h9) rfl dX6_fieldName_1 ?_
  refine lv_iload_n hx hb dX6_fieldName_4 rfl (lv_at hl 1 rfl) ?_
  obtain ⟨r1, hz1, hm⟩ := mr_bind hm
  refine mr_pSN (As := [.ref sq_fieldNames, .int a0]) (rest := []) (sr_okZ adK adV) ⟨hx, hb, hml, hown, hts⟩ (kX8_entry l htr dC dI adK adV cI cB cJ cZ cQ sq_fieldNames s_fieldNames 128 a0 r1 hz1) (sr_cnS 2 hts rfl gn6_51.1 (hz0.2.2.2.2.2.2.1 _ gn6_51.2) rfl rfl (by decide +kernel) ⟨(by show 0 + 1 ≤ 1; omega), (by show 8 + (2 + 11) + (0) ≤ 21; omega)⟩) hS hP hK hz0 [1] rfl rfl rfl hl.1 (Nat.le_of_ble_eq_true rfl) dX6_fieldName_5 ⟨Nat.zero_le _, Nat.zero_le _⟩ ?_
  obtain rfl := Option.some.inj hm
  subst hQ0
  exact W.iret (v := r1) hx hb hr (fun t ht hW => ⟨rfl, ht⟩) (fun q h => by cases h) dX6_fieldName_8
set_option maxHeartbeats 4000000 in
set_option maxRecDepth 100000 in
theorem kX6_hasFieldDefault (l : Launch) (htr : l.stackTraces = false) (dC : Nat → ClassId) (dI : Nat → Nat → Nat) (adK adV : Nat → Nat) (cI cB cJ cZ cQ : ClassId) (obS sq_plain sq_kinds sq_meant sq_firsts sq_nexts sq_names sq_fieldNames sq_amounts sq_fieldDefaults sq_enumDefaults : Nat) (s_letterCount : Int32) (s_slotCount : Int32) (s_fieldDefaults : Nat → Int32) (a0 : Int32) (res : Int32) (hm : m_X6_hasFieldDefault s_fieldDefaults a0 = some res) : Met l yX6_hasFieldDefault wsX6_hasFieldDefault (rmX6_hasFieldDefault 0 0) (pcR (sr_Z adK adV) (dC, dI) srCl [(cI, .int), (cB, .byte), (cJ, .long), (cZ, .boolean), (cQ, .object "SchemaReader$Schema")] [.ref obS, .int a0] [(obS, .inr (8, [.ref sq_plain, .ref sq_kinds, .ref sq_meant, .ref sq_firsts, .ref sq_nexts, .ref sq_names, .ref sq_fieldNames, .ref sq_amounts, .ref sq_fieldDefaults, .ref sq_enumDefaults, .int s_letterCount, .int s_slotCount])), (sq_fieldDefaults, .inl (cZ, 128, .inl s_fieldDefaults))]) (k2_QcV (.int res)) 0 0 (fun _ => False) := by
  refine Met.ofW (cc := cX6_hasFieldDefault) (maxL := 2) (ret := (some .boolean)) (by decide) rfl ?_
  intro p e s m args below meth c s₁ B hml hv
  obtain ⟨rfl, hP, hK, hz0⟩ := hv
  have hx := B.exec
  have hb := B.bytes
  have hr := B.returns
  have hts := atoms_spec (ws := wsX6_hasFieldDefault) B.pre
  have hown : s.vm.findClass RX6 = some m.cls := findClass_of_methodNamed B.named
  have hlocks := B.notSynchronized
  have hS : va_S (fun _ => False) s.heap s.heap [] := va_S.rf
  generalize hQ0 : MQ below (k2_QcV (.int res)) [.ref obS, .int a0].toArray s 0 0 (fun _ => False) = Q0
  have hl := lv_entry [.ref obS, .int a0] (n := 2) (Nat.le_of_ble_eq_true rfl)
  rw [lg_entry_eq]
  generalize (lg_sl [.ref obS, .int a0] ++ List.replicate (2 - (lg_sl [.ref obS, .int a0]).length) Slot.unset).toArray = ls at hl ⊢
  have hl : lv_has ls 2 [(0, .ref obS), (1, .int a0)] := hl
  unfold m_X6_hasFieldDefault at hm
  refine lv_iload_n hx hb dX6_hasFieldDefault_0 rfl (lv_at hl 1 rfl) ?_
  obtain ⟨r1, hz1, hm⟩ := mr_bind hm
  refine mr_pS (As := [.int a0]) (rest := []) (sr_okZ adK adV) ⟨hx, hb, hml, hown, hts⟩ (kX6_isSlot l htr dC dI adK adV cI cB cJ cZ cQ  a0 r1 hz1) (va_cwS 1 hts (g6_55 _) rfl rfl rfl (by decide +kernel) ⟨(by show 0 + 1 ≤ 1; omega), (by show 8 + (1 + 11) + (0) ≤ 20; omega)⟩) hS hP hK hz0 [] rfl rfl rfl hl.1 (Nat.le_of_ble_eq_true rfl) dX6_hasFieldDefault_1 ⟨Nat.zero_le _, Nat.zero_le _⟩ ?_
  refine lv_if_eq (tgt := 20) hx hb dX6_hasFieldDefault_4 (by decide) (fun c2 => ?_) (fun c2 => ?_)
  · have hm := mr_if c2 hm
    refine lv_iconst (v := 0) hx hb dX6_hasFieldDefault_20 (by decide) ?_
    obtain rfl := Option.some.inj hm
    subst hQ0
    exact W.zret (v := 0) hx hb hr rfl (fun t ht hW => ⟨rfl, ht⟩) (fun q h => by cases h) dX6_hasFieldDefault_21
  · have hm := mr_un c2 hm
    refine lv_aload_n hx hb dX6_hasFieldDefault_7 rfl (lv_at hl 0 rfl) ?_
    refine va_get (D := (dC, dI)) (ci := 8) (v := .ref sq_fieldDefaults) (C := RX6) (T := TX6) (N := 12) hx hb hts (inX6 _) hown hK hP 0 rfl rfl 8 (by decide) (hts _ (List.mem_cons_of_mem _ wf6_37)) (fun _ h9 => h9) rfl dX6_hasFieldDefault_8 ?_
    refine lv_iload_n hx hb dX6_hasFieldDefault_11 rfl (lv_at hl 1 rfl) ?_
    obtain ⟨h3, hm⟩ := mr_bd hm
    refine va_zald hx hb hK hP 1 3 rfl rfl h3 dX6_hasFieldDefault_12 ?_
    refine lv_if_eq (tgt := 20) hx hb dX6_hasFieldDefault_13 (by decide) (fun c4 => ?_) (fun c4 => ?_)
    · have hm := mr_if c4 hm
      refine lv_iconst (v := 0) hx hb dX6_hasFieldDefault_20 (by decide) ?_
      obtain rfl := Option.some.inj hm
      subst hQ0
      exact W.zret (v := 0) hx hb hr rfl (fun t ht hW => ⟨rfl, ht⟩) (fun q h => by cases h) dX6_hasFieldDefault_21
    · have hm := mr_un c4 hm
      refine lv_iconst (v := 1) hx hb dX6_hasFieldDefault_16 (by decide) ?_
      refine lv_goto (tgt := 21) hx hb dX6_hasFieldDefault_17 (by decide) ?_
      obtain rfl := Option.some.inj hm
      subst hQ0
      exact W.zret (v := 1) hx hb hr rfl (fun t ht hW => ⟨rfl, ht⟩) (fun q h => by cases h) dX6_hasFieldDefault_21
set_option maxHeartbeats 4000000 in
set_option maxRecDepth 100000 in
theorem kX6_hasEnumDefault (l : Launch) (htr : l.stackTraces = false) (dC : Nat → ClassId) (dI : Nat → Nat → Nat) (adK adV : Nat → Nat) (cI cB cJ cZ cQ : ClassId) (obS sq_plain sq_kinds sq_meant sq_firsts sq_nexts sq_names sq_fieldNames sq_amounts sq_fieldDefaults sq_enumDefaults : Nat) (s_letterCount : Int32) (s_slotCount : Int32) (s_meant : Nat → Int32) (s_enumDefaults : Nat → Int32) (a0 : Int32) (res : Int32) (hm : m_X6_hasEnumDefault s_meant s_enumDefaults a0 = some res) : Met l yX6_hasEnumDefault wsX6_hasEnumDefault (rmX6_hasEnumDefault 0 0) (pcR (sr_Z adK adV) (dC, dI) srCl [(cI, .int), (cB, .byte), (cJ, .long), (cZ, .boolean), (cQ, .object "SchemaReader$Schema")] [.ref obS, .int a0] [(obS, .inr (8, [.ref sq_plain, .ref sq_kinds, .ref sq_meant, .ref sq_firsts, .ref sq_nexts, .ref sq_names, .ref sq_fieldNames, .ref sq_amounts, .ref sq_fieldDefaults, .ref sq_enumDefaults, .int s_letterCount, .int s_slotCount])), (sq_meant, .inl (cI, 128, .inl s_meant)), (sq_enumDefaults, .inl (cZ, 128, .inl s_enumDefaults))]) (k2_QcV (.int res)) 0 0 (fun _ => False) := by
  refine Met.ofW (cc := cX6_hasEnumDefault) (maxL := 3) (ret := (some .boolean)) (by decide) rfl ?_
  intro p e s m args below meth c s₁ B hml hv
  obtain ⟨rfl, hP, hK, hz0⟩ := hv
  have hx := B.exec
  have hb := B.bytes
  have hr := B.returns
  have hts := atoms_spec (ws := wsX6_hasEnumDefault) B.pre
  have hown : s.vm.findClass RX6 = some m.cls := findClass_of_methodNamed B.named
  have hlocks := B.notSynchronized
  have hS : va_S (fun _ => False) s.heap s.heap [] := va_S.rf
  generalize hQ0 : MQ below (k2_QcV (.int res)) [.ref obS, .int a0].toArray s 0 0 (fun _ => False) = Q0
  have hl := lv_entry [.ref obS, .int a0] (n := 3) (Nat.le_of_ble_eq_true rfl)
  rw [lg_entry_eq]
  generalize (lg_sl [.ref obS, .int a0] ++ List.replicate (3 - (lg_sl [.ref obS, .int a0]).length) Slot.unset).toArray = ls at hl ⊢
  have hl : lv_has ls 3 [(0, .ref obS), (1, .int a0)] := hl
  unfold m_X6_hasEnumDefault at hm
  refine lv_aload_n hx hb dX6_hasEnumDefault_0 rfl (lv_at hl 0 rfl) ?_
  refine lv_iload_n hx hb dX6_hasEnumDefault_1 rfl (lv_at hl 1 rfl) ?_
  obtain ⟨r1, hz1, hm⟩ := mr_bind hm
  refine mr_pV (As := [.int a0]) (rest := []) (sr_okZ adK adV) ⟨hx, hb, hml, hown, hts⟩ (kX6_meant l htr dC dI adK adV cI cB cJ cZ cQ obS sq_plain sq_kinds sq_meant sq_firsts sq_nexts sq_names sq_fieldNames sq_amounts sq_fieldDefaults sq_enumDefaults s_letterCount s_slotCount s_meant a0 r1 hz1) (cwV 1 hts (g6_59 _) rfl rfl rfl (by decide +kernel) ⟨(by show 1 + 1 ≤ 2; omega), (by show 8 + (2 + 11) + (21) ≤ 42; omega)⟩) hS hP hK hz0 [0, 1] rfl (va_recv hK hP (ci := 8) (q0 := 0) rfl rfl) rfl rfl hl.1 (Nat.le_of_ble_eq_true rfl) dX6_hasEnumDefault_2 ⟨Nat.zero_le _, Nat.zero_le _⟩ ?_
  refine lv_istore_n (lv' := [(2, .int r1), (0, .ref obS), (1, .int a0)]) hx hb dX6_hasEnumDefault_5 rfl hl (by decide) rfl (fun ls hl => ?_)
  refine lv_iload_n hx hb dX6_hasEnumDefault_6 rfl (lv_at hl 0 rfl) ?_
  obtain ⟨r2, hz2, hm⟩ := mr_bind hm
  refine mr_pS (As := [.int r1]) (rest := []) (sr_okZ adK adV) ⟨hx, hb, hml, hown, hts⟩ (kX6_isSlot l htr dC dI adK adV cI cB cJ cZ cQ  r1 r2 hz2) (va_cwS 1 hts (g6_55 _) rfl rfl rfl (by decide +kernel) ⟨(by show 0 + 1 ≤ 2; omega), (by show 8 + (1 + 11) + (0) ≤ 42; omega)⟩) hS hP hK hz0 [] rfl rfl rfl hl.1 (Nat.le_of_ble_eq_true rfl) dX6_hasEnumDefault_7 ⟨Nat.zero_le _, Nat.zero_le _⟩ ?_
  refine lv_if_eq (tgt := 26) hx hb dX6_hasEnumDefault_10 (by decide) (fun c3 => ?_) (fun c3 => ?_)
  · have hm := mr_if c3 hm
    refine lv_iconst (v := 0) hx hb dX6_hasEnumDefault_26 (by decide) ?_
    obtain rfl := Option.some.inj hm
    subst hQ0
    exact W.zret (v := 0) hx hb hr rfl (fun t ht hW => ⟨rfl, ht⟩) (fun q h => by cases h) dX6_hasEnumDefault_27
  · have hm := mr_un c3 hm
    refine lv_aload_n hx hb dX6_hasEnumDefault_13 rfl (lv_at hl 1 rfl) ?_
    refine va_get (D := (dC, dI)) (ci := 8) (v := .ref sq_enumDefaults) (C := RX6) (T := TX6) (N := 12) hx hb hts (inX6 _) hown hK hP 0 rfl rfl 9 (by decide) (hts _ (List.mem_cons_of_mem _ wf6_41)) (fun _ h9 => h9) rfl dX6_hasEnumDefault_14 ?_
    refine lv_iload_n hx hb dX6_hasEnumDefault_17 rfl (lv_at hl 0 rfl) ?_
    obtain ⟨h4, hm⟩ := mr_bd hm
    refine va_zald hx hb hK hP 2 3 rfl rfl h4 dX6_hasEnumDefault_18 ?_
    refine lv_if_eq (tgt := 26) hx hb dX6_hasEnumDefault_19 (by decide) (fun c5 => ?_) (fun c5 => ?_)
    · have hm := mr_if c5 hm
      refine lv_iconst (v := 0) hx hb dX6_hasEnumDefault_26 (by decide) ?_
      obtain rfl := Option.some.inj hm
      subst hQ0
      exact W.zret (v := 0) hx hb hr rfl (fun t ht hW => ⟨rfl, ht⟩) (fun q h => by cases h) dX6_hasEnumDefault_27
    · have hm := mr_un c5 hm
      refine lv_iconst (v := 1) hx hb dX6_hasEnumDefault_22 (by decide) ?_
      refine lv_goto (tgt := 27) hx hb dX6_hasEnumDefault_23 (by decide) ?_
      obtain rfl := Option.some.inj hm
      subst hQ0
      exact W.zret (v := 1) hx hb hr rfl (fun t ht hW => ⟨rfl, ht⟩) (fun q h => by cases h) dX6_hasEnumDefault_27
set_option maxHeartbeats 4000000 in
set_option maxRecDepth 100000 in
theorem kX6_setKind (l : Launch) (htr : l.stackTraces = false) (dC : Nat → ClassId) (dI : Nat → Nat → Nat) (adK adV : Nat → Nat) (cI cB cJ cZ cQ : ClassId) (obS sq_plain sq_kinds sq_meant sq_firsts sq_nexts sq_names sq_fieldNames sq_amounts sq_fieldDefaults sq_enumDefaults : Nat) (s_letterCount : Int32) (s_slotCount : Int32) (s_kinds : Nat → Int32) (sz : Nat) (a0 : Int32) (a1 : Int32) (res : (Nat → Int32)) (hm : m_X6_setKind s_kinds a0 a1 = some res) : Met l yX6_setKind wsX6_setKind (rmX6_setKind 0 0) (pcW (sr_Z adK adV) (dC, dI) srCl [(cI, .int), (cB, .byte), (cJ, .long), (cZ, .boolean), (cQ, .object "SchemaReader$Schema")] [.ref obS, .int a0, .int a1] [(obS, .inr (8, [.ref sq_plain, .ref sq_kinds, .ref sq_meant, .ref sq_firsts, .ref sq_nexts, .ref sq_names, .ref sq_fieldNames, .ref sq_amounts, .ref sq_fieldDefaults, .ref sq_enumDefaults, .int s_letterCount, .int s_slotCount])), (sq_kinds, .inl (cI, 128, .inl s_kinds))] sz) (va_Qv (fun u' => u' = res) (pcB (dC, dI) srCl [(cI, .int), (cB, .byte), (cJ, .long), (cZ, .boolean), (cQ, .object "SchemaReader$Schema")] (fun u : (Nat → Int32) => [(obS, .inr (8, [.ref sq_plain, .ref sq_kinds, .ref sq_meant, .ref sq_firsts, .ref sq_nexts, .ref sq_names, .ref sq_fieldNames, .ref sq_amounts, .ref sq_fieldDefaults, .ref sq_enumDefaults, .int s_letterCount, .int s_slotCount])), (sq_kinds, .inl (cI, 128, .inl u))]) (va_A [(obS, .inr (8, [.ref sq_plain, .ref sq_kinds, .ref sq_meant, .ref sq_firsts, .ref sq_nexts, .ref sq_names, .ref sq_fieldNames, .ref sq_amounts, .ref sq_fieldDefaults, .ref sq_enumDefaults, .int s_letterCount, .int s_slotCount])), (sq_kinds, .inl (cI, 128, .inl s_kinds))] sz)) (va_A [(obS, .inr (8, [.ref sq_plain, .ref sq_kinds, .ref sq_meant, .ref sq_firsts, .ref sq_nexts, .ref sq_names, .ref sq_fieldNames, .ref sq_amounts, .ref sq_fieldDefaults, .ref sq_enumDefaults, .int s_letterCount, .int s_slotCount])), (sq_kinds, .inl (cI, 128, .inl s_kinds))] sz)) 0 0 (va_A [(obS, .inr (8, [.ref sq_plain, .ref sq_kinds, .ref sq_meant, .ref sq_firsts, .ref sq_nexts, .ref sq_names, .ref sq_fieldNames, .ref sq_amounts, .ref sq_fieldDefaults, .ref sq_enumDefaults, .int s_letterCount, .int s_slotCount])), (sq_kinds, .inl (cI, 128, .inl s_kinds))] sz) := by
  refine Met.ofW (cc := cX6_setKind) (maxL := 3) (ret := none) (by decide) rfl ?_
  intro p e s m args below meth c s₁ B hml hv
  obtain ⟨rfl, hsz, hP, hK, hD0, hz0⟩ := hv
  have hx := B.exec
  have hb := B.bytes
  have hr := B.returns
  have hts := atoms_spec (ws := wsX6_setKind) B.pre
  have hown : s.vm.findClass RX6 = some m.cls := findClass_of_methodNamed B.named
  have hlocks := B.notSynchronized
  subst hsz
  have hD := hD0.self (sz := s.heap.size)
  generalize hAe : va_A [(obS, .inr (8, [.ref sq_plain, .ref sq_kinds, .ref sq_meant, .ref sq_firsts, .ref sq_nexts, .ref sq_names, .ref sq_fieldNames, .ref sq_amounts, .ref sq_fieldDefaults, .ref sq_enumDefaults, .int s_letterCount, .int s_slotCount])), (sq_kinds, .inl (cI, 128, .inl s_kinds))] s.heap.size = A at hD hz0 ⊢
  have hA : ∀ q : Nat, s.heap.size ≤ q → A q := fun q h => by rw [← hAe]; exact Or.inr h
  have hS : va_S A s.heap s.heap [] := va_S.rf
  generalize hQ0 : MQ below (va_Qv (fun u' => u' = res) (pcB (dC, dI) srCl [(cI, .int), (cB, .byte), (cJ, .long), (cZ, .boolean), (cQ, .object "SchemaReader$Schema")] (fun u : (Nat → Int32) => [(obS, .inr (8, [.ref sq_plain, .ref sq_kinds, .ref sq_meant, .ref sq_firsts, .ref sq_nexts, .ref sq_names, .ref sq_fieldNames, .ref sq_amounts, .ref sq_fieldDefaults, .ref sq_enumDefaults, .int s_letterCount, .int s_slotCount])), (sq_kinds, .inl (cI, 128, .inl u))]) A) A) [.ref obS, .int a0, .int a1].toArray s 0 0 A = Q0
  have hl := lv_entry [.ref obS, .int a0, .int a1] (n := 3) (Nat.le_of_ble_eq_true rfl)
  rw [lg_entry_eq]
  generalize (lg_sl [.ref obS, .int a0, .int a1] ++ List.replicate (3 - (lg_sl [.ref obS, .int a0, .int a1]).length) Slot.unset).toArray = ls at hl ⊢
  have hl : lv_has ls 3 [(0, .ref obS), (1, .int a0), (2, .int a1)] := hl
  unfold m_X6_setKind at hm
  refine lv_iload_n hx hb dX6_setKind_0 rfl (lv_at hl 1 rfl) ?_
  obtain ⟨r1, hz1, hm⟩ := mr_bind hm
  refine mr_pS (As := [.int a0]) (rest := []) (sr_okZ adK adV) ⟨hx, hb, hml, hown, hts⟩ (kX6_isSlot l htr dC dI adK adV cI cB cJ cZ cQ  a0 r1 hz1) (va_cwS 1 hts (g6_55 _) rfl rfl rfl (by decide +kernel) ⟨(by show 0 + 1 ≤ 1; omega), (by show 8 + (1 + 11) + (0) ≤ 20; omega)⟩) hS hP hK hz0 [] rfl rfl rfl hl.1 (Nat.le_of_ble_eq_true rfl) dX6_setKind_1 ⟨Nat.zero_le _, Nat.zero_le _⟩ ?_
  refine lv_if_eq (tgt := 14) hx hb dX6_setKind_4 (by decide) (fun c2 => ?_) (fun c2 => ?_)
  · have hm := mr_if c2 hm
    obtain rfl := Option.some.inj hm
    subst hQ0
    exact W.vret hx hb hr (fun t ht hW => ⟨⟨s_kinds, rfl, rfl, by rw [ht]; exact hP, va_K.moved hW.alike hK, hD⟩, hS.F ht⟩) hS.2.2 dX6_setKind_14
  · have hm := mr_un c2 hm
    refine lv_aload_n hx hb dX6_setKind_7 rfl (lv_at hl 0 rfl) ?_
    refine va_get (D := (dC, dI)) (ci := 8) (v := .ref sq_kinds) (C := RX6) (T := TX6) (N := 12) hx hb hts (inX6 _) hown hK hP 0 rfl rfl 1 (by decide) (hts _ (List.mem_cons_of_mem _ wf6_15)) (fun _ h9 => h9) rfl dX6_setKind_8 ?_
    refine lv_iload_n hx hb dX6_setKind_11 rfl (lv_at hl 1 rfl) ?_
    refine lv_iload_n hx hb dX6_setKind_12 rfl (lv_at hl 2 rfl) ?_
    obtain ⟨h3, hm⟩ := mr_bd hm
    refine va_iast hx hb hK hP hD hS 1 0 rfl rfl h3 dX6_setKind_13 (fun H locs hP hD hS => ?_)
    have hP : va_P (dC, dI) srCl [(obS, .inr (8, [.ref sq_plain, .ref sq_kinds, .ref sq_meant, .ref sq_firsts, .ref sq_nexts, .ref sq_names, .ref sq_fieldNames, .ref sq_amounts, .ref sq_fieldDefaults, .ref sq_enumDefaults, .int s_letterCount, .int s_slotCount])), (sq_kinds, .inl (cI, 128, .inl (upd s_kinds (a0 : Int32).toNatClampNeg a1)))] H := hP
    have hD : va_D A [(obS, .inr (8, [.ref sq_plain, .ref sq_kinds, .ref sq_meant, .ref sq_firsts, .ref sq_nexts, .ref sq_names, .ref sq_fieldNames, .ref sq_amounts, .ref sq_fieldDefaults, .ref sq_enumDefaults, .int s_letterCount, .int s_slotCount])), (sq_kinds, .inl (cI, 128, .inl (upd s_kinds (a0 : Int32).toNatClampNeg a1)))] := hD
    obtain rfl := Option.some.inj hm
    subst hQ0
    exact W.vret hx hb hr (fun t ht hW => ⟨⟨(upd s_kinds (a0 : Int32).toNatClampNeg a1), rfl, rfl, by rw [ht]; exact hP, va_K.moved hW.alike hK, hD⟩, hS.F ht⟩) hS.2.2 dX6_setKind_14
set_option maxHeartbeats 4000000 in
set_option maxRecDepth 100000 in
theorem kX6_setMeant (l : Launch) (htr : l.stackTraces = false) (dC : Nat → ClassId) (dI : Nat → Nat → Nat) (adK adV : Nat → Nat) (cI cB cJ cZ cQ : ClassId) (obS sq_plain sq_kinds sq_meant sq_firsts sq_nexts sq_names sq_fieldNames sq_amounts sq_fieldDefaults sq_enumDefaults : Nat) (s_letterCount : Int32) (s_slotCount : Int32) (s_meant : Nat → Int32) (sz : Nat) (a0 : Int32) (a1 : Int32) (res : (Nat → Int32)) (hm : m_X6_setMeant s_meant a0 a1 = some res) : Met l yX6_setMeant wsX6_setMeant (rmX6_setMeant 0 0) (pcW (sr_Z adK adV) (dC, dI) srCl [(cI, .int), (cB, .byte), (cJ, .long), (cZ, .boolean), (cQ, .object "SchemaReader$Schema")] [.ref obS, .int a0, .int a1] [(obS, .inr (8, [.ref sq_plain, .ref sq_kinds, .ref sq_meant, .ref sq_firsts, .ref sq_nexts, .ref sq_names, .ref sq_fieldNames, .ref sq_amounts, .ref sq_fieldDefaults, .ref sq_enumDefaults, .int s_letterCount, .int s_slotCount])), (sq_meant, .inl (cI, 128, .inl s_meant))] sz) (va_Qv (fun u' => u' = res) (pcB (dC, dI) srCl [(cI, .int), (cB, .byte), (cJ, .long), (cZ, .boolean), (cQ, .object "SchemaReader$Schema")] (fun u : (Nat → Int32) => [(obS, .inr (8, [.ref sq_plain, .ref sq_kinds, .ref sq_meant, .ref sq_firsts, .ref sq_nexts, .ref sq_names, .ref sq_fieldNames, .ref sq_amounts, .ref sq_fieldDefaults, .ref sq_enumDefaults, .int s_letterCount, .int s_slotCount])), (sq_meant, .inl (cI, 128, .inl u))]) (va_A [(obS, .inr (8, [.ref sq_plain, .ref sq_kinds, .ref sq_meant, .ref sq_firsts, .ref sq_nexts, .ref sq_names, .ref sq_fieldNames, .ref sq_amounts, .ref sq_fieldDefaults, .ref sq_enumDefaults, .int s_letterCount, .int s_slotCount])), (sq_meant, .inl (cI, 128, .inl s_meant))] sz)) (va_A [(obS, .inr (8, [.ref sq_plain, .ref sq_kinds, .ref sq_meant, .ref sq_firsts, .ref sq_nexts, .ref sq_names, .ref sq_fieldNames, .ref sq_amounts, .ref sq_fieldDefaults, .ref sq_enumDefaults, .int s_letterCount, .int s_slotCount])), (sq_meant, .inl (cI, 128, .inl s_meant))] sz)) 0 0 (va_A [(obS, .inr (8, [.ref sq_plain, .ref sq_kinds, .ref sq_meant, .ref sq_firsts, .ref sq_nexts, .ref sq_names, .ref sq_fieldNames, .ref sq_amounts, .ref sq_fieldDefaults, .ref sq_enumDefaults, .int s_letterCount, .int s_slotCount])), (sq_meant, .inl (cI, 128, .inl s_meant))] sz) := by
  refine Met.ofW (cc := cX6_setMeant) (maxL := 3) (ret := none) (by decide) rfl ?_
  intro p e s m args below meth c s₁ B hml hv
  obtain ⟨rfl, hsz, hP, hK, hD0, hz0⟩ := hv
  have hx := B.exec
  have hb := B.bytes
  have hr := B.returns
  have hts := atoms_spec (ws := wsX6_setMeant) B.pre
  have hown : s.vm.findClass RX6 = some m.cls := findClass_of_methodNamed B.named
  have hlocks := B.notSynchronized
  subst hsz
  have hD := hD0.self (sz := s.heap.size)
  generalize hAe : va_A [(obS, .inr (8, [.ref sq_plain, .ref sq_kinds, .ref sq_meant, .ref sq_firsts, .ref sq_nexts, .ref sq_names, .ref sq_fieldNames, .ref sq_amounts, .ref sq_fieldDefaults, .ref sq_enumDefaults, .int s_letterCount, .int s_slotCount])), (sq_meant, .inl (cI, 128, .inl s_meant))] s.heap.size = A at hD hz0 ⊢
  have hA : ∀ q : Nat, s.heap.size ≤ q → A q := fun q h => by rw [← hAe]; exact Or.inr h
  have hS : va_S A s.heap s.heap [] := va_S.rf
  generalize hQ0 : MQ below (va_Qv (fun u' => u' = res) (pcB (dC, dI) srCl [(cI, .int), (cB, .byte), (cJ, .long), (cZ, .boolean), (cQ, .object "SchemaReader$Schema")] (fun u : (Nat → Int32) => [(obS, .inr (8, [.ref sq_plain, .ref sq_kinds, .ref sq_meant, .ref sq_firsts, .ref sq_nexts, .ref sq_names, .ref sq_fieldNames, .ref sq_amounts, .ref sq_fieldDefaults, .ref sq_enumDefaults, .int s_letterCount, .int s_slotCount])), (sq_meant, .inl (cI, 128, .inl u))]) A) A) [.ref obS, .int a0, .int a1].toArray s 0 0 A = Q0
  have hl := lv_entry [.ref obS, .int a0, .int a1] (n := 3) (Nat.le_of_ble_eq_true rfl)
  rw [lg_entry_eq]
  generalize (lg_sl [.ref obS, .int a0, .int a1] ++ List.replicate (3 - (lg_sl [.ref obS, .int a0, .int a1]).length) Slot.unset).toArray = ls at hl ⊢
  have hl : lv_has ls 3 [(0, .ref obS), (1, .int a0), (2, .int a1)] := hl
  unfold m_X6_setMeant at hm
  refine lv_iload_n hx hb dX6_setMeant_0 rfl (lv_at hl 1 rfl) ?_
  obtain ⟨r1, hz1, hm⟩ := mr_bind hm
  refine mr_pS (As := [.int a0]) (rest := []) (sr_okZ adK adV) ⟨hx, hb, hml, hown, hts⟩ (kX6_isSlot l htr dC dI adK adV cI cB cJ cZ cQ  a0 r1 hz1) (va_cwS 1 hts (g6_55 _) rfl rfl rfl (by decide +kernel) ⟨(by show 0 + 1 ≤ 1; omega), (by show 8 + (1 + 11) + (0) ≤ 20; omega)⟩) hS hP hK hz0 [] rfl rfl rfl hl.1 (Nat.le_of_ble_eq_true rfl) dX6_setMeant_1 ⟨Nat.zero_le _, Nat.zero_le _⟩ ?_
  refine lv_if_eq (tgt := 14) hx hb dX6_setMeant_4 (by decide) (fun c2 => ?_) (fun c2 => ?_)
  · have hm := mr_if c2 hm
    obtain rfl := Option.some.inj hm
    subst hQ0
    exact W.vret hx hb hr (fun t ht hW => ⟨⟨s_meant, rfl, rfl, by rw [ht]; exact hP, va_K.moved hW.alike hK, hD⟩, hS.F ht⟩) hS.2.2 dX6_setMeant_14
  · have hm := mr_un c2 hm
    refine lv_aload_n hx hb dX6_setMeant_7 rfl (lv_at hl 0 rfl) ?_
    refine va_get (D := (dC, dI)) (ci := 8) (v := .ref sq_meant) (C := RX6) (T := TX6) (N := 12) hx hb hts (inX6 _) hown hK hP 0 rfl rfl 2 (by decide) (hts _ (List.mem_cons_of_mem _ wf6_19)) (fun _ h9 => h9) rfl dX6_setMeant_8 ?_
    refine lv_iload_n hx hb dX6_setMeant_11 rfl (lv_at hl 1 rfl) ?_
    refine lv_iload_n hx hb dX6_setMeant_12 rfl (lv_at hl 2 rfl) ?_
    obtain ⟨h3, hm⟩ := mr_bd hm
    refine va_iast hx hb hK hP hD hS 1 0 rfl rfl h3 dX6_setMeant_13 (fun H locs hP hD hS => ?_)
    have hP : va_P (dC, dI) srCl [(obS, .inr (8, [.ref sq_plain, .ref sq_kinds, .ref sq_meant, .ref sq_firsts, .ref sq_nexts, .ref sq_names, .ref sq_fieldNames, .ref sq_amounts, .ref sq_fieldDefaults, .ref sq_enumDefaults, .int s_letterCount, .int s_slotCount])), (sq_meant, .inl (cI, 128, .inl (upd s_meant (a0 : Int32).toNatClampNeg a1)))] H := hP
    have hD : va_D A [(obS, .inr (8, [.ref sq_plain, .ref sq_kinds, .ref sq_meant, .ref sq_firsts, .ref sq_nexts, .ref sq_names, .ref sq_fieldNames, .ref sq_amounts, .ref sq_fieldDefaults, .ref sq_enumDefaults, .int s_letterCount, .int s_slotCount])), (sq_meant, .inl (cI, 128, .inl (upd s_meant (a0 : Int32).toNatClampNeg a1)))] := hD
    obtain rfl := Option.some.inj hm
    subst hQ0
    exact W.vret hx hb hr (fun t ht hW => ⟨⟨(upd s_meant (a0 : Int32).toNatClampNeg a1), rfl, rfl, by rw [ht]; exact hP, va_K.moved hW.alike hK, hD⟩, hS.F ht⟩) hS.2.2 dX6_setMeant_14
set_option maxHeartbeats 4000000 in
set_option maxRecDepth 100000 in
theorem kX6_setName (l : Launch) (htr : l.stackTraces = false) (dC : Nat → ClassId) (dI : Nat → Nat → Nat) (adK adV : Nat → Nat) (cI cB cJ cZ cQ : ClassId) (obS sq_plain sq_kinds sq_meant sq_firsts sq_nexts sq_names sq_fieldNames sq_amounts sq_fieldDefaults sq_enumDefaults : Nat) (s_letterCount : Int32) (s_slotCount : Int32) (s_names : Nat → Int32) (sz : Nat) (a0 : Int32) (a1 : Int32) (res : (Nat → Int32)) (hm : m_X6_setName s_names a0 a1 = some res) : Met l yX6_setName wsX6_setName (rmX6_setName 0 0) (pcW (sr_Z adK adV) (dC, dI) srCl [(cI, .int), (cB, .byte), (cJ, .long), (cZ, .boolean), (cQ, .object "SchemaReader$Schema")] [.ref obS, .int a0, .int a1] [(obS, .inr (8, [.ref sq_plain, .ref sq_kinds, .ref sq_meant, .ref sq_firsts, .ref sq_nexts, .ref sq_names, .ref sq_fieldNames, .ref sq_amounts, .ref sq_fieldDefaults, .ref sq_enumDefaults, .int s_letterCount, .int s_slotCount])), (sq_names, .inl (cI, 128, .inl s_names))] sz) (va_Qv (fun u' => u' = res) (pcB (dC, dI) srCl [(cI, .int), (cB, .byte), (cJ, .long), (cZ, .boolean), (cQ, .object "SchemaReader$Schema")] (fun u : (Nat → Int32) => [(obS, .inr (8, [.ref sq_plain, .ref sq_kinds, .ref sq_meant, .ref sq_firsts, .ref sq_nexts, .ref sq_names, .ref sq_fieldNames, .ref sq_amounts, .ref sq_fieldDefaults, .ref sq_enumDefaults, .int s_letterCount, .int s_slotCount])), (sq_names, .inl (cI, 128, .inl u))]) (va_A [(obS, .inr (8, [.ref sq_plain, .ref sq_kinds, .ref sq_meant, .ref sq_firsts, .ref sq_nexts, .ref sq_names, .ref sq_fieldNames, .ref sq_amounts, .ref sq_fieldDefaults, .ref sq_enumDefaults, .int s_letterCount, .int s_slotCount])), (sq_names, .inl (cI, 128, .inl s_names))] sz)) (va_A [(obS, .inr (8, [.ref sq_plain, .ref sq_kinds, .ref sq_meant, .ref sq_firsts, .ref sq_nexts, .ref sq_names, .ref sq_fieldNames, .ref sq_amounts, .ref sq_fieldDefaults, .ref sq_enumDefaults, .int s_letterCount, .int s_slotCount])), (sq_names, .inl (cI, 128, .inl s_names))] sz)) 0 0 (va_A [(obS, .inr (8, [.ref sq_plain, .ref sq_kinds, .ref sq_meant, .ref sq_firsts, .ref sq_nexts, .ref sq_names, .ref sq_fieldNames, .ref sq_amounts, .ref sq_fieldDefaults, .ref sq_enumDefaults, .int s_letterCount, .int s_slotCount])), (sq_names, .inl (cI, 128, .inl s_names))] sz) := by
  refine Met.ofW (cc := cX6_setName) (maxL := 3) (ret := none) (by decide) rfl ?_
  intro p e s m args below meth c s₁ B hml hv
  obtain ⟨rfl, hsz, hP, hK, hD0, hz0⟩ := hv
  have hx := B.exec
  have hb := B.bytes
  have hr := B.returns
  have hts := atoms_spec (ws := wsX6_setName) B.pre
  have hown : s.vm.findClass RX6 = some m.cls := findClass_of_methodNamed B.named
  have hlocks := B.notSynchronized
  subst hsz
  have hD := hD0.self (sz := s.heap.size)
  generalize hAe : va_A [(obS, .inr (8, [.ref sq_plain, .ref sq_kinds, .ref sq_meant, .ref sq_firsts, .ref sq_nexts, .ref sq_names, .ref sq_fieldNames, .ref sq_amounts, .ref sq_fieldDefaults, .ref sq_enumDefaults, .int s_letterCount, .int s_slotCount])), (sq_names, .inl (cI, 128, .inl s_names))] s.heap.size = A at hD hz0 ⊢
  have hA : ∀ q : Nat, s.heap.size ≤ q → A q := fun q h => by rw [← hAe]; exact Or.inr h
  have hS : va_S A s.heap s.heap [] := va_S.rf
  generalize hQ0 : MQ below (va_Qv (fun u' => u' = res) (pcB (dC, dI) srCl [(cI, .int), (cB, .byte), (cJ, .long), (cZ, .boolean), (cQ, .object "SchemaReader$Schema")] (fun u : (Nat → Int32) => [(obS, .inr (8, [.ref sq_plain, .ref sq_kinds, .ref sq_meant, .ref sq_firsts, .ref sq_nexts, .ref sq_names, .ref sq_fieldNames, .ref sq_amounts, .ref sq_fieldDefaults, .ref sq_enumDefaults, .int s_letterCount, .int s_slotCount])), (sq_names, .inl (cI, 128, .inl u))]) A) A) [.ref obS, .int a0, .int a1].toArray s 0 0 A = Q0
  have hl := lv_entry [.ref obS, .int a0, .int a1] (n := 3) (Nat.le_of_ble_eq_true rfl)
  rw [lg_entry_eq]
  generalize (lg_sl [.ref obS, .int a0, .int a1] ++ List.replicate (3 - (lg_sl [.ref obS, .int a0, .int a1]).length) Slot.unset).toArray = ls at hl ⊢
  have hl : lv_has ls 3 [(0, .ref obS), (1, .int a0), (2, .int a1)] := hl
  unfold m_X6_setName at hm
  refine lv_iload_n hx hb dX6_setName_0 rfl (lv_at hl 1 rfl) ?_
  obtain ⟨r1, hz1, hm⟩ := mr_bind hm
  refine mr_pS (As := [.int a0]) (rest := []) (sr_okZ adK adV) ⟨hx, hb, hml, hown, hts⟩ (kX6_isSlot l htr dC dI adK adV cI cB cJ cZ cQ  a0 r1 hz1) (va_cwS 1 hts (g6_55 _) rfl rfl rfl (by decide +kernel) ⟨(by show 0 + 1 ≤ 1; omega), (by show 8 + (1 + 11) + (0) ≤ 20; omega)⟩) hS hP hK hz0 [] rfl rfl rfl hl.1 (Nat.le_of_ble_eq_true rfl) dX6_setName_1 ⟨Nat.zero_le _, Nat.zero_le _⟩ ?_
  refine lv_if_eq (tgt := 14) hx hb dX6_setName_4 (by decide) (fun c2 => ?_) (fun c2 => ?_)
  · have hm := mr_if c2 hm
    obtain rfl := Option.some.inj hm
    subst hQ0
    exact W.vret hx hb hr (fun t ht hW => ⟨⟨s_names, rfl, rfl, by rw [ht]; exact hP, va_K.moved hW.alike hK, hD⟩, hS.F ht⟩) hS.2.2 dX6_setName_14
  · have hm := mr_un c2 hm
    refine lv_aload_n hx hb dX6_setName_7 rfl (lv_at hl 0 rfl) ?_
    refine va_get (D := (dC, dI)) (ci := 8) (v := .ref sq_names) (C := RX6) (T := TX6) (N := 12) hx hb hts (inX6 _) hown hK hP 0 rfl rfl 5 (by decide) (hts _ (List.mem_cons_of_mem _ wf6_28)) (fun _ h9 => h9) rfl dX6_setName_8 ?_
    refine lv_iload_n hx hb dX6_setName_11 rfl (lv_at hl 1 rfl) ?_
    refine lv_iload_n hx hb dX6_setName_12 rfl (lv_at hl 2 rfl) ?_
    obtain ⟨h3, hm⟩ := mr_bd hm
    refine va_iast hx hb hK hP hD hS 1 0 rfl rfl h3 dX6_setName_13 (fun H locs hP hD hS => ?_)
    have hP : va_P (dC, dI) srCl [(obS, .inr (8, [.ref sq_plain, .ref sq_kinds, .ref sq_meant, .ref sq_firsts, .ref sq_nexts, .ref sq_names, .ref sq_fieldNames, .ref sq_amounts, .ref sq_fieldDefaults, .ref sq_enumDefaults, .int s_letterCount, .int s_slotCount])), (sq_names, .inl (cI, 128, .inl (upd s_names (a0 : Int32).toNatClampNeg a1)))] H := hP
    have hD : va_D A [(obS, .inr (8, [.ref sq_plain, .ref sq_kinds, .ref sq_meant, .ref sq_firsts, .ref sq_nexts, .ref sq_names, .ref sq_fieldNames, .ref sq_amounts, .ref sq_fieldDefaults, .ref sq_enumDefaults, .int s_letterCount, .int s_slotCount])), (sq_names, .inl (cI, 128, .inl (upd s_names (a0 : Int32).toNatClampNeg a1)))] := hD
    obtain rfl := Option.some.inj hm
    subst hQ0
    exact W.vret hx hb hr (fun t ht hW => ⟨⟨(upd s_names (a0 : Int32).toNatClampNeg a1), rfl, rfl, by rw [ht]; exact hP, va_K.moved hW.alike hK, hD⟩, hS.F ht⟩) hS.2.2 dX6_setName_14
set_option maxHeartbeats 4000000 in
set_option maxRecDepth 100000 in
theorem kX6_setAmount (l : Launch) (htr : l.stackTraces = false) (dC : Nat → ClassId) (dI : Nat → Nat → Nat) (adK adV : Nat → Nat) (cI cB cJ cZ cQ : ClassId) (obS sq_plain sq_kinds sq_meant sq_firsts sq_nexts sq_names sq_fieldNames sq_amounts sq_fieldDefaults sq_enumDefaults : Nat) (s_letterCount : Int32) (s_slotCount : Int32) (s_amounts : Nat → Int32) (sz : Nat) (a0 : Int32) (a1 : Int32) (res : (Nat → Int32)) (hm : m_X6_setAmount s_amounts a0 a1 = some res) : Met l yX6_setAmount wsX6_setAmount (rmX6_setAmount 0 0) (pcW (sr_Z adK adV) (dC, dI) srCl [(cI, .int), (cB, .byte), (cJ, .long), (cZ, .boolean), (cQ, .object "SchemaReader$Schema")] [.ref obS, .int a0, .int a1] [(obS, .inr (8, [.ref sq_plain, .ref sq_kinds, .ref sq_meant, .ref sq_firsts, .ref sq_nexts, .ref sq_names, .ref sq_fieldNames, .ref sq_amounts, .ref sq_fieldDefaults, .ref sq_enumDefaults, .int s_letterCount, .int s_slotCount])), (sq_amounts, .inl (cI, 128, .inl s_amounts))] sz) (va_Qv (fun u' => u' = res) (pcB (dC, dI) srCl [(cI, .int), (cB, .byte), (cJ, .long), (cZ, .boolean), (cQ, .object "SchemaReader$Schema")] (fun u : (Nat → Int32) => [(obS, .inr (8, [.ref sq_plain, .ref sq_kinds, .ref sq_meant, .ref sq_firsts, .ref sq_nexts, .ref sq_names, .ref sq_fieldNames, .ref sq_amounts, .ref sq_fieldDefaults, .ref sq_enumDefaults, .int s_letterCount, .int s_slotCount])), (sq_amounts, .inl (cI, 128, .inl u))]) (va_A [(obS, .inr (8, [.ref sq_plain, .ref sq_kinds, .ref sq_meant, .ref sq_firsts, .ref sq_nexts, .ref sq_names, .ref sq_fieldNames, .ref sq_amounts, .ref sq_fieldDefaults, .ref sq_enumDefaults, .int s_letterCount, .int s_slotCount])), (sq_amounts, .inl (cI, 128, .inl s_amounts))] sz)) (va_A [(obS, .inr (8, [.ref sq_plain, .ref sq_kinds, .ref sq_meant, .ref sq_firsts, .ref sq_nexts, .ref sq_names, .ref sq_fieldNames, .ref sq_amounts, .ref sq_fieldDefaults, .ref sq_enumDefaults, .int s_letterCount, .int s_slotCount])), (sq_amounts, .inl (cI, 128, .inl s_amounts))] sz)) 0 0 (va_A [(obS, .inr (8, [.ref sq_plain, .ref sq_kinds, .ref sq_meant, .ref sq_firsts, .ref sq_nexts, .ref sq_names, .ref sq_fieldNames, .ref sq_amounts, .ref sq_fieldDefaults, .ref sq_enumDefaults, .int s_letterCount, .int s_slotCount])), (sq_amounts, .inl (cI, 128, .inl s_amounts))] sz) := by
  refine Met.ofW (cc := cX6_setAmount) (maxL := 3) (ret := none) (by decide) rfl ?_
  intro p e s m args below meth c s₁ B hml hv
  obtain ⟨rfl, hsz, hP, hK, hD0, hz0⟩ := hv
  have hx := B.exec
  have hb := B.bytes
  have hr := B.returns
  have hts := atoms_spec (ws := wsX6_setAmount) B.pre
  have hown : s.vm.findClass RX6 = some m.cls := findClass_of_methodNamed B.named
  have hlocks := B.notSynchronized
  subst hsz
  have hD := hD0.self (sz := s.heap.size)
  generalize hAe : va_A [(obS, .inr (8, [.ref sq_plain, .ref sq_kinds, .ref sq_meant, .ref sq_firsts, .ref sq_nexts, .ref sq_names, .ref sq_fieldNames, .ref sq_amounts, .ref sq_fieldDefaults, .ref sq_enumDefaults, .int s_letterCount, .int s_slotCount])), (sq_amounts, .inl (cI, 128, .inl s_amounts))] s.heap.size = A at hD hz0 ⊢
  have hA : ∀ q : Nat, s.heap.size ≤ q → A q := fun q h => by rw [← hAe]; exact Or.inr h
  have hS : va_S A s.heap s.heap [] := va_S.rf
  generalize hQ0 : MQ below (va_Qv (fun u' => u' = res) (pcB (dC, dI) srCl [(cI, .int), (cB, .byte), (cJ, .long), (cZ, .boolean), (cQ, .object "SchemaReader$Schema")] (fun u : (Nat → Int32) => [(obS, .inr (8, [.ref sq_plain, .ref sq_kinds, .ref sq_meant, .ref sq_firsts, .ref sq_nexts, .ref sq_names, .ref sq_fieldNames, .ref sq_amounts, .ref sq_fieldDefaults, .ref sq_enumDefaults, .int s_letterCount, .int s_slotCount])), (sq_amounts, .inl (cI, 128, .inl u))]) A) A) [.ref obS, .int a0, .int a1].toArray s 0 0 A = Q0
  have hl := lv_entry [.ref obS, .int a0, .int a1] (n := 3) (Nat.le_of_ble_eq_true rfl)
  rw [lg_entry_eq]
  generalize (lg_sl [.ref obS, .int a0, .int a1] ++ List.replicate (3 - (lg_sl [.ref obS, .int a0, .int a1]).length) Slot.unset).toArray = ls at hl ⊢
  have hl : lv_has ls 3 [(0, .ref obS), (1, .int a0), (2, .int a1)] := hl
  unfold m_X6_setAmount at hm
  refine lv_iload_n hx hb dX6_setAmount_0 rfl (lv_at hl 1 rfl) ?_
  obtain ⟨r1, hz1, hm⟩ := mr_bind hm
  refine mr_pS (As := [.int a0]) (rest := []) (sr_okZ adK adV) ⟨hx, hb, hml, hown, hts⟩ (kX6_isSlot l htr dC dI adK adV cI cB cJ cZ cQ  a0 r1 hz1) (va_cwS 1 hts (g6_55 _) rfl rfl rfl (by decide +kernel) ⟨(by show 0 + 1 ≤ 1; omega), (by show 8 + (1 + 11) + (0) ≤ 20; omega)⟩) hS hP hK hz0 [] rfl rfl rfl hl.1 (Nat.le_of_ble_eq_true rfl) dX6_setAmount_1 ⟨Nat.zero_le _, Nat.zero_le _⟩ ?_
  refine lv_if_eq (tgt := 14) hx hb dX6_setAmount_4 (by decide) (fun c2 => ?_) (fun c2 => ?_)
  · have hm := mr_if c2 hm
    obtain rfl := Option.some.inj hm
    subst hQ0
    exact W.vret hx hb hr (fun t ht hW => ⟨⟨s_amounts, rfl, rfl, by rw [ht]; exact hP, va_K.moved hW.alike hK, hD⟩, hS.F ht⟩) hS.2.2 dX6_setAmount_14
  · have hm := mr_un c2 hm
    refine lv_aload_n hx hb dX6_setAmount_7 rfl (lv_at hl 0 rfl) ?_
    refine va_get (D := (dC, dI)) (ci := 8) (v := .ref sq_amounts) (C := RX6) (T := TX6) (N := 12) hx hb hts (inX6 _) hown hK hP 0 rfl rfl 7 (by decide) (hts _ (List.mem_cons_of_mem _ wf6_34)) (fun _ h9 => h9) rfl dX6_setAmount_8 ?_
    refine lv_iload_n hx hb dX6_setAmount_11 rfl (lv_at hl 1 rfl) ?_
    refine lv_iload_n hx hb dX6_setAmount_12 rfl (lv_at hl 2 rfl) ?_
    obtain ⟨h3, hm⟩ := mr_bd hm
    refine va_iast hx hb hK hP hD hS 1 0 rfl rfl h3 dX6_setAmount_13 (fun H locs hP hD hS => ?_)
    have hP : va_P (dC, dI) srCl [(obS, .inr (8, [.ref sq_plain, .ref sq_kinds, .ref sq_meant, .ref sq_firsts, .ref sq_nexts, .ref sq_names, .ref sq_fieldNames, .ref sq_amounts, .ref sq_fieldDefaults, .ref sq_enumDefaults, .int s_letterCount, .int s_slotCount])), (sq_amounts, .inl (cI, 128, .inl (upd s_amounts (a0 : Int32).toNatClampNeg a1)))] H := hP
    have hD : va_D A [(obS, .inr (8, [.ref sq_plain, .ref sq_kinds, .ref sq_meant, .ref sq_firsts, .ref sq_nexts, .ref sq_names, .ref sq_fieldNames, .ref sq_amounts, .ref sq_fieldDefaults, .ref sq_enumDefaults, .int s_letterCount, .int s_slotCount])), (sq_amounts, .inl (cI, 128, .inl (upd s_amounts (a0 : Int32).toNatClampNeg a1)))] := hD
    obtain rfl := Option.some.inj hm
    subst hQ0
    exact W.vret hx hb hr (fun t ht hW => ⟨⟨(upd s_amounts (a0 : Int32).toNatClampNeg a1), rfl, rfl, by rw [ht]; exact hP, va_K.moved hW.alike hK, hD⟩, hS.F ht⟩) hS.2.2 dX6_setAmount_14
set_option maxHeartbeats 4000000 in
set_option maxRecDepth 100000 in
theorem kX6_setField (l : Launch) (htr : l.stackTraces = false) (dC : Nat → ClassId) (dI : Nat → Nat → Nat) (adK adV : Nat → Nat) (cI cB cJ cZ cQ : ClassId) (obS sq_plain sq_kinds sq_meant sq_firsts sq_nexts sq_names sq_fieldNames sq_amounts sq_fieldDefaults sq_enumDefaults : Nat) (s_letterCount : Int32) (s_slotCount : Int32) (s_fieldNames : Nat → Int32) (s_fieldDefaults : Nat → Int32) (sz : Nat) (a0 : Int32) (a1 : Int32) (a2 : Int32) (res : (Nat → Int32) × (Nat → Int32)) (hm : m_X6_setField s_fieldNames s_fieldDefaults a0 a1 a2 = some res) : Met l yX6_setField wsX6_setField (rmX6_setField 0 0) (pcW (sr_Z adK adV) (dC, dI) srCl [(cI, .int), (cB, .byte), (cJ, .long), (cZ, .boolean), (cQ, .object "SchemaReader$Schema")] [.ref obS, .int a0, .int a1, .int a2] [(obS, .inr (8, [.ref sq_plain, .ref sq_kinds, .ref sq_meant, .ref sq_firsts, .ref sq_nexts, .ref sq_names, .ref sq_fieldNames, .ref sq_amounts, .ref sq_fieldDefaults, .ref sq_enumDefaults, .int s_letterCount, .int s_slotCount])), (sq_fieldNames, .inl (cI, 128, .inl s_fieldNames)), (sq_fieldDefaults, .inl (cZ, 128, .inl s_fieldDefaults))] sz) (va_Qv (fun u' => u' = res) (pcB (dC, dI) srCl [(cI, .int), (cB, .byte), (cJ, .long), (cZ, .boolean), (cQ, .object "SchemaReader$Schema")] (fun u : (Nat → Int32) × (Nat → Int32) => [(obS, .inr (8, [.ref sq_plain, .ref sq_kinds, .ref sq_meant, .ref sq_firsts, .ref sq_nexts, .ref sq_names, .ref sq_fieldNames, .ref sq_amounts, .ref sq_fieldDefaults, .ref sq_enumDefaults, .int s_letterCount, .int s_slotCount])), (sq_fieldNames, .inl (cI, 128, .inl u.1)), (sq_fieldDefaults, .inl (cZ, 128, .inl u.2))]) (va_A [(obS, .inr (8, [.ref sq_plain, .ref sq_kinds, .ref sq_meant, .ref sq_firsts, .ref sq_nexts, .ref sq_names, .ref sq_fieldNames, .ref sq_amounts, .ref sq_fieldDefaults, .ref sq_enumDefaults, .int s_letterCount, .int s_slotCount])), (sq_fieldNames, .inl (cI, 128, .inl s_fieldNames)), (sq_fieldDefaults, .inl (cZ, 128, .inl s_fieldDefaults))] sz)) (va_A [(obS, .inr (8, [.ref sq_plain, .ref sq_kinds, .ref sq_meant, .ref sq_firsts, .ref sq_nexts, .ref sq_names, .ref sq_fieldNames, .ref sq_amounts, .ref sq_fieldDefaults, .ref sq_enumDefaults, .int s_letterCount, .int s_slotCount])), (sq_fieldNames, .inl (cI, 128, .inl s_fieldNames)), (sq_fieldDefaults, .inl (cZ, 128, .inl s_fieldDefaults))] sz)) 0 0 (va_A [(obS, .inr (8, [.ref sq_plain, .ref sq_kinds, .ref sq_meant, .ref sq_firsts, .ref sq_nexts, .ref sq_names, .ref sq_fieldNames, .ref sq_amounts, .ref sq_fieldDefaults, .ref sq_enumDefaults, .int s_letterCount, .int s_slotCount])), (sq_fieldNames, .inl (cI, 128, .inl s_fieldNames)), (sq_fieldDefaults, .inl (cZ, 128, .inl s_fieldDefaults))] sz) := by
  refine Met.ofW (cc := cX6_setField) (maxL := 4) (ret := none) (by decide) rfl ?_
  intro p e s m args below meth c s₁ B hml hv
  obtain ⟨rfl, hsz, hP, hK, hD0, hz0⟩ := hv
  have hx := B.exec
  have hb := B.bytes
  have hr := B.returns
  have hts := atoms_spec (ws := wsX6_setField) B.pre
  have hown : s.vm.findClass RX6 = some m.cls := findClass_of_methodNamed B.named
  have hlocks := B.notSynchronized
  subst hsz
  have hD := hD0.self (sz := s.heap.size)
  generalize hAe : va_A [(obS, .inr (8, [.ref sq_plain, .ref sq_kinds, .ref sq_meant, .ref sq_firsts, .ref sq_nexts, .ref sq_names, .ref sq_fieldNames, .ref sq_amounts, .ref sq_fieldDefaults, .ref sq_enumDefaults, .int s_letterCount, .int s_slotCount])), (sq_fieldNames, .inl (cI, 128, .inl s_fieldNames)), (sq_fieldDefaults, .inl (cZ, 128, .inl s_fieldDefaults))] s.heap.size = A at hD hz0 ⊢
  have hA : ∀ q : Nat, s.heap.size ≤ q → A q := fun q h => by rw [← hAe]; exact Or.inr h
  have hS : va_S A s.heap s.heap [] := va_S.rf
  generalize hQ0 : MQ below (va_Qv (fun u' => u' = res) (pcB (dC, dI) srCl [(cI, .int), (cB, .byte), (cJ, .long), (cZ, .boolean), (cQ, .object "SchemaReader$Schema")] (fun u : (Nat → Int32) × (Nat → Int32) => [(obS, .inr (8, [.ref sq_plain, .ref sq_kinds, .ref sq_meant, .ref sq_firsts, .ref sq_nexts, .ref sq_names, .ref sq_fieldNames, .ref sq_amounts, .ref sq_fieldDefaults, .ref sq_enumDefaults, .int s_letterCount, .int s_slotCount])), (sq_fieldNames, .inl (cI, 128, .inl u.1)), (sq_fieldDefaults, .inl (cZ, 128, .inl u.2))]) A) A) [.ref obS, .int a0, .int a1, .int a2].toArray s 0 0 A = Q0
  have hl := lv_entry [.ref obS, .int a0, .int a1, .int a2] (n := 4) (Nat.le_of_ble_eq_true rfl)
  rw [lg_entry_eq]
  generalize (lg_sl [.ref obS, .int a0, .int a1, .int a2] ++ List.replicate (4 - (lg_sl [.ref obS, .int a0, .int a1, .int a2]).length) Slot.unset).toArray = ls at hl ⊢
  have hl : lv_has ls 4 [(0, .ref obS), (1, .int a0), (2, .int a1), (3, .int a2)] := hl
  unfold m_X6_setField at hm
  refine lv_iload_n hx hb dX6_setField_0 rfl (lv_at hl 1 rfl) ?_
  obtain ⟨r1, hz1, hm⟩ := mr_bind hm
  refine mr_pS (As := [.int a0]) (rest := []) (sr_okZ adK adV) ⟨hx, hb, hml, hown, hts⟩ (kX6_isSlot l htr dC dI adK adV cI cB cJ cZ cQ  a0 r1 hz1) (va_cwS 1 hts (g6_55 _) rfl rfl rfl (by decide +kernel) ⟨(by show 0 + 1 ≤ 1; omega), (by show 8 + (1 + 11) + (0) ≤ 20; omega)⟩) hS hP hK hz0 [] rfl rfl rfl hl.1 (Nat.le_of_ble_eq_true rfl) dX6_setField_1 ⟨Nat.zero_le _, Nat.zero_le _⟩ ?_
  refine lv_if_eq (tgt := 21) hx hb dX6_setField_4 (by decide) (fun c2 => ?_) (fun c2 => ?_)
  · have hm := mr_if c2 hm
    obtain rfl := Option.some.inj hm
    subst hQ0
    exact W.vret hx hb hr (fun t ht hW => ⟨⟨(s_fieldNames, s_fieldDefaults), rfl, rfl, by rw [ht]; exact hP, va_K.moved hW.alike hK, hD⟩, hS.F ht⟩) hS.2.2 dX6_setField_21
  · have hm := mr_un c2 hm
    refine lv_aload_n hx hb dX6_setField_7 rfl (lv_at hl 0 rfl) ?_
    refine va_get (D := (dC, dI)) (ci := 8) (v := .ref sq_fieldNames) (C := RX6) (T := TX6) (N := 12) hx hb hts (inX6 _) hown hK hP 0 rfl rfl 6 (by decide) (hts _ (List.mem_cons_of_mem _ wf6_31)) (fun _ h9 => h9) rfl dX6_setField_8 ?_
    refine lv_iload_n hx hb dX6_setField_11 rfl (lv_at hl 1 rfl) ?_
    refine lv_iload_n hx hb dX6_setField_12 rfl (lv_at hl 2 rfl) ?_
    obtain ⟨h3, hm⟩ := mr_bd hm
    refine va_iast hx hb hK hP hD hS 1 0 rfl rfl h3 dX6_setField_13 (fun H locs hP hD hS => ?_)
    have hP : va_P (dC, dI) srCl [(obS, .inr (8, [.ref sq_plain, .ref sq_kinds, .ref sq_meant, .ref sq_firsts, .ref sq_nexts, .ref sq_names, .ref sq_fieldNames, .ref sq_amounts, .ref sq_fieldDefaults, .ref sq_enumDefaults, .int s_letterCount, .int s_slotCount])), (sq_fieldNames, .inl (cI, 128, .inl (upd s_fieldNames (a0 : Int32).toNatClampNeg a1))), (sq_fieldDefaults, .inl (cZ, 128, .inl s_fieldDefaults))] H := hP
    have hD : va_D A [(obS, .inr (8, [.ref sq_plain, .ref sq_kinds, .ref sq_meant, .ref sq_firsts, .ref sq_nexts, .ref sq_names, .ref sq_fieldNames, .ref sq_amounts, .ref sq_fieldDefaults, .ref sq_enumDefaults, .int s_letterCount, .int s_slotCount])), (sq_fieldNames, .inl (cI, 128, .inl (upd s_fieldNames (a0 : Int32).toNatClampNeg a1))), (sq_fieldDefaults, .inl (cZ, 128, .inl s_fieldDefaults))] := hD
    refine lv_aload_n hx hb dX6_setField_14 rfl (lv_at hl 0 rfl) ?_
    refine va_get (D := (dC, dI)) (ci := 8) (v := .ref sq_fieldDefaults) (C := RX6) (T := TX6) (N := 12) hx hb hts (inX6 _) hown hK hP 0 rfl rfl 8 (by decide) (hts _ (List.mem_cons_of_mem _ wf6_37)) (fun _ h9 => h9) rfl dX6_setField_15 ?_
    refine lv_iload_n hx hb dX6_setField_18 rfl (lv_at hl 1 rfl) ?_
    refine lv_iload_n hx hb dX6_setField_19 rfl (lv_at hl 3 rfl) ?_
    obtain ⟨h4, hm⟩ := mr_bd hm
    refine va_zast hx hb hK hP hD hS 2 3 rfl rfl h4 dX6_setField_20 (fun H locs hP hD hS => ?_)
    have hP : va_P (dC, dI) srCl [(obS, .inr (8, [.ref sq_plain, .ref sq_kinds, .ref sq_meant, .ref sq_firsts, .ref sq_nexts, .ref sq_names, .ref sq_fieldNames, .ref sq_amounts, .ref sq_fieldDefaults, .ref sq_enumDefaults, .int s_letterCount, .int s_slotCount])), (sq_fieldNames, .inl (cI, 128, .inl (upd s_fieldNames (a0 : Int32).toNatClampNeg a1))), (sq_fieldDefaults, .inl (cZ, 128, .inl (upd s_fieldDefaults (a0 : Int32).toNatClampNeg (vp_nar .boolean a2))))] H := hP
    have hD : va_D A [(obS, .inr (8, [.ref sq_plain, .ref sq_kinds, .ref sq_meant, .ref sq_firsts, .ref sq_nexts, .ref sq_names, .ref sq_fieldNames, .ref sq_amounts, .ref sq_fieldDefaults, .ref sq_enumDefaults, .int s_letterCount, .int s_slotCount])), (sq_fieldNames, .inl (cI, 128, .inl (upd s_fieldNames (a0 : Int32).toNatClampNeg a1))), (sq_fieldDefaults, .inl (cZ, 128, .inl (upd s_fieldDefaults (a0 : Int32).toNatClampNeg (vp_nar .boolean a2))))] := hD
    obtain rfl := Option.some.inj hm
    subst hQ0
    exact W.vret hx hb hr (fun t ht hW => ⟨⟨((upd s_fieldNames (a0 : Int32).toNatClampNeg a1), (upd s_fieldDefaults (a0 : Int32).toNatClampNeg (vp_nar .boolean a2))), rfl, rfl, by rw [ht]; exact hP, va_K.moved hW.alike hK, hD⟩, hS.F ht⟩) hS.2.2 dX6_setField_21
set_option maxHeartbeats 4000000 in
set_option maxRecDepth 100000 in
theorem kX6_setEnumDefault (l : Launch) (htr : l.stackTraces = false) (dC : Nat → ClassId) (dI : Nat → Nat → Nat) (adK adV : Nat → Nat) (cI cB cJ cZ cQ : ClassId) (obS sq_plain sq_kinds sq_meant sq_firsts sq_nexts sq_names sq_fieldNames sq_amounts sq_fieldDefaults sq_enumDefaults : Nat) (s_letterCount : Int32) (s_slotCount : Int32) (s_enumDefaults : Nat → Int32) (sz : Nat) (a0 : Int32) (res : (Nat → Int32)) (hm : m_X6_setEnumDefault s_enumDefaults a0 = some res) : Met l yX6_setEnumDefault wsX6_setEnumDefault (rmX6_setEnumDefault 0 0) (pcW (sr_Z adK adV) (dC, dI) srCl [(cI, .int), (cB, .byte), (cJ, .long), (cZ, .boolean), (cQ, .object "SchemaReader$Schema")] [.ref obS, .int a0] [(obS, .inr (8, [.ref sq_plain, .ref sq_kinds, .ref sq_meant, .ref sq_firsts, .ref sq_nexts, .ref sq_names, .ref sq_fieldNames, .ref sq_amounts, .ref sq_fieldDefaults, .ref sq_enumDefaults, .int s_letterCount, .int s_slotCount])), (sq_enumDefaults, .inl (cZ, 128, .inl s_enumDefaults))] sz) (va_Qv (fun u' => u' = res) (pcB (dC, dI) srCl [(cI, .int), (cB, .byte), (cJ, .long), (cZ, .boolean), (cQ, .object "SchemaReader$Schema")] (fun u : (Nat → Int32) => [(obS, .inr (8, [.ref sq_plain, .ref sq_kinds, .ref sq_meant, .ref sq_firsts, .ref sq_nexts, .ref sq_names, .ref sq_fieldNames, .ref sq_amounts, .ref sq_fieldDefaults, .ref sq_enumDefaults, .int s_letterCount, .int s_slotCount])), (sq_enumDefaults, .inl (cZ, 128, .inl u))]) (va_A [(obS, .inr (8, [.ref sq_plain, .ref sq_kinds, .ref sq_meant, .ref sq_firsts, .ref sq_nexts, .ref sq_names, .ref sq_fieldNames, .ref sq_amounts, .ref sq_fieldDefaults, .ref sq_enumDefaults, .int s_letterCount, .int s_slotCount])), (sq_enumDefaults, .inl (cZ, 128, .inl s_enumDefaults))] sz)) (va_A [(obS, .inr (8, [.ref sq_plain, .ref sq_kinds, .ref sq_meant, .ref sq_firsts, .ref sq_nexts, .ref sq_names, .ref sq_fieldNames, .ref sq_amounts, .ref sq_fieldDefaults, .ref sq_enumDefaults, .int s_letterCount, .int s_slotCount])), (sq_enumDefaults, .inl (cZ, 128, .inl s_enumDefaults))] sz)) 0 0 (va_A [(obS, .inr (8, [.ref sq_plain, .ref sq_kinds, .ref sq_meant, .ref sq_firsts, .ref sq_nexts, .ref sq_names, .ref sq_fieldNames, .ref sq_amounts, .ref sq_fieldDefaults, .ref sq_enumDefaults, .int s_letterCount, .int s_slotCount])), (sq_enumDefaults, .inl (cZ, 128, .inl s_enumDefaults))] sz) := by
  refine Met.ofW (cc := cX6_setEnumDefault) (maxL := 2) (ret := none) (by decide) rfl ?_
  intro p e s m args below meth c s₁ B hml hv
  obtain ⟨rfl, hsz, hP, hK, hD0, hz0⟩ := hv
  have hx := B.exec
  have hb := B.bytes
  have hr := B.returns
  have hts := atoms_spec (ws := wsX6_setEnumDefault) B.pre
  have hown : s.vm.findClass RX6 = some m.cls := findClass_of_methodNamed B.named
  have hlocks := B.notSynchronized
  subst hsz
  have hD := hD0.self (sz := s.heap.size)
  generalize hAe : va_A [(obS, .inr (8, [.ref sq_plain, .ref sq_kinds, .ref sq_meant, .ref sq_firsts, .ref sq_nexts, .ref sq_names, .ref sq_fieldNames, .ref sq_amounts, .ref sq_fieldDefaults, .ref sq_enumDefaults, .int s_letterCount, .int s_slotCount])), (sq_enumDefaults, .inl (cZ, 128, .inl s_enumDefaults))] s.heap.size = A at hD hz0 ⊢
  have hA : ∀ q : Nat, s.heap.size ≤ q → A q := fun q h => by rw [← hAe]; exact Or.inr h
  have hS : va_S A s.heap s.heap [] := va_S.rf
  generalize hQ0 : MQ below (va_Qv (fun u' => u' = res) (pcB (dC, dI) srCl [(cI, .int), (cB, .byte), (cJ, .long), (cZ, .boolean), (cQ, .object "SchemaReader$Schema")] (fun u : (Nat → Int32) => [(obS, .inr (8, [.ref sq_plain, .ref sq_kinds, .ref sq_meant, .ref sq_firsts, .ref sq_nexts, .ref sq_names, .ref sq_fieldNames, .ref sq_amounts, .ref sq_fieldDefaults, .ref sq_enumDefaults, .int s_letterCount, .int s_slotCount])), (sq_enumDefaults, .inl (cZ, 128, .inl u))]) A) A) [.ref obS, .int a0].toArray s 0 0 A = Q0
  have hl := lv_entry [.ref obS, .int a0] (n := 2) (Nat.le_of_ble_eq_true rfl)
  rw [lg_entry_eq]
  generalize (lg_sl [.ref obS, .int a0] ++ List.replicate (2 - (lg_sl [.ref obS, .int a0]).length) Slot.unset).toArray = ls at hl ⊢
  have hl : lv_has ls 2 [(0, .ref obS), (1, .int a0)] := hl
  unfold m_X6_setEnumDefault at hm
  refine lv_iload_n hx hb dX6_setEnumDefault_0 rfl (lv_at hl 1 rfl) ?_
  obtain ⟨r1, hz1, hm⟩ := mr_bind hm
  refine mr_pS (As := [.int a0]) (rest := []) (sr_okZ adK adV) ⟨hx, hb, hml, hown, hts⟩ (kX6_isSlot l htr dC dI adK adV cI cB cJ cZ cQ  a0 r1 hz1) (va_cwS 1 hts (g6_55 _) rfl rfl rfl (by decide +kernel) ⟨(by show 0 + 1 ≤ 1; omega), (by show 8 + (1 + 11) + (0) ≤ 20; omega)⟩) hS hP hK hz0 [] rfl rfl rfl hl.1 (Nat.le_of_ble_eq_true rfl) dX6_setEnumDefault_1 ⟨Nat.zero_le _, Nat.zero_le _⟩ ?_
  refine lv_if_eq (tgt := 14) hx hb dX6_setEnumDefault_4 (by decide) (fun c2 => ?_) (fun c2 => ?_)
  · have hm := mr_if c2 hm
    obtain rfl := Option.some.inj hm
    subst hQ0
    exact W.vret hx hb hr (fun t ht hW => ⟨⟨s_enumDefaults, rfl, rfl, by rw [ht]; exact hP, va_K.moved hW.alike hK, hD⟩, hS.F ht⟩) hS.2.2 dX6_setEnumDefault_14
  · have hm := mr_un c2 hm
    refine lv_aload_n hx hb dX6_setEnumDefault_7 rfl (lv_at hl 0 rfl) ?_
    refine va_get (D := (dC, dI)) (ci := 8) (v := .ref sq_enumDefaults) (C := RX6) (T := TX6) (N := 12) hx hb hts (inX6 _) hown hK hP 0 rfl rfl 9 (by decide) (hts _ (List.mem_cons_of_mem _ wf6_41)) (fun _ h9 => h9) rfl dX6_setEnumDefault_8 ?_
    refine lv_iload_n hx hb dX6_setEnumDefault_11 rfl (lv_at hl 1 rfl) ?_
    refine lv_iconst (v := 1) hx hb dX6_setEnumDefault_12 (by decide) ?_
    obtain ⟨h3, hm⟩ := mr_bd hm
    refine va_zast hx hb hK hP hD hS 1 3 rfl rfl h3 dX6_setEnumDefault_13 (fun H locs hP hD hS => ?_)
    have hP : va_P (dC, dI) srCl [(obS, .inr (8, [.ref sq_plain, .ref sq_kinds, .ref sq_meant, .ref sq_firsts, .ref sq_nexts, .ref sq_names, .ref sq_fieldNames, .ref sq_amounts, .ref sq_fieldDefaults, .ref sq_enumDefaults, .int s_letterCount, .int s_slotCount])), (sq_enumDefaults, .inl (cZ, 128, .inl (upd s_enumDefaults (a0 : Int32).toNatClampNeg (vp_nar .boolean 1))))] H := hP
    have hD : va_D A [(obS, .inr (8, [.ref sq_plain, .ref sq_kinds, .ref sq_meant, .ref sq_firsts, .ref sq_nexts, .ref sq_names, .ref sq_fieldNames, .ref sq_amounts, .ref sq_fieldDefaults, .ref sq_enumDefaults, .int s_letterCount, .int s_slotCount])), (sq_enumDefaults, .inl (cZ, 128, .inl (upd s_enumDefaults (a0 : Int32).toNatClampNeg (vp_nar .boolean 1))))] := hD
    obtain rfl := Option.some.inj hm
    subst hQ0
    exact W.vret hx hb hr (fun t ht hW => ⟨⟨(upd s_enumDefaults (a0 : Int32).toNatClampNeg (vp_nar .boolean 1)), rfl, rfl, by rw [ht]; exact hP, va_K.moved hW.alike hK, hD⟩, hS.F ht⟩) hS.2.2 dX6_setEnumDefault_14
set_option maxHeartbeats 4000000 in
set_option maxRecDepth 100000 in
theorem kX6_join (l : Launch) (htr : l.stackTraces = false) (dC : Nat → ClassId) (dI : Nat → Nat → Nat) (adK adV : Nat → Nat) (cI cB cJ cZ cQ : ClassId) (obS sq_plain sq_kinds sq_meant sq_firsts sq_nexts sq_names sq_fieldNames sq_amounts sq_fieldDefaults sq_enumDefaults : Nat) (s_letterCount : Int32) (s_slotCount : Int32) (s_firsts : Nat → Int32) (s_nexts : Nat → Int32) (s_amounts : Nat → Int32) (sz : Nat) (a0 : Int32) (a1 : Int32) (a2 : Int32) (res : (Nat → Int32) × (Nat → Int32) × (Nat → Int32)) (hm : m_X6_join s_firsts s_nexts s_amounts a0 a1 a2 = some res) : Met l yX6_join wsX6_join (rmX6_join 0 0) (pcW (sr_Z adK adV) (dC, dI) srCl [(cI, .int), (cB, .byte), (cJ, .long), (cZ, .boolean), (cQ, .object "SchemaReader$Schema")] [.ref obS, .int a0, .int a1, .int a2] [(obS, .inr (8, [.ref sq_plain, .ref sq_kinds, .ref sq_meant, .ref sq_firsts, .ref sq_nexts, .ref sq_names, .ref sq_fieldNames, .ref sq_amounts, .ref sq_fieldDefaults, .ref sq_enumDefaults, .int s_letterCount, .int s_slotCount])), (sq_firsts, .inl (cI, 128, .inl s_firsts)), (sq_nexts, .inl (cI, 128, .inl s_nexts)), (sq_amounts, .inl (cI, 128, .inl s_amounts))] sz) (va_Qv (fun u' => u' = res) (pcB (dC, dI) srCl [(cI, .int), (cB, .byte), (cJ, .long), (cZ, .boolean), (cQ, .object "SchemaReader$Schema")] (fun u : (Nat → Int32) × (Nat → Int32) × (Nat → Int32) => [(obS, .inr (8, [.ref sq_plain, .ref sq_kinds, .ref sq_meant, .ref sq_firsts, .ref sq_nexts, .ref sq_names, .ref sq_fieldNames, .ref sq_amounts, .ref sq_fieldDefaults, .ref sq_enumDefaults, .int s_letterCount, .int s_slotCount])), (sq_firsts, .inl (cI, 128, .inl u.1)), (sq_nexts, .inl (cI, 128, .inl u.2.1)), (sq_amounts, .inl (cI, 128, .inl u.2.2))]) (va_A [(obS, .inr (8, [.ref sq_plain, .ref sq_kinds, .ref sq_meant, .ref sq_firsts, .ref sq_nexts, .ref sq_names, .ref sq_fieldNames, .ref sq_amounts, .ref sq_fieldDefaults, .ref sq_enumDefaults, .int s_letterCount, .int s_slotCount])), (sq_firsts, .inl (cI, 128, .inl s_firsts)), (sq_nexts, .inl (cI, 128, .inl s_nexts)), (sq_amounts, .inl (cI, 128, .inl s_amounts))] sz)) (va_A [(obS, .inr (8, [.ref sq_plain, .ref sq_kinds, .ref sq_meant, .ref sq_firsts, .ref sq_nexts, .ref sq_names, .ref sq_fieldNames, .ref sq_amounts, .ref sq_fieldDefaults, .ref sq_enumDefaults, .int s_letterCount, .int s_slotCount])), (sq_firsts, .inl (cI, 128, .inl s_firsts)), (sq_nexts, .inl (cI, 128, .inl s_nexts)), (sq_amounts, .inl (cI, 128, .inl s_amounts))] sz)) 0 0 (va_A [(obS, .inr (8, [.ref sq_plain, .ref sq_kinds, .ref sq_meant, .ref sq_firsts, .ref sq_nexts, .ref sq_names, .ref sq_fieldNames, .ref sq_amounts, .ref sq_fieldDefaults, .ref sq_enumDefaults, .int s_letterCount, .int s_slotCount])), (sq_firsts, .inl (cI, 128, .inl s_firsts)), (sq_nexts, .inl (cI, 128, .inl s_nexts)), (sq_amounts, .inl (cI, 128, .inl s_amounts))] sz) := by
  refine Met.ofW (cc := cX6_join) (maxL := 4) (ret := none) (by decide) rfl ?_
  intro p e s m args below meth c s₁ B hml hv
  obtain ⟨rfl, hsz, hP, hK, hD0, hz0⟩ := hv
  have hx := B.exec
  have hb := B.bytes
  have hr := B.returns
  have hts := atoms_spec (ws := wsX6_join) B.pre
  have hown : s.vm.findClass RX6 = some m.cls := findClass_of_methodNamed B.named
  have hlocks := B.notSynchronized
  subst hsz
  have hD := hD0.self (sz := s.heap.size)
  generalize hAe : va_A [(obS, .inr (8, [.ref sq_plain, .ref sq_kinds, .ref sq_meant, .ref sq_firsts, .ref sq_nexts, .ref sq_names, .ref sq_fieldNames, .ref sq_amounts, .ref sq_fieldDefaults, .ref sq_enumDefaults, .int s_letterCount, .int s_slotCount])), (sq_firsts, .inl (cI, 128, .inl s_firsts)), (sq_nexts, .inl (cI, 128, .inl s_nexts)), (sq_amounts, .inl (cI, 128, .inl s_amounts))] s.heap.size = A at hD hz0 ⊢
  have hA : ∀ q : Nat, s.heap.size ≤ q → A q := fun q h => by rw [← hAe]; exact Or.inr h
  have hS : va_S A s.heap s.heap [] := va_S.rf
  generalize hQ0 : MQ below (va_Qv (fun u' => u' = res) (pcB (dC, dI) srCl [(cI, .int), (cB, .byte), (cJ, .long), (cZ, .boolean), (cQ, .object "SchemaReader$Schema")] (fun u : (Nat → Int32) × (Nat → Int32) × (Nat → Int32) => [(obS, .inr (8, [.ref sq_plain, .ref sq_kinds, .ref sq_meant, .ref sq_firsts, .ref sq_nexts, .ref sq_names, .ref sq_fieldNames, .ref sq_amounts, .ref sq_fieldDefaults, .ref sq_enumDefaults, .int s_letterCount, .int s_slotCount])), (sq_firsts, .inl (cI, 128, .inl u.1)), (sq_nexts, .inl (cI, 128, .inl u.2.1)), (sq_amounts, .inl (cI, 128, .inl u.2.2))]) A) A) [.ref obS, .int a0, .int a1, .int a2].toArray s 0 0 A = Q0
  have hl := lv_entry [.ref obS, .int a0, .int a1, .int a2] (n := 4) (Nat.le_of_ble_eq_true rfl)
  rw [lg_entry_eq]
  generalize (lg_sl [.ref obS, .int a0, .int a1, .int a2] ++ List.replicate (4 - (lg_sl [.ref obS, .int a0, .int a1, .int a2]).length) Slot.unset).toArray = ls at hl ⊢
  have hl : lv_has ls 4 [(0, .ref obS), (1, .int a0), (2, .int a1), (3, .int a2)] := hl
  unfold m_X6_join at hm
  refine lv_iload_n hx hb dX6_join_0 rfl (lv_at hl 1 rfl) ?_
  obtain ⟨r1, hz1, hm⟩ := mr_bind hm
  refine mr_pS (As := [.int a0]) (rest := []) (sr_okZ adK adV) ⟨hx, hb, hml, hown, hts⟩ (kX6_isSlot l htr dC dI adK adV cI cB cJ cZ cQ  a0 r1 hz1) (va_cwS 1 hts (g6_55 _) rfl rfl rfl (by decide +kernel) ⟨(by show 0 + 1 ≤ 1; omega), (by show 8 + (1 + 11) + (0) ≤ 20; omega)⟩) hS hP hK hz0 [] rfl rfl rfl hl.1 (Nat.le_of_ble_eq_true rfl) dX6_join_1 ⟨Nat.zero_le _, Nat.zero_le _⟩ ?_
  refine lv_if_ne (tgt := 8) hx hb dX6_join_4 (by decide) (fun c2 => ?_) (fun c2 => ?_)
  · have hm := mr_un c2 hm
    refine lv_iload_n hx hb dX6_join_8 rfl (lv_at hl 2 rfl) ?_
    obtain ⟨r3, hz3, hm⟩ := mr_bind hm
    refine mr_pS (As := [.int a1]) (rest := []) (sr_okZ adK adV) ⟨hx, hb, hml, hown, hts⟩ (kX6_isSlot l htr dC dI adK adV cI cB cJ cZ cQ  a1 r3 hz3) (va_cwS 1 hts (g6_55 _) rfl rfl rfl (by decide +kernel) ⟨(by show 0 + 1 ≤ 1; omega), (by show 8 + (1 + 11) + (0) ≤ 20; omega)⟩) hS hP hK hz0 [] rfl rfl rfl hl.1 (Nat.le_of_ble_eq_true rfl) dX6_join_9 ⟨Nat.zero_le _, Nat.zero_le _⟩ ?_
    refine lv_if_eq (tgt := 25) hx hb dX6_join_12 (by decide) (fun c4 => ?_) (fun c4 => ?_)
    · have hm := mr_if c4 hm
      refine lv_aload_n hx hb dX6_join_25 rfl (lv_at hl 0 rfl) ?_
      refine va_get (D := (dC, dI)) (ci := 8) (v := .ref sq_firsts) (C := RX6) (T := TX6) (N := 12) hx hb hts (inX6 _) hown hK hP 0 rfl rfl 3 (by decide) (hts _ (List.mem_cons_of_mem _ wf6_22)) (fun _ h9 => h9) rfl dX6_join_26 ?_
      refine lv_iload_n hx hb dX6_join_29 rfl (lv_at hl 1 rfl) ?_
      refine lv_iload_n hx hb dX6_join_30 rfl (lv_at hl 3 rfl) ?_
      obtain ⟨h5, hm⟩ := mr_bd hm
      refine va_iast hx hb hK hP hD hS 1 0 rfl rfl h5 dX6_join_31 (fun H locs hP hD hS => ?_)
      have hP : va_P (dC, dI) srCl [(obS, .inr (8, [.ref sq_plain, .ref sq_kinds, .ref sq_meant, .ref sq_firsts, .ref sq_nexts, .ref sq_names, .ref sq_fieldNames, .ref sq_amounts, .ref sq_fieldDefaults, .ref sq_enumDefaults, .int s_letterCount, .int s_slotCount])), (sq_firsts, .inl (cI, 128, .inl (upd s_firsts (a0 : Int32).toNatClampNeg a2))), (sq_nexts, .inl (cI, 128, .inl s_nexts)), (sq_amounts, .inl (cI, 128, .inl s_amounts))] H := hP
      have hD : va_D A [(obS, .inr (8, [.ref sq_plain, .ref sq_kinds, .ref sq_meant, .ref sq_firsts, .ref sq_nexts, .ref sq_names, .ref sq_fieldNames, .ref sq_amounts, .ref sq_fieldDefaults, .ref sq_enumDefaults, .int s_letterCount, .int s_slotCount])), (sq_firsts, .inl (cI, 128, .inl (upd s_firsts (a0 : Int32).toNatClampNeg a2))), (sq_nexts, .inl (cI, 128, .inl s_nexts)), (sq_amounts, .inl (cI, 128, .inl s_amounts))] := hD
      refine lv_aload_n hx hb dX6_join_32 rfl (lv_at hl 0 rfl) ?_
      refine va_get (D := (dC, dI)) (ci := 8) (v := .ref sq_amounts) (C := RX6) (T := TX6) (N := 12) hx hb hts (inX6 _) hown hK hP 0 rfl rfl 7 (by decide) (hts _ (List.mem_cons_of_mem _ wf6_34)) (fun _ h9 => h9) rfl dX6_join_33 ?_
      refine lv_iload_n hx hb dX6_join_36 rfl (lv_at hl 1 rfl) ?_
      refine lv_dup2_11 hx hb dX6_join_37 rfl rfl ?_
      obtain ⟨h6, hm⟩ := mr_bd hm
      refine va_iald hx hb hK hP 3 0 rfl rfl h6 dX6_join_38 ?_
      refine lv_iconst (v := 1) hx hb dX6_join_39 (by decide) ?_
      refine lv_iadd hx hb dX6_join_40 ?_
      obtain ⟨h7, hm⟩ := mr_bd hm
      refine va_iast hx hb hK hP hD hS 3 0 rfl rfl h7 dX6_join_41 (fun H locs hP hD hS => ?_)
      have hP : va_P (dC, dI) srCl [(obS, .inr (8, [.ref sq_plain, .ref sq_kinds, .ref sq_meant, .ref sq_firsts, .ref sq_nexts, .ref sq_names, .ref sq_fieldNames, .ref sq_amounts, .ref sq_fieldDefaults, .ref sq_enumDefaults, .int s_letterCount, .int s_slotCount])), (sq_firsts, .inl (cI, 128, .inl (upd s_firsts (a0 : Int32).toNatClampNeg a2))), (sq_nexts, .inl (cI, 128, .inl s_nexts)), (sq_amounts, .inl (cI, 128, .inl (upd s_amounts (a0 : Int32).toNatClampNeg ((s_amounts (a0 : Int32).toNatClampNeg) + 1))))] H := hP
      have hD : va_D A [(obS, .inr (8, [.ref sq_plain, .ref sq_kinds, .ref sq_meant, .ref sq_firsts, .ref sq_nexts, .ref sq_names, .ref sq_fieldNames, .ref sq_amounts, .ref sq_fieldDefaults, .ref sq_enumDefaults, .int s_letterCount, .int s_slotCount])), (sq_firsts, .inl (cI, 128, .inl (upd s_firsts (a0 : Int32).toNatClampNeg a2))), (sq_nexts, .inl (cI, 128, .inl s_nexts)), (sq_amounts, .inl (cI, 128, .inl (upd s_amounts (a0 : Int32).toNatClampNeg ((s_amounts (a0 : Int32).toNatClampNeg) + 1))))] := hD
      obtain rfl := Option.some.inj hm
      subst hQ0
      exact W.vret hx hb hr (fun t ht hW => ⟨⟨((upd s_firsts (a0 : Int32).toNatClampNeg a2), s_nexts, (upd s_amounts (a0 : Int32).toNatClampNeg ((s_amounts (a0 : Int32).toNatClampNeg) + 1))), rfl, rfl, by rw [ht]; exact hP, va_K.moved hW.alike hK, hD⟩, hS.F ht⟩) hS.2.2 dX6_join_42
    · have hm := mr_un c4 hm
      refine lv_aload_n hx hb dX6_join_15 rfl (lv_at hl 0 rfl) ?_
      refine va_get (D := (dC, dI)) (ci := 8) (v := .ref sq_nexts) (C := RX6) (T := TX6) (N := 12) hx hb hts (inX6 _) hown hK hP 0 rfl rfl 4 (by decide) (hts _ (List.mem_cons_of_mem _ wf6_25)) (fun _ h9 => h9) rfl dX6_join_16 ?_
      refine lv_iload_n hx hb dX6_join_19 rfl (lv_at hl 2 rfl) ?_
      refine lv_iload_n hx hb dX6_join_20 rfl (lv_at hl 3 rfl) ?_
      obtain ⟨h8, hm⟩ := mr_bd hm
      refine va_iast hx hb hK hP hD hS 2 0 rfl rfl h8 dX6_join_21 (fun H locs hP hD hS => ?_)
      have hP : va_P (dC, dI) srCl [(obS, .inr (8, [.ref sq_plain, .ref sq_kinds, .ref sq_meant, .ref sq_firsts, .ref sq_nexts, .ref sq_names, .ref sq_fieldNames, .ref sq_amounts, .ref sq_fieldDefaults, .ref sq_enumDefaults, .int s_letterCount, .int s_slotCount])), (sq_firsts, .inl (cI, 128, .inl s_firsts)), (sq_nexts, .inl (cI, 128, .inl (upd s_nexts (a1 : Int32).toNatClampNeg a2))), (sq_amounts, .inl (cI, 128, .inl s_amounts))] H := hP
      have hD : va_D A [(obS, .inr (8, [.ref sq_plain, .ref sq_kinds, .ref sq_meant, .ref sq_firsts, .ref sq_nexts, .ref sq_names, .ref sq_fieldNames, .ref sq_amounts, .ref sq_fieldDefaults, .ref sq_enumDefaults, .int s_letterCount, .int s_slotCount])), (sq_firsts, .inl (cI, 128, .inl s_firsts)), (sq_nexts, .inl (cI, 128, .inl (upd s_nexts (a1 : Int32).toNatClampNeg a2))), (sq_amounts, .inl (cI, 128, .inl s_amounts))] := hD
      refine lv_goto (tgt := 32) hx hb dX6_join_22 (by decide) ?_
      refine lv_aload_n hx hb dX6_join_32 rfl (lv_at hl 0 rfl) ?_
      refine va_get (D := (dC, dI)) (ci := 8) (v := .ref sq_amounts) (C := RX6) (T := TX6) (N := 12) hx hb hts (inX6 _) hown hK hP 0 rfl rfl 7 (by decide) (hts _ (List.mem_cons_of_mem _ wf6_34)) (fun _ h9 => h9) rfl dX6_join_33 ?_
      refine lv_iload_n hx hb dX6_join_36 rfl (lv_at hl 1 rfl) ?_
      refine lv_dup2_11 hx hb dX6_join_37 rfl rfl ?_
      obtain ⟨h9, hm⟩ := mr_bd hm
      refine va_iald hx hb hK hP 3 0 rfl rfl h9 dX6_join_38 ?_
      refine lv_iconst (v := 1) hx hb dX6_join_39 (by decide) ?_
      refine lv_iadd hx hb dX6_join_40 ?_
      obtain ⟨h10, hm⟩ := mr_bd hm
      refine va_iast hx hb hK hP hD hS 3 0 rfl rfl h10 dX6_join_41 (fun H locs hP hD hS => ?_)
      have hP : va_P (dC, dI) srCl [(obS, .inr (8, [.ref sq_plain, .ref sq_kinds, .ref sq_meant, .ref sq_firsts, .ref sq_nexts, .ref sq_names, .ref sq_fieldNames, .ref sq_amounts, .ref sq_fieldDefaults, .ref sq_enumDefaults, .int s_letterCount, .int s_slotCount])), (sq_firsts, .inl (cI, 128, .inl s_firsts)), (sq_nexts, .inl (cI, 128, .inl (upd s_nexts (a1 : Int32).toNatClampNeg a2))), (sq_amounts, .inl (cI, 128, .inl (upd s_amounts (a0 : Int32).toNatClampNeg ((s_amounts (a0 : Int32).toNatClampNeg) + 1))))] H := hP
      have hD : va_D A [(obS, .inr (8, [.ref sq_plain, .ref sq_kinds, .ref sq_meant, .ref sq_firsts, .ref sq_nexts, .ref sq_names, .ref sq_fieldNames, .ref sq_amounts, .ref sq_fieldDefaults, .ref sq_enumDefaults, .int s_letterCount, .int s_slotCount])), (sq_firsts, .inl (cI, 128, .inl s_firsts)), (sq_nexts, .inl (cI, 128, .inl (upd s_nexts (a1 : Int32).toNatClampNeg a2))), (sq_amounts, .inl (cI, 128, .inl (upd s_amounts (a0 : Int32).toNatClampNeg ((s_amounts (a0 : Int32).toNatClampNeg) + 1))))] := hD
      obtain rfl := Option.some.inj hm
      subst hQ0
      exact W.vret hx hb hr (fun t ht hW => ⟨⟨(s_firsts, (upd s_nexts (a1 : Int32).toNatClampNeg a2), (upd s_amounts (a0 : Int32).toNatClampNeg ((s_amounts (a0 : Int32).toNatClampNeg) + 1))), rfl, rfl, by rw [ht]; exact hP, va_K.moved hW.alike hK, hD⟩, hS.F ht⟩) hS.2.2 dX6_join_42
  · have hm := mr_if c2 hm
    obtain rfl := Option.some.inj hm
    subst hQ0
    exact W.vret hx hb hr (fun t ht hW => ⟨⟨(s_firsts, s_nexts, s_amounts), rfl, rfl, by rw [ht]; exact hP, va_K.moved hW.alike hK, hD⟩, hS.F ht⟩) hS.2.2 dX6_join_7
set_option maxHeartbeats 4000000 in
set_option maxRecDepth 100000 in
theorem kX6_writeByte (l : Launch) (htr : l.stackTraces = false) (dC : Nat → ClassId) (dI : Nat → Nat → Nat) (adK adV : Nat → Nat) (cI cB cJ cZ cQ : ClassId) (obS sq_plain sq_kinds sq_meant sq_firsts sq_nexts sq_names sq_fieldNames sq_amounts sq_fieldDefaults sq_enumDefaults : Nat) (s_letterCount : Int32) (s_slotCount : Int32) (s_plain : Nat → Int32) (sz : Nat) (a0 : Int32) (res : (Nat → Int32) × Int32) (hm : m_X6_writeByte s_plain s_letterCount a0 = some res) : Met l yX6_writeByte wsX6_writeByte (rmX6_writeByte 0 0) (pcW (sr_Z adK adV) (dC, dI) srCl [(cI, .int), (cB, .byte), (cJ, .long), (cZ, .boolean), (cQ, .object "SchemaReader$Schema")] [.ref obS, .int a0] [(obS, .inr (8, [.ref sq_plain, .ref sq_kinds, .ref sq_meant, .ref sq_firsts, .ref sq_nexts, .ref sq_names, .ref sq_fieldNames, .ref sq_amounts, .ref sq_fieldDefaults, .ref sq_enumDefaults, .int s_letterCount, .int s_slotCount])), (sq_plain, .inl (cB, 4096, .inl s_plain))] sz) (va_Qv (fun u' => u' = res) (pcB (dC, dI) srCl [(cI, .int), (cB, .byte), (cJ, .long), (cZ, .boolean), (cQ, .object "SchemaReader$Schema")] (fun u : (Nat → Int32) × Int32 => [(obS, .inr (8, [.ref sq_plain, .ref sq_kinds, .ref sq_meant, .ref sq_firsts, .ref sq_nexts, .ref sq_names, .ref sq_fieldNames, .ref sq_amounts, .ref sq_fieldDefaults, .ref sq_enumDefaults, .int u.2, .int s_slotCount])), (sq_plain, .inl (cB, 4096, .inl u.1))]) (va_A [(obS, .inr (8, [.ref sq_plain, .ref sq_kinds, .ref sq_meant, .ref sq_firsts, .ref sq_nexts, .ref sq_names, .ref sq_fieldNames, .ref sq_amounts, .ref sq_fieldDefaults, .ref sq_enumDefaults, .int s_letterCount, .int s_slotCount])), (sq_plain, .inl (cB, 4096, .inl s_plain))] sz)) (va_A [(obS, .inr (8, [.ref sq_plain, .ref sq_kinds, .ref sq_meant, .ref sq_firsts, .ref sq_nexts, .ref sq_names, .ref sq_fieldNames, .ref sq_amounts, .ref sq_fieldDefaults, .ref sq_enumDefaults, .int s_letterCount, .int s_slotCount])), (sq_plain, .inl (cB, 4096, .inl s_plain))] sz)) 0 0 (va_A [(obS, .inr (8, [.ref sq_plain, .ref sq_kinds, .ref sq_meant, .ref sq_firsts, .ref sq_nexts, .ref sq_names, .ref sq_fieldNames, .ref sq_amounts, .ref sq_fieldDefaults, .ref sq_enumDefaults, .int s_letterCount, .int s_slotCount])), (sq_plain, .inl (cB, 4096, .inl s_plain))] sz) := by
  refine Met.ofW (cc := cX6_writeByte) (maxL := 2) (ret := none) (by decide) rfl ?_
  intro p e s m args below meth c s₁ B hml hv
  obtain ⟨rfl, hsz, hP, hK, hD0, hz0⟩ := hv
  have hx := B.exec
  have hb := B.bytes
  have hr := B.returns
  have hts := atoms_spec (ws := wsX6_writeByte) B.pre
  have hown : s.vm.findClass RX6 = some m.cls := findClass_of_methodNamed B.named
  have hlocks := B.notSynchronized
  subst hsz
  have hD := hD0.self (sz := s.heap.size)
  generalize hAe : va_A [(obS, .inr (8, [.ref sq_plain, .ref sq_kinds, .ref sq_meant, .ref sq_firsts, .ref sq_nexts, .ref sq_names, .ref sq_fieldNames, .ref sq_amounts, .ref sq_fieldDefaults, .ref sq_enumDefaults, .int s_letterCount, .int s_slotCount])), (sq_plain, .inl (cB, 4096, .inl s_plain))] s.heap.size = A at hD hz0 ⊢
  have hA : ∀ q : Nat, s.heap.size ≤ q → A q := fun q h => by rw [← hAe]; exact Or.inr h
  have hS : va_S A s.heap s.heap [] := va_S.rf
  generalize hQ0 : MQ below (va_Qv (fun u' => u' = res) (pcB (dC, dI) srCl [(cI, .int), (cB, .byte), (cJ, .long), (cZ, .boolean), (cQ, .object "SchemaReader$Schema")] (fun u : (Nat → Int32) × Int32 => [(obS, .inr (8, [.ref sq_plain, .ref sq_kinds, .ref sq_meant, .ref sq_firsts, .ref sq_nexts, .ref sq_names, .ref sq_fieldNames, .ref sq_amounts, .ref sq_fieldDefaults, .ref sq_enumDefaults, .int u.2, .int s_slotCount])), (sq_plain, .inl (cB, 4096, .inl u.1))]) A) A) [.ref obS, .int a0].toArray s 0 0 A = Q0
  have hl := lv_entry [.ref obS, .int a0] (n := 2) (Nat.le_of_ble_eq_true rfl)
  rw [lg_entry_eq]
  generalize (lg_sl [.ref obS, .int a0] ++ List.replicate (2 - (lg_sl [.ref obS, .int a0]).length) Slot.unset).toArray = ls at hl ⊢
  have hl : lv_has ls 2 [(0, .ref obS), (1, .int a0)] := hl
  unfold m_X6_writeByte at hm
  refine lv_aload_n hx hb dX6_writeByte_0 rfl (lv_at hl 0 rfl) ?_
  refine va_get (D := (dC, dI)) (ci := 8) (v := .int s_letterCount) (C := RX6) (T := TX6) (N := 12) hx hb hts (inX6 _) hown hK hP 0 rfl rfl 10 (by decide) (hts _ (List.mem_cons_of_mem _ wf6_44)) (fun _ h9 => h9) rfl dX6_writeByte_1 ?_
  refine lv_aload_n hx hb dX6_writeByte_4 rfl (lv_at hl 0 rfl) ?_
  refine va_get (D := (dC, dI)) (ci := 8) (v := .ref sq_plain) (C := RX6) (T := TX6) (N := 12) hx hb hts (inX6 _) hown hK hP 0 rfl rfl 0 (by decide) (hts _ (List.mem_cons_of_mem _ wf6_9)) (fun _ h9 => h9) rfl dX6_writeByte_5 ?_
  refine va_alen hx hb hK hP 1 1 rfl rfl rfl dX6_writeByte_8 ?_
  refine lv_icmp_ge (tgt := 33) hx hb dX6_writeByte_9 (by decide) (fun c1 => ?_) (fun c1 => ?_)
  · have hm := mr_if c1 hm
    obtain rfl := Option.some.inj hm
    subst hQ0
    exact W.vret hx hb hr (fun t ht hW => ⟨⟨(s_plain, s_letterCount), rfl, rfl, by rw [ht]; exact hP, va_K.moved hW.alike hK, hD⟩, hS.F ht⟩) hS.2.2 dX6_writeByte_33
  · have hm := mr_un c1 hm
    refine lv_aload_n hx hb dX6_writeByte_12 rfl (lv_at hl 0 rfl) ?_
    refine va_get (D := (dC, dI)) (ci := 8) (v := .ref sq_plain) (C := RX6) (T := TX6) (N := 12) hx hb hts (inX6 _) hown hK hP 0 rfl rfl 0 (by decide) (hts _ (List.mem_cons_of_mem _ wf6_9)) (fun _ h9 => h9) rfl dX6_writeByte_13 ?_
    refine lv_aload_n hx hb dX6_writeByte_16 rfl (lv_at hl 0 rfl) ?_
    refine va_get (D := (dC, dI)) (ci := 8) (v := .int s_letterCount) (C := RX6) (T := TX6) (N := 12) hx hb hts (inX6 _) hown hK hP 0 rfl rfl 10 (by decide) (hts _ (List.mem_cons_of_mem _ wf6_44)) (fun _ h9 => h9) rfl dX6_writeByte_17 ?_
    refine lv_iload_n hx hb dX6_writeByte_20 rfl (lv_at hl 1 rfl) ?_
    refine lv_i2b hx hb dX6_writeByte_21 rfl ?_
    obtain ⟨h2, hm⟩ := mr_bd hm
    refine va_bast hx hb hK hP hD hS 1 1 rfl rfl h2 dX6_writeByte_22 (fun H locs hP hD hS => ?_)
    have hP : va_P (dC, dI) srCl [(obS, .inr (8, [.ref sq_plain, .ref sq_kinds, .ref sq_meant, .ref sq_firsts, .ref sq_nexts, .ref sq_names, .ref sq_fieldNames, .ref sq_amounts, .ref sq_fieldDefaults, .ref sq_enumDefaults, .int s_letterCount, .int s_slotCount])), (sq_plain, .inl (cB, 4096, .inl (upd s_plain (s_letterCount : Int32).toNatClampNeg (vp_nar .byte ((a0 : Int32).toInt8.toInt32)))))] H := hP
    have hD : va_D A [(obS, .inr (8, [.ref sq_plain, .ref sq_kinds, .ref sq_meant, .ref sq_firsts, .ref sq_nexts, .ref sq_names, .ref sq_fieldNames, .ref sq_amounts, .ref sq_fieldDefaults, .ref sq_enumDefaults, .int s_letterCount, .int s_slotCount])), (sq_plain, .inl (cB, 4096, .inl (upd s_plain (s_letterCount : Int32).toNatClampNeg (vp_nar .byte ((a0 : Int32).toInt8.toInt32)))))] := hD
    refine lv_aload_n hx hb dX6_writeByte_23 rfl (lv_at hl 0 rfl) ?_
    refine lv_dup hx hb dX6_writeByte_24 rfl ?_
    refine va_get (D := (dC, dI)) (ci := 8) (v := .int s_letterCount) (C := RX6) (T := TX6) (N := 12) hx hb hts (inX6 _) hown hK hP 0 rfl rfl 10 (by decide) (hts _ (List.mem_cons_of_mem _ wf6_44)) (fun _ h9 => h9) rfl dX6_writeByte_25 ?_
    refine lv_iconst (v := 1) hx hb dX6_writeByte_28 (by decide) ?_
    refine lv_iadd hx hb dX6_writeByte_29 ?_
    refine va_put (D := (dC, dI)) (ci := 8) (v := .int (s_letterCount + 1)) (ty := .int) (C := RX6) (T := TX6) (N := 12) hx hb hts (inX6 _) tyX6 tyX6_ok nmX6 hown hK hP hD hS 0 rfl rfl 10 (by decide) (hts _ (List.mem_cons_of_mem _ wf6_44)) (fun _ h9 => h9) rfl (by decide +kernel) rfl rfl (Nat.le_of_ble_eq_true rfl) dX6_writeByte_30 (fun H locs hP hD hS => ?_)
    have hP : va_P (dC, dI) srCl [(obS, .inr (8, [.ref sq_plain, .ref sq_kinds, .ref sq_meant, .ref sq_firsts, .ref sq_nexts, .ref sq_names, .ref sq_fieldNames, .ref sq_amounts, .ref sq_fieldDefaults, .ref sq_enumDefaults, .int (s_letterCount + 1), .int s_slotCount])), (sq_plain, .inl (cB, 4096, .inl (upd s_plain (s_letterCount : Int32).toNatClampNeg (vp_nar .byte ((a0 : Int32).toInt8.toInt32)))))] H := hP
    have hD : va_D A [(obS, .inr (8, [.ref sq_plain, .ref sq_kinds, .ref sq_meant, .ref sq_firsts, .ref sq_nexts, .ref sq_names, .ref sq_fieldNames, .ref sq_amounts, .ref sq_fieldDefaults, .ref sq_enumDefaults, .int (s_letterCount + 1), .int s_slotCount])), (sq_plain, .inl (cB, 4096, .inl (upd s_plain (s_letterCount : Int32).toNatClampNeg (vp_nar .byte ((a0 : Int32).toInt8.toInt32)))))] := hD
    obtain rfl := Option.some.inj hm
    subst hQ0
    exact W.vret hx hb hr (fun t ht hW => ⟨⟨((upd s_plain (s_letterCount : Int32).toNatClampNeg (vp_nar .byte ((a0 : Int32).toInt8.toInt32))), (s_letterCount + 1)), rfl, rfl, by rw [ht]; exact hP, va_K.moved hW.alike hK, hD⟩, hS.F ht⟩) hS.2.2 dX6_writeByte_33
set_option maxHeartbeats 4000000 in
set_option maxRecDepth 100000 in
theorem kX6_write (l : Launch) (htr : l.stackTraces = false) (dC : Nat → ClassId) (dI : Nat → Nat → Nat) (adK adV : Nat → Nat) (cI cB cJ cZ cQ : ClassId) (obS sq_plain sq_kinds sq_meant sq_firsts sq_nexts sq_names sq_fieldNames sq_amounts sq_fieldDefaults sq_enumDefaults : Nat) (s_letterCount : Int32) (s_slotCount : Int32) (s_plain : Nat → Int32) (sz : Nat) (a0 : Nat) (res : (Nat → Int32) × Int32) (hm : m_X6_write s_plain s_letterCount a0 = some res) : Met l yX6_write wsX6_write (rmX6_write 0 0) (pcW (sr_Z adK adV) (dC, dI) srCl [(cI, .int), (cB, .byte), (cJ, .long), (cZ, .boolean), (cQ, .object "SchemaReader$Schema")] [.ref obS, .ref (adK a0)] [(obS, .inr (8, [.ref sq_plain, .ref sq_kinds, .ref sq_meant, .ref sq_firsts, .ref sq_nexts, .ref sq_names, .ref sq_fieldNames, .ref sq_amounts, .ref sq_fieldDefaults, .ref sq_enumDefaults, .int s_letterCount, .int s_slotCount])), (sq_plain, .inl (cB, 4096, .inl s_plain))] sz) (va_Qv (fun u' => u' = res) (pcB (dC, dI) srCl [(cI, .int), (cB, .byte), (cJ, .long), (cZ, .boolean), (cQ, .object "SchemaReader$Schema")] (fun u : (Nat → Int32) × Int32 => [(obS, .inr (8, [.ref sq_plain, .ref sq_kinds, .ref sq_meant, .ref sq_firsts, .ref sq_nexts, .ref sq_names, .ref sq_fieldNames, .ref sq_amounts, .ref sq_fieldDefaults, .ref sq_enumDefaults, .int u.2, .int s_slotCount])), (sq_plain, .inl (cB, 4096, .inl u.1))]) (va_A [(obS, .inr (8, [.ref sq_plain, .ref sq_kinds, .ref sq_meant, .ref sq_firsts, .ref sq_nexts, .ref sq_names, .ref sq_fieldNames, .ref sq_amounts, .ref sq_fieldDefaults, .ref sq_enumDefaults, .int s_letterCount, .int s_slotCount])), (sq_plain, .inl (cB, 4096, .inl s_plain))] sz)) (va_A [(obS, .inr (8, [.ref sq_plain, .ref sq_kinds, .ref sq_meant, .ref sq_firsts, .ref sq_nexts, .ref sq_names, .ref sq_fieldNames, .ref sq_amounts, .ref sq_fieldDefaults, .ref sq_enumDefaults, .int s_letterCount, .int s_slotCount])), (sq_plain, .inl (cB, 4096, .inl s_plain))] sz)) 0 0 (va_A [(obS, .inr (8, [.ref sq_plain, .ref sq_kinds, .ref sq_meant, .ref sq_firsts, .ref sq_nexts, .ref sq_names, .ref sq_fieldNames, .ref sq_amounts, .ref sq_fieldDefaults, .ref sq_enumDefaults, .int s_letterCount, .int s_slotCount])), (sq_plain, .inl (cB, 4096, .inl s_plain))] sz) := by
  refine Met.ofW (cc := cX6_write) (maxL := 3) (ret := none) (by decide) rfl ?_
  intro p e s m args below meth c s₁ B hml hv
  obtain ⟨rfl, hsz, hP, hK, hD0, hz0⟩ := hv
  have hx := B.exec
  have hb := B.bytes
  have hr := B.returns
  have hts := atoms_spec (ws := wsX6_write) B.pre
  have hown : s.vm.findClass RX6 = some m.cls := findClass_of_methodNamed B.named
  have hlocks := B.notSynchronized
  subst hsz
  have hD := hD0.self (sz := s.heap.size)
  generalize hAe : va_A [(obS, .inr (8, [.ref sq_plain, .ref sq_kinds, .ref sq_meant, .ref sq_firsts, .ref sq_nexts, .ref sq_names, .ref sq_fieldNames, .ref sq_amounts, .ref sq_fieldDefaults, .ref sq_enumDefaults, .int s_letterCount, .int s_slotCount])), (sq_plain, .inl (cB, 4096, .inl s_plain))] s.heap.size = A at hD hz0 ⊢
  have hA : ∀ q : Nat, s.heap.size ≤ q → A q := fun q h => by rw [← hAe]; exact Or.inr h
  have hS : va_S A s.heap s.heap [] := va_S.rf
  generalize hQ0 : MQ below (va_Qv (fun u' => u' = res) (pcB (dC, dI) srCl [(cI, .int), (cB, .byte), (cJ, .long), (cZ, .boolean), (cQ, .object "SchemaReader$Schema")] (fun u : (Nat → Int32) × Int32 => [(obS, .inr (8, [.ref sq_plain, .ref sq_kinds, .ref sq_meant, .ref sq_firsts, .ref sq_nexts, .ref sq_names, .ref sq_fieldNames, .ref sq_amounts, .ref sq_fieldDefaults, .ref sq_enumDefaults, .int u.2, .int s_slotCount])), (sq_plain, .inl (cB, 4096, .inl u.1))]) A) A) [.ref obS, .ref (adK a0)].toArray s 0 0 A = Q0
  have hl := lv_entry [.ref obS, .ref (adK a0)] (n := 3) (Nat.le_of_ble_eq_true rfl)
  rw [lg_entry_eq]
  generalize (lg_sl [.ref obS, .ref (adK a0)] ++ List.replicate (3 - (lg_sl [.ref obS, .ref (adK a0)]).length) Slot.unset).toArray = ls at hl ⊢
  have hl : lv_has ls 3 [(0, .ref obS), (1, .ref (adK a0))] := hl
  unfold m_X6_write at hm
  refine lv_iconst (v := 0) hx hb dX6_write_0 (by decide) ?_
  have j2 : ∀ (n2 : Nat) (s_plain : Nat → Int32) (s_letterCount : Int32) (x1 : Nat) (x2 : Int32) (H : Heap) (locs : List Loc) (ls : Array Slot), va_P (dC, dI) srCl [(obS, .inr (8, [.ref sq_plain, .ref sq_kinds, .ref sq_meant, .ref sq_firsts, .ref sq_nexts, .ref sq_names, .ref sq_fieldNames, .ref sq_amounts, .ref sq_fieldDefaults, .ref sq_enumDefaults, .int s_letterCount, .int s_slotCount])), (sq_plain, .inl (cB, 4096, .inl s_plain))] H → va_D A [(obS, .inr (8, [.ref sq_plain, .ref sq_kinds, .ref sq_meant, .ref sq_firsts, .ref sq_nexts, .ref sq_names, .ref sq_fieldNames, .ref sq_amounts, .ref sq_fieldDefaults, .ref sq_enumDefaults, .int s_letterCount, .int s_slotCount])), (sq_plain, .inl (cB, 4096, .inl s_plain))] → va_S A s.heap H locs → lv_has ls 3 [(0, .ref obS), (1, .ref (adK x1)), (2, .int x2)] → m_X6_write_2 n2 s_plain s_letterCount x1 x2 = some res → W p l e (headSpec wsX6_write (rmX6_write 0 0)).room s m [.ref obS, .ref (adK a0)].toArray below meth c H locs 0 0 Q0 (F0 m 2 ls []) := by
    intro n2
    induction n2 with
    | zero => intro s_plain s_letterCount x1 x2 H locs ls hP hD hS hl hm; exact nomatch (show (none : Option _) = some res from hm)
    | succ n2 ih2 =>
      intro s_plain s_letterCount x1 x2 H locs ls hP hD hS hl hm
      rw [m_X6_write_2] at hm
      refine lv_iload_n hx hb dX6_write_2 rfl (lv_at hl 2 rfl) ?_
      refine lv_aload_n hx hb dX6_write_3 rfl (lv_at hl 1 rfl) ?_
      obtain ⟨h2, hm⟩ := mr_bs hm
      obtain ⟨r1, hz1, hm⟩ := mr_bind hm
      refine mr_pV (As := []) (rest := [.int x2]) (sr_okZ adK adV) ⟨hx, hb, hml, hown, hts⟩ (kX20_length l htr dC dI adK adV cI cB cJ cZ cQ  x1 r1 hz1) (cwV 0 hts (g6_62 _) rfl rfl rfl (by decide +kernel) ⟨(by show 1 + 1 ≤ 4; omega), (by show 8 + (1 + 11) + (20) ≤ 85; omega)⟩) hS hP hK hz0 [] rfl (sr_recv (hz0.1 x1 h2).1.1 hS) rfl rfl hl.1 (Nat.le_of_ble_eq_true rfl) dX6_write_4 ⟨Nat.zero_le _, Nat.zero_le _⟩ ?_
      refine lv_icmp_ge (tgt := 25) hx hb dX6_write_7 (by decide) (fun c3 => ?_) (fun c3 => ?_)
      · have hm := mr_if c3 hm
        obtain rfl := Option.some.inj hm
        subst hQ0
        exact W.vret hx hb hr (fun t ht hW => ⟨⟨(s_plain, s_letterCount), rfl, rfl, by rw [ht]; exact hP, va_K.moved hW.alike hK, hD⟩, hS.F ht⟩) hS.2.2 dX6_write_25
      · have hm := mr_un c3 hm
        refine lv_aload_n hx hb dX6_write_10 rfl (lv_at hl 0 rfl) ?_
        refine lv_aload_n hx hb dX6_write_11 rfl (lv_at hl 1 rfl) ?_
        refine lv_iload_n hx hb dX6_write_12 rfl (lv_at hl 2 rfl) ?_
        obtain ⟨h5, hm⟩ := mr_bs hm
        obtain ⟨r4, hz4, hm⟩ := mr_bind hm
        refine mr_pV (As := [.int x2]) (rest := [.ref obS]) (sr_okZ adK adV) ⟨hx, hb, hml, hown, hts⟩ (kX20_charAt l htr dC dI adK adV cI cB cJ cZ cQ  x1 x2 r4 hz4) (cwV 1 hts (g6_68 _) rfl rfl rfl (by decide +kernel) ⟨(by show 3 + 1 ≤ 4; omega), (by show 8 + (2 + 11) + (64) ≤ 85; omega)⟩) hS hP hK hz0 [] rfl (sr_recv (hz0.1 x1 h5).1.1 hS) rfl rfl hl.1 (Nat.le_of_ble_eq_true rfl) dX6_write_13 ⟨Nat.zero_le _, Nat.zero_le _⟩ ?_
        obtain ⟨⟨s_plain_6, s_letterCount_6⟩, hz6, hm⟩ := mr_bind hm
        try dsimp only at hm
        refine mr_wVv (As := [.int r4]) (rest := []) (sr_okZ adK adV) ⟨hx, hb, hml, hown, hts⟩ (kX6_writeByte l htr dC dI adK adV cI cB cJ cZ cQ obS sq_plain sq_kinds sq_meant sq_firsts sq_nexts sq_names sq_fieldNames sq_amounts sq_fieldDefaults sq_enumDefaults s_letterCount s_slotCount s_plain _ r4 _ hz6) (cwV 1 hts (g6_72 _) rfl rfl rfl (by decide +kernel) ⟨(by show 0 + 1 ≤ 4; omega), (by show 8 + (2 + 11) + (0) ≤ 85; omega)⟩) hS hA hP hD hK hz0 (wr := []) (w1 := [(obS, .inr (8, [.ref sq_plain, .ref sq_kinds, .ref sq_meant, .ref sq_firsts, .ref sq_nexts, .ref sq_names, .ref sq_fieldNames, .ref sq_amounts, .ref sq_fieldDefaults, .ref sq_enumDefaults, .int s_letterCount_6, .int s_slotCount])), (sq_plain, .inl (cB, 4096, .inl s_plain_6))]) [0, 1] [] [0, 1] rfl rfl rfl rfl rfl (by decide) rfl rfl rfl (va_recv hK hP (ci := 8) (q0 := 0) rfl rfl) rfl rfl hl.1 (Nat.le_of_ble_eq_true rfl) dX6_write_16 ⟨Nat.zero_le _, Nat.zero_le _⟩ (fun H locs hP hD hS => ?_)
        refine lv_iinc (v := x2 + 1) (lv' := [(2, .int (x2 + 1)), (0, .ref obS), (1, .ref (adK x1))]) hx hb dX6_write_19 hl (k := 2) rfl rfl (by decide) rfl (fun ls hl => ?_)
        refine lv_goto (tgt := 2) hx hb dX6_write_22 (by decide) ?_
        exact ih2 s_plain_6 s_letterCount_6 x1 (x2 + 1) _ _ ls hP hD hS (lv_sub hl [1, 2, 0] rfl) hm
  refine lv_istore_n (lv' := [(2, .int 0), (0, .ref obS), (1, .ref (adK a0))]) hx hb dX6_write_1 rfl hl (by decide) rfl (fun ls hl => ?_)
  exact j2 sr_fuel s_plain s_letterCount a0 0 _ _ ls hP hD hS (lv_sub hl [1, 2, 0] rfl) hm
set_option maxHeartbeats 4000000 in
set_option maxRecDepth 100000 in
theorem kX6_writeSaid (l : Launch) (htr : l.stackTraces = false) (dC : Nat → ClassId) (dI : Nat → Nat → Nat) (adK adV : Nat → Nat) (cI cB cJ cZ cQ : ClassId) (obS sq_plain sq_kinds sq_meant sq_firsts sq_nexts sq_names sq_fieldNames sq_amounts sq_fieldDefaults sq_enumDefaults obT tq_tape tq_said tq_inner tq_next tq_amount obK : Nat) (s_letterCount : Int32) (s_slotCount : Int32) (t_length : Int32) (t_wrongPlace : Int32) (s_plain : Nat → Int32) (t_said : Nat → Int32) (t_amount : Nat → Int32) (sz : Nat) (a1 : Int32) (res : Int32 × (Nat → Int32) × Int32) (hm : m_X6_writeSaid s_plain s_letterCount t_said t_amount a1 = some res) : Met l yX6_writeSaid wsX6_writeSaid (rmX6_writeSaid 0 0) (pcW (sr_Z adK adV) (dC, dI) srCl [(cI, .int), (cB, .byte), (cJ, .long), (cZ, .boolean), (cQ, .object "SchemaReader$Schema")] [.ref obS, .ref obT, .int a1] [(obS, .inr (8, [.ref sq_plain, .ref sq_kinds, .ref sq_meant, .ref sq_firsts, .ref sq_nexts, .ref sq_names, .ref sq_fieldNames, .ref sq_amounts, .ref sq_fieldDefaults, .ref sq_enumDefaults, .int s_letterCount, .int s_slotCount])), (sq_plain, .inl (cB, 4096, .inl s_plain)), (obT, .inr (9, [.ref tq_tape, .ref tq_said, .ref tq_inner, .ref tq_next, .ref tq_amount, .ref obK, .int t_length, .int t_wrongPlace])), (tq_said, .inl (cB, 4096, .inl t_said)), (tq_amount, .inl (cI, 4096, .inl t_amount))] sz) (va_Qi (fun r' u' => r' = res.1 ∧ u' = res.2) (pcB (dC, dI) srCl [(cI, .int), (cB, .byte), (cJ, .long), (cZ, .boolean), (cQ, .object "SchemaReader$Schema")] (fun u : (Nat → Int32) × Int32 => [(obS, .inr (8, [.ref sq_plain, .ref sq_kinds, .ref sq_meant, .ref sq_firsts, .ref sq_nexts, .ref sq_names, .ref sq_fieldNames, .ref sq_amounts, .ref sq_fieldDefaults, .ref sq_enumDefaults, .int u.2, .int s_slotCount])), (sq_plain, .inl (cB, 4096, .inl u.1)), (obT, .inr (9, [.ref tq_tape, .ref tq_said, .ref tq_inner, .ref tq_next, .ref tq_amount, .ref obK, .int t_length, .int t_wrongPlace])), (tq_said, .inl (cB, 4096, .inl t_said)), (tq_amount, .inl (cI, 4096, .inl t_amount))]) (va_A [(obS, .inr (8, [.ref sq_plain, .ref sq_kinds, .ref sq_meant, .ref sq_firsts, .ref sq_nexts, .ref sq_names, .ref sq_fieldNames, .ref sq_amounts, .ref sq_fieldDefaults, .ref sq_enumDefaults, .int s_letterCount, .int s_slotCount])), (sq_plain, .inl (cB, 4096, .inl s_plain)), (obT, .inr (9, [.ref tq_tape, .ref tq_said, .ref tq_inner, .ref tq_next, .ref tq_amount, .ref obK, .int t_length, .int t_wrongPlace])), (tq_said, .inl (cB, 4096, .inl t_said)), (tq_amount, .inl (cI, 4096, .inl t_amount))] sz)) (va_A [(obS, .inr (8, [.ref sq_plain, .ref sq_kinds, .ref sq_meant, .ref sq_firsts, .ref sq_nexts, .ref sq_names, .ref sq_fieldNames, .ref sq_amounts, .ref sq_fieldDefaults, .ref sq_enumDefaults, .int s_letterCount, .int s_slotCount])), (sq_plain, .inl (cB, 4096, .inl s_plain)), (obT, .inr (9, [.ref tq_tape, .ref tq_said, .ref tq_inner, .ref tq_next, .ref tq_amount, .ref obK, .int t_length, .int t_wrongPlace])), (tq_said, .inl (cB, 4096, .inl t_said)), (tq_amount, .inl (cI, 4096, .inl t_amount))] sz)) 0 0 (va_A [(obS, .inr (8, [.ref sq_plain, .ref sq_kinds, .ref sq_meant, .ref sq_firsts, .ref sq_nexts, .ref sq_names, .ref sq_fieldNames, .ref sq_amounts, .ref sq_fieldDefaults, .ref sq_enumDefaults, .int s_letterCount, .int s_slotCount])), (sq_plain, .inl (cB, 4096, .inl s_plain)), (obT, .inr (9, [.ref tq_tape, .ref tq_said, .ref tq_inner, .ref tq_next, .ref tq_amount, .ref obK, .int t_length, .int t_wrongPlace])), (tq_said, .inl (cB, 4096, .inl t_said)), (tq_amount, .inl (cI, 4096, .inl t_amount))] sz) := by
  refine Met.ofW (cc := cX6_writeSaid) (maxL := 5) (ret := (some .int)) (by decide) rfl ?_
  intro p e s m args below meth c s₁ B hml hv
  obtain ⟨rfl, hsz, hP, hK, hD0, hz0⟩ := hv
  have hx := B.exec
  have hb := B.bytes
  have hr := B.returns
  have hts := atoms_spec (ws := wsX6_writeSaid) B.pre
  have hown : s.vm.findClass RX6 = some m.cls := findClass_of_methodNamed B.named
  have hlocks := B.notSynchronized
  subst hsz
  have hD := hD0.self (sz := s.heap.size)
  generalize hAe : va_A [(obS, .inr (8, [.ref sq_plain, .ref sq_kinds, .ref sq_meant, .ref sq_firsts, .ref sq_nexts, .ref sq_names, .ref sq_fieldNames, .ref sq_amounts, .ref sq_fieldDefaults, .ref sq_enumDefaults, .int s_letterCount, .int s_slotCount])), (sq_plain, .inl (cB, 4096, .inl s_plain)), (obT, .inr (9, [.ref tq_tape, .ref tq_said, .ref tq_inner, .ref tq_next, .ref tq_amount, .ref obK, .int t_length, .int t_wrongPlace])), (tq_said, .inl (cB, 4096, .inl t_said)), (tq_amount, .inl (cI, 4096, .inl t_amount))] s.heap.size = A at hD hz0 ⊢
  have hA : ∀ q : Nat, s.heap.size ≤ q → A q := fun q h => by rw [← hAe]; exact Or.inr h
  have hS : va_S A s.heap s.heap [] := va_S.rf
  generalize hQ0 : MQ below (va_Qi (fun r' u' => r' = res.1 ∧ u' = res.2) (pcB (dC, dI) srCl [(cI, .int), (cB, .byte), (cJ, .long), (cZ, .boolean), (cQ, .object "SchemaReader$Schema")] (fun u : (Nat → Int32) × Int32 => [(obS, .inr (8, [.ref sq_plain, .ref sq_kinds, .ref sq_meant, .ref sq_firsts, .ref sq_nexts, .ref sq_names, .ref sq_fieldNames, .ref sq_amounts, .ref sq_fieldDefaults, .ref sq_enumDefaults, .int u.2, .int s_slotCount])), (sq_plain, .inl (cB, 4096, .inl u.1)), (obT, .inr (9, [.ref tq_tape, .ref tq_said, .ref tq_inner, .ref tq_next, .ref tq_amount, .ref obK, .int t_length, .int t_wrongPlace])), (tq_said, .inl (cB, 4096, .inl t_said)), (tq_amount, .inl (cI, 4096, .inl t_amount))]) A) A) [.ref obS, .ref obT, .int a1].toArray s 0 0 A = Q0
  have hl := lv_entry [.ref obS, .ref obT, .int a1] (n := 5) (Nat.le_of_ble_eq_true rfl)
  rw [lg_entry_eq]
  generalize (lg_sl [.ref obS, .ref obT, .int a1] ++ List.replicate (5 - (lg_sl [.ref obS, .ref obT, .int a1]).length) Slot.unset).toArray = ls at hl ⊢
  have hl : lv_has ls 5 [(0, .ref obS), (1, .ref obT), (2, .int a1)] := hl
  unfold m_X6_writeSaid at hm
  refine lv_aload_n hx hb dX6_writeSaid_0 rfl (lv_at hl 0 rfl) ?_
  refine lv_bipush (v := 34) hx hb dX6_writeSaid_1 (by decide) ?_
  obtain ⟨⟨s_plain_1, s_letterCount_1⟩, hz1, hm⟩ := mr_bind hm
  try dsimp only at hm
  refine mr_wVv (As := [.int 34]) (rest := []) (sr_okZ adK adV) ⟨hx, hb, hml, hown, hts⟩ (kX6_writeByte l htr dC dI adK adV cI cB cJ cZ cQ obS sq_plain sq_kinds sq_meant sq_firsts sq_nexts sq_names sq_fieldNames sq_amounts sq_fieldDefaults sq_enumDefaults s_letterCount s_slotCount s_plain _ 34 _ hz1) (cwV 1 hts (g6_72 _) rfl rfl rfl (by decide +kernel) ⟨(by show 0 + 1 ≤ 2; omega), (by show 8 + (2 + 11) + (0) ≤ 42; omega)⟩) hS hA hP hD hK hz0 (wr := [(obT, .inr (9, [.ref tq_tape, .ref tq_said, .ref tq_inner, .ref tq_next, .ref tq_amount, .ref obK, .int t_length, .int t_wrongPlace])), (tq_said, .inl (cB, 4096, .inl t_said)), (tq_amount, .inl (cI, 4096, .inl t_amount))]) (w1 := [(obS, .inr (8, [.ref sq_plain, .ref sq_kinds, .ref sq_meant, .ref sq_firsts, .ref sq_nexts, .ref sq_names, .ref sq_fieldNames, .ref sq_amounts, .ref sq_fieldDefaults, .ref sq_enumDefaults, .int s_letterCount_1, .int s_slotCount])), (sq_plain, .inl (cB, 4096, .inl s_plain_1)), (obT, .inr (9, [.ref tq_tape, .ref tq_said, .ref tq_inner, .ref tq_next, .ref tq_amount, .ref obK, .int t_length, .int t_wrongPlace])), (tq_said, .inl (cB, 4096, .inl t_said)), (tq_amount, .inl (cI, 4096, .inl t_amount))]) [0, 1] [2, 3, 4] [3, 4, 0, 1, 2] rfl rfl rfl rfl rfl (by decide) rfl rfl rfl (va_recv hK hP (ci := 8) (q0 := 0) rfl rfl) rfl rfl hl.1 (Nat.le_of_ble_eq_true rfl) dX6_writeSaid_3 ⟨Nat.zero_le _, Nat.zero_le _⟩ (fun H locs hP hD hS => ?_)
  refine lv_aload_n hx hb dX6_writeSaid_6 rfl (lv_at hl 0 rfl) ?_
  refine va_get (D := (dC, dI)) (ci := 8) (v := .int s_letterCount_1) (C := RX6) (T := TX6) (N := 12) hx hb hts (inX6 _) hown hK hP 0 rfl rfl 10 (by decide) (hts _ (List.mem_cons_of_mem _ wf6_44)) (fun _ h9 => h9) rfl dX6_writeSaid_7 ?_
  refine lv_istore_n (lv' := [(3, .int s_letterCount_1), (0, .ref obS), (1, .ref obT), (2, .int a1)]) hx hb dX6_writeSaid_10 rfl hl (by decide) rfl (fun ls hl => ?_)
  refine lv_iconst (v := 0) hx hb dX6_writeSaid_11 (by decide) ?_
  have j14 : ∀ (n14 : Nat) (s_plain : Nat → Int32) (s_letterCount : Int32) (x2 : Int32) (x3 : Int32) (x4 : Int32) (H : Heap) (locs : List Loc) (ls : Array Slot), va_P (dC, dI) srCl [(obS, .inr (8, [.ref sq_plain, .ref sq_kinds, .ref sq_meant, .ref sq_firsts, .ref sq_nexts, .ref sq_names, .ref sq_fieldNames, .ref sq_amounts, .ref sq_fieldDefaults, .ref sq_enumDefaults, .int s_letterCount, .int s_slotCount])), (sq_plain, .inl (cB, 4096, .inl s_plain)), (obT, .inr (9, [.ref tq_tape, .ref tq_said, .ref tq_inner, .ref tq_next, .ref tq_amount, .ref obK, .int t_length, .int t_wrongPlace])), (tq_said, .inl (cB, 4096, .inl t_said)), (tq_amount, .inl (cI, 4096, .inl t_amount))] H → va_D A [(obS, .inr (8, [.ref sq_plain, .ref sq_kinds, .ref sq_meant, .ref sq_firsts, .ref sq_nexts, .ref sq_names, .ref sq_fieldNames, .ref sq_amounts, .ref sq_fieldDefaults, .ref sq_enumDefaults, .int s_letterCount, .int s_slotCount])), (sq_plain, .inl (cB, 4096, .inl s_plain)), (obT, .inr (9, [.ref tq_tape, .ref tq_said, .ref tq_inner, .ref tq_next, .ref tq_amount, .ref obK, .int t_length, .int t_wrongPlace])), (tq_said, .inl (cB, 4096, .inl t_said)), (tq_amount, .inl (cI, 4096, .inl t_amount))] → va_S A s.heap H locs → lv_has ls 5 [(0, .ref obS), (1, .ref obT), (2, .int x2), (3, .int x3), (4, .int x4)] → m_X6_writeSaid_14 t_said t_amount n14 s_plain s_letterCount x2 x3 x4 = some res → W p l e (headSpec wsX6_writeSaid (rmX6_writeSaid 0 0)).room s m [.ref obS, .ref obT, .int a1].toArray below meth c H locs 0 0 Q0 (F0 m 14 ls []) := by
    intro n14
    induction n14 with
    | zero => intro s_plain s_letterCount x2 x3 x4 H locs ls hP hD hS hl hm; exact nomatch (show (none : Option _) = some res from hm)
    | succ n14 ih14 =>
      intro s_plain s_letterCount x2 x3 x4 H locs ls hP hD hS hl hm
      rw [m_X6_writeSaid_14] at hm
      refine lv_iload hx hb dX6_writeSaid_14 (lv_at hl 4 rfl) ?_
      refine lv_aload_n hx hb dX6_writeSaid_16 rfl (lv_at hl 1 rfl) ?_
      refine lv_iload_n hx hb dX6_writeSaid_17 rfl (lv_at hl 2 rfl) ?_
      obtain ⟨r2, hz2, hm⟩ := mr_bind hm
      refine mr_pV (As := [.int x2]) (rest := [.int x4]) (sr_okZ adK adV) ⟨hx, hb, hml, hown, hts⟩ (kX7_amount l htr dC dI adK adV cI cB cJ cZ cQ obT tq_tape tq_said tq_inner tq_next tq_amount obK t_length t_wrongPlace t_amount x2 r2 hz2) (cwV 1 hts (g6_76 _) rfl rfl rfl (by decide +kernel) ⟨(by show 1 + 1 ≤ 2; omega), (by show 8 + (2 + 11) + (21) ≤ 42; omega)⟩) hS hP hK hz0 [2, 4] rfl (va_recv hK hP (ci := 9) (q0 := 2) rfl rfl) rfl rfl hl.1 (Nat.le_of_ble_eq_true rfl) dX6_writeSaid_18 ⟨Nat.zero_le _, Nat.zero_le _⟩ ?_
      refine lv_icmp_ge (tgt := 42) hx hb dX6_writeSaid_21 (by decide) (fun c3 => ?_) (fun c3 => ?_)
      · have hm := mr_if c3 hm
        refine lv_aload_n hx hb dX6_writeSaid_42 rfl (lv_at hl 0 rfl) ?_
        refine lv_bipush (v := 34) hx hb dX6_writeSaid_43 (by decide) ?_
        obtain ⟨⟨s_plain_4, s_letterCount_4⟩, hz4, hm⟩ := mr_bind hm
        try dsimp only at hm
        refine mr_wVv (As := [.int 34]) (rest := []) (sr_okZ adK adV) ⟨hx, hb, hml, hown, hts⟩ (kX6_writeByte l htr dC dI adK adV cI cB cJ cZ cQ obS sq_plain sq_kinds sq_meant sq_firsts sq_nexts sq_names sq_fieldNames sq_amounts sq_fieldDefaults sq_enumDefaults s_letterCount s_slotCount s_plain _ 34 _ hz4) (cwV 1 hts (g6_72 _) rfl rfl rfl (by decide +kernel) ⟨(by show 0 + 1 ≤ 2; omega), (by show 8 + (2 + 11) + (0) ≤ 42; omega)⟩) hS hA hP hD hK hz0 (wr := [(obT, .inr (9, [.ref tq_tape, .ref tq_said, .ref tq_inner, .ref tq_next, .ref tq_amount, .ref obK, .int t_length, .int t_wrongPlace])), (tq_said, .inl (cB, 4096, .inl t_said)), (tq_amount, .inl (cI, 4096, .inl t_amount))]) (w1 := [(obS, .inr (8, [.ref sq_plain, .ref sq_kinds, .ref sq_meant, .ref sq_firsts, .ref sq_nexts, .ref sq_names, .ref sq_fieldNames, .ref sq_amounts, .ref sq_fieldDefaults, .ref sq_enumDefaults, .int s_letterCount_4, .int s_slotCount])), (sq_plain, .inl (cB, 4096, .inl s_plain_4)), (obT, .inr (9, [.ref tq_tape, .ref tq_said, .ref tq_inner, .ref tq_next, .ref tq_amount, .ref obK, .int t_length, .int t_wrongPlace])), (tq_said, .inl (cB, 4096, .inl t_said)), (tq_amount, .inl (cI, 4096, .inl t_amount))]) [0, 1] [2, 3, 4] [3, 4, 0, 1, 2] rfl rfl rfl rfl rfl (by decide) rfl rfl rfl (va_recv hK hP (ci := 8) (q0 := 0) rfl rfl) rfl rfl hl.1 (Nat.le_of_ble_eq_true rfl) dX6_writeSaid_45 ⟨Nat.zero_le _, Nat.zero_le _⟩ (fun H locs hP hD hS => ?_)
        refine lv_iload_n hx hb dX6_writeSaid_48 rfl (lv_at hl 3 rfl) ?_
        obtain rfl := Option.some.inj hm
        subst hQ0
        exact W.iret (v := x3) hx hb hr (fun t ht hW => ⟨⟨x3, (s_plain_4, s_letterCount_4), rfl, ⟨rfl, rfl⟩, by rw [ht]; exact hP, va_K.moved hW.alike hK, hD⟩, hS.F ht⟩) hS.2.2 dX6_writeSaid_49
      · have hm := mr_un c3 hm
        refine lv_aload_n hx hb dX6_writeSaid_24 rfl (lv_at hl 0 rfl) ?_
        refine lv_aload_n hx hb dX6_writeSaid_25 rfl (lv_at hl 1 rfl) ?_
        refine lv_iload_n hx hb dX6_writeSaid_26 rfl (lv_at hl 2 rfl) ?_
        refine lv_iload hx hb dX6_writeSaid_27 (lv_at hl 4 rfl) ?_
        refine lv_iadd hx hb dX6_writeSaid_29 ?_
        obtain ⟨r5, hz5, hm⟩ := mr_bind hm
        refine mr_pV (As := [.int (x2 + x4)]) (rest := [.ref obS]) (sr_okZ adK adV) ⟨hx, hb, hml, hown, hts⟩ (kX7_saidAt l htr dC dI adK adV cI cB cJ cZ cQ obT tq_tape tq_said tq_inner tq_next tq_amount obK t_length t_wrongPlace t_said (x2 + x4) r5 hz5) (cwV 1 hts (g6_81 _) rfl rfl rfl (by decide +kernel) ⟨(by show 0 + 1 ≤ 2; omega), (by show 8 + (2 + 11) + (0) ≤ 42; omega)⟩) hS hP hK hz0 [2, 3] rfl (va_recv hK hP (ci := 9) (q0 := 2) rfl rfl) rfl rfl hl.1 (Nat.le_of_ble_eq_true rfl) dX6_writeSaid_30 ⟨Nat.zero_le _, Nat.zero_le _⟩ ?_
        obtain ⟨⟨s_plain_6, s_letterCount_6⟩, hz6, hm⟩ := mr_bind hm
        try dsimp only at hm
        refine mr_wVv (As := [.int r5]) (rest := []) (sr_okZ adK adV) ⟨hx, hb, hml, hown, hts⟩ (kX6_writeByte l htr dC dI adK adV cI cB cJ cZ cQ obS sq_plain sq_kinds sq_meant sq_firsts sq_nexts sq_names sq_fieldNames sq_amounts sq_fieldDefaults sq_enumDefaults s_letterCount s_slotCount s_plain _ r5 _ hz6) (cwV 1 hts (g6_72 _) rfl rfl rfl (by decide +kernel) ⟨(by show 0 + 1 ≤ 2; omega), (by show 8 + (2 + 11) + (0) ≤ 42; omega)⟩) hS hA hP hD hK hz0 (wr := [(obT, .inr (9, [.ref tq_tape, .ref tq_said, .ref tq_inner, .ref tq_next, .ref tq_amount, .ref obK, .int t_length, .int t_wrongPlace])), (tq_said, .inl (cB, 4096, .inl t_said)), (tq_amount, .inl (cI, 4096, .inl t_amount))]) (w1 := [(obS, .inr (8, [.ref sq_plain, .ref sq_kinds, .ref sq_meant, .ref sq_firsts, .ref sq_nexts, .ref sq_names, .ref sq_fieldNames, .ref sq_amounts, .ref sq_fieldDefaults, .ref sq_enumDefaults, .int s_letterCount_6, .int s_slotCount])), (sq_plain, .inl (cB, 4096, .inl s_plain_6)), (obT, .inr (9, [.ref tq_tape, .ref tq_said, .ref tq_inner, .ref tq_next, .ref tq_amount, .ref obK, .int t_length, .int t_wrongPlace])), (tq_said, .inl (cB, 4096, .inl t_said)), (tq_amount, .inl (cI, 4096, .inl t_amount))]) [0, 1] [2, 3, 4] [3, 4, 0, 1, 2] rfl rfl rfl rfl rfl (by decide) rfl rfl rfl (va_recv hK hP (ci := 8) (q0 := 0) rfl rfl) rfl rfl hl.1 (Nat.le_of_ble_eq_true rfl) dX6_writeSaid_33 ⟨Nat.zero_le _, Nat.zero_le _⟩ (fun H locs hP hD hS => ?_)
        refine lv_iinc (v := x4 + 1) (lv' := [(4, .int (x4 + 1)), (0, .ref obS), (1, .ref obT), (2, .int x2), (3, .int x3)]) hx hb dX6_writeSaid_36 hl (k := 4) rfl rfl (by decide) rfl (fun ls hl => ?_)
        refine lv_goto (tgt := 14) hx hb dX6_writeSaid_39 (by decide) ?_
        exact ih14 s_plain_6 s_letterCount_6 x2 x3 (x4 + 1) _ _ ls hP hD hS (lv_sub hl [1, 2, 3, 4, 0] rfl) hm
  refine lv_istore (lv' := [(4, .int 0), (3, .int s_letterCount_1), (0, .ref obS), (1, .ref obT), (2, .int a1)]) hx hb dX6_writeSaid_12 hl (by decide) rfl (fun ls hl => ?_)
  exact j14 sr_fuel s_plain_1 s_letterCount_1 a1 s_letterCount_1 0 _ _ ls hP hD hS (lv_sub hl [2, 3, 4, 1, 0] rfl) hm
set_option maxHeartbeats 4000000 in
set_option maxRecDepth 100000 in
theorem kX6_writeNumber (l : Launch) (htr : l.stackTraces = false) (dC : Nat → ClassId) (dI : Nat → Nat → Nat) (adK adV : Nat → Nat) (cI cB cJ cZ cQ : ClassId) (obS sq_plain sq_kinds sq_meant sq_firsts sq_nexts sq_names sq_fieldNames sq_amounts sq_fieldDefaults sq_enumDefaults : Nat) (s_letterCount : Int32) (s_slotCount : Int32) (s_plain : Nat → Int32) (sz : Nat) (a0 : Int32) (res : (Nat → Int32) × Int32) (hm : m_X6_writeNumber s_plain s_letterCount a0 = some res) : Met l yX6_writeNumber wsX6_writeNumber (rmX6_writeNumber 0 0) (pcW (sr_Z adK adV) (dC, dI) srCl [(cI, .int), (cB, .byte), (cJ, .long), (cZ, .boolean), (cQ, .object "SchemaReader$Schema")] [.ref obS, .int a0] [(obS, .inr (8, [.ref sq_plain, .ref sq_kinds, .ref sq_meant, .ref sq_firsts, .ref sq_nexts, .ref sq_names, .ref sq_fieldNames, .ref sq_amounts, .ref sq_fieldDefaults, .ref sq_enumDefaults, .int s_letterCount, .int s_slotCount])), (sq_plain, .inl (cB, 4096, .inl s_plain))] sz) (va_Qv (fun u' => u' = res) (pcB (dC, dI) srCl [(cI, .int), (cB, .byte), (cJ, .long), (cZ, .boolean), (cQ, .object "SchemaReader$Schema")] (fun u : (Nat → Int32) × Int32 => [(obS, .inr (8, [.ref sq_plain, .ref sq_kinds, .ref sq_meant, .ref sq_firsts, .ref sq_nexts, .ref sq_names, .ref sq_fieldNames, .ref sq_amounts, .ref sq_fieldDefaults, .ref sq_enumDefaults, .int u.2, .int s_slotCount])), (sq_plain, .inl (cB, 4096, .inl u.1))]) (va_A [(obS, .inr (8, [.ref sq_plain, .ref sq_kinds, .ref sq_meant, .ref sq_firsts, .ref sq_nexts, .ref sq_names, .ref sq_fieldNames, .ref sq_amounts, .ref sq_fieldDefaults, .ref sq_enumDefaults, .int s_letterCount, .int s_slotCount])), (sq_plain, .inl (cB, 4096, .inl s_plain))] sz)) (va_A [(obS, .inr (8, [.ref sq_plain, .ref sq_kinds, .ref sq_meant, .ref sq_firsts, .ref sq_nexts, .ref sq_names, .ref sq_fieldNames, .ref sq_amounts, .ref sq_fieldDefaults, .ref sq_enumDefaults, .int s_letterCount, .int s_slotCount])), (sq_plain, .inl (cB, 4096, .inl s_plain))] sz)) 0 0 (va_A [(obS, .inr (8, [.ref sq_plain, .ref sq_kinds, .ref sq_meant, .ref sq_firsts, .ref sq_nexts, .ref sq_names, .ref sq_fieldNames, .ref sq_amounts, .ref sq_fieldDefaults, .ref sq_enumDefaults, .int s_letterCount, .int s_slotCount])), (sq_plain, .inl (cB, 4096, .inl s_plain))] sz) := by
  refine Met.ofW (cc := cX6_writeNumber) (maxL := 2) (ret := none) (by decide) rfl ?_
  intro p e s m args below meth c s₁ B hml hv
  obtain ⟨rfl, hsz, hP, hK, hD0, hz0⟩ := hv
  have hx := B.exec
  have hb := B.bytes
  have hr := B.returns
  have hts := atoms_spec (ws := wsX6_writeNumber) B.pre
  have hown : s.vm.findClass RX6 = some m.cls := findClass_of_methodNamed B.named
  have hlocks := B.notSynchronized
  subst hsz
  have hD := hD0.self (sz := s.heap.size)
  generalize hAe : va_A [(obS, .inr (8, [.ref sq_plain, .ref sq_kinds, .ref sq_meant, .ref sq_firsts, .ref sq_nexts, .ref sq_names, .ref sq_fieldNames, .ref sq_amounts, .ref sq_fieldDefaults, .ref sq_enumDefaults, .int s_letterCount, .int s_slotCount])), (sq_plain, .inl (cB, 4096, .inl s_plain))] s.heap.size = A at hD hz0 ⊢
  have hA : ∀ q : Nat, s.heap.size ≤ q → A q := fun q h => by rw [← hAe]; exact Or.inr h
  have hS : va_S A s.heap s.heap [] := va_S.rf
  generalize hQ0 : MQ below (va_Qv (fun u' => u' = res) (pcB (dC, dI) srCl [(cI, .int), (cB, .byte), (cJ, .long), (cZ, .boolean), (cQ, .object "SchemaReader$Schema")] (fun u : (Nat → Int32) × Int32 => [(obS, .inr (8, [.ref sq_plain, .ref sq_kinds, .ref sq_meant, .ref sq_firsts, .ref sq_nexts, .ref sq_names, .ref sq_fieldNames, .ref sq_amounts, .ref sq_fieldDefaults, .ref sq_enumDefaults, .int u.2, .int s_slotCount])), (sq_plain, .inl (cB, 4096, .inl u.1))]) A) A) [.ref obS, .int a0].toArray s 0 0 A = Q0
  have hl := lv_entry [.ref obS, .int a0] (n := 2) (Nat.le_of_ble_eq_true rfl)
  rw [lg_entry_eq]
  generalize (lg_sl [.ref obS, .int a0] ++ List.replicate (2 - (lg_sl [.ref obS, .int a0]).length) Slot.unset).toArray = ls at hl ⊢
  have hl : lv_has ls 2 [(0, .ref obS), (1, .int a0)] := hl
  unfold m_X6_writeNumber at hm
  refine lv_iload_n hx hb dX6_writeNumber_0 rfl (lv_at hl 1 rfl) ?_
  refine lv_bipush (v := 10) hx hb dX6_writeNumber_1 (by decide) ?_
  have j17 : ∀ (s_plain : Nat → Int32) (s_letterCount : Int32) (x1 : Int32) (H : Heap) (locs : List Loc) (ls : Array Slot), va_P (dC, dI) srCl [(obS, .inr (8, [.ref sq_plain, .ref sq_kinds, .ref sq_meant, .ref sq_firsts, .ref sq_nexts, .ref sq_names, .ref sq_fieldNames, .ref sq_amounts, .ref sq_fieldDefaults, .ref sq_enumDefaults, .int s_letterCount, .int s_slotCount])), (sq_plain, .inl (cB, 4096, .inl s_plain))] H → va_D A [(obS, .inr (8, [.ref sq_plain, .ref sq_kinds, .ref sq_meant, .ref sq_firsts, .ref sq_nexts, .ref sq_names, .ref sq_fieldNames, .ref sq_amounts, .ref sq_fieldDefaults, .ref sq_enumDefaults, .int s_letterCount, .int s_slotCount])), (sq_plain, .inl (cB, 4096, .inl s_plain))] → va_S A s.heap H locs → lv_has ls 2 [(0, .ref obS), (1, .int x1)] → m_X6_writeNumber_17 s_plain s_letterCount x1 = some res → W p l e (headSpec wsX6_writeNumber (rmX6_writeNumber 0 0)).room s m [.ref obS, .int a0].toArray below meth c H locs 0 0 Q0 (F0 m 17 ls []) := by
    intro s_plain s_letterCount x1 H locs ls hP hD hS hl hm
    unfold m_X6_writeNumber_17 at hm
    refine lv_aload_n hx hb dX6_writeNumber_17 rfl (lv_at hl 0 rfl) ?_
    refine lv_bipush (v := 48) hx hb dX6_writeNumber_18 (by decide) ?_
    refine lv_iload_n hx hb dX6_writeNumber_20 rfl (lv_at hl 1 rfl) ?_
    refine lv_bipush (v := 10) hx hb dX6_writeNumber_21 (by decide) ?_
    refine lv_irem hx hb dX6_writeNumber_23 (by decide) ?_
    refine lv_iadd hx hb dX6_writeNumber_24 ?_
    obtain ⟨⟨s_plain_1, s_letterCount_1⟩, hz1, hm⟩ := mr_bind hm
    try dsimp only at hm
    refine mr_wVv (As := [.int (48 + (x1 - (x1 / 10) * 10))]) (rest := []) (sr_okZ adK adV) ⟨hx, hb, hml, hown, hts⟩ (kX6_writeByte l htr dC dI adK adV cI cB cJ cZ cQ obS sq_plain sq_kinds sq_meant sq_firsts sq_nexts sq_names sq_fieldNames sq_amounts sq_fieldDefaults sq_enumDefaults s_letterCount s_slotCount s_plain _ (48 + (x1 - (x1 / 10) * 10)) _ hz1) (cwV 1 hts (g6_72 _) rfl rfl rfl (by decide +kernel) ⟨(by show 0 + 1 ≤ 1; omega), (by show 8 + (2 + 11) + (0) ≤ 21; omega)⟩) hS hA hP hD hK hz0 (wr := []) (w1 := [(obS, .inr (8, [.ref sq_plain, .ref sq_kinds, .ref sq_meant, .ref sq_firsts, .ref sq_nexts, .ref sq_names, .ref sq_fieldNames, .ref sq_amounts, .ref sq_fieldDefaults, .ref sq_enumDefaults, .int s_letterCount_1, .int s_slotCount])), (sq_plain, .inl (cB, 4096, .inl s_plain_1))]) [0, 1] [] [0, 1] rfl rfl rfl rfl rfl (by decide) rfl rfl rfl (va_recv hK hP (ci := 8) (q0 := 0) rfl rfl) rfl rfl hl.1 (Nat.le_of_ble_eq_true rfl) dX6_writeNumber_25 ⟨Nat.zero_le _, Nat.zero_le _⟩ (fun H locs hP hD hS => ?_)
    obtain rfl := Option.some.inj hm
    subst hQ0
    exact W.vret hx hb hr (fun t ht hW => ⟨⟨(s_plain_1, s_letterCount_1), rfl, rfl, by rw [ht]; exact hP, va_K.moved hW.alike hK, hD⟩, hS.F ht⟩) hS.2.2 dX6_writeNumber_28
  refine lv_icmp_lt (tgt := 17) hx hb dX6_writeNumber_3 (by decide) (fun c2 => ?_) (fun c2 => ?_)
  · have hm := mr_if c2 hm
    exact j17 s_plain s_letterCount a0 _ _ ls hP hD hS (lv_sub hl [0, 1] rfl) hm
  · have hm := mr_un c2 hm
    refine lv_aload_n hx hb dX6_writeNumber_6 rfl (lv_at hl 0 rfl) ?_
    refine lv_bipush (v := 48) hx hb dX6_writeNumber_7 (by decide) ?_
    refine lv_iload_n hx hb dX6_writeNumber_9 rfl (lv_at hl 1 rfl) ?_
    refine lv_bipush (v := 10) hx hb dX6_writeNumber_10 (by decide) ?_
    refine lv_idiv hx hb dX6_writeNumber_12 (by decide) ?_
    refine lv_iadd hx hb dX6_writeNumber_13 ?_
    obtain ⟨⟨s_plain_3, s_letterCount_3⟩, hz3, hm⟩ := mr_bind hm
    try dsimp only at hm
    refine mr_wVv (As := [.int (48 + (a0 / 10))]) (rest := []) (sr_okZ adK adV) ⟨hx, hb, hml, hown, hts⟩ (kX6_writeByte l htr dC dI adK adV cI cB cJ cZ cQ obS sq_plain sq_kinds sq_meant sq_firsts sq_nexts sq_names sq_fieldNames sq_amounts sq_fieldDefaults sq_enumDefaults s_letterCount s_slotCount s_plain _ (48 + (a0 / 10)) _ hz3) (cwV 1 hts (g6_72 _) rfl rfl rfl (by decide +kernel) ⟨(by show 0 + 1 ≤ 1; omega), (by show 8 + (2 + 11) + (0) ≤ 21; omega)⟩) hS hA hP hD hK hz0 (wr := []) (w1 := [(obS, .inr (8, [.ref sq_plain, .ref sq_kinds, .ref sq_meant, .ref sq_firsts, .ref sq_nexts, .ref sq_names, .ref sq_fieldNames, .ref sq_amounts, .ref sq_fieldDefaults, .ref sq_enumDefaults, .int s_letterCount_3, .int s_slotCount])), (sq_plain, .inl (cB, 4096, .inl s_plain_3))]) [0, 1] [] [0, 1] rfl rfl rfl rfl rfl (by decide) rfl rfl rfl (va_recv hK hP (ci := 8) (q0 := 0) rfl rfl) rfl rfl hl.1 (Nat.le_of_ble_eq_true rfl) dX6_writeNumber_14 ⟨Nat.zero_le _, Nat.zero_le _⟩ (fun H locs hP hD hS => ?_)
    exact j17 s_plain_3 s_letterCount_3 a0 _ _ ls hP hD hS (lv_sub hl [0, 1] rfl) hm
set_option maxHeartbeats 4000000 in
set_option maxRecDepth 100000 in
theorem kX6_isSaid (l : Launch) (htr : l.stackTraces = false) (dC : Nat → ClassId) (dI : Nat → Nat → Nat) (adK adV : Nat → Nat) (cI cB cJ cZ cQ : ClassId) (obS sq_plain sq_kinds sq_meant sq_firsts sq_nexts sq_names sq_fieldNames sq_amounts sq_fieldDefaults sq_enumDefaults obT tq_tape tq_said tq_inner tq_next tq_amount obK : Nat) (s_letterCount : Int32) (s_slotCount : Int32) (t_length : Int32) (t_wrongPlace : Int32) (s_plain : Nat → Int32) (t_said : Nat → Int32) (t_amount : Nat → Int32) (a0 : Int32) (a2 : Int32) (res : Int32) (hm : m_X6_isSaid s_plain s_letterCount t_said t_amount a0 a2 = some res) : Met l yX6_isSaid wsX6_isSaid (rmX6_isSaid 0 0) (pcR (sr_Z adK adV) (dC, dI) srCl [(cI, .int), (cB, .byte), (cJ, .long), (cZ, .boolean), (cQ, .object "SchemaReader$Schema")] [.ref obS, .int a0, .ref obT, .int a2] [(obS, .inr (8, [.ref sq_plain, .ref sq_kinds, .ref sq_meant, .ref sq_firsts, .ref sq_nexts, .ref sq_names, .ref sq_fieldNames, .ref sq_amounts, .ref sq_fieldDefaults, .ref sq_enumDefaults, .int s_letterCount, .int s_slotCount])), (sq_plain, .inl (cB, 4096, .inl s_plain)), (obT, .inr (9, [.ref tq_tape, .ref tq_said, .ref tq_inner, .ref tq_next, .ref tq_amount, .ref obK, .int t_length, .int t_wrongPlace])), (tq_said, .inl (cB, 4096, .inl t_said)), (tq_amount, .inl (cI, 4096, .inl t_amount))]) (k2_QcV (.int res)) 0 0 (fun _ => False) := by
  refine Met.ofW (cc := cX6_isSaid) (maxL := 7) (ret := (some .boolean)) (by decide) rfl ?_
  intro p e s m args below meth c s₁ B hml hv
  obtain ⟨rfl, hP, hK, hz0⟩ := hv
  have hx := B.exec
  have hb := B.bytes
  have hr := B.returns
  have hts := atoms_spec (ws := wsX6_isSaid) B.pre
  have hown : s.vm.findClass RX6 = some m.cls := findClass_of_methodNamed B.named
  have hlocks := B.notSynchronized
  have hS : va_S (fun _ => False) s.heap s.heap [] := va_S.rf
  generalize hQ0 : MQ below (k2_QcV (.int res)) [.ref obS, .int a0, .ref obT, .int a2].toArray s 0 0 (fun _ => False) = Q0
  have hl := lv_entry [.ref obS, .int a0, .ref obT, .int a2] (n := 7) (Nat.le_of_ble_eq_true rfl)
  rw [lg_entry_eq]
  generalize (lg_sl [.ref obS, .int a0, .ref obT, .int a2] ++ List.replicate (7 - (lg_sl [.ref obS, .int a0, .ref obT, .int a2]).length) Slot.unset).toArray = ls at hl ⊢
  have hl : lv_has ls 7 [(0, .ref obS), (1, .int a0), (2, .ref obT), (3, .int a2)] := hl
  unfold m_X6_isSaid at hm
  refine lv_aload_n hx hb dX6_isSaid_0 rfl (lv_at hl 2 rfl) ?_
  refine lv_iload_n hx hb dX6_isSaid_1 rfl (lv_at hl 3 rfl) ?_
  obtain ⟨r1, hz1, hm⟩ := mr_bind hm
  refine mr_pV (As := [.int a2]) (rest := []) (sr_okZ adK adV) ⟨hx, hb, hml, hown, hts⟩ (kX7_amount l htr dC dI adK adV cI cB cJ cZ cQ obT tq_tape tq_said tq_inner tq_next tq_amount obK t_length t_wrongPlace t_amount a2 r1 hz1) (cwV 1 hts (g6_76 _) rfl rfl rfl (by decide +kernel) ⟨(by show 1 + 1 ≤ 2; omega), (by show 8 + (2 + 11) + (21) ≤ 42; omega)⟩) hS hP hK hz0 [2, 4] rfl (va_recv hK hP (ci := 9) (q0 := 2) rfl rfl) rfl rfl hl.1 (Nat.le_of_ble_eq_true rfl) dX6_isSaid_2 ⟨Nat.zero_le _, Nat.zero_le _⟩ ?_
  refine lv_istore (lv' := [(4, .int r1), (0, .ref obS), (1, .int a0), (2, .ref obT), (3, .int a2)]) hx hb dX6_isSaid_5 hl (by decide) rfl (fun ls hl => ?_)
  refine lv_iload hx hb dX6_isSaid_7 (lv_at hl 0 rfl) ?_
  refine lv_iconst (v := 1) hx hb dX6_isSaid_9 (by decide) ?_
  refine lv_icmp_lt (tgt := 20) hx hb dX6_isSaid_10 (by decide) (fun c2 => ?_) (fun c2 => ?_)
  · have hm := mr_if c2 hm
    refine lv_iconst (v := 0) hx hb dX6_isSaid_20 (by decide) ?_
    obtain rfl := Option.some.inj hm
    subst hQ0
    exact W.zret (v := 0) hx hb hr rfl (fun t ht hW => ⟨rfl, ht⟩) (fun q h => by cases h) dX6_isSaid_21
  · have hm := mr_un c2 hm
    refine lv_iload hx hb dX6_isSaid_13 (lv_at hl 0 rfl) ?_
    refine lv_bipush (v := 32) hx hb dX6_isSaid_15 (by decide) ?_
    refine lv_icmp_le (tgt := 22) hx hb dX6_isSaid_17 (by decide) (fun c3 => ?_) (fun c3 => ?_)
    · have hm := mr_if c3 hm
      refine lv_iconst (v := 0) hx hb dX6_isSaid_22 (by decide) ?_
      have j25 : ∀ (n25 : Nat) (x1 : Int32) (x3 : Int32) (x4 : Int32) (x5 : Int32) (ls : Array Slot), lv_has ls 7 [(0, .ref obS), (1, .int x1), (2, .ref obT), (3, .int x3), (4, .int x4), (5, .int x5)] → m_X6_isSaid_25 s_plain s_letterCount t_said t_amount n25 x1 x3 x4 x5 = some res → W p l e (headSpec wsX6_isSaid (rmX6_isSaid 0 0)).room s m [.ref obS, .int a0, .ref obT, .int a2].toArray below meth c s.heap [] 0 0 Q0 (F0 m 25 ls []) := by
        intro n25
        induction n25 with
        | zero => intro x1 x3 x4 x5 ls hl hm; exact nomatch (show (none : Option _) = some res from hm)
        | succ n25 ih25 =>
          intro x1 x3 x4 x5 ls hl hm
          rw [m_X6_isSaid_25] at hm
          refine lv_iload hx hb dX6_isSaid_25 (lv_at hl 5 rfl) ?_
          refine lv_iload hx hb dX6_isSaid_27 (lv_at hl 4 rfl) ?_
          refine lv_icmp_ge (tgt := 70) hx hb dX6_isSaid_29 (by decide) (fun c4 => ?_) (fun c4 => ?_)
          · have hm := mr_if c4 hm
            refine lv_aload_n hx hb dX6_isSaid_70 rfl (lv_at hl 0 rfl) ?_
            refine lv_iload_n hx hb dX6_isSaid_71 rfl (lv_at hl 1 rfl) ?_
            refine lv_iload hx hb dX6_isSaid_72 (lv_at hl 4 rfl) ?_
            refine lv_iadd hx hb dX6_isSaid_74 ?_
            obtain ⟨r5, hz5, hm⟩ := mr_bind hm
            refine mr_pV (As := [.int (x1 + x4)]) (rest := []) (sr_okZ adK adV) ⟨hx, hb, hml, hown, hts⟩ (kX6_letterAt l htr dC dI adK adV cI cB cJ cZ cQ obS sq_plain sq_kinds sq_meant sq_firsts sq_nexts sq_names sq_fieldNames sq_amounts sq_fieldDefaults sq_enumDefaults s_letterCount s_slotCount s_plain (x1 + x4) r5 hz5) (cwV 1 hts (g6_84 _) rfl rfl rfl (by decide +kernel) ⟨(by show 0 + 1 ≤ 2; omega), (by show 8 + (2 + 11) + (0) ≤ 42; omega)⟩) hS hP hK hz0 [0, 1] rfl (va_recv hK hP (ci := 8) (q0 := 0) rfl rfl) rfl rfl hl.1 (Nat.le_of_ble_eq_true rfl) dX6_isSaid_75 ⟨Nat.zero_le _, Nat.zero_le _⟩ ?_
            refine lv_bipush (v := 34) hx hb dX6_isSaid_78 (by decide) ?_
            refine lv_icmp_ne (tgt := 87) hx hb dX6_isSaid_80 (by decide) (fun c6 => ?_) (fun c6 => ?_)
            · have hm := mr_un c6 hm
              refine lv_iconst (v := 0) hx hb dX6_isSaid_87 (by decide) ?_
              obtain rfl := Option.some.inj hm
              subst hQ0
              exact W.zret (v := 0) hx hb hr rfl (fun t ht hW => ⟨rfl, ht⟩) (fun q h => by cases h) dX6_isSaid_88
            · have hm := mr_if c6 hm
              refine lv_iconst (v := 1) hx hb dX6_isSaid_83 (by decide) ?_
              refine lv_goto (tgt := 88) hx hb dX6_isSaid_84 (by decide) ?_
              obtain rfl := Option.some.inj hm
              subst hQ0
              exact W.zret (v := 1) hx hb hr rfl (fun t ht hW => ⟨rfl, ht⟩) (fun q h => by cases h) dX6_isSaid_88
          · have hm := mr_un c4 hm
            refine lv_aload_n hx hb dX6_isSaid_32 rfl (lv_at hl 0 rfl) ?_
            refine lv_iload_n hx hb dX6_isSaid_33 rfl (lv_at hl 1 rfl) ?_
            refine lv_iload hx hb dX6_isSaid_34 (lv_at hl 5 rfl) ?_
            refine lv_iadd hx hb dX6_isSaid_36 ?_
            obtain ⟨r7, hz7, hm⟩ := mr_bind hm
            refine mr_pV (As := [.int (x1 + x5)]) (rest := []) (sr_okZ adK adV) ⟨hx, hb, hml, hown, hts⟩ (kX6_letterAt l htr dC dI adK adV cI cB cJ cZ cQ obS sq_plain sq_kinds sq_meant sq_firsts sq_nexts sq_names sq_fieldNames sq_amounts sq_fieldDefaults sq_enumDefaults s_letterCount s_slotCount s_plain (x1 + x5) r7 hz7) (cwV 1 hts (g6_84 _) rfl rfl rfl (by decide +kernel) ⟨(by show 0 + 1 ≤ 2; omega), (by show 8 + (2 + 11) + (0) ≤ 42; omega)⟩) hS hP hK hz0 [0, 1] rfl (va_recv hK hP (ci := 8) (q0 := 0) rfl rfl) rfl rfl hl.1 (Nat.le_of_ble_eq_true rfl) dX6_isSaid_37 ⟨Nat.zero_le _, Nat.zero_le _⟩ ?_
            refine lv_istore (lv' := [(6, .int r7), (0, .ref obS), (1, .int x1), (2, .ref obT), (3, .int x3), (4, .int x4), (5, .int x5)]) hx hb dX6_isSaid_40 hl (by decide) rfl (fun ls hl => ?_)
            refine lv_iload hx hb dX6_isSaid_42 (lv_at hl 0 rfl) ?_
            refine lv_bipush (v := 34) hx hb dX6_isSaid_44 (by decide) ?_
            refine lv_icmp_eq (tgt := 62) hx hb dX6_isSaid_46 (by decide) (fun c8 => ?_) (fun c8 => ?_)
            · have hm := mr_if c8 hm
              refine lv_iconst (v := 0) hx hb dX6_isSaid_62 (by decide) ?_
              obtain rfl := Option.some.inj hm
              subst hQ0
              exact W.zret (v := 0) hx hb hr rfl (fun t ht hW => ⟨rfl, ht⟩) (fun q h => by cases h) dX6_isSaid_63
            · have hm := mr_un c8 hm
              refine lv_iload hx hb dX6_isSaid_49 (lv_at hl 0 rfl) ?_
              refine lv_aload_n hx hb dX6_isSaid_51 rfl (lv_at hl 3 rfl) ?_
              refine lv_iload_n hx hb dX6_isSaid_52 rfl (lv_at hl 4 rfl) ?_
              refine lv_iload hx hb dX6_isSaid_53 (lv_at hl 6 rfl) ?_
              refine lv_iadd hx hb dX6_isSaid_55 ?_
              obtain ⟨r9, hz9, hm⟩ := mr_bind hm
              refine mr_pV (As := [.int (x3 + x5)]) (rest := [.int r7]) (sr_okZ adK adV) ⟨hx, hb, hml, hown, hts⟩ (kX7_saidAt l htr dC dI adK adV cI cB cJ cZ cQ obT tq_tape tq_said tq_inner tq_next tq_amount obK t_length t_wrongPlace t_said (x3 + x5) r9 hz9) (cwV 1 hts (g6_81 _) rfl rfl rfl (by decide +kernel) ⟨(by show 0 + 1 ≤ 2; omega), (by show 8 + (2 + 11) + (0) ≤ 42; omega)⟩) hS hP hK hz0 [2, 3] rfl (va_recv hK hP (ci := 9) (q0 := 2) rfl rfl) rfl rfl hl.1 (Nat.le_of_ble_eq_true rfl) dX6_isSaid_56 ⟨Nat.zero_le _, Nat.zero_le _⟩ ?_
              refine lv_icmp_eq (tgt := 64) hx hb dX6_isSaid_59 (by decide) (fun c10 => ?_) (fun c10 => ?_)
              · have hm := mr_if c10 hm
                refine lv_iinc (v := x5 + 1) (lv' := [(5, .int (x5 + 1)), (6, .int r7), (0, .ref obS), (1, .int x1), (2, .ref obT), (3, .int x3), (4, .int x4)]) hx hb dX6_isSaid_64 hl (k := 6) rfl rfl (by decide) rfl (fun ls hl => ?_)
                refine lv_goto (tgt := 25) hx hb dX6_isSaid_67 (by decide) ?_
                exact ih25 x1 x3 x4 (x5 + 1) ls (lv_sub hl [2, 3, 4, 5, 6, 0] rfl) hm
              · have hm := mr_un c10 hm
                refine lv_iconst (v := 0) hx hb dX6_isSaid_62 (by decide) ?_
                obtain rfl := Option.some.inj hm
                subst hQ0
                exact W.zret (v := 0) hx hb hr rfl (fun t ht hW => ⟨rfl, ht⟩) (fun q h => by cases h) dX6_isSaid_63
      refine lv_istore (lv' := [(5, .int 0), (4, .int r1), (0, .ref obS), (1, .int a0), (2, .ref obT), (3, .int a2)]) hx hb dX6_isSaid_23 hl (by decide) rfl (fun ls hl => ?_)
      exact j25 sr_fuel a0 a2 r1 0 ls (lv_sub hl [2, 3, 4, 5, 1, 0] rfl) hm
    · have hm := mr_un c3 hm
      refine lv_iconst (v := 0) hx hb dX6_isSaid_20 (by decide) ?_
      obtain rfl := Option.some.inj hm
      subst hQ0
      exact W.zret (v := 0) hx hb hr rfl (fun t ht hW => ⟨rfl, ht⟩) (fun q h => by cases h) dX6_isSaid_21
set_option maxHeartbeats 4000000 in
set_option maxRecDepth 100000 in
theorem kX6_definition (l : Launch) (htr : l.stackTraces = false) (dC : Nat → ClassId) (dI : Nat → Nat → Nat) (adK adV : Nat → Nat) (cI cB cJ cZ cQ : ClassId) (obS sq_plain sq_kinds sq_meant sq_firsts sq_nexts sq_names sq_fieldNames sq_amounts sq_fieldDefaults sq_enumDefaults obT tq_tape tq_said tq_inner tq_next tq_amount obK : Nat) (s_letterCount : Int32) (s_slotCount : Int32) (t_length : Int32) (t_wrongPlace : Int32) (s_plain : Nat → Int32) (s_names : Nat → Int32) (t_said : Nat → Int32) (t_amount : Nat → Int32) (a1 : Int32) (res : Int32) (hm : m_X6_definition s_plain s_names s_letterCount s_slotCount t_said t_amount a1 = some res) : Met l yX6_definition wsX6_definition (rmX6_definition 0 0) (pcR (sr_Z adK adV) (dC, dI) srCl [(cI, .int), (cB, .byte), (cJ, .long), (cZ, .boolean), (cQ, .object "SchemaReader$Schema")] [.ref obS, .ref obT, .int a1] [(obS, .inr (8, [.ref sq_plain, .ref sq_kinds, .ref sq_meant, .ref sq_firsts, .ref sq_nexts, .ref sq_names, .ref sq_fieldNames, .ref sq_amounts, .ref sq_fieldDefaults, .ref sq_enumDefaults, .int s_letterCount, .int s_slotCount])), (sq_plain, .inl (cB, 4096, .inl s_plain)), (sq_names, .inl (cI, 128, .inl s_names)), (obT, .inr (9, [.ref tq_tape, .ref tq_said, .ref tq_inner, .ref tq_next, .ref tq_amount, .ref obK, .int t_length, .int t_wrongPlace])), (tq_said, .inl (cB, 4096, .inl t_said)), (tq_amount, .inl (cI, 4096, .inl t_amount))]) (k2_QcV (.int res)) 0 0 (fun _ => False) := by
  refine Met.ofW (cc := cX6_definition) (maxL := 4) (ret := (some .int)) (by decide) rfl ?_
  intro p e s m args below meth c s₁ B hml hv
  obtain ⟨rfl, hP, hK, hz0⟩ := hv
  have hx := B.exec
  have hb := B.bytes
  have hr := B.returns
  have hts := atoms_spec (ws := wsX6_definition) B.pre
  have hown : s.vm.findClass RX6 = some m.cls := findClass_of_methodNamed B.named
  have hlocks := B.notSynchronized
  have hS : va_S (fun _ => False) s.heap s.heap [] := va_S.rf
  generalize hQ0 : MQ below (k2_QcV (.int res)) [.ref obS, .ref obT, .int a1].toArray s 0 0 (fun _ => False) = Q0
  have hl := lv_entry [.ref obS, .ref obT, .int a1] (n := 4) (Nat.le_of_ble_eq_true rfl)
  rw [lg_entry_eq]
  generalize (lg_sl [.ref obS, .ref obT, .int a1] ++ List.replicate (4 - (lg_sl [.ref obS, .ref obT, .int a1]).length) Slot.unset).toArray = ls at hl ⊢
  have hl : lv_has ls 4 [(0, .ref obS), (1, .ref obT), (2, .int a1)] := hl
  unfold m_X6_definition at hm
  refine lv_iconst (v := 0) hx hb dX6_definition_0 (by decide) ?_
  have j2 : ∀ (n2 : Nat) (x2 : Int32) (x3 : Int32) (ls : Array Slot), lv_has ls 4 [(0, .ref obS), (1, .ref obT), (2, .int x2), (3, .int x3)] → m_X6_definition_2 s_plain s_names s_letterCount s_slotCount t_said t_amount n2 x2 x3 = some res → W p l e (headSpec wsX6_definition (rmX6_definition 0 0)).room s m [.ref obS, .ref obT, .int a1].toArray below meth c s.heap [] 0 0 Q0 (F0 m 2 ls []) := by
    intro n2
    induction n2 with
    | zero => intro x2 x3 ls hl hm; exact nomatch (show (none : Option _) = some res from hm)
    | succ n2 ih2 =>
      intro x2 x3 ls hl hm
      rw [m_X6_definition_2] at hm
      refine lv_iload_n hx hb dX6_definition_2 rfl (lv_at hl 3 rfl) ?_
      refine lv_aload_n hx hb dX6_definition_3 rfl (lv_at hl 0 rfl) ?_
      refine va_get (D := (dC, dI)) (ci := 8) (v := .int s_slotCount) (C := RX6) (T := TX6) (N := 12) hx hb hts (inX6 _) hown hK hP 0 rfl rfl 11 (by decide) (hts _ (List.mem_cons_of_mem _ wf6_48)) (fun _ h9 => h9) rfl dX6_definition_4 ?_
      refine lv_icmp_ge (tgt := 43) hx hb dX6_definition_7 (by decide) (fun c1 => ?_) (fun c1 => ?_)
      · have hm := mr_if c1 hm
        refine lv_iconst (v := -1) hx hb dX6_definition_43 (by decide) ?_
        obtain rfl := Option.some.inj hm
        subst hQ0
        exact W.iret (v := (-1)) hx hb hr (fun t ht hW => ⟨rfl, ht⟩) (fun q h => by cases h) dX6_definition_44
      · have hm := mr_un c1 hm
        refine lv_aload_n hx hb dX6_definition_10 rfl (lv_at hl 0 rfl) ?_
        refine va_get (D := (dC, dI)) (ci := 8) (v := .ref sq_names) (C := RX6) (T := TX6) (N := 12) hx hb hts (inX6 _) hown hK hP 0 rfl rfl 5 (by decide) (hts _ (List.mem_cons_of_mem _ wf6_28)) (fun _ h9 => h9) rfl dX6_definition_11 ?_
        refine lv_iload_n hx hb dX6_definition_14 rfl (lv_at hl 3 rfl) ?_
        obtain ⟨h2, hm⟩ := mr_bd hm
        refine va_iald hx hb hK hP 2 0 rfl rfl h2 dX6_definition_15 ?_
        refine lv_iconst (v := -1) hx hb dX6_definition_16 (by decide) ?_
        refine lv_icmp_eq (tgt := 37) hx hb dX6_definition_17 (by decide) (fun c3 => ?_) (fun c3 => ?_)
        · have hm := mr_if c3 hm
          refine lv_iinc (v := x3 + 1) (lv' := [(3, .int (x3 + 1)), (0, .ref obS), (1, .ref obT), (2, .int x2)]) hx hb dX6_definition_37 hl (k := 3) rfl rfl (by decide) rfl (fun ls hl => ?_)
          refine lv_goto (tgt := 2) hx hb dX6_definition_40 (by decide) ?_
          exact ih2 x2 (x3 + 1) ls (lv_sub hl [1, 2, 3, 0] rfl) hm
        · have hm := mr_un c3 hm
          refine lv_aload_n hx hb dX6_definition_20 rfl (lv_at hl 0 rfl) ?_
          refine lv_aload_n hx hb dX6_definition_21 rfl (lv_at hl 0 rfl) ?_
          refine va_get (D := (dC, dI)) (ci := 8) (v := .ref sq_names) (C := RX6) (T := TX6) (N := 12) hx hb hts (inX6 _) hown hK hP 0 rfl rfl 5 (by decide) (hts _ (List.mem_cons_of_mem _ wf6_28)) (fun _ h9 => h9) rfl dX6_definition_22 ?_
          refine lv_iload_n hx hb dX6_definition_25 rfl (lv_at hl 3 rfl) ?_
          obtain ⟨h4, hm⟩ := mr_bd hm
          refine va_iald hx hb hK hP 2 0 rfl rfl h4 dX6_definition_26 ?_
          refine lv_aload_n hx hb dX6_definition_27 rfl (lv_at hl 1 rfl) ?_
          refine lv_iload_n hx hb dX6_definition_28 rfl (lv_at hl 2 rfl) ?_
          obtain ⟨r5, hz5, hm⟩ := mr_bind hm
          refine mr_pV (As := [.int (s_names (x3 : Int32).toNatClampNeg), .ref obT, .int x2]) (rest := []) (sr_okZ adK adV) ⟨hx, hb, hml, hown, hts⟩ (kX6_isSaid l htr dC dI adK adV cI cB cJ cZ cQ obS sq_plain sq_kinds sq_meant sq_firsts sq_nexts sq_names sq_fieldNames sq_amounts sq_fieldDefaults sq_enumDefaults obT tq_tape tq_said tq_inner tq_next tq_amount obK s_letterCount s_slotCount t_length t_wrongPlace s_plain t_said t_amount (s_names (x3 : Int32).toNatClampNeg) x2 r5 hz5) (cwV 3 hts (g6_87 _) rfl rfl rfl (by decide +kernel) ⟨(by show 2 + 1 ≤ 3; omega), (by show 8 + (7 + 11) + (42) ≤ 68; omega)⟩) hS hP hK hz0 [0, 1, 3, 4, 5] rfl (va_recv hK hP (ci := 8) (q0 := 0) rfl rfl) rfl rfl hl.1 (Nat.le_of_ble_eq_true rfl) dX6_definition_29 ⟨Nat.zero_le _, Nat.zero_le _⟩ ?_
          refine lv_if_eq (tgt := 37) hx hb dX6_definition_32 (by decide) (fun c6 => ?_) (fun c6 => ?_)
          · have hm := mr_if c6 hm
            refine lv_iinc (v := x3 + 1) (lv' := [(3, .int (x3 + 1)), (0, .ref obS), (1, .ref obT), (2, .int x2)]) hx hb dX6_definition_37 hl (k := 3) rfl rfl (by decide) rfl (fun ls hl => ?_)
            refine lv_goto (tgt := 2) hx hb dX6_definition_40 (by decide) ?_
            exact ih2 x2 (x3 + 1) ls (lv_sub hl [1, 2, 3, 0] rfl) hm
          · have hm := mr_un c6 hm
            refine lv_iload_n hx hb dX6_definition_35 rfl (lv_at hl 3 rfl) ?_
            obtain rfl := Option.some.inj hm
            subst hQ0
            exact W.iret (v := x3) hx hb hr (fun t ht hW => ⟨rfl, ht⟩) (fun q h => by cases h) dX6_definition_36
  refine lv_istore_n (lv' := [(3, .int 0), (0, .ref obS), (1, .ref obT), (2, .int a1)]) hx hb dX6_definition_1 rfl hl (by decide) rfl (fun ls hl => ?_)
  exact j2 sr_fuel a1 0 ls (lv_sub hl [1, 2, 3, 0] rfl) hm
set_option maxHeartbeats 4000000 in
set_option maxRecDepth 100000 in
theorem kX6_hasField (l : Launch) (htr : l.stackTraces = false) (dC : Nat → ClassId) (dI : Nat → Nat → Nat) (adK adV : Nat → Nat) (cI cB cJ cZ cQ : ClassId) (obS sq_plain sq_kinds sq_meant sq_firsts sq_nexts sq_names sq_fieldNames sq_amounts sq_fieldDefaults sq_enumDefaults obT tq_tape tq_said tq_inner tq_next tq_amount obK : Nat) (s_letterCount : Int32) (s_slotCount : Int32) (t_length : Int32) (t_wrongPlace : Int32) (s_plain : Nat → Int32) (s_meant : Nat → Int32) (s_firsts : Nat → Int32) (s_nexts : Nat → Int32) (s_fieldNames : Nat → Int32) (s_amounts : Nat → Int32) (t_said : Nat → Int32) (t_amount : Nat → Int32) (a0 : Int32) (a2 : Int32) (res : Int32) (hm : m_X6_hasField s_plain s_meant s_firsts s_nexts s_fieldNames s_amounts s_letterCount t_said t_amount a0 a2 = some res) : Met l yX6_hasField wsX6_hasField (rmX6_hasField 0 0) (pcR (sr_Z adK adV) (dC, dI) srCl [(cI, .int), (cB, .byte), (cJ, .long), (cZ, .boolean), (cQ, .object "SchemaReader$Schema")] [.ref obS, .int a0, .ref obT, .int a2] [(obS, .inr (8, [.ref sq_plain, .ref sq_kinds, .ref sq_meant, .ref sq_firsts, .ref sq_nexts, .ref sq_names, .ref sq_fieldNames, .ref sq_amounts, .ref sq_fieldDefaults, .ref sq_enumDefaults, .int s_letterCount, .int s_slotCount])), (sq_plain, .inl (cB, 4096, .inl s_plain)), (sq_meant, .inl (cI, 128, .inl s_meant)), (sq_firsts, .inl (cI, 128, .inl s_firsts)), (sq_nexts, .inl (cI, 128, .inl s_nexts)), (sq_fieldNames, .inl (cI, 128, .inl s_fieldNames)), (sq_amounts, .inl (cI, 128, .inl s_amounts)), (obT, .inr (9, [.ref tq_tape, .ref tq_said, .ref tq_inner, .ref tq_next, .ref tq_amount, .ref obK, .int t_length, .int t_wrongPlace])), (tq_said, .inl (cB, 4096, .inl t_said)), (tq_amount, .inl (cI, 4096, .inl t_amount))]) (k2_QcV (.int res)) 0 0 (fun _ => False) := by
  refine Met.ofW (cc := cX6_hasField) (maxL := 6) (ret := (some .boolean)) (by decide) rfl ?_
  intro p e s m args below meth c s₁ B hml hv
  obtain ⟨rfl, hP, hK, hz0⟩ := hv
  have hx := B.exec
  have hb := B.bytes
  have hr := B.returns
  have hts := atoms_spec (ws := wsX6_hasField) B.pre
  have hown : s.vm.findClass RX6 = some m.cls := findClass_of_methodNamed B.named
  have hlocks := B.notSynchronized
  have hS : va_S (fun _ => False) s.heap s.heap [] := va_S.rf
  generalize hQ0 : MQ below (k2_QcV (.int res)) [.ref obS, .int a0, .ref obT, .int a2].toArray s 0 0 (fun _ => False) = Q0
  have hl := lv_entry [.ref obS, .int a0, .ref obT, .int a2] (n := 6) (Nat.le_of_ble_eq_true rfl)
  rw [lg_entry_eq]
  generalize (lg_sl [.ref obS, .int a0, .ref obT, .int a2] ++ List.replicate (6 - (lg_sl [.ref obS, .int a0, .ref obT, .int a2]).length) Slot.unset).toArray = ls at hl ⊢
  have hl : lv_has ls 6 [(0, .ref obS), (1, .int a0), (2, .ref obT), (3, .int a2)] := hl
  unfold m_X6_hasField at hm
  refine lv_aload_n hx hb dX6_hasField_0 rfl (lv_at hl 0 rfl) ?_
  refine lv_iload_n hx hb dX6_hasField_1 rfl (lv_at hl 1 rfl) ?_
  obtain ⟨r1, hz1, hm⟩ := mr_bind hm
  refine mr_pV (As := [.int a0]) (rest := []) (sr_okZ adK adV) ⟨hx, hb, hml, hown, hts⟩ (kX6_first l htr dC dI adK adV cI cB cJ cZ cQ obS sq_plain sq_kinds sq_meant sq_firsts sq_nexts sq_names sq_fieldNames sq_amounts sq_fieldDefaults sq_enumDefaults s_letterCount s_slotCount s_meant s_firsts a0 r1 hz1) (cwV 1 hts (g6_91 _) rfl rfl rfl (by decide +kernel) ⟨(by show 1 + 1 ≤ 3; omega), (by show 8 + (2 + 11) + (21) ≤ 68; omega)⟩) hS hP hK hz0 [0, 2, 3] rfl (va_recv hK hP (ci := 8) (q0 := 0) rfl rfl) rfl rfl hl.1 (Nat.le_of_ble_eq_true rfl) dX6_hasField_2 ⟨Nat.zero_le _, Nat.zero_le _⟩ ?_
  refine lv_istore (lv' := [(4, .int r1), (0, .ref obS), (1, .int a0), (2, .ref obT), (3, .int a2)]) hx hb dX6_hasField_5 hl (by decide) rfl (fun ls hl => ?_)
  refine lv_iconst (v := 0) hx hb dX6_hasField_7 (by decide) ?_
  have j10 : ∀ (n10 : Nat) (x1 : Int32) (x3 : Int32) (x4 : Int32) (x5 : Int32) (ls : Array Slot), lv_has ls 6 [(0, .ref obS), (1, .int x1), (2, .ref obT), (3, .int x3), (4, .int x4), (5, .int x5)] → m_X6_hasField_10 s_plain s_meant s_firsts s_nexts s_fieldNames s_amounts s_letterCount t_said t_amount n10 x1 x3 x4 x5 = some res → W p l e (headSpec wsX6_hasField (rmX6_hasField 0 0)).room s m [.ref obS, .int a0, .ref obT, .int a2].toArray below meth c s.heap [] 0 0 Q0 (F0 m 10 ls []) := by
    intro n10
    induction n10 with
    | zero => intro x1 x3 x4 x5 ls hl hm; exact nomatch (show (none : Option _) = some res from hm)
    | succ n10 ih10 =>
      intro x1 x3 x4 x5 ls hl hm
      rw [m_X6_hasField_10] at hm
      refine lv_iload hx hb dX6_hasField_10 (lv_at hl 5 rfl) ?_
      refine lv_aload_n hx hb dX6_hasField_12 rfl (lv_at hl 0 rfl) ?_
      refine lv_iload_n hx hb dX6_hasField_13 rfl (lv_at hl 1 rfl) ?_
      obtain ⟨r2, hz2, hm⟩ := mr_bind hm
      refine mr_pV (As := [.int x1]) (rest := [.int x5]) (sr_okZ adK adV) ⟨hx, hb, hml, hown, hts⟩ (kX6_amount l htr dC dI adK adV cI cB cJ cZ cQ obS sq_plain sq_kinds sq_meant sq_firsts sq_nexts sq_names sq_fieldNames sq_amounts sq_fieldDefaults sq_enumDefaults s_letterCount s_slotCount s_meant s_amounts x1 r2 hz2) (cwV 1 hts (g6_94 _) rfl rfl rfl (by decide +kernel) ⟨(by show 1 + 1 ≤ 3; omega), (by show 8 + (2 + 11) + (21) ≤ 68; omega)⟩) hS hP hK hz0 [0, 2, 6] rfl (va_recv hK hP (ci := 8) (q0 := 0) rfl rfl) rfl rfl hl.1 (Nat.le_of_ble_eq_true rfl) dX6_hasField_14 ⟨Nat.zero_le _, Nat.zero_le _⟩ ?_
      refine lv_icmp_ge (tgt := 51) hx hb dX6_hasField_17 (by decide) (fun c3 => ?_) (fun c3 => ?_)
      · have hm := mr_if c3 hm
        refine lv_iconst (v := 0) hx hb dX6_hasField_51 (by decide) ?_
        obtain rfl := Option.some.inj hm
        subst hQ0
        exact W.zret (v := 0) hx hb hr rfl (fun t ht hW => ⟨rfl, ht⟩) (fun q h => by cases h) dX6_hasField_52
      · have hm := mr_un c3 hm
        refine lv_aload_n hx hb dX6_hasField_20 rfl (lv_at hl 0 rfl) ?_
        refine lv_aload_n hx hb dX6_hasField_21 rfl (lv_at hl 0 rfl) ?_
        refine lv_iload hx hb dX6_hasField_22 (lv_at hl 4 rfl) ?_
        obtain ⟨r4, hz4, hm⟩ := mr_bind hm
        refine mr_pV (As := [.int x4]) (rest := [.ref obS]) (sr_okZ adK adV) ⟨hx, hb, hml, hown, hts⟩ (kX6_fieldName l htr dC dI adK adV cI cB cJ cZ cQ obS sq_plain sq_kinds sq_meant sq_firsts sq_nexts sq_names sq_fieldNames sq_amounts sq_fieldDefaults sq_enumDefaults s_letterCount s_slotCount s_fieldNames x4 r4 hz4) (cwV 1 hts (g6_95 _) rfl rfl rfl (by decide +kernel) ⟨(by show 1 + 1 ≤ 3; omega), (by show 8 + (2 + 11) + (21) ≤ 68; omega)⟩) hS hP hK hz0 [0, 5] rfl (va_recv hK hP (ci := 8) (q0 := 0) rfl rfl) rfl rfl hl.1 (Nat.le_of_ble_eq_true rfl) dX6_hasField_24 ⟨Nat.zero_le _, Nat.zero_le _⟩ ?_
        refine lv_aload_n hx hb dX6_hasField_27 rfl (lv_at hl 2 rfl) ?_
        refine lv_iload_n hx hb dX6_hasField_28 rfl (lv_at hl 3 rfl) ?_
        obtain ⟨r5, hz5, hm⟩ := mr_bind hm
        refine mr_pV (As := [.int r4, .ref obT, .int x3]) (rest := []) (sr_okZ adK adV) ⟨hx, hb, hml, hown, hts⟩ (kX6_isSaid l htr dC dI adK adV cI cB cJ cZ cQ obS sq_plain sq_kinds sq_meant sq_firsts sq_nexts sq_names sq_fieldNames sq_amounts sq_fieldDefaults sq_enumDefaults obT tq_tape tq_said tq_inner tq_next tq_amount obK s_letterCount s_slotCount t_length t_wrongPlace s_plain t_said t_amount r4 x3 r5 hz5) (cwV 3 hts (g6_87 _) rfl rfl rfl (by decide +kernel) ⟨(by show 2 + 1 ≤ 3; omega), (by show 8 + (7 + 11) + (42) ≤ 68; omega)⟩) hS hP hK hz0 [0, 1, 7, 8, 9] rfl (va_recv hK hP (ci := 8) (q0 := 0) rfl rfl) rfl rfl hl.1 (Nat.le_of_ble_eq_true rfl) dX6_hasField_29 ⟨Nat.zero_le _, Nat.zero_le _⟩ ?_
        refine lv_if_eq (tgt := 37) hx hb dX6_hasField_32 (by decide) (fun c6 => ?_) (fun c6 => ?_)
        · have hm := mr_if c6 hm
          refine lv_aload_n hx hb dX6_hasField_37 rfl (lv_at hl 0 rfl) ?_
          refine lv_iload hx hb dX6_hasField_38 (lv_at hl 4 rfl) ?_
          obtain ⟨r7, hz7, hm⟩ := mr_bind hm
          refine mr_pV (As := [.int x4]) (rest := []) (sr_okZ adK adV) ⟨hx, hb, hml, hown, hts⟩ (kX6_next l htr dC dI adK adV cI cB cJ cZ cQ obS sq_plain sq_kinds sq_meant sq_firsts sq_nexts sq_names sq_fieldNames sq_amounts sq_fieldDefaults sq_enumDefaults s_letterCount s_slotCount s_nexts x4 r7 hz7) (cwV 1 hts (g6_98 _) rfl rfl rfl (by decide +kernel) ⟨(by show 1 + 1 ≤ 3; omega), (by show 8 + (2 + 11) + (21) ≤ 68; omega)⟩) hS hP hK hz0 [0, 4] rfl (va_recv hK hP (ci := 8) (q0 := 0) rfl rfl) rfl rfl hl.1 (Nat.le_of_ble_eq_true rfl) dX6_hasField_40 ⟨Nat.zero_le _, Nat.zero_le _⟩ ?_
          refine lv_istore (lv' := [(4, .int r7), (0, .ref obS), (1, .int x1), (2, .ref obT), (3, .int x3), (5, .int x5)]) hx hb dX6_hasField_43 hl (by decide) rfl (fun ls hl => ?_)
          refine lv_iinc (v := x5 + 1) (lv' := [(5, .int (x5 + 1)), (4, .int r7), (0, .ref obS), (1, .int x1), (2, .ref obT), (3, .int x3)]) hx hb dX6_hasField_45 hl (k := 5) rfl rfl (by decide) rfl (fun ls hl => ?_)
          refine lv_goto (tgt := 10) hx hb dX6_hasField_48 (by decide) ?_
          exact ih10 x1 x3 r7 (x5 + 1) ls (lv_sub hl [2, 3, 4, 5, 1, 0] rfl) hm
        · have hm := mr_un c6 hm
          refine lv_iconst (v := 1) hx hb dX6_hasField_35 (by decide) ?_
          obtain rfl := Option.some.inj hm
          subst hQ0
          exact W.zret (v := 1) hx hb hr rfl (fun t ht hW => ⟨rfl, ht⟩) (fun q h => by cases h) dX6_hasField_36
  refine lv_istore (lv' := [(5, .int 0), (4, .int r1), (0, .ref obS), (1, .int a0), (2, .ref obT), (3, .int a2)]) hx hb dX6_hasField_8 hl (by decide) rfl (fun ls hl => ?_)
  exact j10 sr_fuel a0 a2 r1 0 ls (lv_sub hl [2, 3, 4, 5, 1, 0] rfl) hm
set_option maxHeartbeats 4000000 in
set_option maxRecDepth 100000 in
theorem kX6_nextSymbol (l : Launch) (htr : l.stackTraces = false) (dC : Nat → ClassId) (dI : Nat → Nat → Nat) (adK adV : Nat → Nat) (cI cB cJ cZ cQ : ClassId) (obS sq_plain sq_kinds sq_meant sq_firsts sq_nexts sq_names sq_fieldNames sq_amounts sq_fieldDefaults sq_enumDefaults : Nat) (s_letterCount : Int32) (s_slotCount : Int32) (s_plain : Nat → Int32) (a0 : Int32) (res : Int32) (hm : m_X6_nextSymbol s_plain s_letterCount a0 = some res) : Met l yX6_nextSymbol wsX6_nextSymbol (rmX6_nextSymbol 0 0) (pcR (sr_Z adK adV) (dC, dI) srCl [(cI, .int), (cB, .byte), (cJ, .long), (cZ, .boolean), (cQ, .object "SchemaReader$Schema")] [.ref obS, .int a0] [(obS, .inr (8, [.ref sq_plain, .ref sq_kinds, .ref sq_meant, .ref sq_firsts, .ref sq_nexts, .ref sq_names, .ref sq_fieldNames, .ref sq_amounts, .ref sq_fieldDefaults, .ref sq_enumDefaults, .int s_letterCount, .int s_slotCount])), (sq_plain, .inl (cB, 4096, .inl s_plain))]) (k2_QcV (.int res)) 0 0 (fun _ => False) := by
  refine Met.ofW (cc := cX6_nextSymbol) (maxL := 3) (ret := (some .int)) (by decide) rfl ?_
  intro p e s m args below meth c s₁ B hml hv
  obtain ⟨rfl, hP, hK, hz0⟩ := hv
  have hx := B.exec
  have hb := B.bytes
  have hr := B.returns
  have hts := atoms_spec (ws := wsX6_nextSymbol) B.pre
  have hown : s.vm.findClass RX6 = some m.cls := findClass_of_methodNamed B.named
  have hlocks := B.notSynchronized
  have hS : va_S (fun _ => False) s.heap s.heap [] := va_S.rf
  generalize hQ0 : MQ below (k2_QcV (.int res)) [.ref obS, .int a0].toArray s 0 0 (fun _ => False) = Q0
  have hl := lv_entry [.ref obS, .int a0] (n := 3) (Nat.le_of_ble_eq_true rfl)
  rw [lg_entry_eq]
  generalize (lg_sl [.ref obS, .int a0] ++ List.replicate (3 - (lg_sl [.ref obS, .int a0]).length) Slot.unset).toArray = ls at hl ⊢
  have hl : lv_has ls 3 [(0, .ref obS), (1, .int a0)] := hl
  unfold m_X6_nextSymbol at hm
  refine lv_iload_n hx hb dX6_nextSymbol_0 rfl (lv_at hl 1 rfl) ?_
  have j2 : ∀ (n2 : Nat) (x2 : Int32) (ls : Array Slot), lv_has ls 3 [(0, .ref obS), (2, .int x2)] → m_X6_nextSymbol_2 s_plain s_letterCount n2 x2 = some res → W p l e (headSpec wsX6_nextSymbol (rmX6_nextSymbol 0 0)).room s m [.ref obS, .int a0].toArray below meth c s.heap [] 0 0 Q0 (F0 m 2 ls []) := by
    intro n2
    induction n2 with
    | zero => intro x2 ls hl hm; exact nomatch (show (none : Option _) = some res from hm)
    | succ n2 ih2 =>
      intro x2 ls hl hm
      rw [m_X6_nextSymbol_2] at hm
      refine lv_iload_n hx hb dX6_nextSymbol_2 rfl (lv_at hl 1 rfl) ?_
      refine lv_aload_n hx hb dX6_nextSymbol_3 rfl (lv_at hl 0 rfl) ?_
      refine va_get (D := (dC, dI)) (ci := 8) (v := .int s_letterCount) (C := RX6) (T := TX6) (N := 12) hx hb hts (inX6 _) hown hK hP 0 rfl rfl 10 (by decide) (hts _ (List.mem_cons_of_mem _ wf6_44)) (fun _ h9 => h9) rfl dX6_nextSymbol_4 ?_
      refine lv_icmp_ge (tgt := 26) hx hb dX6_nextSymbol_7 (by decide) (fun c1 => ?_) (fun c1 => ?_)
      · have hm := mr_if c1 hm
        refine lv_iload_n hx hb dX6_nextSymbol_26 rfl (lv_at hl 1 rfl) ?_
        refine lv_iconst (v := 3) hx hb dX6_nextSymbol_27 (by decide) ?_
        refine lv_iadd hx hb dX6_nextSymbol_28 ?_
        obtain rfl := Option.some.inj hm
        subst hQ0
        exact W.iret (v := (x2 + 3)) hx hb hr (fun t ht hW => ⟨rfl, ht⟩) (fun q h => by cases h) dX6_nextSymbol_29
      · have hm := mr_un c1 hm
        refine lv_aload_n hx hb dX6_nextSymbol_10 rfl (lv_at hl 0 rfl) ?_
        refine lv_iload_n hx hb dX6_nextSymbol_11 rfl (lv_at hl 1 rfl) ?_
        obtain ⟨r2, hz2, hm⟩ := mr_bind hm
        refine mr_pV (As := [.int x2]) (rest := []) (sr_okZ adK adV) ⟨hx, hb, hml, hown, hts⟩ (kX6_letterAt l htr dC dI adK adV cI cB cJ cZ cQ obS sq_plain sq_kinds sq_meant sq_firsts sq_nexts sq_names sq_fieldNames sq_amounts sq_fieldDefaults sq_enumDefaults s_letterCount s_slotCount s_plain x2 r2 hz2) (cwV 1 hts (g6_84 _) rfl rfl rfl (by decide +kernel) ⟨(by show 0 + 1 ≤ 1; omega), (by show 8 + (2 + 11) + (0) ≤ 21; omega)⟩) hS hP hK hz0 [0, 1] rfl (va_recv hK hP (ci := 8) (q0 := 0) rfl rfl) rfl rfl hl.1 (Nat.le_of_ble_eq_true rfl) dX6_nextSymbol_12 ⟨Nat.zero_le _, Nat.zero_le _⟩ ?_
        refine lv_bipush (v := 34) hx hb dX6_nextSymbol_15 (by decide) ?_
        refine lv_icmp_eq (tgt := 26) hx hb dX6_nextSymbol_17 (by decide) (fun c3 => ?_) (fun c3 => ?_)
        · have hm := mr_if c3 hm
          refine lv_iload_n hx hb dX6_nextSymbol_26 rfl (lv_at hl 1 rfl) ?_
          refine lv_iconst (v := 3) hx hb dX6_nextSymbol_27 (by decide) ?_
          refine lv_iadd hx hb dX6_nextSymbol_28 ?_
          obtain rfl := Option.some.inj hm
          subst hQ0
          exact W.iret (v := (x2 + 3)) hx hb hr (fun t ht hW => ⟨rfl, ht⟩) (fun q h => by cases h) dX6_nextSymbol_29
        · have hm := mr_un c3 hm
          refine lv_iinc (v := x2 + 1) (lv' := [(2, .int (x2 + 1)), (0, .ref obS)]) hx hb dX6_nextSymbol_20 hl (k := 1) rfl rfl (by decide) rfl (fun ls hl => ?_)
          refine lv_goto (tgt := 2) hx hb dX6_nextSymbol_23 (by decide) ?_
          exact ih2 (x2 + 1) ls (lv_sub hl [1, 0] rfl) hm
  refine lv_istore_n (lv' := [(2, .int a0), (0, .ref obS), (1, .int a0)]) hx hb dX6_nextSymbol_1 rfl hl (by decide) rfl (fun ls hl => ?_)
  exact j2 sr_fuel a0 ls (lv_sub hl [1, 0] rfl) hm
set_option maxHeartbeats 4000000 in
set_option maxRecDepth 100000 in
theorem kX6_hasSymbol (l : Launch) (htr : l.stackTraces = false) (dC : Nat → ClassId) (dI : Nat → Nat → Nat) (adK adV : Nat → Nat) (cI cB cJ cZ cQ : ClassId) (obS sq_plain sq_kinds sq_meant sq_firsts sq_nexts sq_names sq_fieldNames sq_amounts sq_fieldDefaults sq_enumDefaults obT tq_tape tq_said tq_inner tq_next tq_amount obK : Nat) (s_letterCount : Int32) (s_slotCount : Int32) (t_length : Int32) (t_wrongPlace : Int32) (s_plain : Nat → Int32) (s_meant : Nat → Int32) (s_firsts : Nat → Int32) (s_amounts : Nat → Int32) (t_said : Nat → Int32) (t_amount : Nat → Int32) (a0 : Int32) (a2 : Int32) (res : Int32) (hm : m_X6_hasSymbol s_plain s_meant s_firsts s_amounts s_letterCount t_said t_amount a0 a2 = some res) : Met l yX6_hasSymbol wsX6_hasSymbol (rmX6_hasSymbol 0 0) (pcR (sr_Z adK adV) (dC, dI) srCl [(cI, .int), (cB, .byte), (cJ, .long), (cZ, .boolean), (cQ, .object "SchemaReader$Schema")] [.ref obS, .int a0, .ref obT, .int a2] [(obS, .inr (8, [.ref sq_plain, .ref sq_kinds, .ref sq_meant, .ref sq_firsts, .ref sq_nexts, .ref sq_names, .ref sq_fieldNames, .ref sq_amounts, .ref sq_fieldDefaults, .ref sq_enumDefaults, .int s_letterCount, .int s_slotCount])), (sq_plain, .inl (cB, 4096, .inl s_plain)), (sq_meant, .inl (cI, 128, .inl s_meant)), (sq_firsts, .inl (cI, 128, .inl s_firsts)), (sq_amounts, .inl (cI, 128, .inl s_amounts)), (obT, .inr (9, [.ref tq_tape, .ref tq_said, .ref tq_inner, .ref tq_next, .ref tq_amount, .ref obK, .int t_length, .int t_wrongPlace])), (tq_said, .inl (cB, 4096, .inl t_said)), (tq_amount, .inl (cI, 4096, .inl t_amount))]) (k2_QcV (.int res)) 0 0 (fun _ => False) := by
  refine Met.ofW (cc := cX6_hasSymbol) (maxL := 6) (ret := (some .boolean)) (by decide) rfl ?_
  intro p e s m args below meth c s₁ B hml hv
  obtain ⟨rfl, hP, hK, hz0⟩ := hv
  have hx := B.exec
  have hb := B.bytes
  have hr := B.returns
  have hts := atoms_spec (ws := wsX6_hasSymbol) B.pre
  have hown : s.vm.findClass RX6 = some m.cls := findClass_of_methodNamed B.named
  have hlocks := B.notSynchronized
  have hS : va_S (fun _ => False) s.heap s.heap [] := va_S.rf
  generalize hQ0 : MQ below (k2_QcV (.int res)) [.ref obS, .int a0, .ref obT, .int a2].toArray s 0 0 (fun _ => False) = Q0
  have hl := lv_entry [.ref obS, .int a0, .ref obT, .int a2] (n := 6) (Nat.le_of_ble_eq_true rfl)
  rw [lg_entry_eq]
  generalize (lg_sl [.ref obS, .int a0, .ref obT, .int a2] ++ List.replicate (6 - (lg_sl [.ref obS, .int a0, .ref obT, .int a2]).length) Slot.unset).toArray = ls at hl ⊢
  have hl : lv_has ls 6 [(0, .ref obS), (1, .int a0), (2, .ref obT), (3, .int a2)] := hl
  unfold m_X6_hasSymbol at hm
  refine lv_aload_n hx hb dX6_hasSymbol_0 rfl (lv_at hl 0 rfl) ?_
  refine lv_iload_n hx hb dX6_hasSymbol_1 rfl (lv_at hl 1 rfl) ?_
  obtain ⟨r1, hz1, hm⟩ := mr_bind hm
  refine mr_pV (As := [.int a0]) (rest := []) (sr_okZ adK adV) ⟨hx, hb, hml, hown, hts⟩ (kX6_first l htr dC dI adK adV cI cB cJ cZ cQ obS sq_plain sq_kinds sq_meant sq_firsts sq_nexts sq_names sq_fieldNames sq_amounts sq_fieldDefaults sq_enumDefaults s_letterCount s_slotCount s_meant s_firsts a0 r1 hz1) (cwV 1 hts (g6_91 _) rfl rfl rfl (by decide +kernel) ⟨(by show 1 + 1 ≤ 3; omega), (by show 8 + (2 + 11) + (21) ≤ 68; omega)⟩) hS hP hK hz0 [0, 2, 3] rfl (va_recv hK hP (ci := 8) (q0 := 0) rfl rfl) rfl rfl hl.1 (Nat.le_of_ble_eq_true rfl) dX6_hasSymbol_2 ⟨Nat.zero_le _, Nat.zero_le _⟩ ?_
  refine lv_istore (lv' := [(4, .int r1), (0, .ref obS), (1, .int a0), (2, .ref obT), (3, .int a2)]) hx hb dX6_hasSymbol_5 hl (by decide) rfl (fun ls hl => ?_)
  refine lv_iconst (v := 0) hx hb dX6_hasSymbol_7 (by decide) ?_
  have j10 : ∀ (n10 : Nat) (x1 : Int32) (x3 : Int32) (x4 : Int32) (x5 : Int32) (ls : Array Slot), lv_has ls 6 [(0, .ref obS), (1, .int x1), (2, .ref obT), (3, .int x3), (4, .int x4), (5, .int x5)] → m_X6_hasSymbol_10 s_plain s_meant s_firsts s_amounts s_letterCount t_said t_amount n10 x1 x3 x4 x5 = some res → W p l e (headSpec wsX6_hasSymbol (rmX6_hasSymbol 0 0)).room s m [.ref obS, .int a0, .ref obT, .int a2].toArray below meth c s.heap [] 0 0 Q0 (F0 m 10 ls []) := by
    intro n10
    induction n10 with
    | zero => intro x1 x3 x4 x5 ls hl hm; exact nomatch (show (none : Option _) = some res from hm)
    | succ n10 ih10 =>
      intro x1 x3 x4 x5 ls hl hm
      rw [m_X6_hasSymbol_10] at hm
      refine lv_iload hx hb dX6_hasSymbol_10 (lv_at hl 5 rfl) ?_
      refine lv_aload_n hx hb dX6_hasSymbol_12 rfl (lv_at hl 0 rfl) ?_
      refine lv_iload_n hx hb dX6_hasSymbol_13 rfl (lv_at hl 1 rfl) ?_
      obtain ⟨r2, hz2, hm⟩ := mr_bind hm
      refine mr_pV (As := [.int x1]) (rest := [.int x5]) (sr_okZ adK adV) ⟨hx, hb, hml, hown, hts⟩ (kX6_amount l htr dC dI adK adV cI cB cJ cZ cQ obS sq_plain sq_kinds sq_meant sq_firsts sq_nexts sq_names sq_fieldNames sq_amounts sq_fieldDefaults sq_enumDefaults s_letterCount s_slotCount s_meant s_amounts x1 r2 hz2) (cwV 1 hts (g6_94 _) rfl rfl rfl (by decide +kernel) ⟨(by show 1 + 1 ≤ 3; omega), (by show 8 + (2 + 11) + (21) ≤ 68; omega)⟩) hS hP hK hz0 [0, 2, 4] rfl (va_recv hK hP (ci := 8) (q0 := 0) rfl rfl) rfl rfl hl.1 (Nat.le_of_ble_eq_true rfl) dX6_hasSymbol_14 ⟨Nat.zero_le _, Nat.zero_le _⟩ ?_
      refine lv_icmp_ge (tgt := 47) hx hb dX6_hasSymbol_17 (by decide) (fun c3 => ?_) (fun c3 => ?_)
      · have hm := mr_if c3 hm
        refine lv_iconst (v := 0) hx hb dX6_hasSymbol_47 (by decide) ?_
        obtain rfl := Option.some.inj hm
        subst hQ0
        exact W.zret (v := 0) hx hb hr rfl (fun t ht hW => ⟨rfl, ht⟩) (fun q h => by cases h) dX6_hasSymbol_48
      · have hm := mr_un c3 hm
        refine lv_aload_n hx hb dX6_hasSymbol_20 rfl (lv_at hl 0 rfl) ?_
        refine lv_iload hx hb dX6_hasSymbol_21 (lv_at hl 4 rfl) ?_
        refine lv_aload_n hx hb dX6_hasSymbol_23 rfl (lv_at hl 2 rfl) ?_
        refine lv_iload_n hx hb dX6_hasSymbol_24 rfl (lv_at hl 3 rfl) ?_
        obtain ⟨r4, hz4, hm⟩ := mr_bind hm
        refine mr_pV (As := [.int x4, .ref obT, .int x3]) (rest := []) (sr_okZ adK adV) ⟨hx, hb, hml, hown, hts⟩ (kX6_isSaid l htr dC dI adK adV cI cB cJ cZ cQ obS sq_plain sq_kinds sq_meant sq_firsts sq_nexts sq_names sq_fieldNames sq_amounts sq_fieldDefaults sq_enumDefaults obT tq_tape tq_said tq_inner tq_next tq_amount obK s_letterCount s_slotCount t_length t_wrongPlace s_plain t_said t_amount x4 x3 r4 hz4) (cwV 3 hts (g6_87 _) rfl rfl rfl (by decide +kernel) ⟨(by show 2 + 1 ≤ 3; omega), (by show 8 + (7 + 11) + (42) ≤ 68; omega)⟩) hS hP hK hz0 [0, 1, 5, 6, 7] rfl (va_recv hK hP (ci := 8) (q0 := 0) rfl rfl) rfl rfl hl.1 (Nat.le_of_ble_eq_true rfl) dX6_hasSymbol_25 ⟨Nat.zero_le _, Nat.zero_le _⟩ ?_
        refine lv_if_eq (tgt := 33) hx hb dX6_hasSymbol_28 (by decide) (fun c5 => ?_) (fun c5 => ?_)
        · have hm := mr_if c5 hm
          refine lv_aload_n hx hb dX6_hasSymbol_33 rfl (lv_at hl 0 rfl) ?_
          refine lv_iload hx hb dX6_hasSymbol_34 (lv_at hl 4 rfl) ?_
          obtain ⟨r6, hz6, hm⟩ := mr_bind hm
          refine mr_pV (As := [.int x4]) (rest := []) (sr_okZ adK adV) ⟨hx, hb, hml, hown, hts⟩ (kX6_nextSymbol l htr dC dI adK adV cI cB cJ cZ cQ obS sq_plain sq_kinds sq_meant sq_firsts sq_nexts sq_names sq_fieldNames sq_amounts sq_fieldDefaults sq_enumDefaults s_letterCount s_slotCount s_plain x4 r6 hz6) (cwV 1 hts (g6_101 _) rfl rfl rfl (by decide +kernel) ⟨(by show 1 + 1 ≤ 3; omega), (by show 8 + (3 + 11) + (21) ≤ 68; omega)⟩) hS hP hK hz0 [0, 1] rfl (va_recv hK hP (ci := 8) (q0 := 0) rfl rfl) rfl rfl hl.1 (Nat.le_of_ble_eq_true rfl) dX6_hasSymbol_36 ⟨Nat.zero_le _, Nat.zero_le _⟩ ?_
          refine lv_istore (lv' := [(4, .int r6), (0, .ref obS), (1, .int x1), (2, .ref obT), (3, .int x3), (5, .int x5)]) hx hb dX6_hasSymbol_39 hl (by decide) rfl (fun ls hl => ?_)
          refine lv_iinc (v := x5 + 1) (lv' := [(5, .int (x5 + 1)), (4, .int r6), (0, .ref obS), (1, .int x1), (2, .ref obT), (3, .int x3)]) hx hb dX6_hasSymbol_41 hl (k := 5) rfl rfl (by decide) rfl (fun ls hl => ?_)
          refine lv_goto (tgt := 10) hx hb dX6_hasSymbol_44 (by decide) ?_
          exact ih10 x1 x3 r6 (x5 + 1) ls (lv_sub hl [2, 3, 4, 5, 1, 0] rfl) hm
        · have hm := mr_un c5 hm
          refine lv_iconst (v := 1) hx hb dX6_hasSymbol_31 (by decide) ?_
          obtain rfl := Option.some.inj hm
          subst hQ0
          exact W.zret (v := 1) hx hb hr rfl (fun t ht hW => ⟨rfl, ht⟩) (fun q h => by cases h) dX6_hasSymbol_32
  refine lv_istore (lv' := [(5, .int 0), (4, .int r1), (0, .ref obS), (1, .int a0), (2, .ref obT), (3, .int a2)]) hx hb dX6_hasSymbol_8 hl (by decide) rfl (fun ls hl => ?_)
  exact j10 sr_fuel a0 a2 r1 0 ls (lv_sub hl [2, 3, 4, 5, 1, 0] rfl) hm
set_option maxHeartbeats 4000000 in
set_option maxRecDepth 100000 in
theorem kX6_addSymbol (l : Launch) (htr : l.stackTraces = false) (dC : Nat → ClassId) (dI : Nat → Nat → Nat) (adK adV : Nat → Nat) (cI cB cJ cZ cQ : ClassId) (obS sq_plain sq_kinds sq_meant sq_firsts sq_nexts sq_names sq_fieldNames sq_amounts sq_fieldDefaults sq_enumDefaults obT tq_tape tq_said tq_inner tq_next tq_amount obK : Nat) (s_letterCount : Int32) (s_slotCount : Int32) (t_length : Int32) (t_wrongPlace : Int32) (s_plain : Nat → Int32) (s_firsts : Nat → Int32) (s_amounts : Nat → Int32) (t_said : Nat → Int32) (t_amount : Nat → Int32) (sz : Nat) (a0 : Int32) (a2 : Int32) (res : (Nat → Int32) × (Nat → Int32) × (Nat → Int32) × Int32) (hm : m_X6_addSymbol s_plain s_firsts s_amounts s_letterCount t_said t_amount a0 a2 = some res) : Met l yX6_addSymbol wsX6_addSymbol (rmX6_addSymbol 0 0) (pcW (sr_Z adK adV) (dC, dI) srCl [(cI, .int), (cB, .byte), (cJ, .long), (cZ, .boolean), (cQ, .object "SchemaReader$Schema")] [.ref obS, .int a0, .ref obT, .int a2] [(obS, .inr (8, [.ref sq_plain, .ref sq_kinds, .ref sq_meant, .ref sq_firsts, .ref sq_nexts, .ref sq_names, .ref sq_fieldNames, .ref sq_amounts, .ref sq_fieldDefaults, .ref sq_enumDefaults, .int s_letterCount, .int s_slotCount])), (sq_plain, .inl (cB, 4096, .inl s_plain)), (sq_firsts, .inl (cI, 128, .inl s_firsts)), (sq_amounts, .inl (cI, 128, .inl s_amounts)), (obT, .inr (9, [.ref tq_tape, .ref tq_said, .ref tq_inner, .ref tq_next, .ref tq_amount, .ref obK, .int t_length, .int t_wrongPlace])), (tq_said, .inl (cB, 4096, .inl t_said)), (tq_amount, .inl (cI, 4096, .inl t_amount))] sz) (va_Qv (fun u' => u' = res) (pcB (dC, dI) srCl [(cI, .int), (cB, .byte), (cJ, .long), (cZ, .boolean), (cQ, .object "SchemaReader$Schema")] (fun u : (Nat → Int32) × (Nat → Int32) × (Nat → Int32) × Int32 => [(obS, .inr (8, [.ref sq_plain, .ref sq_kinds, .ref sq_meant, .ref sq_firsts, .ref sq_nexts, .ref sq_names, .ref sq_fieldNames, .ref sq_amounts, .ref sq_fieldDefaults, .ref sq_enumDefaults, .int u.2.2.2, .int s_slotCount])), (sq_plain, .inl (cB, 4096, .inl u.1)), (sq_firsts, .inl (cI, 128, .inl u.2.1)), (sq_amounts, .inl (cI, 128, .inl u.2.2.1)), (obT, .inr (9, [.ref tq_tape, .ref tq_said, .ref tq_inner, .ref tq_next, .ref tq_amount, .ref obK, .int t_length, .int t_wrongPlace])), (tq_said, .inl (cB, 4096, .inl t_said)), (tq_amount, .inl (cI, 4096, .inl t_amount))]) (va_A [(obS, .inr (8, [.ref sq_plain, .ref sq_kinds, .ref sq_meant, .ref sq_firsts, .ref sq_nexts, .ref sq_names, .ref sq_fieldNames, .ref sq_amounts, .ref sq_fieldDefaults, .ref sq_enumDefaults, .int s_letterCount, .int s_slotCount])), (sq_plain, .inl (cB, 4096, .inl s_plain)), (sq_firsts, .inl (cI, 128, .inl s_firsts)), (sq_amounts, .inl (cI, 128, .inl s_amounts)), (obT, .inr (9, [.ref tq_tape, .ref tq_said, .ref tq_inner, .ref tq_next, .ref tq_amount, .ref obK, .int t_length, .int t_wrongPlace])), (tq_said, .inl (cB, 4096, .inl t_said)), (tq_amount, .inl (cI, 4096, .inl t_amount))] sz)) (va_A [(obS, .inr (8, [.ref sq_plain, .ref sq_kinds, .ref sq_meant, .ref sq_firsts, .ref sq_nexts, .ref sq_names, .ref sq_fieldNames, .ref sq_amounts, .ref sq_fieldDefaults, .ref sq_enumDefaults, .int s_letterCount, .int s_slotCount])), (sq_plain, .inl (cB, 4096, .inl s_plain)), (sq_firsts, .inl (cI, 128, .inl s_firsts)), (sq_amounts, .inl (cI, 128, .inl s_amounts)), (obT, .inr (9, [.ref tq_tape, .ref tq_said, .ref tq_inner, .ref tq_next, .ref tq_amount, .ref obK, .int t_length, .int t_wrongPlace])), (tq_said, .inl (cB, 4096, .inl t_said)), (tq_amount, .inl (cI, 4096, .inl t_amount))] sz)) 0 0 (va_A [(obS, .inr (8, [.ref sq_plain, .ref sq_kinds, .ref sq_meant, .ref sq_firsts, .ref sq_nexts, .ref sq_names, .ref sq_fieldNames, .ref sq_amounts, .ref sq_fieldDefaults, .ref sq_enumDefaults, .int s_letterCount, .int s_slotCount])), (sq_plain, .inl (cB, 4096, .inl s_plain)), (sq_firsts, .inl (cI, 128, .inl s_firsts)), (sq_amounts, .inl (cI, 128, .inl s_amounts)), (obT, .inr (9, [.ref tq_tape, .ref tq_said, .ref tq_inner, .ref tq_next, .ref tq_amount, .ref obK, .int t_length, .int t_wrongPlace])), (tq_said, .inl (cB, 4096, .inl t_said)), (tq_amount, .inl (cI, 4096, .inl t_amount))] sz) := by
  refine Met.ofW (cc := cX6_addSymbol) (maxL := 5) (ret := none) (by decide) rfl ?_
  intro p e s m args below meth c s₁ B hml hv
  obtain ⟨rfl, hsz, hP, hK, hD0, hz0⟩ := hv
  have hx := B.exec
  have hb := B.bytes
  have hr := B.returns
  have hts := atoms_spec (ws := wsX6_addSymbol) B.pre
  have hown : s.vm.findClass RX6 = some m.cls := findClass_of_methodNamed B.named
  have hlocks := B.notSynchronized
  subst hsz
  have hD := hD0.self (sz := s.heap.size)
  generalize hAe : va_A [(obS, .inr (8, [.ref sq_plain, .ref sq_kinds, .ref sq_meant, .ref sq_firsts, .ref sq_nexts, .ref sq_names, .ref sq_fieldNames, .ref sq_amounts, .ref sq_fieldDefaults, .ref sq_enumDefaults, .int s_letterCount, .int s_slotCount])), (sq_plain, .inl (cB, 4096, .inl s_plain)), (sq_firsts, .inl (cI, 128, .inl s_firsts)), (sq_amounts, .inl (cI, 128, .inl s_amounts)), (obT, .inr (9, [.ref tq_tape, .ref tq_said, .ref tq_inner, .ref tq_next, .ref tq_amount, .ref obK, .int t_length, .int t_wrongPlace])), (tq_said, .inl (cB, 4096, .inl t_said)), (tq_amount, .inl (cI, 4096, .inl t_amount))] s.heap.size = A at hD hz0 ⊢
  have hA : ∀ q : Nat, s.heap.size ≤ q → A q := fun q h => by rw [← hAe]; exact Or.inr h
  have hS : va_S A s.heap s.heap [] := va_S.rf
  generalize hQ0 : MQ below (va_Qv (fun u' => u' = res) (pcB (dC, dI) srCl [(cI, .int), (cB, .byte), (cJ, .long), (cZ, .boolean), (cQ, .object "SchemaReader$Schema")] (fun u : (Nat → Int32) × (Nat → Int32) × (Nat → Int32) × Int32 => [(obS, .inr (8, [.ref sq_plain, .ref sq_kinds, .ref sq_meant, .ref sq_firsts, .ref sq_nexts, .ref sq_names, .ref sq_fieldNames, .ref sq_amounts, .ref sq_fieldDefaults, .ref sq_enumDefaults, .int u.2.2.2, .int s_slotCount])), (sq_plain, .inl (cB, 4096, .inl u.1)), (sq_firsts, .inl (cI, 128, .inl u.2.1)), (sq_amounts, .inl (cI, 128, .inl u.2.2.1)), (obT, .inr (9, [.ref tq_tape, .ref tq_said, .ref tq_inner, .ref tq_next, .ref tq_amount, .ref obK, .int t_length, .int t_wrongPlace])), (tq_said, .inl (cB, 4096, .inl t_said)), (tq_amount, .inl (cI, 4096, .inl t_amount))]) A) A) [.ref obS, .int a0, .ref obT, .int a2].toArray s 0 0 A = Q0
  have hl := lv_entry [.ref obS, .int a0, .ref obT, .int a2] (n := 5) (Nat.le_of_ble_eq_true rfl)
  rw [lg_entry_eq]
  generalize (lg_sl [.ref obS, .int a0, .ref obT, .int a2] ++ List.replicate (5 - (lg_sl [.ref obS, .int a0, .ref obT, .int a2]).length) Slot.unset).toArray = ls at hl ⊢
  have hl : lv_has ls 5 [(0, .ref obS), (1, .int a0), (2, .ref obT), (3, .int a2)] := hl
  unfold m_X6_addSymbol at hm
  refine lv_iload_n hx hb dX6_addSymbol_0 rfl (lv_at hl 1 rfl) ?_
  obtain ⟨r1, hz1, hm⟩ := mr_bind hm
  refine mr_pS (As := [.int a0]) (rest := []) (sr_okZ adK adV) ⟨hx, hb, hml, hown, hts⟩ (kX6_isSlot l htr dC dI adK adV cI cB cJ cZ cQ  a0 r1 hz1) (va_cwS 1 hts (g6_55 _) rfl rfl rfl (by decide +kernel) ⟨(by show 0 + 1 ≤ 3; omega), (by show 8 + (1 + 11) + (0) ≤ 66; omega)⟩) hS hP hK hz0 [] rfl rfl rfl hl.1 (Nat.le_of_ble_eq_true rfl) dX6_addSymbol_1 ⟨Nat.zero_le _, Nat.zero_le _⟩ ?_
  refine lv_if_ne (tgt := 8) hx hb dX6_addSymbol_4 (by decide) (fun c2 => ?_) (fun c2 => ?_)
  · have hm := mr_un c2 hm
    refine lv_aload_n hx hb dX6_addSymbol_8 rfl (lv_at hl 0 rfl) ?_
    refine va_get (D := (dC, dI)) (ci := 8) (v := .ref sq_amounts) (C := RX6) (T := TX6) (N := 12) hx hb hts (inX6 _) hown hK hP 0 rfl rfl 7 (by decide) (hts _ (List.mem_cons_of_mem _ wf6_34)) (fun _ h9 => h9) rfl dX6_addSymbol_9 ?_
    refine lv_iload_n hx hb dX6_addSymbol_12 rfl (lv_at hl 1 rfl) ?_
    obtain ⟨h3, hm⟩ := mr_bd hm
    refine va_iald hx hb hK hP 3 0 rfl rfl h3 dX6_addSymbol_13 ?_
    have j23 : ∀ (s_plain : Nat → Int32) (s_firsts : Nat → Int32) (s_amounts : Nat → Int32) (s_letterCount : Int32) (x1 : Int32) (x3 : Int32) (H : Heap) (locs : List Loc) (ls : Array Slot), va_P (dC, dI) srCl [(obS, .inr (8, [.ref sq_plain, .ref sq_kinds, .ref sq_meant, .ref sq_firsts, .ref sq_nexts, .ref sq_names, .ref sq_fieldNames, .ref sq_amounts, .ref sq_fieldDefaults, .ref sq_enumDefaults, .int s_letterCount, .int s_slotCount])), (sq_plain, .inl (cB, 4096, .inl s_plain)), (sq_firsts, .inl (cI, 128, .inl s_firsts)), (sq_amounts, .inl (cI, 128, .inl s_amounts)), (obT, .inr (9, [.ref tq_tape, .ref tq_said, .ref tq_inner, .ref tq_next, .ref tq_amount, .ref obK, .int t_length, .int t_wrongPlace])), (tq_said, .inl (cB, 4096, .inl t_said)), (tq_amount, .inl (cI, 4096, .inl t_amount))] H → va_D A [(obS, .inr (8, [.ref sq_plain, .ref sq_kinds, .ref sq_meant, .ref sq_firsts, .ref sq_nexts, .ref sq_names, .ref sq_fieldNames, .ref sq_amounts, .ref sq_fieldDefaults, .ref sq_enumDefaults, .int s_letterCount, .int s_slotCount])), (sq_plain, .inl (cB, 4096, .inl s_plain)), (sq_firsts, .inl (cI, 128, .inl s_firsts)), (sq_amounts, .inl (cI, 128, .inl s_amounts)), (obT, .inr (9, [.ref tq_tape, .ref tq_said, .ref tq_inner, .ref tq_next, .ref tq_amount, .ref obK, .int t_length, .int t_wrongPlace])), (tq_said, .inl (cB, 4096, .inl t_said)), (tq_amount, .inl (cI, 4096, .inl t_amount))] → va_S A s.heap H locs → lv_has ls 5 [(0, .ref obS), (1, .int x1), (2, .ref obT), (3, .int x3)] → m_X6_addSymbol_23 t_said t_amount s_plain s_firsts s_amounts s_letterCount x1 x3 = some res → W p l e (headSpec wsX6_addSymbol (rmX6_addSymbol 0 0)).room s m [.ref obS, .int a0, .ref obT, .int a2].toArray below meth c H locs 0 0 Q0 (F0 m 23 ls []) := by
      intro s_plain s_firsts s_amounts s_letterCount x1 x3 H locs ls hP hD hS hl hm
      unfold m_X6_addSymbol_23 at hm
      refine lv_aload_n hx hb dX6_addSymbol_23 rfl (lv_at hl 0 rfl) ?_
      refine lv_aload_n hx hb dX6_addSymbol_24 rfl (lv_at hl 2 rfl) ?_
      refine lv_iload_n hx hb dX6_addSymbol_25 rfl (lv_at hl 3 rfl) ?_
      obtain ⟨⟨r4, s_plain_4, s_letterCount_4⟩, hz4, hm⟩ := mr_bind hm
      try dsimp only at hm
      refine mr_wVi (As := [.ref obT, .int x3]) (rest := []) (sr_okZ adK adV) ⟨hx, hb, hml, hown, hts⟩ (kX6_writeSaid l htr dC dI adK adV cI cB cJ cZ cQ obS sq_plain sq_kinds sq_meant sq_firsts sq_nexts sq_names sq_fieldNames sq_amounts sq_fieldDefaults sq_enumDefaults obT tq_tape tq_said tq_inner tq_next tq_amount obK s_letterCount s_slotCount t_length t_wrongPlace s_plain t_said t_amount _ x3 _ hz4) (cwV 2 hts (g6_104 _) rfl rfl rfl (by decide +kernel) ⟨(by show 2 + 1 ≤ 3; omega), (by show 8 + (5 + 11) + (42) ≤ 66; omega)⟩) hS hA hP hD hK hz0 (wr := [(sq_firsts, .inl (cI, 128, .inl s_firsts)), (sq_amounts, .inl (cI, 128, .inl s_amounts))]) (w1 := [(obS, .inr (8, [.ref sq_plain, .ref sq_kinds, .ref sq_meant, .ref sq_firsts, .ref sq_nexts, .ref sq_names, .ref sq_fieldNames, .ref sq_amounts, .ref sq_fieldDefaults, .ref sq_enumDefaults, .int s_letterCount_4, .int s_slotCount])), (sq_plain, .inl (cB, 4096, .inl s_plain_4)), (sq_firsts, .inl (cI, 128, .inl s_firsts)), (sq_amounts, .inl (cI, 128, .inl s_amounts)), (obT, .inr (9, [.ref tq_tape, .ref tq_said, .ref tq_inner, .ref tq_next, .ref tq_amount, .ref obK, .int t_length, .int t_wrongPlace])), (tq_said, .inl (cB, 4096, .inl t_said)), (tq_amount, .inl (cI, 4096, .inl t_amount))]) [0, 1, 4, 5, 6] [2, 3] [2, 3, 0, 1, 4, 5, 6] rfl rfl rfl rfl rfl (by decide) rfl rfl rfl (va_recv hK hP (ci := 8) (q0 := 0) rfl rfl) rfl rfl hl.1 (Nat.le_of_ble_eq_true rfl) dX6_addSymbol_26 ⟨Nat.zero_le _, Nat.zero_le _⟩ (fun H locs hP hD hS => ?_)
      refine lv_istore (lv' := [(4, .int r4), (0, .ref obS), (1, .int x1), (2, .ref obT), (3, .int x3)]) hx hb dX6_addSymbol_29 hl (by decide) rfl (fun ls hl => ?_)
      refine lv_aload_n hx hb dX6_addSymbol_31 rfl (lv_at hl 1 rfl) ?_
      refine va_get (D := (dC, dI)) (ci := 8) (v := .ref sq_amounts) (C := RX6) (T := TX6) (N := 12) hx hb hts (inX6 _) hown hK hP 0 rfl rfl 7 (by decide) (hts _ (List.mem_cons_of_mem _ wf6_34)) (fun _ h9 => h9) rfl dX6_addSymbol_32 ?_
      refine lv_iload_n hx hb dX6_addSymbol_35 rfl (lv_at hl 2 rfl) ?_
      obtain ⟨h5, hm⟩ := mr_bd hm
      refine va_iald hx hb hK hP 3 0 rfl rfl h5 dX6_addSymbol_36 ?_
      refine lv_if_ne (tgt := 48) hx hb dX6_addSymbol_37 (by decide) (fun c6 => ?_) (fun c6 => ?_)
      · have hm := mr_un c6 hm
        refine lv_aload_n hx hb dX6_addSymbol_48 rfl (lv_at hl 1 rfl) ?_
        refine va_get (D := (dC, dI)) (ci := 8) (v := .ref sq_amounts) (C := RX6) (T := TX6) (N := 12) hx hb hts (inX6 _) hown hK hP 0 rfl rfl 7 (by decide) (hts _ (List.mem_cons_of_mem _ wf6_34)) (fun _ h9 => h9) rfl dX6_addSymbol_49 ?_
        refine lv_iload_n hx hb dX6_addSymbol_52 rfl (lv_at hl 2 rfl) ?_
        refine lv_dup2_11 hx hb dX6_addSymbol_53 rfl rfl ?_
        obtain ⟨h7, hm⟩ := mr_bd hm
        refine va_iald hx hb hK hP 3 0 rfl rfl h7 dX6_addSymbol_54 ?_
        refine lv_iconst (v := 1) hx hb dX6_addSymbol_55 (by decide) ?_
        refine lv_iadd hx hb dX6_addSymbol_56 ?_
        obtain ⟨h8, hm⟩ := mr_bd hm
        refine va_iast hx hb hK hP hD hS 3 0 rfl rfl h8 dX6_addSymbol_57 (fun H locs hP hD hS => ?_)
        have hP : va_P (dC, dI) srCl [(obS, .inr (8, [.ref sq_plain, .ref sq_kinds, .ref sq_meant, .ref sq_firsts, .ref sq_nexts, .ref sq_names, .ref sq_fieldNames, .ref sq_amounts, .ref sq_fieldDefaults, .ref sq_enumDefaults, .int s_letterCount_4, .int s_slotCount])), (sq_plain, .inl (cB, 4096, .inl s_plain_4)), (sq_firsts, .inl (cI, 128, .inl s_firsts)), (sq_amounts, .inl (cI, 128, .inl (upd s_amounts (x1 : Int32).toNatClampNeg ((s_amounts (x1 : Int32).toNatClampNeg) + 1)))), (obT, .inr (9, [.ref tq_tape, .ref tq_said, .ref tq_inner, .ref tq_next, .ref tq_amount, .ref obK, .int t_length, .int t_wrongPlace])), (tq_said, .inl (cB, 4096, .inl t_said)), (tq_amount, .inl (cI, 4096, .inl t_amount))] H := hP
        have hD : va_D A [(obS, .inr (8, [.ref sq_plain, .ref sq_kinds, .ref sq_meant, .ref sq_firsts, .ref sq_nexts, .ref sq_names, .ref sq_fieldNames, .ref sq_amounts, .ref sq_fieldDefaults, .ref sq_enumDefaults, .int s_letterCount_4, .int s_slotCount])), (sq_plain, .inl (cB, 4096, .inl s_plain_4)), (sq_firsts, .inl (cI, 128, .inl s_firsts)), (sq_amounts, .inl (cI, 128, .inl (upd s_amounts (x1 : Int32).toNatClampNeg ((s_amounts (x1 : Int32).toNatClampNeg) + 1)))), (obT, .inr (9, [.ref tq_tape, .ref tq_said, .ref tq_inner, .ref tq_next, .ref tq_amount, .ref obK, .int t_length, .int t_wrongPlace])), (tq_said, .inl (cB, 4096, .inl t_said)), (tq_amount, .inl (cI, 4096, .inl t_amount))] := hD
        obtain rfl := Option.some.inj hm
        subst hQ0
        exact W.vret hx hb hr (fun t ht hW => ⟨⟨(s_plain_4, s_firsts, (upd s_amounts (x1 : Int32).toNatClampNeg ((s_amounts (x1 : Int32).toNatClampNeg) + 1)), s_letterCount_4), rfl, rfl, by rw [ht]; exact hP, va_K.moved hW.alike hK, hD⟩, hS.F ht⟩) hS.2.2 dX6_addSymbol_58
      · have hm := mr_if c6 hm
        refine lv_aload_n hx hb dX6_addSymbol_40 rfl (lv_at hl 1 rfl) ?_
        refine va_get (D := (dC, dI)) (ci := 8) (v := .ref sq_firsts) (C := RX6) (T := TX6) (N := 12) hx hb hts (inX6 _) hown hK hP 0 rfl rfl 3 (by decide) (hts _ (List.mem_cons_of_mem _ wf6_22)) (fun _ h9 => h9) rfl dX6_addSymbol_41 ?_
        refine lv_iload_n hx hb dX6_addSymbol_44 rfl (lv_at hl 2 rfl) ?_
        refine lv_iload hx hb dX6_addSymbol_45 (lv_at hl 0 rfl) ?_
        obtain ⟨h9, hm⟩ := mr_bd hm
        refine va_iast hx hb hK hP hD hS 2 0 rfl rfl h9 dX6_addSymbol_47 (fun H locs hP hD hS => ?_)
        have hP : va_P (dC, dI) srCl [(obS, .inr (8, [.ref sq_plain, .ref sq_kinds, .ref sq_meant, .ref sq_firsts, .ref sq_nexts, .ref sq_names, .ref sq_fieldNames, .ref sq_amounts, .ref sq_fieldDefaults, .ref sq_enumDefaults, .int s_letterCount_4, .int s_slotCount])), (sq_plain, .inl (cB, 4096, .inl s_plain_4)), (sq_firsts, .inl (cI, 128, .inl (upd s_firsts (x1 : Int32).toNatClampNeg r4))), (sq_amounts, .inl (cI, 128, .inl s_amounts)), (obT, .inr (9, [.ref tq_tape, .ref tq_said, .ref tq_inner, .ref tq_next, .ref tq_amount, .ref obK, .int t_length, .int t_wrongPlace])), (tq_said, .inl (cB, 4096, .inl t_said)), (tq_amount, .inl (cI, 4096, .inl t_amount))] H := hP
        have hD : va_D A [(obS, .inr (8, [.ref sq_plain, .ref sq_kinds, .ref sq_meant, .ref sq_firsts, .ref sq_nexts, .ref sq_names, .ref sq_fieldNames, .ref sq_amounts, .ref sq_fieldDefaults, .ref sq_enumDefaults, .int s_letterCount_4, .int s_slotCount])), (sq_plain, .inl (cB, 4096, .inl s_plain_4)), (sq_firsts, .inl (cI, 128, .inl (upd s_firsts (x1 : Int32).toNatClampNeg r4))), (sq_amounts, .inl (cI, 128, .inl s_amounts)), (obT, .inr (9, [.ref tq_tape, .ref tq_said, .ref tq_inner, .ref tq_next, .ref tq_amount, .ref obK, .int t_length, .int t_wrongPlace])), (tq_said, .inl (cB, 4096, .inl t_said)), (tq_amount, .inl (cI, 4096, .inl t_amount))] := hD
        refine lv_aload_n hx hb dX6_addSymbol_48 rfl (lv_at hl 1 rfl) ?_
        refine va_get (D := (dC, dI)) (ci := 8) (v := .ref sq_amounts) (C := RX6) (T := TX6) (N := 12) hx hb hts (inX6 _) hown hK hP 0 rfl rfl 7 (by decide) (hts _ (List.mem_cons_of_mem _ wf6_34)) (fun _ h9 => h9) rfl dX6_addSymbol_49 ?_
        refine lv_iload_n hx hb dX6_addSymbol_52 rfl (lv_at hl 2 rfl) ?_
        refine lv_dup2_11 hx hb dX6_addSymbol_53 rfl rfl ?_
        obtain ⟨h10, hm⟩ := mr_bd hm
        refine va_iald hx hb hK hP 3 0 rfl rfl h10 dX6_addSymbol_54 ?_
        refine lv_iconst (v := 1) hx hb dX6_addSymbol_55 (by decide) ?_
        refine lv_iadd hx hb dX6_addSymbol_56 ?_
        obtain ⟨h11, hm⟩ := mr_bd hm
        refine va_iast hx hb hK hP hD hS 3 0 rfl rfl h11 dX6_addSymbol_57 (fun H locs hP hD hS => ?_)
        have hP : va_P (dC, dI) srCl [(obS, .inr (8, [.ref sq_plain, .ref sq_kinds, .ref sq_meant, .ref sq_firsts, .ref sq_nexts, .ref sq_names, .ref sq_fieldNames, .ref sq_amounts, .ref sq_fieldDefaults, .ref sq_enumDefaults, .int s_letterCount_4, .int s_slotCount])), (sq_plain, .inl (cB, 4096, .inl s_plain_4)), (sq_firsts, .inl (cI, 128, .inl (upd s_firsts (x1 : Int32).toNatClampNeg r4))), (sq_amounts, .inl (cI, 128, .inl (upd s_amounts (x1 : Int32).toNatClampNeg ((s_amounts (x1 : Int32).toNatClampNeg) + 1)))), (obT, .inr (9, [.ref tq_tape, .ref tq_said, .ref tq_inner, .ref tq_next, .ref tq_amount, .ref obK, .int t_length, .int t_wrongPlace])), (tq_said, .inl (cB, 4096, .inl t_said)), (tq_amount, .inl (cI, 4096, .inl t_amount))] H := hP
        have hD : va_D A [(obS, .inr (8, [.ref sq_plain, .ref sq_kinds, .ref sq_meant, .ref sq_firsts, .ref sq_nexts, .ref sq_names, .ref sq_fieldNames, .ref sq_amounts, .ref sq_fieldDefaults, .ref sq_enumDefaults, .int s_letterCount_4, .int s_slotCount])), (sq_plain, .inl (cB, 4096, .inl s_plain_4)), (sq_firsts, .inl (cI, 128, .inl (upd s_firsts (x1 : Int32).toNatClampNeg r4))), (sq_amounts, .inl (cI, 128, .inl (upd s_amounts (x1 : Int32).toNatClampNeg ((s_amounts (x1 : Int32).toNatClampNeg) + 1)))), (obT, .inr (9, [.ref tq_tape, .ref tq_said, .ref tq_inner, .ref tq_next, .ref tq_amount, .ref obK, .int t_length, .int t_wrongPlace])), (tq_said, .inl (cB, 4096, .inl t_said)), (tq_amount, .inl (cI, 4096, .inl t_amount))] := hD
        obtain rfl := Option.some.inj hm
        subst hQ0
        exact W.vret hx hb hr (fun t ht hW => ⟨⟨(s_plain_4, (upd s_firsts (x1 : Int32).toNatClampNeg r4), (upd s_amounts (x1 : Int32).toNatClampNeg ((s_amounts (x1 : Int32).toNatClampNeg) + 1)), s_letterCount_4), rfl, rfl, by rw [ht]; exact hP, va_K.moved hW.alike hK, hD⟩, hS.F ht⟩) hS.2.2 dX6_addSymbol_58
    refine lv_if_le (tgt := 23) hx hb dX6_addSymbol_14 (by decide) (fun c12 => ?_) (fun c12 => ?_)
    · have hm := mr_if c12 hm
      exact j23 s_plain s_firsts s_amounts s_letterCount a0 a2 _ _ ls hP hD hS (lv_sub hl [0, 1, 2, 3] rfl) hm
    · have hm := mr_un c12 hm
      refine lv_aload_n hx hb dX6_addSymbol_17 rfl (lv_at hl 0 rfl) ?_
      refine lv_bipush (v := 44) hx hb dX6_addSymbol_18 (by decide) ?_
      obtain ⟨⟨s_plain_13, s_letterCount_13⟩, hz13, hm⟩ := mr_bind hm
      try dsimp only at hm
      refine mr_wVv (As := [.int 44]) (rest := []) (sr_okZ adK adV) ⟨hx, hb, hml, hown, hts⟩ (kX6_writeByte l htr dC dI adK adV cI cB cJ cZ cQ obS sq_plain sq_kinds sq_meant sq_firsts sq_nexts sq_names sq_fieldNames sq_amounts sq_fieldDefaults sq_enumDefaults s_letterCount s_slotCount s_plain _ 44 _ hz13) (cwV 1 hts (g6_72 _) rfl rfl rfl (by decide +kernel) ⟨(by show 0 + 1 ≤ 3; omega), (by show 8 + (2 + 11) + (0) ≤ 66; omega)⟩) hS hA hP hD hK hz0 (wr := [(sq_firsts, .inl (cI, 128, .inl s_firsts)), (sq_amounts, .inl (cI, 128, .inl s_amounts)), (obT, .inr (9, [.ref tq_tape, .ref tq_said, .ref tq_inner, .ref tq_next, .ref tq_amount, .ref obK, .int t_length, .int t_wrongPlace])), (tq_said, .inl (cB, 4096, .inl t_said)), (tq_amount, .inl (cI, 4096, .inl t_amount))]) (w1 := [(obS, .inr (8, [.ref sq_plain, .ref sq_kinds, .ref sq_meant, .ref sq_firsts, .ref sq_nexts, .ref sq_names, .ref sq_fieldNames, .ref sq_amounts, .ref sq_fieldDefaults, .ref sq_enumDefaults, .int s_letterCount_13, .int s_slotCount])), (sq_plain, .inl (cB, 4096, .inl s_plain_13)), (sq_firsts, .inl (cI, 128, .inl s_firsts)), (sq_amounts, .inl (cI, 128, .inl s_amounts)), (obT, .inr (9, [.ref tq_tape, .ref tq_said, .ref tq_inner, .ref tq_next, .ref tq_amount, .ref obK, .int t_length, .int t_wrongPlace])), (tq_said, .inl (cB, 4096, .inl t_said)), (tq_amount, .inl (cI, 4096, .inl t_amount))]) [0, 1] [2, 3, 4, 5, 6] [5, 6, 0, 1, 2, 3, 4] rfl rfl rfl rfl rfl (by decide) rfl rfl rfl (va_recv hK hP (ci := 8) (q0 := 0) rfl rfl) rfl rfl hl.1 (Nat.le_of_ble_eq_true rfl) dX6_addSymbol_20 ⟨Nat.zero_le _, Nat.zero_le _⟩ (fun H locs hP hD hS => ?_)
      exact j23 s_plain_13 s_firsts s_amounts s_letterCount_13 a0 a2 _ _ ls hP hD hS (lv_sub hl [0, 1, 2, 3] rfl) hm
  · have hm := mr_if c2 hm
    obtain rfl := Option.some.inj hm
    subst hQ0
    exact W.vret hx hb hr (fun t ht hW => ⟨⟨(s_plain, s_firsts, s_amounts, s_letterCount), rfl, rfl, by rw [ht]; exact hP, va_K.moved hW.alike hK, hD⟩, hS.F ht⟩) hS.2.2 dX6_addSymbol_7
set_option maxHeartbeats 4000000 in
set_option maxRecDepth 100000 in
theorem kX6_isAlike (l : Launch) (htr : l.stackTraces = false) (dC : Nat → ClassId) (dI : Nat → Nat → Nat) (adK adV : Nat → Nat) (cI cB cJ cZ cQ : ClassId) (obS sq_plain sq_kinds sq_meant sq_firsts sq_nexts sq_names sq_fieldNames sq_amounts sq_fieldDefaults sq_enumDefaults : Nat) (s_letterCount : Int32) (s_slotCount : Int32) (s_kinds : Nat → Int32) (s_meant : Nat → Int32) (a0 : Int32) (a1 : Int32) (res : Int32) (hm : m_X6_isAlike s_kinds s_meant a0 a1 = some res) : Met l yX6_isAlike wsX6_isAlike (rmX6_isAlike 0 0) (pcR (sr_Z adK adV) (dC, dI) srCl [(cI, .int), (cB, .byte), (cJ, .long), (cZ, .boolean), (cQ, .object "SchemaReader$Schema")] [.ref obS, .int a0, .int a1] [(obS, .inr (8, [.ref sq_plain, .ref sq_kinds, .ref sq_meant, .ref sq_firsts, .ref sq_nexts, .ref sq_names, .ref sq_fieldNames, .ref sq_amounts, .ref sq_fieldDefaults, .ref sq_enumDefaults, .int s_letterCount, .int s_slotCount])), (sq_kinds, .inl (cI, 128, .inl s_kinds)), (sq_meant, .inl (cI, 128, .inl s_meant))]) (k2_QcV (.int res)) 0 0 (fun _ => False) := by
  refine Met.ofW (cc := cX6_isAlike) (maxL := 3) (ret := (some .boolean)) (by decide) rfl ?_
  intro p e s m args below meth c s₁ B hml hv
  obtain ⟨rfl, hP, hK, hz0⟩ := hv
  have hx := B.exec
  have hb := B.bytes
  have hr := B.returns
  have hts := atoms_spec (ws := wsX6_isAlike) B.pre
  have hown : s.vm.findClass RX6 = some m.cls := findClass_of_methodNamed B.named
  have hlocks := B.notSynchronized
  have hS : va_S (fun _ => False) s.heap s.heap [] := va_S.rf
  generalize hQ0 : MQ below (k2_QcV (.int res)) [.ref obS, .int a0, .int a1].toArray s 0 0 (fun _ => False) = Q0
  have hl := lv_entry [.ref obS, .int a0, .int a1] (n := 3) (Nat.le_of_ble_eq_true rfl)
  rw [lg_entry_eq]
  generalize (lg_sl [.ref obS, .int a0, .int a1] ++ List.replicate (3 - (lg_sl [.ref obS, .int a0, .int a1]).length) Slot.unset).toArray = ls at hl ⊢
  have hl : lv_has ls 3 [(0, .ref obS), (1, .int a0), (2, .int a1)] := hl
  unfold m_X6_isAlike at hm
  refine lv_aload_n hx hb dX6_isAlike_0 rfl (lv_at hl 0 rfl) ?_
  refine lv_iload_n hx hb dX6_isAlike_1 rfl (lv_at hl 1 rfl) ?_
  obtain ⟨r1, hz1, hm⟩ := mr_bind hm
  refine mr_pV (As := [.int a0]) (rest := []) (sr_okZ adK adV) ⟨hx, hb, hml, hown, hts⟩ (kX6_kind l htr dC dI adK adV cI cB cJ cZ cQ obS sq_plain sq_kinds sq_meant sq_firsts sq_nexts sq_names sq_fieldNames sq_amounts sq_fieldDefaults sq_enumDefaults s_letterCount s_slotCount s_kinds s_meant a0 r1 hz1) (cwV 1 hts (g6_108 _) rfl rfl rfl (by decide +kernel) ⟨(by show 1 + 1 ≤ 2; omega), (by show 8 + (2 + 11) + (21) ≤ 42; omega)⟩) hS hP hK hz0 [0, 1, 2] rfl (va_recv hK hP (ci := 8) (q0 := 0) rfl rfl) rfl rfl hl.1 (Nat.le_of_ble_eq_true rfl) dX6_isAlike_2 ⟨Nat.zero_le _, Nat.zero_le _⟩ ?_
  refine lv_aload_n hx hb dX6_isAlike_5 rfl (lv_at hl 0 rfl) ?_
  refine lv_iload_n hx hb dX6_isAlike_6 rfl (lv_at hl 2 rfl) ?_
  obtain ⟨r2, hz2, hm⟩ := mr_bind hm
  refine mr_pV (As := [.int a1]) (rest := [.int r1]) (sr_okZ adK adV) ⟨hx, hb, hml, hown, hts⟩ (kX6_kind l htr dC dI adK adV cI cB cJ cZ cQ obS sq_plain sq_kinds sq_meant sq_firsts sq_nexts sq_names sq_fieldNames sq_amounts sq_fieldDefaults sq_enumDefaults s_letterCount s_slotCount s_kinds s_meant a1 r2 hz2) (cwV 1 hts (g6_108 _) rfl rfl rfl (by decide +kernel) ⟨(by show 1 + 1 ≤ 2; omega), (by show 8 + (2 + 11) + (21) ≤ 42; omega)⟩) hS hP hK hz0 [0, 1, 2] rfl (va_recv hK hP (ci := 8) (q0 := 0) rfl rfl) rfl rfl hl.1 (Nat.le_of_ble_eq_true rfl) dX6_isAlike_7 ⟨Nat.zero_le _, Nat.zero_le _⟩ ?_
  refine lv_icmp_eq (tgt := 15) hx hb dX6_isAlike_10 (by decide) (fun c3 => ?_) (fun c3 => ?_)
  · have hm := mr_if c3 hm
    refine lv_aload_n hx hb dX6_isAlike_15 rfl (lv_at hl 0 rfl) ?_
    refine lv_iload_n hx hb dX6_isAlike_16 rfl (lv_at hl 1 rfl) ?_
    obtain ⟨r4, hz4, hm⟩ := mr_bind hm
    refine mr_pV (As := [.int a0]) (rest := []) (sr_okZ adK adV) ⟨hx, hb, hml, hown, hts⟩ (kX6_kind l htr dC dI adK adV cI cB cJ cZ cQ obS sq_plain sq_kinds sq_meant sq_firsts sq_nexts sq_names sq_fieldNames sq_amounts sq_fieldDefaults sq_enumDefaults s_letterCount s_slotCount s_kinds s_meant a0 r4 hz4) (cwV 1 hts (g6_108 _) rfl rfl rfl (by decide +kernel) ⟨(by show 1 + 1 ≤ 2; omega), (by show 8 + (2 + 11) + (21) ≤ 42; omega)⟩) hS hP hK hz0 [0, 1, 2] rfl (va_recv hK hP (ci := 8) (q0 := 0) rfl rfl) rfl rfl hl.1 (Nat.le_of_ble_eq_true rfl) dX6_isAlike_17 ⟨Nat.zero_le _, Nat.zero_le _⟩ ?_
    obtain ⟨r5, hz5, hm⟩ := mr_bind hm
    refine mr_pS (As := [.int r4]) (rest := []) (sr_okZ adK adV) ⟨hx, hb, hml, hown, hts⟩ (kX3_isNamed l htr dC dI adK adV cI cB cJ cZ cQ  r4 r5 hz5) (va_cwS 1 hts (g6_111 _) rfl rfl rfl (by decide +kernel) ⟨(by show 0 + 1 ≤ 2; omega), (by show 8 + (1 + 11) + (0) ≤ 42; omega)⟩) hS hP hK hz0 [] rfl rfl rfl hl.1 (Nat.le_of_ble_eq_true rfl) dX6_isAlike_20 ⟨Nat.zero_le _, Nat.zero_le _⟩ ?_
    refine lv_if_eq (tgt := 39) hx hb dX6_isAlike_23 (by decide) (fun c6 => ?_) (fun c6 => ?_)
    · have hm := mr_if c6 hm
      refine lv_iconst (v := 1) hx hb dX6_isAlike_39 (by decide) ?_
      refine lv_goto (tgt := 44) hx hb dX6_isAlike_40 (by decide) ?_
      obtain rfl := Option.some.inj hm
      subst hQ0
      exact W.zret (v := 1) hx hb hr rfl (fun t ht hW => ⟨rfl, ht⟩) (fun q h => by cases h) dX6_isAlike_44
    · have hm := mr_un c6 hm
      refine lv_aload_n hx hb dX6_isAlike_26 rfl (lv_at hl 0 rfl) ?_
      refine lv_iload_n hx hb dX6_isAlike_27 rfl (lv_at hl 1 rfl) ?_
      obtain ⟨r7, hz7, hm⟩ := mr_bind hm
      refine mr_pV (As := [.int a0]) (rest := []) (sr_okZ adK adV) ⟨hx, hb, hml, hown, hts⟩ (kX6_meant l htr dC dI adK adV cI cB cJ cZ cQ obS sq_plain sq_kinds sq_meant sq_firsts sq_nexts sq_names sq_fieldNames sq_amounts sq_fieldDefaults sq_enumDefaults s_letterCount s_slotCount s_meant a0 r7 hz7) (cwV 1 hts (g6_59 _) rfl rfl rfl (by decide +kernel) ⟨(by show 1 + 1 ≤ 2; omega), (by show 8 + (2 + 11) + (21) ≤ 42; omega)⟩) hS hP hK hz0 [0, 2] rfl (va_recv hK hP (ci := 8) (q0 := 0) rfl rfl) rfl rfl hl.1 (Nat.le_of_ble_eq_true rfl) dX6_isAlike_28 ⟨Nat.zero_le _, Nat.zero_le _⟩ ?_
      refine lv_aload_n hx hb dX6_isAlike_31 rfl (lv_at hl 0 rfl) ?_
      refine lv_iload_n hx hb dX6_isAlike_32 rfl (lv_at hl 2 rfl) ?_
      obtain ⟨r8, hz8, hm⟩ := mr_bind hm
      refine mr_pV (As := [.int a1]) (rest := [.int r7]) (sr_okZ adK adV) ⟨hx, hb, hml, hown, hts⟩ (kX6_meant l htr dC dI adK adV cI cB cJ cZ cQ obS sq_plain sq_kinds sq_meant sq_firsts sq_nexts sq_names sq_fieldNames sq_amounts sq_fieldDefaults sq_enumDefaults s_letterCount s_slotCount s_meant a1 r8 hz8) (cwV 1 hts (g6_59 _) rfl rfl rfl (by decide +kernel) ⟨(by show 1 + 1 ≤ 2; omega), (by show 8 + (2 + 11) + (21) ≤ 42; omega)⟩) hS hP hK hz0 [0, 2] rfl (va_recv hK hP (ci := 8) (q0 := 0) rfl rfl) rfl rfl hl.1 (Nat.le_of_ble_eq_true rfl) dX6_isAlike_33 ⟨Nat.zero_le _, Nat.zero_le _⟩ ?_
      refine lv_icmp_ne (tgt := 43) hx hb dX6_isAlike_36 (by decide) (fun c9 => ?_) (fun c9 => ?_)
      · have hm := mr_un c9 hm
        refine lv_iconst (v := 0) hx hb dX6_isAlike_43 (by decide) ?_
        obtain rfl := Option.some.inj hm
        subst hQ0
        exact W.zret (v := 0) hx hb hr rfl (fun t ht hW => ⟨rfl, ht⟩) (fun q h => by cases h) dX6_isAlike_44
      · have hm := mr_if c9 hm
        refine lv_iconst (v := 1) hx hb dX6_isAlike_39 (by decide) ?_
        refine lv_goto (tgt := 44) hx hb dX6_isAlike_40 (by decide) ?_
        obtain rfl := Option.some.inj hm
        subst hQ0
        exact W.zret (v := 1) hx hb hr rfl (fun t ht hW => ⟨rfl, ht⟩) (fun q h => by cases h) dX6_isAlike_44
  · have hm := mr_un c3 hm
    refine lv_iconst (v := 0) hx hb dX6_isAlike_13 (by decide) ?_
    obtain rfl := Option.some.inj hm
    subst hQ0
    exact W.zret (v := 0) hx hb hr rfl (fun t ht hW => ⟨rfl, ht⟩) (fun q h => by cases h) dX6_isAlike_14
set_option maxHeartbeats 4000000 in
set_option maxRecDepth 100000 in
theorem kX6_isSameName (l : Launch) (htr : l.stackTraces = false) (dC : Nat → ClassId) (dI : Nat → Nat → Nat) (adK adV : Nat → Nat) (cI cB cJ cZ cQ : ClassId) (obW wq_plain wq_kinds wq_meant wq_firsts wq_nexts wq_names wq_fieldNames wq_amounts wq_fieldDefaults wq_enumDefaults obV vq_plain vq_kinds vq_meant vq_firsts vq_nexts vq_names vq_fieldNames vq_amounts vq_fieldDefaults vq_enumDefaults : Nat) (w_letterCount : Int32) (w_slotCount : Int32) (v_letterCount : Int32) (v_slotCount : Int32) (w_plain : Nat → Int32) (v_plain : Nat → Int32) (a1 : Int32) (a3 : Int32) (res : Int32) (hm : m_X6_isSameName w_plain w_letterCount v_plain v_letterCount a1 a3 = some res) : Met l yX6_isSameName wsX6_isSameName (rmX6_isSameName 0 0) (pcR (sr_Z adK adV) (dC, dI) srCl [(cI, .int), (cB, .byte), (cJ, .long), (cZ, .boolean), (cQ, .object "SchemaReader$Schema")] [.ref obW, .int a1, .ref obV, .int a3] [(obW, .inr (8, [.ref wq_plain, .ref wq_kinds, .ref wq_meant, .ref wq_firsts, .ref wq_nexts, .ref wq_names, .ref wq_fieldNames, .ref wq_amounts, .ref wq_fieldDefaults, .ref wq_enumDefaults, .int w_letterCount, .int w_slotCount])), (wq_plain, .inl (cB, 4096, .inl w_plain)), (obV, .inr (8, [.ref vq_plain, .ref vq_kinds, .ref vq_meant, .ref vq_firsts, .ref vq_nexts, .ref vq_names, .ref vq_fieldNames, .ref vq_amounts, .ref vq_fieldDefaults, .ref vq_enumDefaults, .int v_letterCount, .int v_slotCount])), (vq_plain, .inl (cB, 4096, .inl v_plain))]) (k2_QcV (.int res)) 0 0 (fun _ => False) := by
  refine Met.ofW (cc := cX6_isSameName) (maxL := 7) (ret := (some .boolean)) (by decide) rfl ?_
  intro p e s m args below meth c s₁ B hml hv
  obtain ⟨rfl, hP, hK, hz0⟩ := hv
  have hx := B.exec
  have hb := B.bytes
  have hr := B.returns
  have hts := atoms_spec (ws := wsX6_isSameName) B.pre
  have hown : s.vm.findClass RX6 = some m.cls := findClass_of_methodNamed B.named
  have hlocks := B.notSynchronized
  have hS : va_S (fun _ => False) s.heap s.heap [] := va_S.rf
  generalize hQ0 : MQ below (k2_QcV (.int res)) [.ref obW, .int a1, .ref obV, .int a3].toArray s 0 0 (fun _ => False) = Q0
  have hl := lv_entry [.ref obW, .int a1, .ref obV, .int a3] (n := 7) (Nat.le_of_ble_eq_true rfl)
  rw [lg_entry_eq]
  generalize (lg_sl [.ref obW, .int a1, .ref obV, .int a3] ++ List.replicate (7 - (lg_sl [.ref obW, .int a1, .ref obV, .int a3]).length) Slot.unset).toArray = ls at hl ⊢
  have hl : lv_has ls 7 [(0, .ref obW), (1, .int a1), (2, .ref obV), (3, .int a3)] := hl
  unfold m_X6_isSameName at hm
  refine lv_iload_n hx hb dX6_isSameName_0 rfl (lv_at hl 1 rfl) ?_
  refine lv_if_lt (tgt := 8) hx hb dX6_isSameName_1 (by decide) (fun c1 => ?_) (fun c1 => ?_)
  · have hm := mr_if c1 hm
    refine lv_iconst (v := 0) hx hb dX6_isSameName_8 (by decide) ?_
    obtain rfl := Option.some.inj hm
    subst hQ0
    exact W.zret (v := 0) hx hb hr rfl (fun t ht hW => ⟨rfl, ht⟩) (fun q h => by cases h) dX6_isSameName_9
  · have hm := mr_un c1 hm
    refine lv_iload_n hx hb dX6_isSameName_4 rfl (lv_at hl 3 rfl) ?_
    refine lv_if_ge (tgt := 10) hx hb dX6_isSameName_5 (by decide) (fun c2 => ?_) (fun c2 => ?_)
    · have hm := mr_if c2 hm
      refine lv_iconst (v := 0) hx hb dX6_isSameName_10 (by decide) ?_
      have j13 : ∀ (n13 : Nat) (x1 : Int32) (x3 : Int32) (x4 : Int32) (ls : Array Slot), lv_has ls 7 [(0, .ref obW), (1, .int x1), (2, .ref obV), (3, .int x3), (4, .int x4)] → m_X6_isSameName_13 w_plain w_letterCount v_plain v_letterCount n13 x1 x3 x4 = some res → W p l e (headSpec wsX6_isSameName (rmX6_isSameName 0 0)).room s m [.ref obW, .int a1, .ref obV, .int a3].toArray below meth c s.heap [] 0 0 Q0 (F0 m 13 ls []) := by
        intro n13
        induction n13 with
        | zero => intro x1 x3 x4 ls hl hm; exact nomatch (show (none : Option _) = some res from hm)
        | succ n13 ih13 =>
          intro x1 x3 x4 ls hl hm
          rw [m_X6_isSameName_13] at hm
          refine lv_iload hx hb dX6_isSameName_13 (lv_at hl 4 rfl) ?_
          refine lv_bipush (v := 32) hx hb dX6_isSameName_15 (by decide) ?_
          refine lv_icmp_gt (tgt := 89) hx hb dX6_isSameName_17 (by decide) (fun c3 => ?_) (fun c3 => ?_)
          · have hm := mr_if c3 hm
            refine lv_iconst (v := 0) hx hb dX6_isSameName_89 (by decide) ?_
            obtain rfl := Option.some.inj hm
            subst hQ0
            exact W.zret (v := 0) hx hb hr rfl (fun t ht hW => ⟨rfl, ht⟩) (fun q h => by cases h) dX6_isSameName_90
          · have hm := mr_un c3 hm
            refine lv_iload_n hx hb dX6_isSameName_20 rfl (lv_at hl 1 rfl) ?_
            refine lv_iload hx hb dX6_isSameName_21 (lv_at hl 4 rfl) ?_
            refine lv_iadd hx hb dX6_isSameName_23 ?_
            refine lv_istore (lv' := [(5, .int (x1 + x4)), (0, .ref obW), (1, .int x1), (2, .ref obV), (3, .int x3), (4, .int x4)]) hx hb dX6_isSameName_24 hl (by decide) rfl (fun ls hl => ?_)
            refine lv_iload_n hx hb dX6_isSameName_26 rfl (lv_at hl 4 rfl) ?_
            refine lv_iload hx hb dX6_isSameName_27 (lv_at hl 5 rfl) ?_
            refine lv_iadd hx hb dX6_isSameName_29 ?_
            refine lv_istore (lv' := [(6, .int (x3 + x4)), (5, .int (x1 + x4)), (0, .ref obW), (1, .int x1), (2, .ref obV), (3, .int x3), (4, .int x4)]) hx hb dX6_isSameName_30 hl (by decide) rfl (fun ls hl => ?_)
            refine lv_iload hx hb dX6_isSameName_32 (lv_at hl 1 rfl) ?_
            refine lv_aload_n hx hb dX6_isSameName_34 rfl (lv_at hl 2 rfl) ?_
            refine va_get (D := (dC, dI)) (ci := 8) (v := .int w_letterCount) (C := RX6) (T := TX6) (N := 12) hx hb hts (inX6 _) hown hK hP 0 rfl rfl 10 (by decide) (hts _ (List.mem_cons_of_mem _ wf6_44)) (fun _ h9 => h9) rfl dX6_isSameName_35 ?_
            refine lv_icmp_ge (tgt := 67) hx hb dX6_isSameName_38 (by decide) (fun c4 => ?_) (fun c4 => ?_)
            · have hm := mr_if c4 hm
              refine lv_iconst (v := 0) hx hb dX6_isSameName_67 (by decide) ?_
              obtain rfl := Option.some.inj hm
              subst hQ0
              exact W.zret (v := 0) hx hb hr rfl (fun t ht hW => ⟨rfl, ht⟩) (fun q h => by cases h) dX6_isSameName_68
            · have hm := mr_un c4 hm
              refine lv_iload hx hb dX6_isSameName_41 (lv_at hl 0 rfl) ?_
              refine lv_aload_n hx hb dX6_isSameName_43 rfl (lv_at hl 4 rfl) ?_
              refine va_get (D := (dC, dI)) (ci := 8) (v := .int v_letterCount) (C := RX6) (T := TX6) (N := 12) hx hb hts (inX6 _) hown hK hP 2 rfl rfl 10 (by decide) (hts _ (List.mem_cons_of_mem _ wf6_44)) (fun _ h9 => h9) rfl dX6_isSameName_44 ?_
              refine lv_icmp_ge (tgt := 67) hx hb dX6_isSameName_47 (by decide) (fun c5 => ?_) (fun c5 => ?_)
              · have hm := mr_if c5 hm
                refine lv_iconst (v := 0) hx hb dX6_isSameName_67 (by decide) ?_
                obtain rfl := Option.some.inj hm
                subst hQ0
                exact W.zret (v := 0) hx hb hr rfl (fun t ht hW => ⟨rfl, ht⟩) (fun q h => by cases h) dX6_isSameName_68
              · have hm := mr_un c5 hm
                refine lv_aload_n hx hb dX6_isSameName_50 rfl (lv_at hl 2 rfl) ?_
                refine va_get (D := (dC, dI)) (ci := 8) (v := .ref wq_plain) (C := RX6) (T := TX6) (N := 12) hx hb hts (inX6 _) hown hK hP 0 rfl rfl 0 (by decide) (hts _ (List.mem_cons_of_mem _ wf6_9)) (fun _ h9 => h9) rfl dX6_isSameName_51 ?_
                refine lv_iload hx hb dX6_isSameName_54 (lv_at hl 1 rfl) ?_
                obtain ⟨h6, hm⟩ := mr_bd hm
                refine va_bald hx hb hK hP 1 1 rfl rfl h6 dX6_isSameName_56 ?_
                refine lv_aload_n hx hb dX6_isSameName_57 rfl (lv_at hl 4 rfl) ?_
                refine va_get (D := (dC, dI)) (ci := 8) (v := .ref vq_plain) (C := RX6) (T := TX6) (N := 12) hx hb hts (inX6 _) hown hK hP 2 rfl rfl 0 (by decide) (hts _ (List.mem_cons_of_mem _ wf6_9)) (fun _ h9 => h9) rfl dX6_isSameName_58 ?_
                refine lv_iload hx hb dX6_isSameName_61 (lv_at hl 0 rfl) ?_
                obtain ⟨h7, hm⟩ := mr_bd hm
                refine va_bald hx hb hK hP 3 1 rfl rfl h7 dX6_isSameName_63 ?_
                refine lv_icmp_eq (tgt := 69) hx hb dX6_isSameName_64 (by decide) (fun c8 => ?_) (fun c8 => ?_)
                · have hm := mr_if c8 hm
                  refine lv_aload_n hx hb dX6_isSameName_69 rfl (lv_at hl 2 rfl) ?_
                  refine va_get (D := (dC, dI)) (ci := 8) (v := .ref wq_plain) (C := RX6) (T := TX6) (N := 12) hx hb hts (inX6 _) hown hK hP 0 rfl rfl 0 (by decide) (hts _ (List.mem_cons_of_mem _ wf6_9)) (fun _ h9 => h9) rfl dX6_isSameName_70 ?_
                  refine lv_iload hx hb dX6_isSameName_73 (lv_at hl 1 rfl) ?_
                  obtain ⟨h9, hm⟩ := mr_bd hm
                  refine va_bald hx hb hK hP 1 1 rfl rfl h9 dX6_isSameName_75 ?_
                  refine lv_bipush (v := 34) hx hb dX6_isSameName_76 (by decide) ?_
                  refine lv_icmp_ne (tgt := 83) hx hb dX6_isSameName_78 (by decide) (fun c10 => ?_) (fun c10 => ?_)
                  · have hm := mr_un c10 hm
                    refine lv_iinc (v := x4 + 1) (lv' := [(4, .int (x4 + 1)), (6, .int (x3 + x4)), (5, .int (x1 + x4)), (0, .ref obW), (1, .int x1), (2, .ref obV), (3, .int x3)]) hx hb dX6_isSameName_83 hl (k := 6) rfl rfl (by decide) rfl (fun ls hl => ?_)
                    refine lv_goto (tgt := 13) hx hb dX6_isSameName_86 (by decide) ?_
                    exact ih13 x1 x3 (x4 + 1) ls (lv_sub hl [3, 4, 5, 6, 0] rfl) hm
                  · have hm := mr_if c10 hm
                    refine lv_iconst (v := 1) hx hb dX6_isSameName_81 (by decide) ?_
                    obtain rfl := Option.some.inj hm
                    subst hQ0
                    exact W.zret (v := 1) hx hb hr rfl (fun t ht hW => ⟨rfl, ht⟩) (fun q h => by cases h) dX6_isSameName_82
                · have hm := mr_un c8 hm
                  refine lv_iconst (v := 0) hx hb dX6_isSameName_67 (by decide) ?_
                  obtain rfl := Option.some.inj hm
                  subst hQ0
                  exact W.zret (v := 0) hx hb hr rfl (fun t ht hW => ⟨rfl, ht⟩) (fun q h => by cases h) dX6_isSameName_68
      refine lv_istore (lv' := [(4, .int 0), (0, .ref obW), (1, .int a1), (2, .ref obV), (3, .int a3)]) hx hb dX6_isSameName_11 hl (by decide) rfl (fun ls hl => ?_)
      exact j13 sr_fuel a1 a3 0 ls (lv_sub hl [1, 2, 3, 4, 0] rfl) hm
    · have hm := mr_un c2 hm
      refine lv_iconst (v := 0) hx hb dX6_isSameName_8 (by decide) ?_
      obtain rfl := Option.some.inj hm
      subst hQ0
      exact W.zret (v := 0) hx hb hr rfl (fun t ht hW => ⟨rfl, ht⟩) (fun q h => by cases h) dX6_isSameName_9
end
section
abbrev cX11_clear : ByteArray := prog_2_method_2_code
def yX11_clear : MethodName := ⟨RX11, "clear", "()V"⟩
def wsX11_clear : List Cond := .code yX11_clear cX11_clear 1 none :: sr_G
def nq_cX11_clear : Nat := 0xb11200b5032a
theorem kq_cX11_clear : qOk cX11_clear nq_cX11_clear 6 = true := by decide +kernel
theorem dX11_clear_0 : decode cX11_clear 0 = .ok (.aload_n 0, 1) := qd_42 kq_cX11_clear (by decide +kernel)
theorem dX11_clear_1 : decode cX11_clear 1 = .ok (.iconst 0, 1) := qd_3 kq_cX11_clear (by decide +kernel)
theorem dX11_clear_2 : decode cX11_clear 2 = .ok (.putfield 18, 3) := qd_181 kq_cX11_clear (by decide +kernel)
theorem dX11_clear_5 : decode cX11_clear 5 = .ok (.return_, 1) := qd_177 kq_cX11_clear (by decide +kernel)
def rmX11_clear (mc ms : Nat) : Room := { frames := 0, cells := mc, slots := ms, locals := 0 }
abbrev cX11_count : ByteArray := prog_2_method_3_code
def yX11_count : MethodName := ⟨RX11, "count", "()I"⟩
def wsX11_count : List Cond := .code yX11_count cX11_count 1 (some .int) :: sr_G
theorem dX11_count_0 : decode cX11_count 0 = .ok (.aload_n 0, 1) := by decide +kernel
theorem dX11_count_1 : decode cX11_count 1 = .ok (.getfield 18, 3) := by decide +kernel
theorem dX11_count_4 : decode cX11_count 4 = .ok (.ireturn, 1) := by decide +kernel
def rmX11_count (mc ms : Nat) : Room := { frames := 0, cells := mc, slots := ms, locals := 0 }
abbrev cX11_first : ByteArray := prog_2_method_4_code
def yX11_first : MethodName := ⟨RX11, "first", "(I)I"⟩
def wsX11_first : List Cond := .code yX11_first cX11_first 2 (some .int) :: sr_G
def nq_cX11_first : Nat := 0xac1600b81b0900b42a
theorem kq_cX11_first : qOk cX11_first nq_cX11_first 9 = true := by decide +kernel
theorem dX11_first_0 : decode cX11_first 0 = .ok (.aload_n 0, 1) := qd_42 kq_cX11_first (by decide +kernel)
theorem dX11_first_1 : decode cX11_first 1 = .ok (.getfield 9, 3) := qd_180 kq_cX11_first (by decide +kernel)
theorem dX11_first_4 : decode cX11_first 4 = .ok (.iload_n 1, 1) := qd_27 kq_cX11_first (by decide +kernel)
theorem dX11_first_5 : decode cX11_first 5 = .ok (.invokestatic 22, 3) := qd_184 kq_cX11_first (by decide +kernel)
theorem dX11_first_8 : decode cX11_first 8 = .ok (.ireturn, 1) := qd_172 kq_cX11_first (by decide +kernel)
def rmX11_first (mc ms : Nat) : Room := { frames := 1, cells := mc, slots := ms, locals := 21 }
abbrev cX11_second : ByteArray := prog_2_method_5_code
def yX11_second : MethodName := ⟨RX11, "second", "(I)I"⟩
def wsX11_second : List Cond := .code yX11_second cX11_second 2 (some .int) :: sr_G
def nq_cX11_second : Nat := 0xac1600b81b0f00b42a
theorem kq_cX11_second : qOk cX11_second nq_cX11_second 9 = true := by decide +kernel
theorem dX11_second_0 : decode cX11_second 0 = .ok (.aload_n 0, 1) := qd_42 kq_cX11_second (by decide +kernel)
theorem dX11_second_1 : decode cX11_second 1 = .ok (.getfield 15, 3) := qd_180 kq_cX11_second (by decide +kernel)
theorem dX11_second_4 : decode cX11_second 4 = .ok (.iload_n 1, 1) := qd_27 kq_cX11_second (by decide +kernel)
theorem dX11_second_5 : decode cX11_second 5 = .ok (.invokestatic 22, 3) := qd_184 kq_cX11_second (by decide +kernel)
theorem dX11_second_8 : decode cX11_second 8 = .ok (.ireturn, 1) := qd_172 kq_cX11_second (by decide +kernel)
def rmX11_second (mc ms : Nat) : Room := { frames := 1, cells := mc, slots := ms, locals := 21 }
abbrev cX11_add : ByteArray := prog_2_method_6_code
def yX11_add : MethodName := ⟨RX11, "add", "(II)V"⟩
def wsX11_add : List Cond := .code yX11_add cX11_add 3 none :: sr_G
def nq_cX11_add : Nat := 0xb11200b560041200b4592a1c00b81c1200b42a0f00b42a1c00b81b1200b42a0900b42a2500a28000111200b42a
theorem kq_cX11_add : qOk cX11_add nq_cX11_add 45 = true := by decide +kernel
theorem dX11_add_0 : decode cX11_add 0 = .ok (.aload_n 0, 1) := qd_42 kq_cX11_add (by decide +kernel)
theorem dX11_add_1 : decode cX11_add 1 = .ok (.getfield 18, 3) := qd_180 kq_cX11_add (by decide +kernel)
theorem dX11_add_4 : decode cX11_add 4 = .ok (.sipush 128, 3) := qd_17 kq_cX11_add (by decide +kernel)
theorem dX11_add_7 : decode cX11_add 7 = .ok (.if_icmp .ge 37, 3) := qd_162 kq_cX11_add (by decide +kernel)
theorem dX11_add_10 : decode cX11_add 10 = .ok (.aload_n 0, 1) := qd_42 kq_cX11_add (by decide +kernel)
theorem dX11_add_11 : decode cX11_add 11 = .ok (.getfield 9, 3) := qd_180 kq_cX11_add (by decide +kernel)
theorem dX11_add_14 : decode cX11_add 14 = .ok (.aload_n 0, 1) := qd_42 kq_cX11_add (by decide +kernel)
theorem dX11_add_15 : decode cX11_add 15 = .ok (.getfield 18, 3) := qd_180 kq_cX11_add (by decide +kernel)
theorem dX11_add_18 : decode cX11_add 18 = .ok (.iload_n 1, 1) := qd_27 kq_cX11_add (by decide +kernel)
theorem dX11_add_19 : decode cX11_add 19 = .ok (.invokestatic 28, 3) := qd_184 kq_cX11_add (by decide +kernel)
theorem dX11_add_22 : decode cX11_add 22 = .ok (.aload_n 0, 1) := qd_42 kq_cX11_add (by decide +kernel)
theorem dX11_add_23 : decode cX11_add 23 = .ok (.getfield 15, 3) := qd_180 kq_cX11_add (by decide +kernel)
theorem dX11_add_26 : decode cX11_add 26 = .ok (.aload_n 0, 1) := qd_42 kq_cX11_add (by decide +kernel)
theorem dX11_add_27 : decode cX11_add 27 = .ok (.getfield 18, 3) := qd_180 kq_cX11_add (by decide +kernel)
theorem dX11_add_30 : decode cX11_add 30 = .ok (.iload_n 2, 1) := qd_28 kq_cX11_add (by decide +kernel)
theorem dX11_add_31 : decode cX11_add 31 = .ok (.invokestatic 28, 3) := qd_184 kq_cX11_add (by decide +kernel)
theorem dX11_add_34 : decode cX11_add 34 = .ok (.aload_n 0, 1) := qd_42 kq_cX11_add (by decide +kernel)
theorem dX11_add_35 : decode cX11_add 35 = .ok (.dup, 1) := qd_89 kq_cX11_add (by decide +kernel)
theorem dX11_add_36 : decode cX11_add 36 = .ok (.getfield 18, 3) := qd_180 kq_cX11_add (by decide +kernel)
theorem dX11_add_39 : decode cX11_add 39 = .ok (.iconst 1, 1) := qd_4 kq_cX11_add (by decide +kernel)
theorem dX11_add_40 : decode cX11_add 40 = .ok (.iadd, 1) := qd_96 kq_cX11_add (by decide +kernel)
theorem dX11_add_41 : decode cX11_add 41 = .ok (.putfield 18, 3) := qd_181 kq_cX11_add (by decide +kernel)
theorem dX11_add_44 : decode cX11_add 44 = .ok (.return_, 1) := qd_177 kq_cX11_add (by decide +kernel)
def rmX11_add (mc ms : Nat) : Room := { frames := 1, cells := mc, slots := ms, locals := 22 }
abbrev cX11_has : ByteArray := prog_2_method_7_code
def yX11_has : MethodName := ⟨RX11, "has", "(II)Z"⟩
def wsX11_has : List Cond := .code yX11_has cX11_has 4 (some .boolean) :: sr_G
def nq_cX11_has : Nat := 0xac03dbffa7010384ac040500a01c1600b81d0f00b42a1100a01b1600b81d0900b42a2300a21200b42a1d3e03
theorem kq_cX11_has : qOk cX11_has nq_cX11_has 44 = true := by decide +kernel
theorem dX11_has_0 : decode cX11_has 0 = .ok (.iconst 0, 1) := qd_3 kq_cX11_has (by decide +kernel)
theorem dX11_has_1 : decode cX11_has 1 = .ok (.istore_n 3, 1) := qd_62 kq_cX11_has (by decide +kernel)
theorem dX11_has_2 : decode cX11_has 2 = .ok (.iload_n 3, 1) := qd_29 kq_cX11_has (by decide +kernel)
theorem dX11_has_3 : decode cX11_has 3 = .ok (.aload_n 0, 1) := qd_42 kq_cX11_has (by decide +kernel)
theorem dX11_has_4 : decode cX11_has 4 = .ok (.getfield 18, 3) := qd_180 kq_cX11_has (by decide +kernel)
theorem dX11_has_7 : decode cX11_has 7 = .ok (.if_icmp .ge 35, 3) := qd_162 kq_cX11_has (by decide +kernel)
theorem dX11_has_10 : decode cX11_has 10 = .ok (.aload_n 0, 1) := qd_42 kq_cX11_has (by decide +kernel)
theorem dX11_has_11 : decode cX11_has 11 = .ok (.getfield 9, 3) := qd_180 kq_cX11_has (by decide +kernel)
theorem dX11_has_14 : decode cX11_has 14 = .ok (.iload_n 3, 1) := qd_29 kq_cX11_has (by decide +kernel)
theorem dX11_has_15 : decode cX11_has 15 = .ok (.invokestatic 22, 3) := qd_184 kq_cX11_has (by decide +kernel)
theorem dX11_has_18 : decode cX11_has 18 = .ok (.iload_n 1, 1) := qd_27 kq_cX11_has (by decide +kernel)
theorem dX11_has_19 : decode cX11_has 19 = .ok (.if_icmp .ne 17, 3) := qd_160 kq_cX11_has (by decide +kernel)
theorem dX11_has_22 : decode cX11_has 22 = .ok (.aload_n 0, 1) := qd_42 kq_cX11_has (by decide +kernel)
theorem dX11_has_23 : decode cX11_has 23 = .ok (.getfield 15, 3) := qd_180 kq_cX11_has (by decide +kernel)
theorem dX11_has_26 : decode cX11_has 26 = .ok (.iload_n 3, 1) := qd_29 kq_cX11_has (by decide +kernel)
theorem dX11_has_27 : decode cX11_has 27 = .ok (.invokestatic 22, 3) := qd_184 kq_cX11_has (by decide +kernel)
theorem dX11_has_30 : decode cX11_has 30 = .ok (.iload_n 2, 1) := qd_28 kq_cX11_has (by decide +kernel)
theorem dX11_has_31 : decode cX11_has 31 = .ok (.if_icmp .ne 5, 3) := qd_160 kq_cX11_has (by decide +kernel)
theorem dX11_has_34 : decode cX11_has 34 = .ok (.iconst 1, 1) := qd_4 kq_cX11_has (by decide +kernel)
theorem dX11_has_35 : decode cX11_has 35 = .ok (.ireturn, 1) := qd_172 kq_cX11_has (by decide +kernel)
theorem dX11_has_36 : decode cX11_has 36 = .ok (.iinc 3 1, 3) := qd_132 kq_cX11_has (by decide +kernel)
theorem dX11_has_39 : decode cX11_has 39 = .ok (.goto (-37), 3) := qd_167 kq_cX11_has (by decide +kernel)
theorem dX11_has_42 : decode cX11_has 42 = .ok (.iconst 0, 1) := qd_3 kq_cX11_has (by decide +kernel)
theorem dX11_has_43 : decode cX11_has 43 = .ok (.ireturn, 1) := qd_172 kq_cX11_has (by decide +kernel)
def rmX11_has (mc ms : Nat) : Room := { frames := 1, cells := mc, slots := ms, locals := 21 }
theorem gn11_22 : (∀ w ∈ ([.static yX8_entry, .initialized yX8_entry.cls, .code yX8_entry cX8_entry 2 (some .int)] : List Cond), w ∈ sr_G) ∧ (.methodLinkNest RX11 22 yX8_entry "SchemaReader" : Cond) ∈ sr_N := ⟨sr_ins (by decide +kernel), List.mem_filter.mpr ⟨in_tables_1_3 _ (List.mem_of_getElem? (i := 190) rfl), rfl⟩⟩
theorem gn11_28 : (∀ w ∈ ([.static yX8_enter, .initialized yX8_enter.cls, .code yX8_enter cX8_enter 3 none] : List Cond), w ∈ sr_G) ∧ (.methodLinkNest RX11 28 yX8_enter "SchemaReader" : Cond) ∈ sr_N := ⟨sr_ins (by decide +kernel), List.mem_filter.mpr ⟨in_tables_1_3 _ (List.mem_of_getElem? (i := 164) rfl), rfl⟩⟩
end
section
set_option maxHeartbeats 4000000 in
set_option maxRecDepth 100000 in
theorem kX11_clear (l : Launch) (htr : l.stackTraces = false) (dC : Nat → ClassId) (dI : Nat → Nat → Nat) (adK adV : Nat → Nat) (cI cB cJ cZ cQ : ClassId) (obC cq_firsts cq_seconds : Nat) (c_count : Int32) (sz : Nat) (res : Int32) (hm : m_X11_clear c_count = some res) : Met l yX11_clear wsX11_clear (rmX11_clear 0 0) (pcW (sr_Z adK adV) (dC, dI) srCl [(cI, .int), (cB, .byte), (cJ, .long), (cZ, .boolean), (cQ, .object "SchemaReader$Schema")] [.ref obC] [(obC, .inr (3, [.ref cq_firsts, .ref cq_seconds, .int c_count]))] sz) (va_Qv (fun u' => u' = res) (pcB (dC, dI) srCl [(cI, .int), (cB, .byte), (cJ, .long), (cZ, .boolean), (cQ, .object "SchemaReader$Schema")] (fun u : Int32 => [(obC, .inr (3, [.ref cq_firsts, .ref cq_seconds, .int u]))]) (va_A [(obC, .inr (3, [.ref cq_firsts, .ref cq_seconds, .int c_count]))] sz)) (va_A [(obC, .inr (3, [.ref cq_firsts, .ref cq_seconds, .int c_count]))] sz)) 0 0 (va_A [(obC, .inr (3, [.ref cq_firsts, .ref cq_seconds, .int c_count]))] sz) := by
  refine Met.ofW (cc := cX11_clear) (maxL := 1) (ret := none) (by decide) rfl ?_
  intro p e s m args below meth c s₁ B hml hv
  obtain ⟨rfl, hsz, hP, hK, hD0, hz0⟩ := hv
  have hx := B.exec
  have hb := B.bytes
  have hr := B.returns
  have hts := atoms_spec (ws := wsX11_clear) B.pre
  have hown : s.vm.findClass RX11 = some m.cls := findClass_of_methodNamed B.named
  have hlocks := B.notSynchronized
  subst hsz
  have hD := hD0.self (sz := s.heap.size)
  generalize hAe : va_A [(obC, .inr (3, [.ref cq_firsts, .ref cq_seconds, .int c_count]))] s.heap.size = A at hD hz0 ⊢
  have hA : ∀ q : Nat, s.heap.size ≤ q → A q := fun q h => by rw [← hAe]; exact Or.inr h
  have hS : va_S A s.heap s.heap [] := va_S.rf
  generalize hQ0 : MQ below (va_Qv (fun u' => u' = res) (pcB (dC, dI) srCl [(cI, .int), (cB, .byte), (cJ, .long), (cZ, .boolean), (cQ, .object "SchemaReader$Schema")] (fun u : Int32 => [(obC, .inr (3, [.ref cq_firsts, .ref cq_seconds, .int u]))]) A) A) [.ref obC].toArray s 0 0 A = Q0
  have hl := lv_entry [.ref obC] (n := 1) (Nat.le_of_ble_eq_true rfl)
  rw [lg_entry_eq]
  generalize (lg_sl [.ref obC] ++ List.replicate (1 - (lg_sl [.ref obC]).length) Slot.unset).toArray = ls at hl ⊢
  have hl : lv_has ls 1 [(0, .ref obC)] := hl
  unfold m_X11_clear at hm
  refine lv_aload_n hx hb dX11_clear_0 rfl (lv_at hl 0 rfl) ?_
  refine lv_iconst (v := 0) hx hb dX11_clear_1 (by decide) ?_
  refine va_put (D := (dC, dI)) (ci := 3) (v := .int 0) (ty := .int) (C := RX11) (T := TX11) (N := 3) hx hb hts (inX11 _) tyX11 tyX11_ok nmX11 hown hK hP hD hS 0 rfl rfl 2 (by decide) (hts _ (List.mem_cons_of_mem _ wf11_18)) (fun _ h9 => h9) rfl (by decide +kernel) rfl rfl (Nat.le_of_ble_eq_true rfl) dX11_clear_2 (fun H locs hP hD hS => ?_)
  have hP : va_P (dC, dI) srCl [(obC, .inr (3, [.ref cq_firsts, .ref cq_seconds, .int 0]))] H := hP
  have hD : va_D A [(obC, .inr (3, [.ref cq_firsts, .ref cq_seconds, .int 0]))] := hD
  obtain rfl := Option.some.inj hm
  subst hQ0
  exact W.vret hx hb hr (fun t ht hW => ⟨⟨0, rfl, rfl, by rw [ht]; exact hP, va_K.moved hW.alike hK, hD⟩, hS.F ht⟩) hS.2.2 dX11_clear_5
set_option maxHeartbeats 4000000 in
set_option maxRecDepth 100000 in
theorem kX11_count (l : Launch) (htr : l.stackTraces = false) (dC : Nat → ClassId) (dI : Nat → Nat → Nat) (adK adV : Nat → Nat) (cI cB cJ cZ cQ : ClassId) (obC cq_firsts cq_seconds : Nat) (c_count : Int32) (res : Int32) (hm : m_X11_count c_count = some res) : Met l yX11_count wsX11_count (rmX11_count 0 0) (pcR (sr_Z adK adV) (dC, dI) srCl [(cI, .int), (cB, .byte), (cJ, .long), (cZ, .boolean), (cQ, .object "SchemaReader$Schema")] [.ref obC] [(obC, .inr (3, [.ref cq_firsts, .ref cq_seconds, .int c_count]))]) (k2_QcV (.int res)) 0 0 (fun _ => False) := by
  refine Met.ofW (cc := cX11_count) (maxL := 1) (ret := (some .int)) (by decide) rfl ?_
  intro p e s m args below meth c s₁ B hml hv
  obtain ⟨rfl, hP, hK, hz0⟩ := hv
  have hx := B.exec
  have hb := B.bytes
  have hr := B.returns
  have hts := atoms_spec (ws := wsX11_count) B.pre
  have hown : s.vm.findClass RX11 = some m.cls := findClass_of_methodNamed B.named
  have hlocks := B.notSynchronized
  have hS : va_S (fun _ => False) s.heap s.heap [] := va_S.rf
  generalize hQ0 : MQ below (k2_QcV (.int res)) [.ref obC].toArray s 0 0 (fun _ => False) = Q0
  have hl := lv_entry [.ref obC] (n := 1) (Nat.le_of_ble_eq_true rfl)
  rw [lg_entry_eq]
  generalize (lg_sl [.ref obC] ++ List.replicate (1 - (lg_sl [.ref obC]).length) Slot.unset).toArray = ls at hl ⊢
  have hl : lv_has ls 1 [(0, .ref obC)] := hl
  unfold m_X11_count at hm
  refine lv_aload_n hx hb dX11_count_0 rfl (lv_at hl 0 rfl) ?_
  refine va_get (D := (dC, dI)) (ci := 3) (v := .int c_count) (C := RX11) (T := TX11) (N := 3) hx hb hts (inX11 _) hown hK hP 0 rfl rfl 2 (by decide) (hts _ (List.mem_cons_of_mem _ wf11_18)) (fun _ h9 => h9) rfl dX11_count_1 ?_
  obtain rfl := Option.some.inj hm
  subst hQ0
  exact W.iret (v := c_count) hx hb hr (fun t ht hW => ⟨rfl, ht⟩) (fun q h => by cases h) dX11_count_4
set_option maxHeartbeats 4000000 in
set_option maxRecDepth 100000 in
theorem kX11_first (l : Launch) (htr : l.stackTraces = false) (dC : Nat → ClassId) (dI : Nat → Nat → Nat) (adK adV : Nat → Nat) (cI cB cJ cZ cQ : ClassId) (obC cq_firsts cq_seconds : Nat) (c_count : Int32) (c_firsts : Nat → Int32) (a0 : Int32) (res : Int32) (hm : m_X11_first c_firsts a0 = some res) : Met l yX11_first wsX11_first (rmX11_first 0 0) (pcR (sr_Z adK adV) (dC, dI) srCl [(cI, .int), (cB, .byte), (cJ, .long), (cZ, .boolean), (cQ, .object "SchemaReader$Schema")] [.ref obC, .int a0] [(obC, .inr (3, [.ref cq_firsts, .ref cq_seconds, .int c_count])), (cq_firsts, .inl (cI, 128, .inl c_firsts))]) (k2_QcV (.int res)) 0 0 (fun _ => False) := by
  refine Met.ofW (cc := cX11_first) (maxL := 2) (ret := (some .int)) (by decide) rfl ?_
  intro p e s m args below meth c s₁ B hml hv
  obtain ⟨rfl, hP, hK, hz0⟩ := hv
  have hx := B.exec
  have hb := B.bytes
  have hr := B.returns
  have hts := atoms_spec (ws := wsX11_first) B.pre
  have hown : s.vm.findClass RX11 = some m.cls := findClass_of_methodNamed B.named
  have hlocks := B.notSynchronized
  have hS : va_S (fun _ => False) s.heap s.heap [] := va_S.rf
  generalize hQ0 : MQ below (k2_QcV (.int res)) [.ref obC, .int a0].toArray s 0 0 (fun _ => False) = Q0
  have hl := lv_entry [.ref obC, .int a0] (n := 2) (Nat.le_of_ble_eq_true rfl)
  rw [lg_entry_eq]
  generalize (lg_sl [.ref obC, .int a0] ++ List.replicate (2 - (lg_sl [.ref obC, .int a0]).length) Slot.unset).toArray = ls at hl ⊢
  have hl : lv_has ls 2 [(0, .ref obC), (1, .int a0)] := hl
  unfold m_X11_first at hm
  refine lv_aload_n hx hb dX11_first_0 rfl (lv_at hl 0 rfl) ?_
  refine va_get (D := (dC, dI)) (ci := 3) (v := .ref cq_firsts) (C := RX11) (T := TX11) (N := 3) hx hb hts (inX11 _) hown hK hP 0 rfl rfl 0 (by decide) (hts _ (List.mem_cons_of_mem _ wf11_9)) (fun _ h9 => h9) rfl dX11_first_1 ?_
  refine lv_iload_n hx hb dX11_first_4 rfl (lv_at hl 1 rfl) ?_
  obtain ⟨r1, hz1, hm⟩ := mr_bind hm
  refine mr_pSN (As := [.ref cq_firsts, .int a0]) (rest := []) (sr_okZ adK adV) ⟨hx, hb, hml, hown, hts⟩ (kX8_entry l htr dC dI adK adV cI cB cJ cZ cQ cq_firsts c_firsts 128 a0 r1 hz1) (sr_cnS 2 hts rfl gn11_22.1 (hz0.2.2.2.2.2.2.1 _ gn11_22.2) rfl rfl (by decide +kernel) ⟨(by show 0 + 1 ≤ 1; omega), (by show 8 + (2 + 11) + (0) ≤ 21; omega)⟩) hS hP hK hz0 [1] rfl rfl rfl hl.1 (Nat.le_of_ble_eq_true rfl) dX11_first_5 ⟨Nat.zero_le _, Nat.zero_le _⟩ ?_
  obtain rfl := Option.some.inj hm
  subst hQ0
  exact W.iret (v := r1) hx hb hr (fun t ht hW => ⟨rfl, ht⟩) (fun q h => by cases h) dX11_first_8
set_option maxHeartbeats 4000000 in
set_option maxRecDepth 100000 in
theorem kX11_second (l : Launch) (htr : l.stackTraces = false) (dC : Nat → ClassId) (dI : Nat → Nat → Nat) (adK adV : Nat → Nat) (cI cB cJ cZ cQ : ClassId) (obC cq_firsts cq_seconds : Nat) (c_count : Int32) (c_seconds : Nat → Int32) (a0 : Int32) (res : Int32) (hm : m_X11_second c_seconds a0 = some res) : Met l yX11_second wsX11_second (rmX11_second 0 0) (pcR (sr_Z adK adV) (dC, dI) srCl [(cI, .int), (cB, .byte), (cJ, .long), (cZ, .boolean), (cQ, .object "SchemaReader$Schema")] [.ref obC, .int a0] [(obC, .inr (3, [.ref cq_firsts, .ref cq_seconds, .int c_count])), (cq_seconds, .inl (cI, 128, .inl c_seconds))]) (k2_QcV (.int res)) 0 0 (fun _ => False) := by
  refine Met.ofW (cc := cX11_second) (maxL := 2) (ret := (some .int)) (by decide) rfl ?_
  intro p e s m args below meth c s₁ B hml hv
  obtain ⟨rfl, hP, hK, hz0⟩ := hv
  have hx := B.exec
  have hb := B.bytes
  have hr := B.returns
  have hts := atoms_spec (ws := wsX11_second) B.pre
  have hown : s.vm.findClass RX11 = some m.cls := findClass_of_methodNamed B.named
  have hlocks := B.notSynchronized
  have hS : va_S (fun _ => False) s.heap s.heap [] := va_S.rf
  generalize hQ0 : MQ below (k2_QcV (.int res)) [.ref obC, .int a0].toArray s 0 0 (fun _ => False) = Q0
  have hl := lv_entry [.ref obC, .int a0] (n := 2) (Nat.le_of_ble_eq_true rfl)
  rw [lg_entry_eq]
  generalize (lg_sl [.ref obC, .int a0] ++ List.replicate (2 - (lg_sl [.ref obC, .int a0]).length) Slot.unset).toArray = ls at hl ⊢
  have hl : lv_has ls 2 [(0, .ref obC), (1, .int a0)] := hl
  unfold m_X11_second at hm
  refine lv_aload_n hx hb dX11_second_0 rfl (lv_at hl 0 rfl) ?_
  refine va_get (D := (dC, dI)) (ci := 3) (v := .ref cq_seconds) (C := RX11) (T := TX11) (N := 3) hx hb hts (inX11 _) hown hK hP 0 rfl rfl 1 (by decide) (hts _ (List.mem_cons_of_mem _ wf11_15)) (fun _ h9 => h9) rfl dX11_second_1 ?_
  refine lv_iload_n hx hb dX11_second_4 rfl (lv_at hl 1 rfl) ?_
  obtain ⟨r1, hz1, hm⟩ := mr_bind hm
  refine mr_pSN (As := [.ref cq_seconds, .int a0]) (rest := []) (sr_okZ adK adV) ⟨hx, hb, hml, hown, hts⟩ (kX8_entry l htr dC dI adK adV cI cB cJ cZ cQ cq_seconds c_seconds 128 a0 r1 hz1) (sr_cnS 2 hts rfl gn11_22.1 (hz0.2.2.2.2.2.2.1 _ gn11_22.2) rfl rfl (by decide +kernel) ⟨(by show 0 + 1 ≤ 1; omega), (by show 8 + (2 + 11) + (0) ≤ 21; omega)⟩) hS hP hK hz0 [1] rfl rfl rfl hl.1 (Nat.le_of_ble_eq_true rfl) dX11_second_5 ⟨Nat.zero_le _, Nat.zero_le _⟩ ?_
  obtain rfl := Option.some.inj hm
  subst hQ0
  exact W.iret (v := r1) hx hb hr (fun t ht hW => ⟨rfl, ht⟩) (fun q h => by cases h) dX11_second_8
set_option maxHeartbeats 4000000 in
set_option maxRecDepth 100000 in
theorem kX11_add (l : Launch) (htr : l.stackTraces = false) (dC : Nat → ClassId) (dI : Nat → Nat → Nat) (adK adV : Nat → Nat) (cI cB cJ cZ cQ : ClassId) (obC cq_firsts cq_seconds : Nat) (c_count : Int32) (c_firsts : Nat → Int32) (c_seconds : Nat → Int32) (sz : Nat) (a0 : Int32) (a1 : Int32) (res : (Nat → Int32) × (Nat → Int32) × Int32) (hm : m_X11_add c_firsts c_seconds c_count a0 a1 = some res) : Met l yX11_add wsX11_add (rmX11_add 0 0) (pcW (sr_Z adK adV) (dC, dI) srCl [(cI, .int), (cB, .byte), (cJ, .long), (cZ, .boolean), (cQ, .object "SchemaReader$Schema")] [.ref obC, .int a0, .int a1] [(obC, .inr (3, [.ref cq_firsts, .ref cq_seconds, .int c_count])), (cq_firsts, .inl (cI, 128, .inl c_firsts)), (cq_seconds, .inl (cI, 128, .inl c_seconds))] sz) (va_Qv (fun u' => u' = res) (pcB (dC, dI) srCl [(cI, .int), (cB, .byte), (cJ, .long), (cZ, .boolean), (cQ, .object "SchemaReader$Schema")] (fun u : (Nat → Int32) × (Nat → Int32) × Int32 => [(obC, .inr (3, [.ref cq_firsts, .ref cq_seconds, .int u.2.2])), (cq_firsts, .inl (cI, 128, .inl u.1)), (cq_seconds, .inl (cI, 128, .inl u.2.1))]) (va_A [(obC, .inr (3, [.ref cq_firsts, .ref cq_seconds, .int c_count])), (cq_firsts, .inl (cI, 128, .inl c_firsts)), (cq_seconds, .inl (cI, 128, .inl c_seconds))] sz)) (va_A [(obC, .inr (3, [.ref cq_firsts, .ref cq_seconds, .int c_count])), (cq_firsts, .inl (cI, 128, .inl c_firsts)), (cq_seconds, .inl (cI, 128, .inl c_seconds))] sz)) 0 0 (va_A [(obC, .inr (3, [.ref cq_firsts, .ref cq_seconds, .int c_count])), (cq_firsts, .inl (cI, 128, .inl c_firsts)), (cq_seconds, .inl (cI, 128, .inl c_seconds))] sz) := by
  refine Met.ofW (cc := cX11_add) (maxL := 3) (ret := none) (by decide) rfl ?_
  intro p e s m args below meth c s₁ B hml hv
  obtain ⟨rfl, hsz, hP, hK, hD0, hz0⟩ := hv
  have hx := B.exec
  have hb := B.bytes
  have hr := B.returns
  have hts := atoms_spec (ws := wsX11_add) B.pre
  have hown : s.vm.findClass RX11 = some m.cls := findClass_of_methodNamed B.named
  have hlocks := B.notSynchronized
  subst hsz
  have hD := hD0.self (sz := s.heap.size)
  generalize hAe : va_A [(obC, .inr (3, [.ref cq_firsts, .ref cq_seconds, .int c_count])), (cq_firsts, .inl (cI, 128, .inl c_firsts)), (cq_seconds, .inl (cI, 128, .inl c_seconds))] s.heap.size = A at hD hz0 ⊢
  have hA : ∀ q : Nat, s.heap.size ≤ q → A q := fun q h => by rw [← hAe]; exact Or.inr h
  have hS : va_S A s.heap s.heap [] := va_S.rf
  generalize hQ0 : MQ below (va_Qv (fun u' => u' = res) (pcB (dC, dI) srCl [(cI, .int), (cB, .byte), (cJ, .long), (cZ, .boolean), (cQ, .object "SchemaReader$Schema")] (fun u : (Nat → Int32) × (Nat → Int32) × Int32 => [(obC, .inr (3, [.ref cq_firsts, .ref cq_seconds, .int u.2.2])), (cq_firsts, .inl (cI, 128, .inl u.1)), (cq_seconds, .inl (cI, 128, .inl u.2.1))]) A) A) [.ref obC, .int a0, .int a1].toArray s 0 0 A = Q0
  have hl := lv_entry [.ref obC, .int a0, .int a1] (n := 3) (Nat.le_of_ble_eq_true rfl)
  rw [lg_entry_eq]
  generalize (lg_sl [.ref obC, .int a0, .int a1] ++ List.replicate (3 - (lg_sl [.ref obC, .int a0, .int a1]).length) Slot.unset).toArray = ls at hl ⊢
  have hl : lv_has ls 3 [(0, .ref obC), (1, .int a0), (2, .int a1)] := hl
  unfold m_X11_add at hm
  refine lv_aload_n hx hb dX11_add_0 rfl (lv_at hl 0 rfl) ?_
  refine va_get (D := (dC, dI)) (ci := 3) (v := .int c_count) (C := RX11) (T := TX11) (N := 3) hx hb hts (inX11 _) hown hK hP 0 rfl rfl 2 (by decide) (hts _ (List.mem_cons_of_mem _ wf11_18)) (fun _ h9 => h9) rfl dX11_add_1 ?_
  refine lv_sipush (v := 128) hx hb dX11_add_4 (by decide) ?_
  refine lv_icmp_ge (tgt := 44) hx hb dX11_add_7 (by decide) (fun c1 => ?_) (fun c1 => ?_)
  · have hm := mr_if c1 hm
    obtain rfl := Option.some.inj hm
    subst hQ0
    exact W.vret hx hb hr (fun t ht hW => ⟨⟨(c_firsts, c_seconds, c_count), rfl, rfl, by rw [ht]; exact hP, va_K.moved hW.alike hK, hD⟩, hS.F ht⟩) hS.2.2 dX11_add_44
  · have hm := mr_un c1 hm
    refine lv_aload_n hx hb dX11_add_10 rfl (lv_at hl 0 rfl) ?_
    refine va_get (D := (dC, dI)) (ci := 3) (v := .ref cq_firsts) (C := RX11) (T := TX11) (N := 3) hx hb hts (inX11 _) hown hK hP 0 rfl rfl 0 (by decide) (hts _ (List.mem_cons_of_mem _ wf11_9)) (fun _ h9 => h9) rfl dX11_add_11 ?_
    refine lv_aload_n hx hb dX11_add_14 rfl (lv_at hl 0 rfl) ?_
    refine va_get (D := (dC, dI)) (ci := 3) (v := .int c_count) (C := RX11) (T := TX11) (N := 3) hx hb hts (inX11 _) hown hK hP 0 rfl rfl 2 (by decide) (hts _ (List.mem_cons_of_mem _ wf11_18)) (fun _ h9 => h9) rfl dX11_add_15 ?_
    refine lv_iload_n hx hb dX11_add_18 rfl (lv_at hl 1 rfl) ?_
    obtain ⟨c_firsts_2, hz2, hm⟩ := mr_bind hm
    try dsimp only at hm
    refine mr_wSNv (As := [.ref cq_firsts, .int c_count, .int a0]) (rest := []) (sr_okZ adK adV) ⟨hx, hb, hml, hown, hts⟩ (kX8_enter l htr dC dI adK adV cI cB cJ cZ cQ cq_firsts c_firsts _ 128 c_count a0 _ hz2) (sr_cnS 3 hts rfl gn11_28.1 (hz0.2.2.2.2.2.2.1 _ gn11_28.2) rfl rfl (by decide +kernel) ⟨(by show 0 + 1 ≤ 1; omega), (by show 8 + (3 + 11) + (0) ≤ 22; omega)⟩) hS hA hP hD hK hz0 (wr := [(obC, .inr (3, [.ref cq_firsts, .ref cq_seconds, .int c_count])), (cq_seconds, .inl (cI, 128, .inl c_seconds))]) (w1 := [(obC, .inr (3, [.ref cq_firsts, .ref cq_seconds, .int c_count])), (cq_firsts, .inl (cI, 128, .inl c_firsts_2)), (cq_seconds, .inl (cI, 128, .inl c_seconds))]) [1] [0, 2] [0, 2, 1] rfl rfl rfl rfl rfl (by decide) rfl rfl rfl rfl rfl hl.1 (Nat.le_of_ble_eq_true rfl) dX11_add_19 ⟨Nat.zero_le _, Nat.zero_le _⟩ (fun H locs hP hD hS => ?_)
    refine lv_aload_n hx hb dX11_add_22 rfl (lv_at hl 0 rfl) ?_
    refine va_get (D := (dC, dI)) (ci := 3) (v := .ref cq_seconds) (C := RX11) (T := TX11) (N := 3) hx hb hts (inX11 _) hown hK hP 0 rfl rfl 1 (by decide) (hts _ (List.mem_cons_of_mem _ wf11_15)) (fun _ h9 => h9) rfl dX11_add_23 ?_
    refine lv_aload_n hx hb dX11_add_26 rfl (lv_at hl 0 rfl) ?_
    refine va_get (D := (dC, dI)) (ci := 3) (v := .int c_count) (C := RX11) (T := TX11) (N := 3) hx hb hts (inX11 _) hown hK hP 0 rfl rfl 2 (by decide) (hts _ (List.mem_cons_of_mem _ wf11_18)) (fun _ h9 => h9) rfl dX11_add_27 ?_
    refine lv_iload_n hx hb dX11_add_30 rfl (lv_at hl 2 rfl) ?_
    obtain ⟨c_seconds_3, hz3, hm⟩ := mr_bind hm
    try dsimp only at hm
    refine mr_wSNv (As := [.ref cq_seconds, .int c_count, .int a1]) (rest := []) (sr_okZ adK adV) ⟨hx, hb, hml, hown, hts⟩ (kX8_enter l htr dC dI adK adV cI cB cJ cZ cQ cq_seconds c_seconds _ 128 c_count a1 _ hz3) (sr_cnS 3 hts rfl gn11_28.1 (hz0.2.2.2.2.2.2.1 _ gn11_28.2) rfl rfl (by decide +kernel) ⟨(by show 0 + 1 ≤ 1; omega), (by show 8 + (3 + 11) + (0) ≤ 22; omega)⟩) hS hA hP hD hK hz0 (wr := [(obC, .inr (3, [.ref cq_firsts, .ref cq_seconds, .int c_count])), (cq_firsts, .inl (cI, 128, .inl c_firsts_2))]) (w1 := [(obC, .inr (3, [.ref cq_firsts, .ref cq_seconds, .int c_count])), (cq_firsts, .inl (cI, 128, .inl c_firsts_2)), (cq_seconds, .inl (cI, 128, .inl c_seconds_3))]) [2] [0, 1] [0, 1, 2] rfl rfl rfl rfl rfl (by decide) rfl rfl rfl rfl rfl hl.1 (Nat.le_of_ble_eq_true rfl) dX11_add_31 ⟨Nat.zero_le _, Nat.zero_le _⟩ (fun H locs hP hD hS => ?_)
    refine lv_aload_n hx hb dX11_add_34 rfl (lv_at hl 0 rfl) ?_
    refine lv_dup hx hb dX11_add_35 rfl ?_
    refine va_get (D := (dC, dI)) (ci := 3) (v := .int c_count) (C := RX11) (T := TX11) (N := 3) hx hb hts (inX11 _) hown hK hP 0 rfl rfl 2 (by decide) (hts _ (List.mem_cons_of_mem _ wf11_18)) (fun _ h9 => h9) rfl dX11_add_36 ?_
    refine lv_iconst (v := 1) hx hb dX11_add_39 (by decide) ?_
    refine lv_iadd hx hb dX11_add_40 ?_
    refine va_put (D := (dC, dI)) (ci := 3) (v := .int (c_count + 1)) (ty := .int) (C := RX11) (T := TX11) (N := 3) hx hb hts (inX11 _) tyX11 tyX11_ok nmX11 hown hK hP hD hS 0 rfl rfl 2 (by decide) (hts _ (List.mem_cons_of_mem _ wf11_18)) (fun _ h9 => h9) rfl (by decide +kernel) rfl rfl (Nat.le_of_ble_eq_true rfl) dX11_add_41 (fun H locs hP hD hS => ?_)
    have hP : va_P (dC, dI) srCl [(obC, .inr (3, [.ref cq_firsts, .ref cq_seconds, .int (c_count + 1)])), (cq_firsts, .inl (cI, 128, .inl c_firsts_2)), (cq_seconds, .inl (cI, 128, .inl c_seconds_3))] H := hP
    have hD : va_D A [(obC, .inr (3, [.ref cq_firsts, .ref cq_seconds, .int (c_count + 1)])), (cq_firsts, .inl (cI, 128, .inl c_firsts_2)), (cq_seconds, .inl (cI, 128, .inl c_seconds_3))] := hD
    obtain rfl := Option.some.inj hm
    subst hQ0
    exact W.vret hx hb hr (fun t ht hW => ⟨⟨(c_firsts_2, c_seconds_3, (c_count + 1)), rfl, rfl, by rw [ht]; exact hP, va_K.moved hW.alike hK, hD⟩, hS.F ht⟩) hS.2.2 dX11_add_44
set_option maxHeartbeats 4000000 in
set_option maxRecDepth 100000 in
theorem kX11_has (l : Launch) (htr : l.stackTraces = false) (dC : Nat → ClassId) (dI : Nat → Nat → Nat) (adK adV : Nat → Nat) (cI cB cJ cZ cQ : ClassId) (obC cq_firsts cq_seconds : Nat) (c_count : Int32) (c_firsts : Nat → Int32) (c_seconds : Nat → Int32) (a0 : Int32) (a1 : Int32) (res : Int32) (hm : m_X11_has c_firsts c_seconds c_count a0 a1 = some res) : Met l yX11_has wsX11_has (rmX11_has 0 0) (pcR (sr_Z adK adV) (dC, dI) srCl [(cI, .int), (cB, .byte), (cJ, .long), (cZ, .boolean), (cQ, .object "SchemaReader$Schema")] [.ref obC, .int a0, .int a1] [(obC, .inr (3, [.ref cq_firsts, .ref cq_seconds, .int c_count])), (cq_firsts, .inl (cI, 128, .inl c_firsts)), (cq_seconds, .inl (cI, 128, .inl c_seconds))]) (k2_QcV (.int res)) 0 0 (fun _ => False) := by
  refine Met.ofW (cc := cX11_has) (maxL := 4) (ret := (some .boolean)) (by decide) rfl ?_
  intro p e s m args below meth c s₁ B hml hv
  obtain ⟨rfl, hP, hK, hz0⟩ := hv
  have hx := B.exec
  have hb := B.bytes
  have hr := B.returns
  have hts := atoms_spec (ws := wsX11_has) B.pre
  have hown : s.vm.findClass RX11 = some m.cls := findClass_of_methodNamed B.named
  have hlocks := B.notSynchronized
  have hS : va_S (fun _ => False) s.heap s.heap [] := va_S.rf
  generalize hQ0 : MQ below (k2_QcV (.int res)) [.ref obC, .int a0, .int a1].toArray s 0 0 (fun _ => False) = Q0
  have hl := lv_entry [.ref obC, .int a0, .int a1] (n := 4) (Nat.le_of_ble_eq_true rfl)
  rw [lg_entry_eq]
  generalize (lg_sl [.ref obC, .int a0, .int a1] ++ List.replicate (4 - (lg_sl [.ref obC, .int a0, .int a1]).length) Slot.unset).toArray = ls at hl ⊢
  have hl : lv_has ls 4 [(0, .ref obC), (1, .int a0), (2, .int a1)] := hl
  unfold m_X11_has at hm
  refine lv_iconst (v := 0) hx hb dX11_has_0 (by decide) ?_
  have j2 : ∀ (n2 : Nat) (x1 : Int32) (x2 : Int32) (x3 : Int32) (ls : Array Slot), lv_has ls 4 [(0, .ref obC), (1, .int x1), (2, .int x2), (3, .int x3)] → m_X11_has_2 c_firsts c_seconds c_count n2 x1 x2 x3 = some res → W p l e (headSpec wsX11_has (rmX11_has 0 0)).room s m [.ref obC, .int a0, .int a1].toArray below meth c s.heap [] 0 0 Q0 (F0 m 2 ls []) := by
    intro n2
    induction n2 with
    | zero => intro x1 x2 x3 ls hl hm; exact nomatch (show (none : Option _) = some res from hm)
    | succ n2 ih2 =>
      intro x1 x2 x3 ls hl hm
      rw [m_X11_has_2] at hm
      refine lv_iload_n hx hb dX11_has_2 rfl (lv_at hl 3 rfl) ?_
      refine lv_aload_n hx hb dX11_has_3 rfl (lv_at hl 0 rfl) ?_
      refine va_get (D := (dC, dI)) (ci := 3) (v := .int c_count) (C := RX11) (T := TX11) (N := 3) hx hb hts (inX11 _) hown hK hP 0 rfl rfl 2 (by decide) (hts _ (List.mem_cons_of_mem _ wf11_18)) (fun _ h9 => h9) rfl dX11_has_4 ?_
      refine lv_icmp_ge (tgt := 42) hx hb dX11_has_7 (by decide) (fun c1 => ?_) (fun c1 => ?_)
      · have hm := mr_if c1 hm
        refine lv_iconst (v := 0) hx hb dX11_has_42 (by decide) ?_
        obtain rfl := Option.some.inj hm
        subst hQ0
        exact W.zret (v := 0) hx hb hr rfl (fun t ht hW => ⟨rfl, ht⟩) (fun q h => by cases h) dX11_has_43
      · have hm := mr_un c1 hm
        refine lv_aload_n hx hb dX11_has_10 rfl (lv_at hl 0 rfl) ?_
        refine va_get (D := (dC, dI)) (ci := 3) (v := .ref cq_firsts) (C := RX11) (T := TX11) (N := 3) hx hb hts (inX11 _) hown hK hP 0 rfl rfl 0 (by decide) (hts _ (List.mem_cons_of_mem _ wf11_9)) (fun _ h9 => h9) rfl dX11_has_11 ?_
        refine lv_iload_n hx hb dX11_has_14 rfl (lv_at hl 3 rfl) ?_
        obtain ⟨r2, hz2, hm⟩ := mr_bind hm
        refine mr_pSN (As := [.ref cq_firsts, .int x3]) (rest := []) (sr_okZ adK adV) ⟨hx, hb, hml, hown, hts⟩ (kX8_entry l htr dC dI adK adV cI cB cJ cZ cQ cq_firsts c_firsts 128 x3 r2 hz2) (sr_cnS 2 hts rfl gn11_22.1 (hz0.2.2.2.2.2.2.1 _ gn11_22.2) rfl rfl (by decide +kernel) ⟨(by show 0 + 1 ≤ 1; omega), (by show 8 + (2 + 11) + (0) ≤ 21; omega)⟩) hS hP hK hz0 [1] rfl rfl rfl hl.1 (Nat.le_of_ble_eq_true rfl) dX11_has_15 ⟨Nat.zero_le _, Nat.zero_le _⟩ ?_
        refine lv_iload_n hx hb dX11_has_18 rfl (lv_at hl 1 rfl) ?_
        refine lv_icmp_ne (tgt := 36) hx hb dX11_has_19 (by decide) (fun c3 => ?_) (fun c3 => ?_)
        · have hm := mr_un c3 hm
          refine lv_iinc (v := x3 + 1) (lv' := [(3, .int (x3 + 1)), (0, .ref obC), (1, .int x1), (2, .int x2)]) hx hb dX11_has_36 hl (k := 3) rfl rfl (by decide) rfl (fun ls hl => ?_)
          refine lv_goto (tgt := 2) hx hb dX11_has_39 (by decide) ?_
          exact ih2 x1 x2 (x3 + 1) ls (lv_sub hl [1, 2, 3, 0] rfl) hm
        · have hm := mr_if c3 hm
          refine lv_aload_n hx hb dX11_has_22 rfl (lv_at hl 0 rfl) ?_
          refine va_get (D := (dC, dI)) (ci := 3) (v := .ref cq_seconds) (C := RX11) (T := TX11) (N := 3) hx hb hts (inX11 _) hown hK hP 0 rfl rfl 1 (by decide) (hts _ (List.mem_cons_of_mem _ wf11_15)) (fun _ h9 => h9) rfl dX11_has_23 ?_
          refine lv_iload_n hx hb dX11_has_26 rfl (lv_at hl 3 rfl) ?_
          obtain ⟨r4, hz4, hm⟩ := mr_bind hm
          refine mr_pSN (As := [.ref cq_seconds, .int x3]) (rest := []) (sr_okZ adK adV) ⟨hx, hb, hml, hown, hts⟩ (kX8_entry l htr dC dI adK adV cI cB cJ cZ cQ cq_seconds c_seconds 128 x3 r4 hz4) (sr_cnS 2 hts rfl gn11_22.1 (hz0.2.2.2.2.2.2.1 _ gn11_22.2) rfl rfl (by decide +kernel) ⟨(by show 0 + 1 ≤ 1; omega), (by show 8 + (2 + 11) + (0) ≤ 21; omega)⟩) hS hP hK hz0 [2] rfl rfl rfl hl.1 (Nat.le_of_ble_eq_true rfl) dX11_has_27 ⟨Nat.zero_le _, Nat.zero_le _⟩ ?_
          refine lv_iload_n hx hb dX11_has_30 rfl (lv_at hl 2 rfl) ?_
          refine lv_icmp_ne (tgt := 36) hx hb dX11_has_31 (by decide) (fun c5 => ?_) (fun c5 => ?_)
          · have hm := mr_un c5 hm
            refine lv_iinc (v := x3 + 1) (lv' := [(3, .int (x3 + 1)), (0, .ref obC), (1, .int x1), (2, .int x2)]) hx hb dX11_has_36 hl (k := 3) rfl rfl (by decide) rfl (fun ls hl => ?_)
            refine lv_goto (tgt := 2) hx hb dX11_has_39 (by decide) ?_
            exact ih2 x1 x2 (x3 + 1) ls (lv_sub hl [1, 2, 3, 0] rfl) hm
          · have hm := mr_if c5 hm
            refine lv_iconst (v := 1) hx hb dX11_has_34 (by decide) ?_
            obtain rfl := Option.some.inj hm
            subst hQ0
            exact W.zret (v := 1) hx hb hr rfl (fun t ht hW => ⟨rfl, ht⟩) (fun q h => by cases h) dX11_has_35
  refine lv_istore_n (lv' := [(3, .int 0), (0, .ref obC), (1, .int a0), (2, .int a1)]) hx hb dX11_has_1 rfl hl (by decide) rfl (fun ls hl => ?_)
  exact j2 sr_fuel a0 a1 0 ls (lv_sub hl [1, 2, 3, 0] rfl) hm
end
