set_option maxHeartbeats 4000000 in
set_option maxRecDepth 100000 in
theorem kX20_coder (l : Launch) (htr : l.stackTraces = false) (dC : Nat → ClassId) (dI : Nat → Nat → Nat) (adK adV : Nat → Nat) (cI cB cJ cZ cQ : ClassId) (as : Nat) (res : Int32) (hm : m_X20_coder as = some res) : Met l yX20_coder wsX20_coder (rmX20_coder 0 0) (pcR (sr_Z adK adV) (dC, dI) srCl [(cI, .int), (cB, .byte), (cJ, .long), (cZ, .boolean), (cQ, .object "SchemaReader$Schema")] [.ref (adK as)] []) (k2_QcV (.int res)) 0 0 (fun _ => False) := by
  refine Met.ofW (cc := cX20_coder) (maxL := 1) (ret := (some .byte)) (by decide) rfl ?_
  intro p e s m args below meth c s₁ B hml hv
  obtain ⟨rfl, hP, hK, hz0⟩ := hv
  have hx := B.exec
  have hb := B.bytes
  have hr := B.returns
  have hts := atoms_spec (ws := wsX20_coder) B.pre
  have hown : s.vm.findClass RX20 = some m.cls := findClass_of_methodNamed B.named
  have hlocks := B.notSynchronized
  have hS : va_S (fun _ => False) s.heap s.heap [] := va_S.rf
  generalize hQ0 : MQ below (k2_QcV (.int res)) [.ref (adK as)].toArray s 0 0 (fun _ => False) = Q0
  have hl := lv_entry [.ref (adK as)] (n := 1) (Nat.le_of_ble_eq_true rfl)
  rw [lg_entry_eq]
  generalize (lg_sl [.ref (adK as)] ++ List.replicate (1 - (lg_sl [.ref (adK as)]).length) Slot.unset).toArray = ls at hl ⊢
  have hl : lv_has ls 1 [(0, .ref (adK as))] := hl
  unfold m_X20_coder at hm
  refine va_gets hx hb hz0.2.1 hS hown (hts _ (List.mem_cons_of_mem _ wf20_38)) (fun _ h9 => h9) dX20_coder_0 ?_
  refine lv_if_eq (tgt := 13) hx hb dX20_coder_3 (by decide) (fun c1 => ?_) (fun c1 => ?_)
  · have hm := mr_if c1 hm
    refine lv_iconst (v := 1) hx hb dX20_coder_13 (by decide) ?_
    obtain rfl := Option.some.inj hm
    subst hQ0
    exact W.zret (v := 1) hx hb hr rfl (fun t ht hW => ⟨rfl, ht⟩) (fun q h => by cases h) dX20_coder_14
  · have hm := mr_un c1 hm
    refine lv_aload_n hx hb dX20_coder_6 rfl (lv_at hl 0 rfl) ?_
    obtain ⟨h2, hm⟩ := mr_bs hm
    refine vk_getf hx hb (hz0.1 as h2).1.2.1 hS hown (hts _ (List.mem_cons_of_mem _ wf20_15)) (fun _ h9 => h9) dX20_coder_7 ?_
    refine lv_goto (tgt := 14) hx hb dX20_coder_10 (by decide) ?_
    obtain rfl := Option.some.inj hm
    subst hQ0
    exact W.zret (v := 0) hx hb hr rfl (fun t ht hW => ⟨rfl, ht⟩) (fun q h => by cases h) dX20_coder_14
set_option maxHeartbeats 4000000 in
set_option maxRecDepth 100000 in
theorem kX20_isLatin1 (l : Launch) (htr : l.stackTraces = false) (dC : Nat → ClassId) (dI : Nat → Nat → Nat) (adK adV : Nat → Nat) (cI cB cJ cZ cQ : ClassId) (as : Nat) (res : Int32) (hm : m_X20_isLatin1 as = some res) : Met l yX20_isLatin1 wsX20_isLatin1 (rmX20_isLatin1 0 0) (pcR (sr_Z adK adV) (dC, dI) srCl [(cI, .int), (cB, .byte), (cJ, .long), (cZ, .boolean), (cQ, .object "SchemaReader$Schema")] [.ref (adK as)] []) (k2_QcV (.int res)) 0 0 (fun _ => False) := by
  refine Met.ofW (cc := cX20_isLatin1) (maxL := 1) (ret := (some .boolean)) (by decide) rfl ?_
  intro p e s m args below meth c s₁ B hml hv
  obtain ⟨rfl, hP, hK, hz0⟩ := hv
  have hx := B.exec
  have hb := B.bytes
  have hr := B.returns
  have hts := atoms_spec (ws := wsX20_isLatin1) B.pre
  have hown : s.vm.findClass RX20 = some m.cls := findClass_of_methodNamed B.named
  have hlocks := B.notSynchronized
  have hS : va_S (fun _ => False) s.heap s.heap [] := va_S.rf
  generalize hQ0 : MQ below (k2_QcV (.int res)) [.ref (adK as)].toArray s 0 0 (fun _ => False) = Q0
  have hl := lv_entry [.ref (adK as)] (n := 1) (Nat.le_of_ble_eq_true rfl)
  rw [lg_entry_eq]
  generalize (lg_sl [.ref (adK as)] ++ List.replicate (1 - (lg_sl [.ref (adK as)]).length) Slot.unset).toArray = ls at hl ⊢
  have hl : lv_has ls 1 [(0, .ref (adK as))] := hl
  unfold m_X20_isLatin1 at hm
  refine va_gets hx hb hz0.2.1 hS hown (hts _ (List.mem_cons_of_mem _ wf20_38)) (fun _ h9 => h9) dX20_isLatin1_0 ?_
  refine lv_if_eq (tgt := 17) hx hb dX20_isLatin1_3 (by decide) (fun c1 => ?_) (fun c1 => ?_)
  · have hm := mr_if c1 hm
    refine lv_iconst (v := 0) hx hb dX20_isLatin1_17 (by decide) ?_
    obtain rfl := Option.some.inj hm
    subst hQ0
    exact W.zret (v := 0) hx hb hr rfl (fun t ht hW => ⟨rfl, ht⟩) (fun q h => by cases h) dX20_isLatin1_18
  · have hm := mr_un c1 hm
    refine lv_aload_n hx hb dX20_isLatin1_6 rfl (lv_at hl 0 rfl) ?_
    obtain ⟨h2, hm⟩ := mr_bs hm
    refine vk_getf hx hb (hz0.1 as h2).1.2.1 hS hown (hts _ (List.mem_cons_of_mem _ wf20_15)) (fun _ h9 => h9) dX20_isLatin1_7 ?_
    refine lv_if_ne (tgt := 17) hx hb dX20_isLatin1_10 (by decide) (fun c3 => ?_) (fun c3 => ?_)
    · have hm := mr_un c3 hm
      refine lv_iconst (v := 0) hx hb dX20_isLatin1_17 (by decide) ?_
      obtain rfl := Option.some.inj hm
      subst hQ0
      exact W.zret (v := 0) hx hb hr rfl (fun t ht hW => ⟨rfl, ht⟩) (fun q h => by cases h) dX20_isLatin1_18
    · have hm := mr_if c3 hm
      refine lv_iconst (v := 1) hx hb dX20_isLatin1_13 (by decide) ?_
      refine lv_goto (tgt := 18) hx hb dX20_isLatin1_14 (by decide) ?_
      obtain rfl := Option.some.inj hm
      subst hQ0
      exact W.zret (v := 1) hx hb hr rfl (fun t ht hW => ⟨rfl, ht⟩) (fun q h => by cases h) dX20_isLatin1_18
set_option maxHeartbeats 4000000 in
set_option maxRecDepth 100000 in
theorem kX20_length (l : Launch) (htr : l.stackTraces = false) (dC : Nat → ClassId) (dI : Nat → Nat → Nat) (adK adV : Nat → Nat) (cI cB cJ cZ cQ : ClassId) (as : Nat) (res : Int32) (hm : m_X20_length as = some res) : Met l yX20_length wsX20_length (rmX20_length 0 0) (pcR (sr_Z adK adV) (dC, dI) srCl [(cI, .int), (cB, .byte), (cJ, .long), (cZ, .boolean), (cQ, .object "SchemaReader$Schema")] [.ref (adK as)] []) (k2_QcV (.int res)) 0 0 (fun _ => False) := by
  refine Met.ofW (cc := cX20_length) (maxL := 1) (ret := (some .int)) (by decide) rfl ?_
  intro p e s m args below meth c s₁ B hml hv
  obtain ⟨rfl, hP, hK, hz0⟩ := hv
  have hx := B.exec
  have hb := B.bytes
  have hr := B.returns
  have hts := atoms_spec (ws := wsX20_length) B.pre
  have hown : s.vm.findClass RX20 = some m.cls := findClass_of_methodNamed B.named
  have hlocks := B.notSynchronized
  have hS : va_S (fun _ => False) s.heap s.heap [] := va_S.rf
  generalize hQ0 : MQ below (k2_QcV (.int res)) [.ref (adK as)].toArray s 0 0 (fun _ => False) = Q0
  have hl := lv_entry [.ref (adK as)] (n := 1) (Nat.le_of_ble_eq_true rfl)
  rw [lg_entry_eq]
  generalize (lg_sl [.ref (adK as)] ++ List.replicate (1 - (lg_sl [.ref (adK as)]).length) Slot.unset).toArray = ls at hl ⊢
  have hl : lv_has ls 1 [(0, .ref (adK as))] := hl
  unfold m_X20_length at hm
  refine lv_aload_n hx hb dX20_length_0 rfl (lv_at hl 0 rfl) ?_
  obtain ⟨h1, hm⟩ := mr_bs hm
  refine vk_getf hx hb (hz0.1 as h1).1.2.2.1 hS hown (hts _ (List.mem_cons_of_mem _ wf20_9)) (fun _ h9 => h9) dX20_length_1 ?_
  obtain ⟨h2, hm⟩ := mr_bs hm
  refine va_tlen hx hb (hz0.1 as h2).1.2.2.2 hS rfl dX20_length_4 ?_
  refine lv_aload_n hx hb dX20_length_5 rfl (lv_at hl 0 rfl) ?_
  obtain ⟨h4, hm⟩ := mr_bs hm
  obtain ⟨r3, hz3, hm⟩ := mr_bind hm
  refine mr_pV (As := []) (rest := [.int (Int32.ofNat (lenS.getD as 0))]) (sr_okZ adK adV) ⟨hx, hb, hml, hown, hts⟩ (kX20_coder l htr dC dI adK adV cI cB cJ cZ cQ  as r3 hz3) (cwV 0 hts (g20_335 _) rfl rfl rfl (by decide +kernel) ⟨(by show 0 + 1 ≤ 1; omega), (by show 8 + (1 + 11) + (0) ≤ 20; omega)⟩) hS hP hK hz0 [] rfl (sr_recv (hz0.1 as h4).1.1 hS) rfl rfl hl.1 (Nat.le_of_ble_eq_true rfl) dX20_length_6 ⟨Nat.zero_le _, Nat.zero_le _⟩ ?_
  refine lv_ishr hx hb dX20_length_9 ?_
  obtain rfl := Option.some.inj hm
  subst hQ0
  exact W.iret (v := ((Int32.ofNat (lenS.getD as 0)) >>> (r3 &&& 31))) hx hb hr (fun t ht hW => ⟨rfl, ht⟩) (fun q h => by cases h) dX20_length_10
set_option maxHeartbeats 4000000 in
set_option maxRecDepth 100000 in
theorem kX22_ck (l : Launch) (htr : l.stackTraces = false) (dC : Nat → ClassId) (dI : Nat → Nat → Nat) (adK adV : Nat → Nat) (cI cB cJ cZ cQ : ClassId) (a0 : Int32) (a1 : Int32) (res : Int32) (hm : m_X22_ck a0 a1 = some res) : Met l yX22_ck wsX22_ck (rmX22_ck 0 0) (pcR (sr_Z adK adV) (dC, dI) srCl [(cI, .int), (cB, .byte), (cJ, .long), (cZ, .boolean), (cQ, .object "SchemaReader$Schema")] [.int a0, .int a1, .null] []) (k2_QcV (.int res)) 0 0 (fun _ => False) := by
  refine Met.ofW (cc := cX22_ck) (maxL := 3) (ret := (some .int)) (by decide) rfl ?_
  intro p e s m args below meth c s₁ B hml hv
  obtain ⟨rfl, hP, hK, hz0⟩ := hv
  have hx := B.exec
  have hb := B.bytes
  have hr := B.returns
  have hts := atoms_spec (ws := wsX22_ck) B.pre
  have hown : s.vm.findClass RX22 = some m.cls := findClass_of_methodNamed B.named
  have hlocks := B.notSynchronized
  have hS : va_S (fun _ => False) s.heap s.heap [] := va_S.rf
  generalize hQ0 : MQ below (k2_QcV (.int res)) [.int a0, .int a1, .null].toArray s 0 0 (fun _ => False) = Q0
  have hl := lv_entry [.int a0, .int a1, .null] (n := 3) (Nat.le_of_ble_eq_true rfl)
  rw [lg_entry_eq]
  generalize (lg_sl [.int a0, .int a1, .null] ++ List.replicate (3 - (lg_sl [.int a0, .int a1, .null]).length) Slot.unset).toArray = ls at hl ⊢
  have hl : lv_has ls 3 [(0, .int a0), (1, .int a1), (2, .null)] := hl
  unfold m_X22_ck at hm
  refine lv_iload_n hx hb dX22_ck_0 rfl (lv_at hl 0 rfl) ?_
  refine lv_if_lt (tgt := 9) hx hb dX22_ck_1 (by decide) (fun c1 => ?_) (fun c1 => ?_)
  · have hm := mr_if c1 hm
    exact nomatch (show (none : Option _) = some res from hm)
  · have hm := mr_un c1 hm
    refine lv_iload_n hx hb dX22_ck_4 rfl (lv_at hl 0 rfl) ?_
    refine lv_iload_n hx hb dX22_ck_5 rfl (lv_at hl 1 rfl) ?_
    refine lv_icmp_lt (tgt := 16) hx hb dX22_ck_6 (by decide) (fun c2 => ?_) (fun c2 => ?_)
    · have hm := mr_if c2 hm
      refine lv_iload_n hx hb dX22_ck_16 rfl (lv_at hl 0 rfl) ?_
      obtain rfl := Option.some.inj hm
      subst hQ0
      exact W.iret (v := a0) hx hb hr (fun t ht hW => ⟨rfl, ht⟩) (fun q h => by cases h) dX22_ck_17
    · have hm := mr_un c2 hm
      exact nomatch (show (none : Option _) = some res from hm)
set_option maxHeartbeats 4000000 in
set_option maxRecDepth 100000 in
theorem kX22_ckQ (l : Launch) (htr : l.stackTraces = false) (dC : Nat → ClassId) (dI : Nat → Nat → Nat) (adK adV : Nat → Nat) (cI cB cJ cZ cQ : ClassId) (a0 : Int32) (a1 : Int32) (a2 : Nat) (res : Int32) (hm : m_X22_ck a0 a1 = some res) : Met l yX22_ckQ wsX22_ckQ (rmX22_ckQ 0 0) (pcR (sr_Z adK adV) (dC, dI) srCl [(cI, .int), (cB, .byte), (cJ, .long), (cZ, .boolean), (cQ, .object "SchemaReader$Schema")] [.int a0, .int a1, .ref a2] []) (k2_QcV (.int res)) 0 0 (fun _ => False) := by
  refine Met.ofW (cc := cX22_ckQ) (maxL := 3) (ret := (some .int)) (by decide) rfl ?_
  intro p e s m args below meth c s₁ B hml hv
  obtain ⟨rfl, hP, hK, hz0⟩ := hv
  have hx := B.exec
  have hb := B.bytes
  have hr := B.returns
  have hts := atoms_spec (ws := wsX22_ckQ) B.pre
  have hown : s.vm.findClass RX22 = some m.cls := findClass_of_methodNamed B.named
  have hlocks := B.notSynchronized
  have hS : va_S (fun _ => False) s.heap s.heap [] := va_S.rf
  generalize hQ0 : MQ below (k2_QcV (.int res)) [.int a0, .int a1, .ref a2].toArray s 0 0 (fun _ => False) = Q0
  have hl := lv_entry [.int a0, .int a1, .ref a2] (n := 3) (Nat.le_of_ble_eq_true rfl)
  rw [lg_entry_eq]
  generalize (lg_sl [.int a0, .int a1, .ref a2] ++ List.replicate (3 - (lg_sl [.int a0, .int a1, .ref a2]).length) Slot.unset).toArray = ls at hl ⊢
  have hl : lv_has ls 3 [(0, .int a0), (1, .int a1), (2, .ref a2)] := hl
  unfold m_X22_ck at hm
  refine lv_iload_n hx hb dX22_ckQ_0 rfl (lv_at hl 0 rfl) ?_
  refine lv_if_lt (tgt := 9) hx hb dX22_ckQ_1 (by decide) (fun c1 => ?_) (fun c1 => ?_)
  · have hm := mr_if c1 hm
    exact nomatch (show (none : Option _) = some res from hm)
  · have hm := mr_un c1 hm
    refine lv_iload_n hx hb dX22_ckQ_4 rfl (lv_at hl 0 rfl) ?_
    refine lv_iload_n hx hb dX22_ckQ_5 rfl (lv_at hl 1 rfl) ?_
    refine lv_icmp_lt (tgt := 16) hx hb dX22_ckQ_6 (by decide) (fun c2 => ?_) (fun c2 => ?_)
    · have hm := mr_if c2 hm
      refine lv_iload_n hx hb dX22_ckQ_16 rfl (lv_at hl 0 rfl) ?_
      obtain rfl := Option.some.inj hm
      subst hQ0
      exact W.iret (v := a0) hx hb hr (fun t ht hW => ⟨rfl, ht⟩) (fun q h => by cases h) dX22_ckQ_17
    · have hm := mr_un c2 hm
      exact nomatch (show (none : Option _) = some res from hm)
set_option maxHeartbeats 4000000 in
set_option maxRecDepth 100000 in
theorem kX20_checkIndex (l : Launch) (htr : l.stackTraces = false) (dC : Nat → ClassId) (dI : Nat → Nat → Nat) (adK adV : Nat → Nat) (cI cB cJ cZ cQ : ClassId) (a0 : Int32) (a1 : Int32) (res : Unit) (hm : m_X20_checkIndex a0 a1 = some res) : Met l yX20_checkIndex wsX20_checkIndex (rmX20_checkIndex 0 0) (pcR (sr_Z adK adV) (dC, dI) srCl [(cI, .int), (cB, .byte), (cJ, .long), (cZ, .boolean), (cQ, .object "SchemaReader$Schema")] [.int a0, .int a1] []) k0_Q 0 0 (fun _ => False) := by
  refine Met.ofW (cc := cX20_checkIndex) (maxL := 2) (ret := none) (by decide) rfl ?_
  intro p e s m args below meth c s₁ B hml hv
  obtain ⟨rfl, hP, hK, hz0⟩ := hv
  have hx := B.exec
  have hb := B.bytes
  have hr := B.returns
  have hts := atoms_spec (ws := wsX20_checkIndex) B.pre
  have hown : s.vm.findClass RX20 = some m.cls := findClass_of_methodNamed B.named
  have hlocks := B.notSynchronized
  have hS : va_S (fun _ => False) s.heap s.heap [] := va_S.rf
  generalize hQ0 : MQ below (k0_Q) [.int a0, .int a1].toArray s 0 0 (fun _ => False) = Q0
  have hl := lv_entry [.int a0, .int a1] (n := 2) (Nat.le_of_ble_eq_true rfl)
  rw [lg_entry_eq]
  generalize (lg_sl [.int a0, .int a1] ++ List.replicate (2 - (lg_sl [.int a0, .int a1]).length) Slot.unset).toArray = ls at hl ⊢
  have hl : lv_has ls 2 [(0, .int a0), (1, .int a1)] := hl
  unfold m_X20_checkIndex at hm
  refine lv_iload_n hx hb dX20_checkIndex_0 rfl (lv_at hl 0 rfl) ?_
  refine lv_iload_n hx hb dX20_checkIndex_1 rfl (lv_at hl 1 rfl) ?_
  rcases hz0.2.2.2.2.1 with hq1 | ⟨q2, hq1⟩
  · refine va_gets hx hb hq1 hS hown (hts _ (List.mem_cons_of_mem _ wf20_1053)) (fun _ h9 => h9) dX20_checkIndex_2 ?_
    obtain ⟨r3, hz3, hm⟩ := mr_bind hm
    refine mr_pS (As := [.int a0, .int a1, .null]) (rest := []) (sr_okZ adK adV) ⟨hx, hb, hml, hown, hts⟩ (kX22_ck l htr dC dI adK adV cI cB cJ cZ cQ  a0 a1 r3 hz3) (va_cwS 3 hts (g20_1059 _) rfl rfl rfl (by decide +kernel) ⟨(by show 0 + 1 ≤ 1; omega), (by show 8 + (3 + 11) + (0) ≤ 22; omega)⟩) hS hP hK hz0 [] rfl rfl rfl hl.1 (Nat.le_of_ble_eq_true rfl) dX20_checkIndex_5 ⟨Nat.zero_le _, Nat.zero_le _⟩ ?_
    refine lv_pop hx hb dX20_checkIndex_8 rfl ?_
    obtain rfl := Option.some.inj hm
    subst hQ0
    exact W.vret hx hb hr (fun t ht hW => ⟨rfl, ht⟩) (fun q h => by cases h) dX20_checkIndex_9
  · refine va_gets hx hb hq1 hS hown (hts _ (List.mem_cons_of_mem _ wf20_1053)) (fun _ h9 => h9) dX20_checkIndex_2 ?_
    obtain ⟨r3, hz3, hm⟩ := mr_bind hm
    refine mr_pS (As := [.int a0, .int a1, .ref q2]) (rest := []) (sr_okZ adK adV) ⟨hx, hb, hml, hown, hts⟩ (kX22_ckQ l htr dC dI adK adV cI cB cJ cZ cQ  a0 a1 q2 r3 hz3) (va_cwS 3 hts (g20_1059 _) rfl rfl rfl (by decide +kernel) ⟨(by show 0 + 1 ≤ 1; omega), (by show 8 + (3 + 11) + (0) ≤ 22; omega)⟩) hS hP hK hz0 [] rfl rfl rfl hl.1 (Nat.le_of_ble_eq_true rfl) dX20_checkIndex_5 ⟨Nat.zero_le _, Nat.zero_le _⟩ ?_
    refine lv_pop hx hb dX20_checkIndex_8 rfl ?_
    obtain rfl := Option.some.inj hm
    subst hQ0
    exact W.vret hx hb hr (fun t ht hW => ⟨rfl, ht⟩) (fun q h => by cases h) dX20_checkIndex_9
set_option maxHeartbeats 4000000 in
set_option maxRecDepth 100000 in
theorem kX21_charAt (l : Launch) (htr : l.stackTraces = false) (dC : Nat → ClassId) (dI : Nat → Nat → Nat) (adK adV : Nat → Nat) (cI cB cJ cZ cQ : ClassId) (a0 : Nat) (a1 : Int32) (res : Int32) (hm : m_X21_charAt a0 a1 = some res) : Met l yX21_charAt wsX21_charAt (rmX21_charAt 0 0) (pcR (sr_Z adK adV) (dC, dI) srCl [(cI, .int), (cB, .byte), (cJ, .long), (cZ, .boolean), (cQ, .object "SchemaReader$Schema")] [.ref (adV a0), .int a1] []) (k2_QcV (.int res)) 0 0 (fun _ => False) := by
  refine Met.ofW (cc := cX21_charAt) (maxL := 2) (ret := (some .char)) (by decide) rfl ?_
  intro p e s m args below meth c s₁ B hml hv
  obtain ⟨rfl, hP, hK, hz0⟩ := hv
  have hx := B.exec
  have hb := B.bytes
  have hr := B.returns
  have hts := atoms_spec (ws := wsX21_charAt) B.pre
  have hown : s.vm.findClass RX21 = some m.cls := findClass_of_methodNamed B.named
  have hlocks := B.notSynchronized
  have hS : va_S (fun _ => False) s.heap s.heap [] := va_S.rf
  generalize hQ0 : MQ below (k2_QcV (.int res)) [.ref (adV a0), .int a1].toArray s 0 0 (fun _ => False) = Q0
  have hl := lv_entry [.ref (adV a0), .int a1] (n := 2) (Nat.le_of_ble_eq_true rfl)
  rw [lg_entry_eq]
  generalize (lg_sl [.ref (adV a0), .int a1] ++ List.replicate (2 - (lg_sl [.ref (adV a0), .int a1]).length) Slot.unset).toArray = ls at hl ⊢
  have hl : lv_has ls 2 [(0, .ref (adV a0)), (1, .int a1)] := hl
  unfold m_X21_charAt at hm
  refine lv_iload_n hx hb dX21_charAt_0 rfl (lv_at hl 1 rfl) ?_
  refine lv_aload_n hx hb dX21_charAt_1 rfl (lv_at hl 0 rfl) ?_
  obtain ⟨h1, hm⟩ := mr_bs hm
  refine va_tlen hx hb (hz0.1 a0 h1).1.2.2.2 hS rfl dX21_charAt_2 ?_
  obtain ⟨r2, hz2, hm⟩ := mr_bind hm
  refine mr_pSv (As := [.int a1, .int (Int32.ofNat (lenS.getD a0 0))]) (rest := []) (sr_okZ adK adV) ⟨hx, hb, hml, hown, hts⟩ (kX20_checkIndex l htr dC dI adK adV cI cB cJ cZ cQ  a1 (Int32.ofNat (lenS.getD a0 0)) r2 hz2) (va_cwS 2 hts (g21_9 _) rfl rfl rfl (by decide +kernel) ⟨(by show 1 + 1 ≤ 2; omega), (by show 8 + (2 + 11) + (22) ≤ 43; omega)⟩) hS hP hK hz0 [] rfl rfl rfl hl.1 (Nat.le_of_ble_eq_true rfl) dX21_charAt_3 ⟨Nat.zero_le _, Nat.zero_le _⟩ ?_
  refine lv_aload_n hx hb dX21_charAt_6 rfl (lv_at hl 0 rfl) ?_
  refine lv_iload_n hx hb dX21_charAt_7 rfl (lv_at hl 1 rfl) ?_
  obtain ⟨h3, hm⟩ := mr_bs hm
  obtain ⟨h4, hm⟩ := mr_bd hm
  refine va_tb hx hb (hz0.1 a0 h3).1.2.2.2 hS h4 rfl dX21_charAt_8 ?_
  refine lv_sipush (v := 255) hx hb dX21_charAt_9 (by decide) ?_
  refine lv_iand hx hb dX21_charAt_12 ?_
  refine lv_i2c hx hb dX21_charAt_13 rfl ?_
  obtain ⟨h5, hm⟩ := mr_bc hm
  obtain rfl := Option.some.inj hm
  subst hQ0
  exact W.zret (v := (((((((bytS.getD a0 []).getD (a1 : Int32).toNatClampNeg 0) &&& 255) : Int32).toUInt32 % 65536).toInt32))) hx hb hr h5 (fun t ht hW => ⟨rfl, ht⟩) (fun q h => by cases h) dX21_charAt_14
set_option maxHeartbeats 4000000 in
set_option maxRecDepth 100000 in
theorem kX20_charAt (l : Launch) (htr : l.stackTraces = false) (dC : Nat → ClassId) (dI : Nat → Nat → Nat) (adK adV : Nat → Nat) (cI cB cJ cZ cQ : ClassId) (as : Nat) (a0 : Int32) (res : Int32) (hm : m_X20_charAt as a0 = some res) : Met l yX20_charAt wsX20_charAt (rmX20_charAt 0 0) (pcR (sr_Z adK adV) (dC, dI) srCl [(cI, .int), (cB, .byte), (cJ, .long), (cZ, .boolean), (cQ, .object "SchemaReader$Schema")] [.ref (adK as), .int a0] []) (k2_QcV (.int res)) 0 0 (fun _ => False) := by
  refine Met.ofW (cc := cX20_charAt) (maxL := 2) (ret := (some .char)) (by decide) rfl ?_
  intro p e s m args below meth c s₁ B hml hv
  obtain ⟨rfl, hP, hK, hz0⟩ := hv
  have hx := B.exec
  have hb := B.bytes
  have hr := B.returns
  have hts := atoms_spec (ws := wsX20_charAt) B.pre
  have hown : s.vm.findClass RX20 = some m.cls := findClass_of_methodNamed B.named
  have hlocks := B.notSynchronized
  have hS : va_S (fun _ => False) s.heap s.heap [] := va_S.rf
  generalize hQ0 : MQ below (k2_QcV (.int res)) [.ref (adK as), .int a0].toArray s 0 0 (fun _ => False) = Q0
  have hl := lv_entry [.ref (adK as), .int a0] (n := 2) (Nat.le_of_ble_eq_true rfl)
  rw [lg_entry_eq]
  generalize (lg_sl [.ref (adK as), .int a0] ++ List.replicate (2 - (lg_sl [.ref (adK as), .int a0]).length) Slot.unset).toArray = ls at hl ⊢
  have hl : lv_has ls 2 [(0, .ref (adK as)), (1, .int a0)] := hl
  unfold m_X20_charAt at hm
  refine lv_aload_n hx hb dX20_charAt_0 rfl (lv_at hl 0 rfl) ?_
  obtain ⟨h2, hm⟩ := mr_bs hm
  obtain ⟨r1, hz1, hm⟩ := mr_bind hm
  refine mr_pV (As := []) (rest := []) (sr_okZ adK adV) ⟨hx, hb, hml, hown, hts⟩ (kX20_isLatin1 l htr dC dI adK adV cI cB cJ cZ cQ  as r1 hz1) (cwV 0 hts (g20_492 _) rfl rfl rfl (by decide +kernel) ⟨(by show 0 + 1 ≤ 3; omega), (by show 8 + (1 + 11) + (0) ≤ 64; omega)⟩) hS hP hK hz0 [] rfl (sr_recv (hz0.1 as h2).1.1 hS) rfl rfl hl.1 (Nat.le_of_ble_eq_true rfl) dX20_charAt_1 ⟨Nat.zero_le _, Nat.zero_le _⟩ ?_
  refine lv_if_eq (tgt := 16) hx hb dX20_charAt_4 (by decide) (fun c3 => ?_) (fun c3 => ?_)
  · have hm := mr_if c3 hm
    refine lv_aload_n hx hb dX20_charAt_16 rfl (lv_at hl 0 rfl) ?_
    obtain ⟨h4, hm⟩ := mr_bs hm
    refine vk_getf hx hb (hz0.1 as h4).1.2.2.1 hS hown (hts _ (List.mem_cons_of_mem _ wf20_9)) (fun _ h9 => h9) dX20_charAt_17 ?_
    refine lv_iload_n hx hb dX20_charAt_20 rfl (lv_at hl 1 rfl) ?_
    exact nomatch (show (none : Option _) = some res from hm)
  · have hm := mr_un c3 hm
    refine lv_aload_n hx hb dX20_charAt_7 rfl (lv_at hl 0 rfl) ?_
    obtain ⟨h5, hm⟩ := mr_bs hm
    refine vk_getf hx hb (hz0.1 as h5).1.2.2.1 hS hown (hts _ (List.mem_cons_of_mem _ wf20_9)) (fun _ h9 => h9) dX20_charAt_8 ?_
    refine lv_iload_n hx hb dX20_charAt_11 rfl (lv_at hl 1 rfl) ?_
    obtain ⟨r6, hz6, hm⟩ := mr_bind hm
    refine mr_pS (As := [.ref (adV as), .int a0]) (rest := []) (sr_okZ adK adV) ⟨hx, hb, hml, hown, hts⟩ (kX21_charAt l htr dC dI adK adV cI cB cJ cZ cQ  as a0 r6 hz6) (va_cwS 2 hts (g20_495 _) rfl rfl rfl (by decide +kernel) ⟨(by show 2 + 1 ≤ 3; omega), (by show 8 + (2 + 11) + (43) ≤ 64; omega)⟩) hS hP hK hz0 [] rfl rfl rfl hl.1 (Nat.le_of_ble_eq_true rfl) dX20_charAt_12 ⟨Nat.zero_le _, Nat.zero_le _⟩ ?_
    obtain ⟨h7, hm⟩ := mr_bc hm
    obtain rfl := Option.some.inj hm
    subst hQ0
    exact W.zret (v := r6) hx hb hr h7 (fun t ht hW => ⟨rfl, ht⟩) (fun q h => by cases h) dX20_charAt_15
set_option maxHeartbeats 4000000 in
set_option maxRecDepth 100000 in
theorem kX21_canEncode (l : Launch) (htr : l.stackTraces = false) (dC : Nat → ClassId) (dI : Nat → Nat → Nat) (adK adV : Nat → Nat) (cI cB cJ cZ cQ : ClassId) (a0 : Int32) (res : Int32) (hm : m_X21_canEncode a0 = some res) : Met l yX21_canEncode wsX21_canEncode (rmX21_canEncode 0 0) (pcR (sr_Z adK adV) (dC, dI) srCl [(cI, .int), (cB, .byte), (cJ, .long), (cZ, .boolean), (cQ, .object "SchemaReader$Schema")] [.int a0] []) (k2_QcV (.int res)) 0 0 (fun _ => False) := by
  refine Met.ofW (cc := cX21_canEncode) (maxL := 1) (ret := (some .boolean)) (by decide) rfl ?_
  intro p e s m args below meth c s₁ B hml hv
  obtain ⟨rfl, hP, hK, hz0⟩ := hv
  have hx := B.exec
  have hb := B.bytes
  have hr := B.returns
  have hts := atoms_spec (ws := wsX21_canEncode) B.pre
  have hown : s.vm.findClass RX21 = some m.cls := findClass_of_methodNamed B.named
  have hlocks := B.notSynchronized
  have hS : va_S (fun _ => False) s.heap s.heap [] := va_S.rf
  generalize hQ0 : MQ below (k2_QcV (.int res)) [.int a0].toArray s 0 0 (fun _ => False) = Q0
  have hl := lv_entry [.int a0] (n := 1) (Nat.le_of_ble_eq_true rfl)
  rw [lg_entry_eq]
  generalize (lg_sl [.int a0] ++ List.replicate (1 - (lg_sl [.int a0]).length) Slot.unset).toArray = ls at hl ⊢
  have hl : lv_has ls 1 [(0, .int a0)] := hl
  unfold m_X21_canEncode at hm
  refine lv_iload_n hx hb dX21_canEncode_0 rfl (lv_at hl 0 rfl) ?_
  refine lv_if_lt (tgt := 15) hx hb dX21_canEncode_1 (by decide) (fun c1 => ?_) (fun c1 => ?_)
  · have hm := mr_if c1 hm
    refine lv_iconst (v := 0) hx hb dX21_canEncode_15 (by decide) ?_
    obtain rfl := Option.some.inj hm
    subst hQ0
    exact W.zret (v := 0) hx hb hr rfl (fun t ht hW => ⟨rfl, ht⟩) (fun q h => by cases h) dX21_canEncode_16
  · have hm := mr_un c1 hm
    refine lv_iload_n hx hb dX21_canEncode_4 rfl (lv_at hl 0 rfl) ?_
    refine lv_sipush (v := 255) hx hb dX21_canEncode_5 (by decide) ?_
    refine lv_icmp_gt (tgt := 15) hx hb dX21_canEncode_8 (by decide) (fun c2 => ?_) (fun c2 => ?_)
    · have hm := mr_if c2 hm
      refine lv_iconst (v := 0) hx hb dX21_canEncode_15 (by decide) ?_
      obtain rfl := Option.some.inj hm
      subst hQ0
      exact W.zret (v := 0) hx hb hr rfl (fun t ht hW => ⟨rfl, ht⟩) (fun q h => by cases h) dX21_canEncode_16
    · have hm := mr_un c2 hm
      refine lv_iconst (v := 1) hx hb dX21_canEncode_11 (by decide) ?_
      refine lv_goto (tgt := 16) hx hb dX21_canEncode_12 (by decide) ?_
      obtain rfl := Option.some.inj hm
      subst hQ0
      exact W.zret (v := 1) hx hb hr rfl (fun t ht hW => ⟨rfl, ht⟩) (fun q h => by cases h) dX21_canEncode_16
set_option maxHeartbeats 4000000 in
set_option maxRecDepth 100000 in
theorem kX21_indexOfChar (l : Launch) (htr : l.stackTraces = false) (dC : Nat → ClassId) (dI : Nat → Nat → Nat) (adK adV : Nat → Nat) (cI cB cJ cZ cQ : ClassId) (a0 : Nat) (a1 : Int32) (a2 : Int32) (a3 : Int32) (res : Int32) (hm : m_X21_indexOfChar a0 a1 a2 a3 = some res) : Met l yX21_indexOfChar wsX21_indexOfChar (rmX21_indexOfChar 0 0) (pcR (sr_Z adK adV) (dC, dI) srCl [(cI, .int), (cB, .byte), (cJ, .long), (cZ, .boolean), (cQ, .object "SchemaReader$Schema")] [.ref (adV a0), .int a1, .int a2, .int a3] []) (k2_QcV (.int res)) 0 0 (fun _ => False) := by
  refine Met.ofW (cc := cX21_indexOfChar) (maxL := 6) (ret := (some .int)) (by decide) rfl ?_
  intro p e s m args below meth c s₁ B hml hv
  obtain ⟨rfl, hP, hK, hz0⟩ := hv
  have hx := B.exec
  have hb := B.bytes
  have hr := B.returns
  have hts := atoms_spec (ws := wsX21_indexOfChar) B.pre
  have hown : s.vm.findClass RX21 = some m.cls := findClass_of_methodNamed B.named
  have hlocks := B.notSynchronized
  have hS : va_S (fun _ => False) s.heap s.heap [] := va_S.rf
  generalize hQ0 : MQ below (k2_QcV (.int res)) [.ref (adV a0), .int a1, .int a2, .int a3].toArray s 0 0 (fun _ => False) = Q0
  have hl := lv_entry [.ref (adV a0), .int a1, .int a2, .int a3] (n := 6) (Nat.le_of_ble_eq_true rfl)
  rw [lg_entry_eq]
  generalize (lg_sl [.ref (adV a0), .int a1, .int a2, .int a3] ++ List.replicate (6 - (lg_sl [.ref (adV a0), .int a1, .int a2, .int a3]).length) Slot.unset).toArray = ls at hl ⊢
  have hl : lv_has ls 6 [(0, .ref (adV a0)), (1, .int a1), (2, .int a2), (3, .int a3)] := hl
  unfold m_X21_indexOfChar at hm
  refine lv_iload_n hx hb dX21_indexOfChar_0 rfl (lv_at hl 1 rfl) ?_
  refine lv_i2b hx hb dX21_indexOfChar_1 rfl ?_
  refine lv_istore (lv' := [(4, .int ((a1 : Int32).toInt8.toInt32)), (0, .ref (adV a0)), (1, .int a1), (2, .int a2), (3, .int a3)]) hx hb dX21_indexOfChar_2 hl (by decide) rfl (fun ls hl => ?_)
  refine lv_iload_n hx hb dX21_indexOfChar_4 rfl (lv_at hl 3 rfl) ?_
  have j7 : ∀ (n7 : Nat) (x0 : Nat) (x3 : Int32) (x4 : Int32) (x5 : Int32) (ls : Array Slot), lv_has ls 6 [(0, .ref (adV x0)), (3, .int x3), (4, .int x4), (5, .int x5)] → m_X21_indexOfChar_7 n7 x0 x3 x4 x5 = some res → W p l e (headSpec wsX21_indexOfChar (rmX21_indexOfChar 0 0)).room s m [.ref (adV a0), .int a1, .int a2, .int a3].toArray below meth c s.heap [] 0 0 Q0 (F0 m 7 ls []) := by
    intro n7
    induction n7 with
    | zero => intro x0 x3 x4 x5 ls hl hm; exact nomatch (show (none : Option _) = some res from hm)
    | succ n7 ih7 =>
      intro x0 x3 x4 x5 ls hl hm
      rw [m_X21_indexOfChar_7] at hm
      refine lv_iload hx hb dX21_indexOfChar_7 (lv_at hl 3 rfl) ?_
      refine lv_iload_n hx hb dX21_indexOfChar_9 rfl (lv_at hl 1 rfl) ?_
      refine lv_icmp_ge (tgt := 31) hx hb dX21_indexOfChar_10 (by decide) (fun c1 => ?_) (fun c1 => ?_)
      · have hm := mr_if c1 hm
        refine lv_iconst (v := -1) hx hb dX21_indexOfChar_31 (by decide) ?_
        obtain rfl := Option.some.inj hm
        subst hQ0
        exact W.iret (v := (-1)) hx hb hr (fun t ht hW => ⟨rfl, ht⟩) (fun q h => by cases h) dX21_indexOfChar_32
      · have hm := mr_un c1 hm
        refine lv_aload_n hx hb dX21_indexOfChar_13 rfl (lv_at hl 0 rfl) ?_
        refine lv_iload hx hb dX21_indexOfChar_14 (lv_at hl 3 rfl) ?_
        obtain ⟨h2, hm⟩ := mr_bs hm
        obtain ⟨h3, hm⟩ := mr_bd hm
        refine va_tb hx hb (hz0.1 x0 h2).1.2.2.2 hS h3 rfl dX21_indexOfChar_16 ?_
        refine lv_iload hx hb dX21_indexOfChar_17 (lv_at hl 2 rfl) ?_
        refine lv_icmp_ne (tgt := 25) hx hb dX21_indexOfChar_19 (by decide) (fun c4 => ?_) (fun c4 => ?_)
        · have hm := mr_un c4 hm
          refine lv_iinc (v := x5 + 1) (lv' := [(5, .int (x5 + 1)), (0, .ref (adV x0)), (3, .int x3), (4, .int x4)]) hx hb dX21_indexOfChar_25 hl (k := 3) rfl rfl (by decide) rfl (fun ls hl => ?_)
          refine lv_goto (tgt := 7) hx hb dX21_indexOfChar_28 (by decide) ?_
          exact ih7 x0 x3 x4 (x5 + 1) ls (lv_sub hl [1, 2, 3, 0] rfl) hm
        · have hm := mr_if c4 hm
          refine lv_iload hx hb dX21_indexOfChar_22 (lv_at hl 3 rfl) ?_
          obtain rfl := Option.some.inj hm
          subst hQ0
          exact W.iret (v := x5) hx hb hr (fun t ht hW => ⟨rfl, ht⟩) (fun q h => by cases h) dX21_indexOfChar_24
  refine lv_istore (lv' := [(5, .int a2), (4, .int ((a1 : Int32).toInt8.toInt32)), (0, .ref (adV a0)), (1, .int a1), (2, .int a2), (3, .int a3)]) hx hb dX21_indexOfChar_5 hl (by decide) rfl (fun ls hl => ?_)
  exact j7 sr_fuel a0 a3 ((a1 : Int32).toInt8.toInt32) a2 ls (lv_sub hl [2, 5, 1, 0] rfl) hm
set_option maxHeartbeats 4000000 in
set_option maxRecDepth 100000 in
theorem kX21_indexOf (l : Launch) (htr : l.stackTraces = false) (dC : Nat → ClassId) (dI : Nat → Nat → Nat) (adK adV : Nat → Nat) (cI cB cJ cZ cQ : ClassId) (a0 : Nat) (a1 : Int32) (a2 : Int32) (a3 : Int32) (res : Int32) (hm : m_X21_indexOf a0 a1 a2 a3 = some res) : Met l yX21_indexOf wsX21_indexOf (rmX21_indexOf 0 0) (pcR (sr_Z adK adV) (dC, dI) srCl [(cI, .int), (cB, .byte), (cJ, .long), (cZ, .boolean), (cQ, .object "SchemaReader$Schema")] [.ref (adV a0), .int a1, .int a2, .int a3] []) (k2_QcV (.int res)) 0 0 (fun _ => False) := by
  refine Met.ofW (cc := cX21_indexOf) (maxL := 4) (ret := (some .int)) (by decide) rfl ?_
  intro p e s m args below meth c s₁ B hml hv
  obtain ⟨rfl, hP, hK, hz0⟩ := hv
  have hx := B.exec
  have hb := B.bytes
  have hr := B.returns
  have hts := atoms_spec (ws := wsX21_indexOf) B.pre
  have hown : s.vm.findClass RX21 = some m.cls := findClass_of_methodNamed B.named
  have hlocks := B.notSynchronized
  have hS : va_S (fun _ => False) s.heap s.heap [] := va_S.rf
  generalize hQ0 : MQ below (k2_QcV (.int res)) [.ref (adV a0), .int a1, .int a2, .int a3].toArray s 0 0 (fun _ => False) = Q0
  have hl := lv_entry [.ref (adV a0), .int a1, .int a2, .int a3] (n := 4) (Nat.le_of_ble_eq_true rfl)
  rw [lg_entry_eq]
  generalize (lg_sl [.ref (adV a0), .int a1, .int a2, .int a3] ++ List.replicate (4 - (lg_sl [.ref (adV a0), .int a1, .int a2, .int a3]).length) Slot.unset).toArray = ls at hl ⊢
  have hl : lv_has ls 4 [(0, .ref (adV a0)), (1, .int a1), (2, .int a2), (3, .int a3)] := hl
  unfold m_X21_indexOf at hm
  refine lv_iload_n hx hb dX21_indexOf_0 rfl (lv_at hl 1 rfl) ?_
  obtain ⟨r1, hz1, hm⟩ := mr_bind hm
  refine mr_pS (As := [.int a1]) (rest := []) (sr_okZ adK adV) ⟨hx, hb, hml, hown, hts⟩ (kX21_canEncode l htr dC dI adK adV cI cB cJ cZ cQ  a1 r1 hz1) (va_cwS 1 hts (g21_88 _) rfl rfl rfl (by decide +kernel) ⟨(by show 0 + 1 ≤ 1; omega), (by show 8 + (1 + 11) + (0) ≤ 25; omega)⟩) hS hP hK hz0 [] rfl rfl rfl hl.1 (Nat.le_of_ble_eq_true rfl) dX21_indexOf_1 ⟨Nat.zero_le _, Nat.zero_le _⟩ ?_
  refine lv_if_ne (tgt := 9) hx hb dX21_indexOf_4 (by decide) (fun c2 => ?_) (fun c2 => ?_)
  · have hm := mr_un c2 hm
    refine lv_iload_n hx hb dX21_indexOf_9 rfl (lv_at hl 2 rfl) ?_
    refine lv_iconst (v := 0) hx hb dX21_indexOf_10 (by decide) ?_
    refine va_mmax hx hb (hml.trans hl.1.symm) hown (hts _ (List.mem_cons_of_mem _ (wm21_92 _ (List.mem_of_getElem? (i := 0) rfl)))) (hts _ (List.mem_cons_of_mem _ (wm21_92 _ (List.mem_of_getElem? (i := 1) rfl)))) (hts _ (List.mem_cons_of_mem _ (wm21_92 _ (List.mem_of_getElem? (i := 2) rfl)))) (hts _ (List.mem_cons_of_mem _ (wm21_92 _ (List.mem_of_getElem? (i := 3) rfl)))) (Nat.le_of_ble_eq_true rfl) (Nat.le_of_ble_eq_true rfl) (Nat.zero_le _) (Nat.zero_le _) dX21_indexOf_11 ?_
    refine lv_istore_n (lv' := [(2, .int (if a2 < 0 then 0 else a2)), (0, .ref (adV a0)), (1, .int a1), (3, .int a3)]) hx hb dX21_indexOf_14 rfl hl (by decide) rfl (fun ls hl => ?_)
    refine lv_iload_n hx hb dX21_indexOf_15 rfl (lv_at hl 3 rfl) ?_
    refine lv_aload_n hx hb dX21_indexOf_16 rfl (lv_at hl 1 rfl) ?_
    obtain ⟨h3, hm⟩ := mr_bs hm
    refine va_tlen hx hb (hz0.1 a0 h3).1.2.2.2 hS rfl dX21_indexOf_17 ?_
    refine va_mmin hx hb (hml.trans hl.1.symm) hown (hts _ (List.mem_cons_of_mem _ (wm21_38 _ (List.mem_of_getElem? (i := 0) rfl)))) (hts _ (List.mem_cons_of_mem _ (wm21_38 _ (List.mem_of_getElem? (i := 1) rfl)))) (hts _ (List.mem_cons_of_mem _ (wm21_38 _ (List.mem_of_getElem? (i := 2) rfl)))) (hts _ (List.mem_cons_of_mem _ (wm21_38 _ (List.mem_of_getElem? (i := 3) rfl)))) (Nat.le_of_ble_eq_true rfl) (Nat.le_of_ble_eq_true rfl) (Nat.zero_le _) (Nat.zero_le _) dX21_indexOf_18 ?_
    refine lv_istore_n (lv' := [(3, .int (if (Int32.ofNat (lenS.getD a0 0)) < a3 then (Int32.ofNat (lenS.getD a0 0)) else a3)), (2, .int (if a2 < 0 then 0 else a2)), (0, .ref (adV a0)), (1, .int a1)]) hx hb dX21_indexOf_21 rfl hl (by decide) rfl (fun ls hl => ?_)
    refine lv_iload_n hx hb dX21_indexOf_22 rfl (lv_at hl 1 rfl) ?_
    refine lv_iload_n hx hb dX21_indexOf_23 rfl (lv_at hl 0 rfl) ?_
    refine lv_icmp_lt (tgt := 29) hx hb dX21_indexOf_24 (by decide) (fun c4 => ?_) (fun c4 => ?_)
    · have hm := mr_if c4 hm
      refine lv_aload_n hx hb dX21_indexOf_29 rfl (lv_at hl 2 rfl) ?_
      refine lv_iload_n hx hb dX21_indexOf_30 rfl (lv_at hl 3 rfl) ?_
      refine lv_iload_n hx hb dX21_indexOf_31 rfl (lv_at hl 1 rfl) ?_
      refine lv_iload_n hx hb dX21_indexOf_32 rfl (lv_at hl 0 rfl) ?_
      obtain ⟨r5, hz5, hm⟩ := mr_bind hm
      refine mr_pS (As := [.ref (adV a0), .int a1, .int (if a2 < 0 then 0 else a2), .int (if (Int32.ofNat (lenS.getD a0 0)) < a3 then (Int32.ofNat (lenS.getD a0 0)) else a3)]) (rest := []) (sr_okZ adK adV) ⟨hx, hb, hml, hown, hts⟩ (kX21_indexOfChar l htr dC dI adK adV cI cB cJ cZ cQ  a0 a1 (if a2 < 0 then 0 else a2) (if (Int32.ofNat (lenS.getD a0 0)) < a3 then (Int32.ofNat (lenS.getD a0 0)) else a3) r5 hz5) (va_cwS 4 hts (g21_95 _) rfl rfl rfl (by decide +kernel) ⟨(by show 0 + 1 ≤ 1; omega), (by show 8 + (6 + 11) + (0) ≤ 25; omega)⟩) hS hP hK hz0 [] rfl rfl rfl hl.1 (Nat.le_of_ble_eq_true rfl) dX21_indexOf_33 ⟨Nat.zero_le _, Nat.zero_le _⟩ ?_
      obtain rfl := Option.some.inj hm
      subst hQ0
      exact W.iret (v := r5) hx hb hr (fun t ht hW => ⟨rfl, ht⟩) (fun q h => by cases h) dX21_indexOf_36
    · have hm := mr_un c4 hm
      refine lv_iconst (v := -1) hx hb dX21_indexOf_27 (by decide) ?_
      obtain rfl := Option.some.inj hm
      subst hQ0
      exact W.iret (v := (-1)) hx hb hr (fun t ht hW => ⟨rfl, ht⟩) (fun q h => by cases h) dX21_indexOf_28
  · have hm := mr_if c2 hm
    refine lv_iconst (v := -1) hx hb dX21_indexOf_7 (by decide) ?_
    obtain rfl := Option.some.inj hm
    subst hQ0
    exact W.iret (v := (-1)) hx hb hr (fun t ht hW => ⟨rfl, ht⟩) (fun q h => by cases h) dX21_indexOf_8
set_option maxHeartbeats 4000000 in
set_option maxRecDepth 100000 in
theorem kX20_indexOf2 (l : Launch) (htr : l.stackTraces = false) (dC : Nat → ClassId) (dI : Nat → Nat → Nat) (adK adV : Nat → Nat) (cI cB cJ cZ cQ : ClassId) (as : Nat) (a0 : Int32) (a1 : Int32) (res : Int32) (hm : m_X20_indexOf2 as a0 a1 = some res) : Met l yX20_indexOf2 wsX20_indexOf2 (rmX20_indexOf2 0 0) (pcR (sr_Z adK adV) (dC, dI) srCl [(cI, .int), (cB, .byte), (cJ, .long), (cZ, .boolean), (cQ, .object "SchemaReader$Schema")] [.ref (adK as), .int a0, .int a1] []) (k2_QcV (.int res)) 0 0 (fun _ => False) := by
  refine Met.ofW (cc := cX20_indexOf2) (maxL := 3) (ret := (some .int)) (by decide) rfl ?_
  intro p e s m args below meth c s₁ B hml hv
  obtain ⟨rfl, hP, hK, hz0⟩ := hv
  have hx := B.exec
  have hb := B.bytes
  have hr := B.returns
  have hts := atoms_spec (ws := wsX20_indexOf2) B.pre
  have hown : s.vm.findClass RX20 = some m.cls := findClass_of_methodNamed B.named
  have hlocks := B.notSynchronized
  have hS : va_S (fun _ => False) s.heap s.heap [] := va_S.rf
  generalize hQ0 : MQ below (k2_QcV (.int res)) [.ref (adK as), .int a0, .int a1].toArray s 0 0 (fun _ => False) = Q0
  have hl := lv_entry [.ref (adK as), .int a0, .int a1] (n := 3) (Nat.le_of_ble_eq_true rfl)
  rw [lg_entry_eq]
  generalize (lg_sl [.ref (adK as), .int a0, .int a1] ++ List.replicate (3 - (lg_sl [.ref (adK as), .int a0, .int a1]).length) Slot.unset).toArray = ls at hl ⊢
  have hl : lv_has ls 3 [(0, .ref (adK as)), (1, .int a0), (2, .int a1)] := hl
  unfold m_X20_indexOf2 at hm
  refine lv_aload_n hx hb dX20_indexOf2_0 rfl (lv_at hl 0 rfl) ?_
  obtain ⟨h2, hm⟩ := mr_bs hm
  obtain ⟨r1, hz1, hm⟩ := mr_bind hm
  refine mr_pV (As := []) (rest := []) (sr_okZ adK adV) ⟨hx, hb, hml, hown, hts⟩ (kX20_isLatin1 l htr dC dI adK adV cI cB cJ cZ cQ  as r1 hz1) (cwV 0 hts (g20_492 _) rfl rfl rfl (by decide +kernel) ⟨(by show 0 + 1 ≤ 2; omega), (by show 8 + (1 + 11) + (0) ≤ 48; omega)⟩) hS hP hK hz0 [] rfl (sr_recv (hz0.1 as h2).1.1 hS) rfl rfl hl.1 (Nat.le_of_ble_eq_true rfl) dX20_indexOf2_1 ⟨Nat.zero_le _, Nat.zero_le _⟩ ?_
  refine lv_if_eq (tgt := 23) hx hb dX20_indexOf2_4 (by decide) (fun c3 => ?_) (fun c3 => ?_)
  · have hm := mr_if c3 hm
    refine lv_aload_n hx hb dX20_indexOf2_23 rfl (lv_at hl 0 rfl) ?_
    obtain ⟨h4, hm⟩ := mr_bs hm
    refine vk_getf hx hb (hz0.1 as h4).1.2.2.1 hS hown (hts _ (List.mem_cons_of_mem _ wf20_9)) (fun _ h9 => h9) dX20_indexOf2_24 ?_
    refine lv_iload_n hx hb dX20_indexOf2_27 rfl (lv_at hl 1 rfl) ?_
    refine lv_iload_n hx hb dX20_indexOf2_28 rfl (lv_at hl 2 rfl) ?_
    refine lv_aload_n hx hb dX20_indexOf2_29 rfl (lv_at hl 0 rfl) ?_
    obtain ⟨h6, hm⟩ := mr_bs hm
    obtain ⟨r5, hz5, hm⟩ := mr_bind hm
    refine mr_pV (As := []) (rest := [.int a1, .int a0, .ref (adV as)]) (sr_okZ adK adV) ⟨hx, hb, hml, hown, hts⟩ (kX20_length l htr dC dI adK adV cI cB cJ cZ cQ  as r5 hz5) (cwV 0 hts (g20_505 _) rfl rfl rfl (by decide +kernel) ⟨(by show 1 + 1 ≤ 2; omega), (by show 8 + (1 + 11) + (20) ≤ 48; omega)⟩) hS hP hK hz0 [] rfl (sr_recv (hz0.1 as h6).1.1 hS) rfl rfl hl.1 (Nat.le_of_ble_eq_true rfl) dX20_indexOf2_30 ⟨Nat.zero_le _, Nat.zero_le _⟩ ?_
    exact nomatch (show (none : Option _) = some res from hm)
  · have hm := mr_un c3 hm
    refine lv_aload_n hx hb dX20_indexOf2_7 rfl (lv_at hl 0 rfl) ?_
    obtain ⟨h7, hm⟩ := mr_bs hm
    refine vk_getf hx hb (hz0.1 as h7).1.2.2.1 hS hown (hts _ (List.mem_cons_of_mem _ wf20_9)) (fun _ h9 => h9) dX20_indexOf2_8 ?_
    refine lv_iload_n hx hb dX20_indexOf2_11 rfl (lv_at hl 1 rfl) ?_
    refine lv_iload_n hx hb dX20_indexOf2_12 rfl (lv_at hl 2 rfl) ?_
    refine lv_aload_n hx hb dX20_indexOf2_13 rfl (lv_at hl 0 rfl) ?_
    obtain ⟨h9, hm⟩ := mr_bs hm
    obtain ⟨r8, hz8, hm⟩ := mr_bind hm
    refine mr_pV (As := []) (rest := [.int a1, .int a0, .ref (adV as)]) (sr_okZ adK adV) ⟨hx, hb, hml, hown, hts⟩ (kX20_length l htr dC dI adK adV cI cB cJ cZ cQ  as r8 hz8) (cwV 0 hts (g20_505 _) rfl rfl rfl (by decide +kernel) ⟨(by show 1 + 1 ≤ 2; omega), (by show 8 + (1 + 11) + (20) ≤ 48; omega)⟩) hS hP hK hz0 [] rfl (sr_recv (hz0.1 as h9).1.1 hS) rfl rfl hl.1 (Nat.le_of_ble_eq_true rfl) dX20_indexOf2_14 ⟨Nat.zero_le _, Nat.zero_le _⟩ ?_
    obtain ⟨r10, hz10, hm⟩ := mr_bind hm
    refine mr_pS (As := [.ref (adV as), .int a0, .int a1, .int r8]) (rest := []) (sr_okZ adK adV) ⟨hx, hb, hml, hown, hts⟩ (kX21_indexOf l htr dC dI adK adV cI cB cJ cZ cQ  as a0 a1 r8 r10 hz10) (va_cwS 4 hts (g20_637 _) rfl rfl rfl (by decide +kernel) ⟨(by show 1 + 1 ≤ 2; omega), (by show 8 + (4 + 11) + (25) ≤ 48; omega)⟩) hS hP hK hz0 [] rfl rfl rfl hl.1 (Nat.le_of_ble_eq_true rfl) dX20_indexOf2_17 ⟨Nat.zero_le _, Nat.zero_le _⟩ ?_
    refine lv_goto (tgt := 36) hx hb dX20_indexOf2_20 (by decide) ?_
    obtain rfl := Option.some.inj hm
    subst hQ0
    exact W.iret (v := r10) hx hb hr (fun t ht hW => ⟨rfl, ht⟩) (fun q h => by cases h) dX20_indexOf2_36
set_option maxHeartbeats 4000000 in
set_option maxRecDepth 100000 in
theorem kX20_indexOf (l : Launch) (htr : l.stackTraces = false) (dC : Nat → ClassId) (dI : Nat → Nat → Nat) (adK adV : Nat → Nat) (cI cB cJ cZ cQ : ClassId) (as : Nat) (a0 : Int32) (res : Int32) (hm : m_X20_indexOf as a0 = some res) : Met l yX20_indexOf wsX20_indexOf (rmX20_indexOf 0 0) (pcR (sr_Z adK adV) (dC, dI) srCl [(cI, .int), (cB, .byte), (cJ, .long), (cZ, .boolean), (cQ, .object "SchemaReader$Schema")] [.ref (adK as), .int a0] []) (k2_QcV (.int res)) 0 0 (fun _ => False) := by
  refine Met.ofW (cc := cX20_indexOf) (maxL := 2) (ret := (some .int)) (by decide) rfl ?_
  intro p e s m args below meth c s₁ B hml hv
  obtain ⟨rfl, hP, hK, hz0⟩ := hv
  have hx := B.exec
  have hb := B.bytes
  have hr := B.returns
  have hts := atoms_spec (ws := wsX20_indexOf) B.pre
  have hown : s.vm.findClass RX20 = some m.cls := findClass_of_methodNamed B.named
  have hlocks := B.notSynchronized
  have hS : va_S (fun _ => False) s.heap s.heap [] := va_S.rf
  generalize hQ0 : MQ below (k2_QcV (.int res)) [.ref (adK as), .int a0].toArray s 0 0 (fun _ => False) = Q0
  have hl := lv_entry [.ref (adK as), .int a0] (n := 2) (Nat.le_of_ble_eq_true rfl)
  rw [lg_entry_eq]
  generalize (lg_sl [.ref (adK as), .int a0] ++ List.replicate (2 - (lg_sl [.ref (adK as), .int a0]).length) Slot.unset).toArray = ls at hl ⊢
  have hl : lv_has ls 2 [(0, .ref (adK as)), (1, .int a0)] := hl
  unfold m_X20_indexOf at hm
  refine lv_aload_n hx hb dX20_indexOf_0 rfl (lv_at hl 0 rfl) ?_
  refine lv_iload_n hx hb dX20_indexOf_1 rfl (lv_at hl 1 rfl) ?_
  refine lv_iconst (v := 0) hx hb dX20_indexOf_2 (by decide) ?_
  obtain ⟨h2, hm⟩ := mr_bs hm
  obtain ⟨r1, hz1, hm⟩ := mr_bind hm
  refine mr_pV (As := [.int a0, .int 0]) (rest := []) (sr_okZ adK adV) ⟨hx, hb, hml, hown, hts⟩ (kX20_indexOf2 l htr dC dI adK adV cI cB cJ cZ cQ  as a0 0 r1 hz1) (cwV 2 hts (g20_633 _) rfl rfl rfl (by decide +kernel) ⟨(by show 2 + 1 ≤ 3; omega), (by show 8 + (3 + 11) + (48) ≤ 70; omega)⟩) hS hP hK hz0 [] rfl (sr_recv (hz0.1 as h2).1.1 hS) rfl rfl hl.1 (Nat.le_of_ble_eq_true rfl) dX20_indexOf_3 ⟨Nat.zero_le _, Nat.zero_le _⟩ ?_
  obtain rfl := Option.some.inj hm
  subst hQ0
  exact W.iret (v := r1) hx hb hr (fun t ht hW => ⟨rfl, ht⟩) (fun q h => by cases h) dX20_indexOf_6
