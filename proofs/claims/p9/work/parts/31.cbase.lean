set_option maxHeartbeats 4000000 in
set_option maxRecDepth 100000 in
theorem kX8_entry (l : Launch) (htr : l.stackTraces = false) (dC : Nat → ClassId) (dI : Nat → Nat → Nat) (adK adV : Nat → Nat) (cI cB cJ cZ cQ : ClassId) (rq_row : Nat) (r_row : Nat → Int32) (rn : Nat) (a1 : Int32) (res : Int32) (hm : m_X8_entry r_row rn a1 = some res) : Met l yX8_entry wsX8_entry (rmX8_entry 0 0) (pcR (sr_Z adK adV) (dC, dI) srCl [(cI, .int), (cB, .byte), (cJ, .long), (cZ, .boolean), (cQ, .object "SchemaReader$Schema")] [.ref rq_row, .int a1] [(rq_row, .inl (cI, rn, .inl r_row))]) (k2_QcV (.int res)) 0 0 (fun _ => False) := by
  refine Met.ofW (cc := cX8_entry) (maxL := 2) (ret := (some .int)) (by decide) rfl ?_
  intro p e s m args below meth c s₁ B hml hv
  obtain ⟨rfl, hP, hK, hz0⟩ := hv
  have hx := B.exec
  have hb := B.bytes
  have hr := B.returns
  have hts := atoms_spec (ws := wsX8_entry) B.pre
  have hown : s.vm.findClass RX8 = some m.cls := findClass_of_methodNamed B.named
  have hlocks := B.notSynchronized
  have hS : va_S (fun _ => False) s.heap s.heap [] := va_S.rf
  generalize hQ0 : MQ below (k2_QcV (.int res)) [.ref rq_row, .int a1].toArray s 0 0 (fun _ => False) = Q0
  have hl := lv_entry [.ref rq_row, .int a1] (n := 2) (Nat.le_of_ble_eq_true rfl)
  rw [lg_entry_eq]
  generalize (lg_sl [.ref rq_row, .int a1] ++ List.replicate (2 - (lg_sl [.ref rq_row, .int a1]).length) Slot.unset).toArray = ls at hl ⊢
  have hl : lv_has ls 2 [(0, .ref rq_row), (1, .int a1)] := hl
  unfold m_X8_entry at hm
  refine lv_iload_n hx hb dX8_entry_0 rfl (lv_at hl 1 rfl) ?_
  refine lv_if_lt (tgt := 16) hx hb dX8_entry_1 (by decide) (fun c1 => ?_) (fun c1 => ?_)
  · have hm := mr_if c1 hm
    refine lv_iconst (v := -1) hx hb dX8_entry_16 (by decide) ?_
    obtain rfl := Option.some.inj hm
    subst hQ0
    exact W.iret (v := (-1)) hx hb hr (fun t ht hW => ⟨rfl, ht⟩) (fun q h => by cases h) dX8_entry_17
  · have hm := mr_un c1 hm
    refine lv_iload_n hx hb dX8_entry_4 rfl (lv_at hl 1 rfl) ?_
    refine lv_aload_n hx hb dX8_entry_5 rfl (lv_at hl 0 rfl) ?_
    refine va_alen hx hb hK hP 0 0 rfl rfl rfl dX8_entry_6 ?_
    refine lv_icmp_ge (tgt := 16) hx hb dX8_entry_7 (by decide) (fun c2 => ?_) (fun c2 => ?_)
    · have hm := mr_if c2 hm
      refine lv_iconst (v := -1) hx hb dX8_entry_16 (by decide) ?_
      obtain rfl := Option.some.inj hm
      subst hQ0
      exact W.iret (v := (-1)) hx hb hr (fun t ht hW => ⟨rfl, ht⟩) (fun q h => by cases h) dX8_entry_17
    · have hm := mr_un c2 hm
      refine lv_aload_n hx hb dX8_entry_10 rfl (lv_at hl 0 rfl) ?_
      refine lv_iload_n hx hb dX8_entry_11 rfl (lv_at hl 1 rfl) ?_
      obtain ⟨h3, hm⟩ := mr_bd hm
      refine va_iald hx hb hK hP 0 0 rfl rfl h3 dX8_entry_12 ?_
      refine lv_goto (tgt := 17) hx hb dX8_entry_13 (by decide) ?_
      obtain rfl := Option.some.inj hm
      subst hQ0
      exact W.iret (v := (r_row (a1 : Int32).toNatClampNeg)) hx hb hr (fun t ht hW => ⟨rfl, ht⟩) (fun q h => by cases h) dX8_entry_17
set_option maxHeartbeats 4000000 in
set_option maxRecDepth 100000 in
theorem kX8_enter (l : Launch) (htr : l.stackTraces = false) (dC : Nat → ClassId) (dI : Nat → Nat → Nat) (adK adV : Nat → Nat) (cI cB cJ cZ cQ : ClassId) (rq_row : Nat) (r_row : Nat → Int32) (sz : Nat) (rn : Nat) (a1 : Int32) (a2 : Int32) (res : (Nat → Int32)) (hm : m_X8_enter r_row rn a1 a2 = some res) : Met l yX8_enter wsX8_enter (rmX8_enter 0 0) (pcW (sr_Z adK adV) (dC, dI) srCl [(cI, .int), (cB, .byte), (cJ, .long), (cZ, .boolean), (cQ, .object "SchemaReader$Schema")] [.ref rq_row, .int a1, .int a2] [(rq_row, .inl (cI, rn, .inl r_row))] sz) (va_Qv (fun u' => u' = res) (pcB (dC, dI) srCl [(cI, .int), (cB, .byte), (cJ, .long), (cZ, .boolean), (cQ, .object "SchemaReader$Schema")] (fun u : (Nat → Int32) => [(rq_row, .inl (cI, rn, .inl u))]) (va_A [(rq_row, .inl (cI, rn, .inl r_row))] sz)) (va_A [(rq_row, .inl (cI, rn, .inl r_row))] sz)) 0 0 (va_A [(rq_row, .inl (cI, rn, .inl r_row))] sz) := by
  refine Met.ofW (cc := cX8_enter) (maxL := 3) (ret := none) (by decide) rfl ?_
  intro p e s m args below meth c s₁ B hml hv
  obtain ⟨rfl, hsz, hP, hK, hD0, hz0⟩ := hv
  have hx := B.exec
  have hb := B.bytes
  have hr := B.returns
  have hts := atoms_spec (ws := wsX8_enter) B.pre
  have hown : s.vm.findClass RX8 = some m.cls := findClass_of_methodNamed B.named
  have hlocks := B.notSynchronized
  subst hsz
  have hD := hD0.self (sz := s.heap.size)
  generalize hAe : va_A [(rq_row, .inl (cI, rn, .inl r_row))] s.heap.size = A at hD hz0 ⊢
  have hA : ∀ q : Nat, s.heap.size ≤ q → A q := fun q h => by rw [← hAe]; exact Or.inr h
  have hS : va_S A s.heap s.heap [] := va_S.rf
  generalize hQ0 : MQ below (va_Qv (fun u' => u' = res) (pcB (dC, dI) srCl [(cI, .int), (cB, .byte), (cJ, .long), (cZ, .boolean), (cQ, .object "SchemaReader$Schema")] (fun u : (Nat → Int32) => [(rq_row, .inl (cI, rn, .inl u))]) A) A) [.ref rq_row, .int a1, .int a2].toArray s 0 0 A = Q0
  have hl := lv_entry [.ref rq_row, .int a1, .int a2] (n := 3) (Nat.le_of_ble_eq_true rfl)
  rw [lg_entry_eq]
  generalize (lg_sl [.ref rq_row, .int a1, .int a2] ++ List.replicate (3 - (lg_sl [.ref rq_row, .int a1, .int a2]).length) Slot.unset).toArray = ls at hl ⊢
  have hl : lv_has ls 3 [(0, .ref rq_row), (1, .int a1), (2, .int a2)] := hl
  unfold m_X8_enter at hm
  refine lv_iload_n hx hb dX8_enter_0 rfl (lv_at hl 1 rfl) ?_
  refine lv_if_lt (tgt := 14) hx hb dX8_enter_1 (by decide) (fun c1 => ?_) (fun c1 => ?_)
  · have hm := mr_if c1 hm
    obtain rfl := Option.some.inj hm
    subst hQ0
    exact W.vret hx hb hr (fun t ht hW => ⟨⟨r_row, rfl, rfl, by rw [ht]; exact hP, va_K.moved hW.alike hK, hD⟩, hS.F ht⟩) hS.2.2 dX8_enter_14
  · have hm := mr_un c1 hm
    refine lv_iload_n hx hb dX8_enter_4 rfl (lv_at hl 1 rfl) ?_
    refine lv_aload_n hx hb dX8_enter_5 rfl (lv_at hl 0 rfl) ?_
    refine va_alen hx hb hK hP 0 0 rfl rfl rfl dX8_enter_6 ?_
    refine lv_icmp_ge (tgt := 14) hx hb dX8_enter_7 (by decide) (fun c2 => ?_) (fun c2 => ?_)
    · have hm := mr_if c2 hm
      obtain rfl := Option.some.inj hm
      subst hQ0
      exact W.vret hx hb hr (fun t ht hW => ⟨⟨r_row, rfl, rfl, by rw [ht]; exact hP, va_K.moved hW.alike hK, hD⟩, hS.F ht⟩) hS.2.2 dX8_enter_14
    · have hm := mr_un c2 hm
      refine lv_aload_n hx hb dX8_enter_10 rfl (lv_at hl 0 rfl) ?_
      refine lv_iload_n hx hb dX8_enter_11 rfl (lv_at hl 1 rfl) ?_
      refine lv_iload_n hx hb dX8_enter_12 rfl (lv_at hl 2 rfl) ?_
      obtain ⟨h3, hm⟩ := mr_bd hm
      refine va_iast hx hb hK hP hD hS 0 0 rfl rfl h3 dX8_enter_13 (fun H locs hP hD hS => ?_)
      have hP : va_P (dC, dI) srCl [(rq_row, .inl (cI, rn, .inl (upd r_row (a1 : Int32).toNatClampNeg a2)))] H := hP
      have hD : va_D A [(rq_row, .inl (cI, rn, .inl (upd r_row (a1 : Int32).toNatClampNeg a2)))] := hD
      obtain rfl := Option.some.inj hm
      subst hQ0
      exact W.vret hx hb hr (fun t ht hW => ⟨⟨(upd r_row (a1 : Int32).toNatClampNeg a2), rfl, rfl, by rw [ht]; exact hP, va_K.moved hW.alike hK, hD⟩, hS.F ht⟩) hS.2.2 dX8_enter_14
set_option maxHeartbeats 4000000 in
set_option maxRecDepth 100000 in
theorem kX8_isDigit (l : Launch) (htr : l.stackTraces = false) (dC : Nat → ClassId) (dI : Nat → Nat → Nat) (adK adV : Nat → Nat) (cI cB cJ cZ cQ : ClassId) (a0 : Int32) (res : Int32) (hm : m_X8_isDigit a0 = some res) : Met l yX8_isDigit wsX8_isDigit (rmX8_isDigit 0 0) (pcR (sr_Z adK adV) (dC, dI) srCl [(cI, .int), (cB, .byte), (cJ, .long), (cZ, .boolean), (cQ, .object "SchemaReader$Schema")] [.int a0] []) (k2_QcV (.int res)) 0 0 (fun _ => False) := by
  refine Met.ofW (cc := cX8_isDigit) (maxL := 1) (ret := (some .boolean)) (by decide) rfl ?_
  intro p e s m args below meth c s₁ B hml hv
  obtain ⟨rfl, hP, hK, hz0⟩ := hv
  have hx := B.exec
  have hb := B.bytes
  have hr := B.returns
  have hts := atoms_spec (ws := wsX8_isDigit) B.pre
  have hown : s.vm.findClass RX8 = some m.cls := findClass_of_methodNamed B.named
  have hlocks := B.notSynchronized
  have hS : va_S (fun _ => False) s.heap s.heap [] := va_S.rf
  generalize hQ0 : MQ below (k2_QcV (.int res)) [.int a0].toArray s 0 0 (fun _ => False) = Q0
  have hl := lv_entry [.int a0] (n := 1) (Nat.le_of_ble_eq_true rfl)
  rw [lg_entry_eq]
  generalize (lg_sl [.int a0] ++ List.replicate (1 - (lg_sl [.int a0]).length) Slot.unset).toArray = ls at hl ⊢
  have hl : lv_has ls 1 [(0, .int a0)] := hl
  unfold m_X8_isDigit at hm
  refine lv_iload_n hx hb dX8_isDigit_0 rfl (lv_at hl 0 rfl) ?_
  refine lv_bipush (v := 48) hx hb dX8_isDigit_1 (by decide) ?_
  refine lv_icmp_lt (tgt := 16) hx hb dX8_isDigit_3 (by decide) (fun c1 => ?_) (fun c1 => ?_)
  · have hm := mr_if c1 hm
    refine lv_iconst (v := 0) hx hb dX8_isDigit_16 (by decide) ?_
    obtain rfl := Option.some.inj hm
    subst hQ0
    exact W.zret (v := 0) hx hb hr rfl (fun t ht hW => ⟨rfl, ht⟩) (fun q h => by cases h) dX8_isDigit_17
  · have hm := mr_un c1 hm
    refine lv_iload_n hx hb dX8_isDigit_6 rfl (lv_at hl 0 rfl) ?_
    refine lv_bipush (v := 57) hx hb dX8_isDigit_7 (by decide) ?_
    refine lv_icmp_gt (tgt := 16) hx hb dX8_isDigit_9 (by decide) (fun c2 => ?_) (fun c2 => ?_)
    · have hm := mr_if c2 hm
      refine lv_iconst (v := 0) hx hb dX8_isDigit_16 (by decide) ?_
      obtain rfl := Option.some.inj hm
      subst hQ0
      exact W.zret (v := 0) hx hb hr rfl (fun t ht hW => ⟨rfl, ht⟩) (fun q h => by cases h) dX8_isDigit_17
    · have hm := mr_un c2 hm
      refine lv_iconst (v := 1) hx hb dX8_isDigit_12 (by decide) ?_
      refine lv_goto (tgt := 17) hx hb dX8_isDigit_13 (by decide) ?_
      obtain rfl := Option.some.inj hm
      subst hQ0
      exact W.zret (v := 1) hx hb hr rfl (fun t ht hW => ⟨rfl, ht⟩) (fun q h => by cases h) dX8_isDigit_17
set_option maxHeartbeats 4000000 in
set_option maxRecDepth 100000 in
theorem kX8_isLetter (l : Launch) (htr : l.stackTraces = false) (dC : Nat → ClassId) (dI : Nat → Nat → Nat) (adK adV : Nat → Nat) (cI cB cJ cZ cQ : ClassId) (a0 : Int32) (res : Int32) (hm : m_X8_isLetter a0 = some res) : Met l yX8_isLetter wsX8_isLetter (rmX8_isLetter 0 0) (pcR (sr_Z adK adV) (dC, dI) srCl [(cI, .int), (cB, .byte), (cJ, .long), (cZ, .boolean), (cQ, .object "SchemaReader$Schema")] [.int a0] []) (k2_QcV (.int res)) 0 0 (fun _ => False) := by
  refine Met.ofW (cc := cX8_isLetter) (maxL := 1) (ret := (some .boolean)) (by decide) rfl ?_
  intro p e s m args below meth c s₁ B hml hv
  obtain ⟨rfl, hP, hK, hz0⟩ := hv
  have hx := B.exec
  have hb := B.bytes
  have hr := B.returns
  have hts := atoms_spec (ws := wsX8_isLetter) B.pre
  have hown : s.vm.findClass RX8 = some m.cls := findClass_of_methodNamed B.named
  have hlocks := B.notSynchronized
  have hS : va_S (fun _ => False) s.heap s.heap [] := va_S.rf
  generalize hQ0 : MQ below (k2_QcV (.int res)) [.int a0].toArray s 0 0 (fun _ => False) = Q0
  have hl := lv_entry [.int a0] (n := 1) (Nat.le_of_ble_eq_true rfl)
  rw [lg_entry_eq]
  generalize (lg_sl [.int a0] ++ List.replicate (1 - (lg_sl [.int a0]).length) Slot.unset).toArray = ls at hl ⊢
  have hl : lv_has ls 1 [(0, .int a0)] := hl
  unfold m_X8_isLetter at hm
  refine lv_iload_n hx hb dX8_isLetter_0 rfl (lv_at hl 0 rfl) ?_
  refine lv_bipush (v := 97) hx hb dX8_isLetter_1 (by decide) ?_
  refine lv_icmp_lt (tgt := 12) hx hb dX8_isLetter_3 (by decide) (fun c1 => ?_) (fun c1 => ?_)
  · have hm := mr_if c1 hm
    refine lv_iload_n hx hb dX8_isLetter_12 rfl (lv_at hl 0 rfl) ?_
    refine lv_bipush (v := 65) hx hb dX8_isLetter_13 (by decide) ?_
    refine lv_icmp_lt (tgt := 28) hx hb dX8_isLetter_15 (by decide) (fun c2 => ?_) (fun c2 => ?_)
    · have hm := mr_if c2 hm
      refine lv_iconst (v := 0) hx hb dX8_isLetter_28 (by decide) ?_
      obtain rfl := Option.some.inj hm
      subst hQ0
      exact W.zret (v := 0) hx hb hr rfl (fun t ht hW => ⟨rfl, ht⟩) (fun q h => by cases h) dX8_isLetter_29
    · have hm := mr_un c2 hm
      refine lv_iload_n hx hb dX8_isLetter_18 rfl (lv_at hl 0 rfl) ?_
      refine lv_bipush (v := 90) hx hb dX8_isLetter_19 (by decide) ?_
      refine lv_icmp_gt (tgt := 28) hx hb dX8_isLetter_21 (by decide) (fun c3 => ?_) (fun c3 => ?_)
      · have hm := mr_if c3 hm
        refine lv_iconst (v := 0) hx hb dX8_isLetter_28 (by decide) ?_
        obtain rfl := Option.some.inj hm
        subst hQ0
        exact W.zret (v := 0) hx hb hr rfl (fun t ht hW => ⟨rfl, ht⟩) (fun q h => by cases h) dX8_isLetter_29
      · have hm := mr_un c3 hm
        refine lv_iconst (v := 1) hx hb dX8_isLetter_24 (by decide) ?_
        refine lv_goto (tgt := 29) hx hb dX8_isLetter_25 (by decide) ?_
        obtain rfl := Option.some.inj hm
        subst hQ0
        exact W.zret (v := 1) hx hb hr rfl (fun t ht hW => ⟨rfl, ht⟩) (fun q h => by cases h) dX8_isLetter_29
  · have hm := mr_un c1 hm
    refine lv_iload_n hx hb dX8_isLetter_6 rfl (lv_at hl 0 rfl) ?_
    refine lv_bipush (v := 122) hx hb dX8_isLetter_7 (by decide) ?_
    refine lv_icmp_le (tgt := 24) hx hb dX8_isLetter_9 (by decide) (fun c4 => ?_) (fun c4 => ?_)
    · have hm := mr_if c4 hm
      refine lv_iconst (v := 1) hx hb dX8_isLetter_24 (by decide) ?_
      refine lv_goto (tgt := 29) hx hb dX8_isLetter_25 (by decide) ?_
      obtain rfl := Option.some.inj hm
      subst hQ0
      exact W.zret (v := 1) hx hb hr rfl (fun t ht hW => ⟨rfl, ht⟩) (fun q h => by cases h) dX8_isLetter_29
    · have hm := mr_un c4 hm
      refine lv_iload_n hx hb dX8_isLetter_12 rfl (lv_at hl 0 rfl) ?_
      refine lv_bipush (v := 65) hx hb dX8_isLetter_13 (by decide) ?_
      refine lv_icmp_lt (tgt := 28) hx hb dX8_isLetter_15 (by decide) (fun c5 => ?_) (fun c5 => ?_)
      · have hm := mr_if c5 hm
        refine lv_iconst (v := 0) hx hb dX8_isLetter_28 (by decide) ?_
        obtain rfl := Option.some.inj hm
        subst hQ0
        exact W.zret (v := 0) hx hb hr rfl (fun t ht hW => ⟨rfl, ht⟩) (fun q h => by cases h) dX8_isLetter_29
      · have hm := mr_un c5 hm
        refine lv_iload_n hx hb dX8_isLetter_18 rfl (lv_at hl 0 rfl) ?_
        refine lv_bipush (v := 90) hx hb dX8_isLetter_19 (by decide) ?_
        refine lv_icmp_gt (tgt := 28) hx hb dX8_isLetter_21 (by decide) (fun c6 => ?_) (fun c6 => ?_)
        · have hm := mr_if c6 hm
          refine lv_iconst (v := 0) hx hb dX8_isLetter_28 (by decide) ?_
          obtain rfl := Option.some.inj hm
          subst hQ0
          exact W.zret (v := 0) hx hb hr rfl (fun t ht hW => ⟨rfl, ht⟩) (fun q h => by cases h) dX8_isLetter_29
        · have hm := mr_un c6 hm
          refine lv_iconst (v := 1) hx hb dX8_isLetter_24 (by decide) ?_
          refine lv_goto (tgt := 29) hx hb dX8_isLetter_25 (by decide) ?_
          obtain rfl := Option.some.inj hm
          subst hQ0
          exact W.zret (v := 1) hx hb hr rfl (fun t ht hW => ⟨rfl, ht⟩) (fun q h => by cases h) dX8_isLetter_29
set_option maxHeartbeats 4000000 in
set_option maxRecDepth 100000 in
theorem kX8_isPlace (l : Launch) (htr : l.stackTraces = false) (dC : Nat → ClassId) (dI : Nat → Nat → Nat) (adK adV : Nat → Nat) (cI cB cJ cZ cQ : ClassId) (a0 : Int32) (res : Int32) (hm : m_X8_isPlace a0 = some res) : Met l yX8_isPlace wsX8_isPlace (rmX8_isPlace 0 0) (pcR (sr_Z adK adV) (dC, dI) srCl [(cI, .int), (cB, .byte), (cJ, .long), (cZ, .boolean), (cQ, .object "SchemaReader$Schema")] [.int a0] []) (k2_QcV (.int res)) 0 0 (fun _ => False) := by
  refine Met.ofW (cc := cX8_isPlace) (maxL := 1) (ret := (some .boolean)) (by decide) rfl ?_
  intro p e s m args below meth c s₁ B hml hv
  obtain ⟨rfl, hP, hK, hz0⟩ := hv
  have hx := B.exec
  have hb := B.bytes
  have hr := B.returns
  have hts := atoms_spec (ws := wsX8_isPlace) B.pre
  have hown : s.vm.findClass RX8 = some m.cls := findClass_of_methodNamed B.named
  have hlocks := B.notSynchronized
  have hS : va_S (fun _ => False) s.heap s.heap [] := va_S.rf
  generalize hQ0 : MQ below (k2_QcV (.int res)) [.int a0].toArray s 0 0 (fun _ => False) = Q0
  have hl := lv_entry [.int a0] (n := 1) (Nat.le_of_ble_eq_true rfl)
  rw [lg_entry_eq]
  generalize (lg_sl [.int a0] ++ List.replicate (1 - (lg_sl [.int a0]).length) Slot.unset).toArray = ls at hl ⊢
  have hl : lv_has ls 1 [(0, .int a0)] := hl
  unfold m_X8_isPlace at hm
  refine lv_iload_n hx hb dX8_isPlace_0 rfl (lv_at hl 0 rfl) ?_
  refine lv_if_lt (tgt := 14) hx hb dX8_isPlace_1 (by decide) (fun c1 => ?_) (fun c1 => ?_)
  · have hm := mr_if c1 hm
    refine lv_iconst (v := 0) hx hb dX8_isPlace_14 (by decide) ?_
    obtain rfl := Option.some.inj hm
    subst hQ0
    exact W.zret (v := 0) hx hb hr rfl (fun t ht hW => ⟨rfl, ht⟩) (fun q h => by cases h) dX8_isPlace_15
  · have hm := mr_un c1 hm
    refine lv_iload_n hx hb dX8_isPlace_4 rfl (lv_at hl 0 rfl) ?_
    refine lv_bipush (v := 8) hx hb dX8_isPlace_5 (by decide) ?_
    refine lv_icmp_ge (tgt := 14) hx hb dX8_isPlace_7 (by decide) (fun c2 => ?_) (fun c2 => ?_)
    · have hm := mr_if c2 hm
      refine lv_iconst (v := 0) hx hb dX8_isPlace_14 (by decide) ?_
      obtain rfl := Option.some.inj hm
      subst hQ0
      exact W.zret (v := 0) hx hb hr rfl (fun t ht hW => ⟨rfl, ht⟩) (fun q h => by cases h) dX8_isPlace_15
    · have hm := mr_un c2 hm
      refine lv_iconst (v := 1) hx hb dX8_isPlace_10 (by decide) ?_
      refine lv_goto (tgt := 15) hx hb dX8_isPlace_11 (by decide) ?_
      obtain rfl := Option.some.inj hm
      subst hQ0
      exact W.zret (v := 1) hx hb hr rfl (fun t ht hW => ⟨rfl, ht⟩) (fun q h => by cases h) dX8_isPlace_15
set_option maxHeartbeats 4000000 in
set_option maxRecDepth 100000 in
theorem kX8_printStep (l : Launch) (htr : l.stackTraces = false) (dC : Nat → ClassId) (dI : Nat → Nat → Nat) (adK adV : Nat → Nat) (cI cB cJ cZ cQ : ClassId) (a0 : Int32) (res : Int64) (hm : m_X8_printStep a0 = some res) : Met l yX8_printStep wsX8_printStep (rmX8_printStep 0 0) (pcR (sr_Z adK adV) (dC, dI) srCl [(cI, .int), (cB, .byte), (cJ, .long), (cZ, .boolean), (cQ, .object "SchemaReader$Schema")] [.int a0] []) (k2_QcV (.long res)) 0 0 (fun _ => False) := by
  refine Met.ofW (cc := cX8_printStep) (maxL := 5) (ret := (some .long)) (by decide) rfl ?_
  intro p e s m args below meth c s₁ B hml hv
  obtain ⟨rfl, hP, hK, hz0⟩ := hv
  have hx := B.exec
  have hb := B.bytes
  have hr := B.returns
  have hts := atoms_spec (ws := wsX8_printStep) B.pre
  have hown : s.vm.findClass RX8 = some m.cls := findClass_of_methodNamed B.named
  have hlocks := B.notSynchronized
  have hS : va_S (fun _ => False) s.heap s.heap [] := va_S.rf
  generalize hQ0 : MQ below (k2_QcV (.long res)) [.int a0].toArray s 0 0 (fun _ => False) = Q0
  have hl := lv_entry [.int a0] (n := 5) (Nat.le_of_ble_eq_true rfl)
  rw [lg_entry_eq]
  generalize (lg_sl [.int a0] ++ List.replicate (5 - (lg_sl [.int a0]).length) Slot.unset).toArray = ls at hl ⊢
  have hl : lv_has ls 5 [(0, .int a0)] := hl
  unfold m_X8_printStep at hm
  refine lv_iload_n hx hb dX8_printStep_0 rfl (lv_at hl 0 rfl) ?_
  refine lv_i2l hx hb dX8_printStep_1 rfl ?_
  refine lv_lstore_n (lv' := [(1, .long ((a0 : Int32).toInt64)), (0, .int a0)]) hx hb dX8_printStep_2 rfl hl (by decide) rfl (fun ls hl => ?_)
  refine lv_iconst (v := 0) hx hb dX8_printStep_3 (by decide) ?_
  have j5 : ∀ (n5 : Nat) (x1 : Int64) (x3 : Int32) (ls : Array Slot), lv_has ls 5 [(1, .long x1), (3, .int x3)] → m_X8_printStep_5 n5 x1 x3 = some res → W p l e (headSpec wsX8_printStep (rmX8_printStep 0 0)).room s m [.int a0].toArray below meth c s.heap [] 0 0 Q0 (F0 m 5 ls []) := by
    intro n5
    induction n5 with
    | zero => intro x1 x3 ls hl hm; exact nomatch (show (none : Option _) = some res from hm)
    | succ n5 ih5 =>
      intro x1 x3 ls hl hm
      rw [m_X8_printStep_5] at hm
      refine lv_iload_n hx hb dX8_printStep_5 rfl (lv_at hl 1 rfl) ?_
      refine lv_bipush (v := 8) hx hb dX8_printStep_6 (by decide) ?_
      refine lv_icmp_ge (tgt := 47) hx hb dX8_printStep_8 (by decide) (fun c1 => ?_) (fun c1 => ?_)
      · have hm := mr_if c1 hm
        refine lv_lload_n hx hb dX8_printStep_47 rfl (lv_at hl 0 rfl) ?_
        obtain rfl := Option.some.inj hm
        subst hQ0
        exact W.lret (v := x1) hx hb hr (fun t ht hW => ⟨rfl, ht⟩) (fun q h => by cases h) dX8_printStep_48
      · have hm := mr_un c1 hm
        refine lv_lload_n hx hb dX8_printStep_11 rfl (lv_at hl 0 rfl) ?_
        refine lv_lconst (v := 1) hx hb dX8_printStep_12 (by decide) ?_
        refine lv_land hx hb dX8_printStep_13 ?_
        refine lv_lconst (v := 1) hx hb dX8_printStep_14 (by decide) ?_
        refine W.lcmp hx hb dX8_printStep_15 ?_
        have j24 : ∀ (x1 : Int64) (x3 : Int32) (y0 : Int32) (ls : Array Slot), lv_has ls 5 [(1, .long x1), (3, .int x3)] → m_X8_printStep_24 (m_X8_printStep_5 n5) x1 x3 y0 = some res → W p l e (headSpec wsX8_printStep (rmX8_printStep 0 0)).room s m [.int a0].toArray below meth c s.heap [] 0 0 Q0 (F0 m 24 ls [.int y0]) := by
          intro x1 x3 y0 ls hl hm
          unfold m_X8_printStep_24 at hm
          refine lv_istore (lv' := [(4, .int y0), (1, .long x1), (3, .int x3)]) hx hb dX8_printStep_24 hl (by decide) rfl (fun ls hl => ?_)
          refine lv_lload_n hx hb dX8_printStep_26 rfl (lv_at hl 1 rfl) ?_
          refine lv_iconst (v := 1) hx hb dX8_printStep_27 (by decide) ?_
          refine lv_lushr hx hb dX8_printStep_28 rfl ?_
          refine lv_lstore_n (lv' := [(1, .long (((x1 : Int64).toUInt64 >>> ((1 : Int32).toInt64.toUInt64 &&& Int64.toUInt64 63)).toInt64)), (4, .int y0), (3, .int x3)]) hx hb dX8_printStep_29 rfl hl (by decide) rfl (fun ls hl => ?_)
          refine lv_iload hx hb dX8_printStep_30 (lv_at hl 1 rfl) ?_
          refine lv_if_eq (tgt := 41) hx hb dX8_printStep_32 (by decide) (fun c2 => ?_) (fun c2 => ?_)
          · have hm := mr_if c2 hm
            refine lv_iinc (v := x3 + 1) (lv' := [(3, .int (x3 + 1)), (1, .long (((x1 : Int64).toUInt64 >>> ((1 : Int32).toInt64.toUInt64 &&& Int64.toUInt64 63)).toInt64)), (4, .int y0)]) hx hb dX8_printStep_41 hl (k := 2) rfl rfl (by decide) rfl (fun ls hl => ?_)
            refine lv_goto (tgt := 5) hx hb dX8_printStep_44 (by decide) ?_
            exact ih5 (((x1 : Int64).toUInt64 >>> ((1 : Int32).toInt64.toUInt64 &&& Int64.toUInt64 63)).toInt64) (x3 + 1) ls (lv_sub hl [1, 0] rfl) hm
          · have hm := mr_un c2 hm
            refine lv_lload_n hx hb dX8_printStep_35 rfl (lv_at hl 0 rfl) ?_
            refine lv_ldc2 (v := -4513414715797952619) hx hb hown (hts _ (List.mem_cons_of_mem _ wcl8_101)) dX8_printStep_36 ?_
            refine lv_lxor hx hb dX8_printStep_39 ?_
            refine lv_lstore_n (lv' := [(1, .long ((((x1 : Int64).toUInt64 >>> ((1 : Int32).toInt64.toUInt64 &&& Int64.toUInt64 63)).toInt64) ^^^ (-4513414715797952619))), (4, .int y0), (3, .int x3)]) hx hb dX8_printStep_40 rfl hl (by decide) rfl (fun ls hl => ?_)
            refine lv_iinc (v := x3 + 1) (lv' := [(3, .int (x3 + 1)), (1, .long ((((x1 : Int64).toUInt64 >>> ((1 : Int32).toInt64.toUInt64 &&& Int64.toUInt64 63)).toInt64) ^^^ (-4513414715797952619))), (4, .int y0)]) hx hb dX8_printStep_41 hl (k := 2) rfl rfl (by decide) rfl (fun ls hl => ?_)
            refine lv_goto (tgt := 5) hx hb dX8_printStep_44 (by decide) ?_
            exact ih5 ((((x1 : Int64).toUInt64 >>> ((1 : Int32).toInt64.toUInt64 &&& Int64.toUInt64 63)).toInt64) ^^^ (-4513414715797952619)) (x3 + 1) ls (lv_sub hl [1, 0] rfl) hm
        refine lv_if_ne (tgt := 23) hx hb dX8_printStep_16 (by decide) (fun c3 => ?_) (fun c3 => ?_)
        · have hm := mr_un c3 hm
          refine lv_iconst (v := 0) hx hb dX8_printStep_23 (by decide) ?_
          exact j24 x1 x3 0 ls (lv_sub hl [0, 1] rfl) hm
        · have hm := mr_if c3 hm
          refine lv_iconst (v := 1) hx hb dX8_printStep_19 (by decide) ?_
          refine lv_goto (tgt := 24) hx hb dX8_printStep_20 (by decide) ?_
          exact j24 x1 x3 1 ls (lv_sub hl [0, 1] rfl) hm
  refine lv_istore_n (lv' := [(3, .int 0), (1, .long ((a0 : Int32).toInt64)), (0, .int a0)]) hx hb dX8_printStep_4 rfl hl (by decide) rfl (fun ls hl => ?_)
  exact j5 sr_fuel ((a0 : Int32).toInt64) 0 ls (lv_sub hl [1, 0] rfl) hm
set_option maxHeartbeats 4000000 in
set_option maxRecDepth 100000 in
theorem kX24_fill (l : Launch) (htr : l.stackTraces = false) (dC : Nat → ClassId) (dI : Nat → Nat → Nat) (adK adV : Nat → Nat) (cI cB cJ cZ cQ : ClassId) (rq_row : Nat) (r_row : Nat → Int32) (sz : Nat) (rn : Nat) (a1 : Int32) (res : (Nat → Int32)) (hm : m_X24_fill r_row rn a1 = some res) : Met l yX24_fill wsX24_fill (rmX24_fill 0 0) (pcW (sr_Z adK adV) (dC, dI) srCl [(cI, .int), (cB, .byte), (cJ, .long), (cZ, .boolean), (cQ, .object "SchemaReader$Schema")] [.ref rq_row, .int a1] [(rq_row, .inl (cI, rn, .inl r_row))] sz) (va_Qv (fun u' => u' = res) (pcB (dC, dI) srCl [(cI, .int), (cB, .byte), (cJ, .long), (cZ, .boolean), (cQ, .object "SchemaReader$Schema")] (fun u : (Nat → Int32) => [(rq_row, .inl (cI, rn, .inl u))]) (va_A [(rq_row, .inl (cI, rn, .inl r_row))] sz)) (va_A [(rq_row, .inl (cI, rn, .inl r_row))] sz)) 0 0 (va_A [(rq_row, .inl (cI, rn, .inl r_row))] sz) := by
  refine Met.ofW (cc := cX24_fill) (maxL := 4) (ret := none) (by decide) rfl ?_
  intro p e s m args below meth c s₁ B hml hv
  obtain ⟨rfl, hsz, hP, hK, hD0, hz0⟩ := hv
  have hx := B.exec
  have hb := B.bytes
  have hr := B.returns
  have hts := atoms_spec (ws := wsX24_fill) B.pre
  have hown : s.vm.findClass RX24 = some m.cls := findClass_of_methodNamed B.named
  have hlocks := B.notSynchronized
  subst hsz
  have hD := hD0.self (sz := s.heap.size)
  generalize hAe : va_A [(rq_row, .inl (cI, rn, .inl r_row))] s.heap.size = A at hD hz0 ⊢
  have hA : ∀ q : Nat, s.heap.size ≤ q → A q := fun q h => by rw [← hAe]; exact Or.inr h
  have hS : va_S A s.heap s.heap [] := va_S.rf
  generalize hQ0 : MQ below (va_Qv (fun u' => u' = res) (pcB (dC, dI) srCl [(cI, .int), (cB, .byte), (cJ, .long), (cZ, .boolean), (cQ, .object "SchemaReader$Schema")] (fun u : (Nat → Int32) => [(rq_row, .inl (cI, rn, .inl u))]) A) A) [.ref rq_row, .int a1].toArray s 0 0 A = Q0
  have hl := lv_entry [.ref rq_row, .int a1] (n := 4) (Nat.le_of_ble_eq_true rfl)
  rw [lg_entry_eq]
  generalize (lg_sl [.ref rq_row, .int a1] ++ List.replicate (4 - (lg_sl [.ref rq_row, .int a1]).length) Slot.unset).toArray = ls at hl ⊢
  have hl : lv_has ls 4 [(0, .ref rq_row), (1, .int a1)] := hl
  unfold m_X24_fill at hm
  refine lv_iconst (v := 0) hx hb dX24_fill_0 (by decide) ?_
  refine lv_istore_n (lv' := [(2, .int 0), (0, .ref rq_row), (1, .int a1)]) hx hb dX24_fill_1 rfl hl (by decide) rfl (fun ls hl => ?_)
  refine lv_aload_n hx hb dX24_fill_2 rfl (lv_at hl 1 rfl) ?_
  refine va_alen hx hb hK hP 0 0 rfl rfl rfl dX24_fill_3 ?_
  have j5 : ∀ (n5 : Nat) (r_row : Nat → Int32) (x1 : Int32) (x2 : Int32) (x3 : Int32) (H : Heap) (locs : List Loc) (ls : Array Slot), va_P (dC, dI) srCl [(rq_row, .inl (cI, rn, .inl r_row))] H → va_D A [(rq_row, .inl (cI, rn, .inl r_row))] → va_S A s.heap H locs → lv_has ls 4 [(0, .ref rq_row), (1, .int x1), (2, .int x2), (3, .int x3)] → m_X24_fill_5 rn n5 r_row x1 x2 x3 = some res → W p l e (headSpec wsX24_fill (rmX24_fill 0 0)).room s m [.ref rq_row, .int a1].toArray below meth c H locs 0 0 Q0 (F0 m 5 ls []) := by
    intro n5
    induction n5 with
    | zero => intro r_row x1 x2 x3 H locs ls hP hD hS hl hm; exact nomatch (show (none : Option _) = some res from hm)
    | succ n5 ih5 =>
      intro r_row x1 x2 x3 H locs ls hP hD hS hl hm
      rw [m_X24_fill_5] at hm
      refine lv_iload_n hx hb dX24_fill_5 rfl (lv_at hl 2 rfl) ?_
      refine lv_iload_n hx hb dX24_fill_6 rfl (lv_at hl 3 rfl) ?_
      refine lv_icmp_ge (tgt := 20) hx hb dX24_fill_7 (by decide) (fun c1 => ?_) (fun c1 => ?_)
      · have hm := mr_if c1 hm
        obtain rfl := Option.some.inj hm
        subst hQ0
        exact W.vret hx hb hr (fun t ht hW => ⟨⟨r_row, rfl, rfl, by rw [ht]; exact hP, va_K.moved hW.alike hK, hD⟩, hS.F ht⟩) hS.2.2 dX24_fill_20
      · have hm := mr_un c1 hm
        refine lv_aload_n hx hb dX24_fill_10 rfl (lv_at hl 0 rfl) ?_
        refine lv_iload_n hx hb dX24_fill_11 rfl (lv_at hl 2 rfl) ?_
        refine lv_iload_n hx hb dX24_fill_12 rfl (lv_at hl 1 rfl) ?_
        obtain ⟨h2, hm⟩ := mr_bd hm
        refine va_iast hx hb hK hP hD hS 0 0 rfl rfl h2 dX24_fill_13 (fun H locs hP hD hS => ?_)
        have hP : va_P (dC, dI) srCl [(rq_row, .inl (cI, rn, .inl (upd r_row (x2 : Int32).toNatClampNeg x1)))] H := hP
        have hD : va_D A [(rq_row, .inl (cI, rn, .inl (upd r_row (x2 : Int32).toNatClampNeg x1)))] := hD
        refine lv_iinc (v := x2 + 1) (lv' := [(2, .int (x2 + 1)), (0, .ref rq_row), (1, .int x1), (3, .int x3)]) hx hb dX24_fill_14 hl (k := 2) rfl rfl (by decide) rfl (fun ls hl => ?_)
        refine lv_goto (tgt := 5) hx hb dX24_fill_17 (by decide) ?_
        exact ih5 (upd r_row (x2 : Int32).toNatClampNeg x1) x1 (x2 + 1) x3 _ _ ls hP hD hS (lv_sub hl [1, 2, 0, 3] rfl) hm
  refine lv_istore_n (lv' := [(3, .int (Int32.ofNat rn)), (2, .int 0), (0, .ref rq_row), (1, .int a1)]) hx hb dX24_fill_4 rfl hl (by decide) rfl (fun ls hl => ?_)
  exact j5 sr_fuel r_row a1 0 (Int32.ofNat rn) _ _ ls hP hD hS (lv_sub hl [2, 3, 1, 0] rfl) hm
