section
set_option maxHeartbeats 4000000 in
set_option maxRecDepth 100000 in
theorem kX10_thrown (l : Launch) (htr : l.stackTraces = false) (dC : Nat → ClassId) (dI : Nat → Nat → Nat) (adK adV : Nat → Nat) (cI cB cJ cZ cQ : ClassId) (obM mq_tape obY obA obB mq_kept mq_sizes mq_asked mq_pairs : Nat) (m_thrown : Int32) (m_taped : Int32) (m_has : Int32) (m_place : Int32) (m_many : Int32) (res : Int32) (hm : m_X10_thrown m_thrown = some res) : Met l yX10_thrown wsX10_thrown (rmX10_thrown 0 0) (pcR (sr_Z adK adV) (dC, dI) srCl [(cI, .int), (cB, .byte), (cJ, .long), (cZ, .boolean), (cQ, .object "SchemaReader$Schema")] [.ref obM] [(obM, .inr (1, [.int m_thrown, .ref mq_tape, .int m_taped, .ref obY, .ref obA, .ref obB, .int m_has, .int m_place, .ref mq_kept, .ref mq_sizes, .ref mq_asked, .ref mq_pairs, .int m_many]))]) (k2_QcV (.int res)) 0 0 (fun _ => False) := by
  refine Met.ofW (cc := cX10_thrown) (maxL := 1) (ret := (some .int)) (by decide) rfl ?_
  intro p e s m args below meth c s₁ B hml hv
  obtain ⟨rfl, hP, hK, hz0⟩ := hv
  have hx := B.exec
  have hb := B.bytes
  have hr := B.returns
  have hts := atoms_spec (ws := wsX10_thrown) B.pre
  have hown : s.vm.findClass RX10 = some m.cls := findClass_of_methodNamed B.named
  have hlocks := B.notSynchronized
  have hS : va_S (fun _ => False) s.heap s.heap [] := va_S.rf
  generalize hQ0 : MQ below (k2_QcV (.int res)) [.ref obM].toArray s 0 0 (fun _ => False) = Q0
  have hl := lv_entry [.ref obM] (n := 1) (Nat.le_of_ble_eq_true rfl)
  rw [lg_entry_eq]
  generalize (lg_sl [.ref obM] ++ List.replicate (1 - (lg_sl [.ref obM]).length) Slot.unset).toArray = ls at hl ⊢
  have hl : lv_has ls 1 [(0, .ref obM)] := hl
  unfold m_X10_thrown at hm
  refine lv_aload_n hx hb dX10_thrown_0 rfl (lv_at hl 0 rfl) ?_
  refine va_get (D := (dC, dI)) (ci := 1) (v := .int m_thrown) (C := RX10) (T := TX10) (N := 13) hx hb hts (inX10 _) hown hK hP 0 rfl rfl 0 (by decide) (hts _ (List.mem_cons_of_mem _ wf10_45)) (fun _ h9 => h9) rfl dX10_thrown_1 ?_
  obtain rfl := Option.some.inj hm
  subst hQ0
  exact W.iret (v := m_thrown) hx hb hr (fun t ht hW => ⟨rfl, ht⟩) (fun q h => by cases h) dX10_thrown_4
set_option maxHeartbeats 4000000 in
set_option maxRecDepth 100000 in
theorem kX10_refused (l : Launch) (htr : l.stackTraces = false) (dC : Nat → ClassId) (dI : Nat → Nat → Nat) (adK adV : Nat → Nat) (cI cB cJ cZ cQ : ClassId) (obM mq_tape obY obA obB mq_kept mq_sizes mq_asked mq_pairs : Nat) (m_thrown : Int32) (m_taped : Int32) (m_has : Int32) (m_place : Int32) (m_many : Int32) (sz : Nat) (a0 : Int32) (a1 : Int32) (res : Int32 × Int32) (hm : m_X10_refused m_thrown a0 a1 = some res) : Met l yX10_refused wsX10_refused (rmX10_refused 0 0) (pcW (sr_Z adK adV) (dC, dI) srCl [(cI, .int), (cB, .byte), (cJ, .long), (cZ, .boolean), (cQ, .object "SchemaReader$Schema")] [.ref obM, .int a0, .int a1] [(obM, .inr (1, [.int m_thrown, .ref mq_tape, .int m_taped, .ref obY, .ref obA, .ref obB, .int m_has, .int m_place, .ref mq_kept, .ref mq_sizes, .ref mq_asked, .ref mq_pairs, .int m_many]))] sz) (va_Qi (fun r' u' => r' = res.1 ∧ u' = res.2) (pcB (dC, dI) srCl [(cI, .int), (cB, .byte), (cJ, .long), (cZ, .boolean), (cQ, .object "SchemaReader$Schema")] (fun u : Int32 => [(obM, .inr (1, [.int u, .ref mq_tape, .int m_taped, .ref obY, .ref obA, .ref obB, .int m_has, .int m_place, .ref mq_kept, .ref mq_sizes, .ref mq_asked, .ref mq_pairs, .int m_many]))]) (va_A [(obM, .inr (1, [.int m_thrown, .ref mq_tape, .int m_taped, .ref obY, .ref obA, .ref obB, .int m_has, .int m_place, .ref mq_kept, .ref mq_sizes, .ref mq_asked, .ref mq_pairs, .int m_many]))] sz)) (va_A [(obM, .inr (1, [.int m_thrown, .ref mq_tape, .int m_taped, .ref obY, .ref obA, .ref obB, .int m_has, .int m_place, .ref mq_kept, .ref mq_sizes, .ref mq_asked, .ref mq_pairs, .int m_many]))] sz)) 0 0 (va_A [(obM, .inr (1, [.int m_thrown, .ref mq_tape, .int m_taped, .ref obY, .ref obA, .ref obB, .int m_has, .int m_place, .ref mq_kept, .ref mq_sizes, .ref mq_asked, .ref mq_pairs, .int m_many]))] sz) := by
  refine Met.ofW (cc := cX10_refused) (maxL := 3) (ret := (some .boolean)) (by decide) rfl ?_
  intro p e s m args below meth c s₁ B hml hv
  obtain ⟨rfl, hsz, hP, hK, hD0, hz0⟩ := hv
  have hx := B.exec
  have hb := B.bytes
  have hr := B.returns
  have hts := atoms_spec (ws := wsX10_refused) B.pre
  have hown : s.vm.findClass RX10 = some m.cls := findClass_of_methodNamed B.named
  have hlocks := B.notSynchronized
  subst hsz
  have hD := hD0.self (sz := s.heap.size)
  generalize hAe : va_A [(obM, .inr (1, [.int m_thrown, .ref mq_tape, .int m_taped, .ref obY, .ref obA, .ref obB, .int m_has, .int m_place, .ref mq_kept, .ref mq_sizes, .ref mq_asked, .ref mq_pairs, .int m_many]))] s.heap.size = A at hD hz0 ⊢
  have hA : ∀ q : Nat, s.heap.size ≤ q → A q := fun q h => by rw [← hAe]; exact Or.inr h
  have hS : va_S A s.heap s.heap [] := va_S.rf
  generalize hQ0 : MQ below (va_Qi (fun r' u' => r' = res.1 ∧ u' = res.2) (pcB (dC, dI) srCl [(cI, .int), (cB, .byte), (cJ, .long), (cZ, .boolean), (cQ, .object "SchemaReader$Schema")] (fun u : Int32 => [(obM, .inr (1, [.int u, .ref mq_tape, .int m_taped, .ref obY, .ref obA, .ref obB, .int m_has, .int m_place, .ref mq_kept, .ref mq_sizes, .ref mq_asked, .ref mq_pairs, .int m_many]))]) A) A) [.ref obM, .int a0, .int a1].toArray s 0 0 A = Q0
  have hl := lv_entry [.ref obM, .int a0, .int a1] (n := 3) (Nat.le_of_ble_eq_true rfl)
  rw [lg_entry_eq]
  generalize (lg_sl [.ref obM, .int a0, .int a1] ++ List.replicate (3 - (lg_sl [.ref obM, .int a0, .int a1]).length) Slot.unset).toArray = ls at hl ⊢
  have hl : lv_has ls 3 [(0, .ref obM), (1, .int a0), (2, .int a1)] := hl
  unfold m_X10_refused at hm
  refine lv_aload_n hx hb dX10_refused_0 rfl (lv_at hl 0 rfl) ?_
  refine lv_iload_n hx hb dX10_refused_1 rfl (lv_at hl 1 rfl) ?_
  refine lv_if_eq (tgt := 9) hx hb dX10_refused_2 (by decide) (fun c1 => ?_) (fun c1 => ?_)
  · have hm := mr_if c1 hm
    refine lv_iload_n hx hb dX10_refused_9 rfl (lv_at hl 2 rfl) ?_
    refine lv_if_eq (tgt := 17) hx hb dX10_refused_10 (by decide) (fun c2 => ?_) (fun c2 => ?_)
    · have hm := mr_if c2 hm
      refine lv_iconst (v := 0) hx hb dX10_refused_17 (by decide) ?_
      refine va_put (D := (dC, dI)) (ci := 1) (v := .int 0) (ty := .int) (C := RX10) (T := TX10) (N := 13) hx hb hts (inX10 _) tyX10 tyX10_ok nmX10 hown hK hP hD hS 0 rfl rfl 0 (by decide) (hts _ (List.mem_cons_of_mem _ wf10_45)) (fun _ h9 => h9) rfl (by decide +kernel) rfl rfl (Nat.le_of_ble_eq_true rfl) dX10_refused_18 (fun H locs hP hD hS => ?_)
      have hP : va_P (dC, dI) srCl [(obM, .inr (1, [.int 0, .ref mq_tape, .int m_taped, .ref obY, .ref obA, .ref obB, .int m_has, .int m_place, .ref mq_kept, .ref mq_sizes, .ref mq_asked, .ref mq_pairs, .int m_many]))] H := hP
      have hD : va_D A [(obM, .inr (1, [.int 0, .ref mq_tape, .int m_taped, .ref obY, .ref obA, .ref obB, .int m_has, .int m_place, .ref mq_kept, .ref mq_sizes, .ref mq_asked, .ref mq_pairs, .int m_many]))] := hD
      refine lv_aload_n hx hb dX10_refused_21 rfl (lv_at hl 0 rfl) ?_
      refine va_get (D := (dC, dI)) (ci := 1) (v := .int 0) (C := RX10) (T := TX10) (N := 13) hx hb hts (inX10 _) hown hK hP 0 rfl rfl 0 (by decide) (hts _ (List.mem_cons_of_mem _ wf10_45)) (fun _ h9 => h9) rfl dX10_refused_22 ?_
      refine lv_if_le (tgt := 32) hx hb dX10_refused_25 (by decide) (fun c3 => ?_) (fun c3 => ?_)
      · have hm := mr_if c3 hm
        refine lv_iconst (v := 0) hx hb dX10_refused_32 (by decide) ?_
        obtain rfl := Option.some.inj hm
        subst hQ0
        exact W.zret (v := 0) hx hb hr rfl (fun t ht hW => ⟨⟨0, 0, rfl, ⟨rfl, rfl⟩, by rw [ht]; exact hP, va_K.moved hW.alike hK, hD⟩, hS.F ht⟩) hS.2.2 dX10_refused_33
      · have hm := mr_un c3 hm
        refine lv_iconst (v := 1) hx hb dX10_refused_28 (by decide) ?_
        refine lv_goto (tgt := 33) hx hb dX10_refused_29 (by decide) ?_
        obtain rfl := Option.some.inj hm
        subst hQ0
        exact W.zret (v := 1) hx hb hr rfl (fun t ht hW => ⟨⟨1, 0, rfl, ⟨rfl, rfl⟩, by rw [ht]; exact hP, va_K.moved hW.alike hK, hD⟩, hS.F ht⟩) hS.2.2 dX10_refused_33
    · have hm := mr_un c2 hm
      refine lv_iconst (v := 2) hx hb dX10_refused_13 (by decide) ?_
      refine lv_goto (tgt := 18) hx hb dX10_refused_14 (by decide) ?_
      refine va_put (D := (dC, dI)) (ci := 1) (v := .int 2) (ty := .int) (C := RX10) (T := TX10) (N := 13) hx hb hts (inX10 _) tyX10 tyX10_ok nmX10 hown hK hP hD hS 0 rfl rfl 0 (by decide) (hts _ (List.mem_cons_of_mem _ wf10_45)) (fun _ h9 => h9) rfl (by decide +kernel) rfl rfl (Nat.le_of_ble_eq_true rfl) dX10_refused_18 (fun H locs hP hD hS => ?_)
      have hP : va_P (dC, dI) srCl [(obM, .inr (1, [.int 2, .ref mq_tape, .int m_taped, .ref obY, .ref obA, .ref obB, .int m_has, .int m_place, .ref mq_kept, .ref mq_sizes, .ref mq_asked, .ref mq_pairs, .int m_many]))] H := hP
      have hD : va_D A [(obM, .inr (1, [.int 2, .ref mq_tape, .int m_taped, .ref obY, .ref obA, .ref obB, .int m_has, .int m_place, .ref mq_kept, .ref mq_sizes, .ref mq_asked, .ref mq_pairs, .int m_many]))] := hD
      refine lv_aload_n hx hb dX10_refused_21 rfl (lv_at hl 0 rfl) ?_
      refine va_get (D := (dC, dI)) (ci := 1) (v := .int 2) (C := RX10) (T := TX10) (N := 13) hx hb hts (inX10 _) hown hK hP 0 rfl rfl 0 (by decide) (hts _ (List.mem_cons_of_mem _ wf10_45)) (fun _ h9 => h9) rfl dX10_refused_22 ?_
      refine lv_if_le (tgt := 32) hx hb dX10_refused_25 (by decide) (fun c4 => ?_) (fun c4 => ?_)
      · have hm := mr_if c4 hm
        refine lv_iconst (v := 0) hx hb dX10_refused_32 (by decide) ?_
        obtain rfl := Option.some.inj hm
        subst hQ0
        exact W.zret (v := 0) hx hb hr rfl (fun t ht hW => ⟨⟨0, 2, rfl, ⟨rfl, rfl⟩, by rw [ht]; exact hP, va_K.moved hW.alike hK, hD⟩, hS.F ht⟩) hS.2.2 dX10_refused_33
      · have hm := mr_un c4 hm
        refine lv_iconst (v := 1) hx hb dX10_refused_28 (by decide) ?_
        refine lv_goto (tgt := 33) hx hb dX10_refused_29 (by decide) ?_
        obtain rfl := Option.some.inj hm
        subst hQ0
        exact W.zret (v := 1) hx hb hr rfl (fun t ht hW => ⟨⟨1, 2, rfl, ⟨rfl, rfl⟩, by rw [ht]; exact hP, va_K.moved hW.alike hK, hD⟩, hS.F ht⟩) hS.2.2 dX10_refused_33
  · have hm := mr_un c1 hm
    refine lv_iconst (v := 1) hx hb dX10_refused_5 (by decide) ?_
    refine lv_goto (tgt := 18) hx hb dX10_refused_6 (by decide) ?_
    refine va_put (D := (dC, dI)) (ci := 1) (v := .int 1) (ty := .int) (C := RX10) (T := TX10) (N := 13) hx hb hts (inX10 _) tyX10 tyX10_ok nmX10 hown hK hP hD hS 0 rfl rfl 0 (by decide) (hts _ (List.mem_cons_of_mem _ wf10_45)) (fun _ h9 => h9) rfl (by decide +kernel) rfl rfl (Nat.le_of_ble_eq_true rfl) dX10_refused_18 (fun H locs hP hD hS => ?_)
    have hP : va_P (dC, dI) srCl [(obM, .inr (1, [.int 1, .ref mq_tape, .int m_taped, .ref obY, .ref obA, .ref obB, .int m_has, .int m_place, .ref mq_kept, .ref mq_sizes, .ref mq_asked, .ref mq_pairs, .int m_many]))] H := hP
    have hD : va_D A [(obM, .inr (1, [.int 1, .ref mq_tape, .int m_taped, .ref obY, .ref obA, .ref obB, .int m_has, .int m_place, .ref mq_kept, .ref mq_sizes, .ref mq_asked, .ref mq_pairs, .int m_many]))] := hD
    refine lv_aload_n hx hb dX10_refused_21 rfl (lv_at hl 0 rfl) ?_
    refine va_get (D := (dC, dI)) (ci := 1) (v := .int 1) (C := RX10) (T := TX10) (N := 13) hx hb hts (inX10 _) hown hK hP 0 rfl rfl 0 (by decide) (hts _ (List.mem_cons_of_mem _ wf10_45)) (fun _ h9 => h9) rfl dX10_refused_22 ?_
    refine lv_if_le (tgt := 32) hx hb dX10_refused_25 (by decide) (fun c5 => ?_) (fun c5 => ?_)
    · have hm := mr_if c5 hm
      refine lv_iconst (v := 0) hx hb dX10_refused_32 (by decide) ?_
      obtain rfl := Option.some.inj hm
      subst hQ0
      exact W.zret (v := 0) hx hb hr rfl (fun t ht hW => ⟨⟨0, 1, rfl, ⟨rfl, rfl⟩, by rw [ht]; exact hP, va_K.moved hW.alike hK, hD⟩, hS.F ht⟩) hS.2.2 dX10_refused_33
    · have hm := mr_un c5 hm
      refine lv_iconst (v := 1) hx hb dX10_refused_28 (by decide) ?_
      refine lv_goto (tgt := 33) hx hb dX10_refused_29 (by decide) ?_
      obtain rfl := Option.some.inj hm
      subst hQ0
      exact W.zret (v := 1) hx hb hr rfl (fun t ht hW => ⟨⟨1, 1, rfl, ⟨rfl, rfl⟩, by rw [ht]; exact hP, va_K.moved hW.alike hK, hD⟩, hS.F ht⟩) hS.2.2 dX10_refused_33
set_option maxHeartbeats 4000000 in
set_option maxRecDepth 100000 in
theorem kX10_within (l : Launch) (htr : l.stackTraces = false) (dC : Nat → ClassId) (dI : Nat → Nat → Nat) (adK adV : Nat → Nat) (cI cB cJ cZ cQ : ClassId) (a0 : Int32) (a1 : Int32) (a2 : Int32) (res : Int32) (hm : m_X10_within a0 a1 a2 = some res) : Met l yX10_within wsX10_within (rmX10_within 0 0) (pcR (sr_Z adK adV) (dC, dI) srCl [(cI, .int), (cB, .byte), (cJ, .long), (cZ, .boolean), (cQ, .object "SchemaReader$Schema")] [.int a0, .int a1, .int a2] []) (k2_QcV (.int res)) 0 0 (fun _ => False) := by
  refine Met.ofW (cc := cX10_within) (maxL := 3) (ret := (some .boolean)) (by decide) rfl ?_
  intro p e s m args below meth c s₁ B hml hv
  obtain ⟨rfl, hP, hK, hz0⟩ := hv
  have hx := B.exec
  have hb := B.bytes
  have hr := B.returns
  have hts := atoms_spec (ws := wsX10_within) B.pre
  have hown : s.vm.findClass RX10 = some m.cls := findClass_of_methodNamed B.named
  have hlocks := B.notSynchronized
  have hS : va_S (fun _ => False) s.heap s.heap [] := va_S.rf
  generalize hQ0 : MQ below (k2_QcV (.int res)) [.int a0, .int a1, .int a2].toArray s 0 0 (fun _ => False) = Q0
  have hl := lv_entry [.int a0, .int a1, .int a2] (n := 3) (Nat.le_of_ble_eq_true rfl)
  rw [lg_entry_eq]
  generalize (lg_sl [.int a0, .int a1, .int a2] ++ List.replicate (3 - (lg_sl [.int a0, .int a1, .int a2]).length) Slot.unset).toArray = ls at hl ⊢
  have hl : lv_has ls 3 [(0, .int a0), (1, .int a1), (2, .int a2)] := hl
  unfold m_X10_within at hm
  refine lv_iload_n hx hb dX10_within_0 rfl (lv_at hl 0 rfl) ?_
  refine lv_iload_n hx hb dX10_within_1 rfl (lv_at hl 1 rfl) ?_
  refine lv_icmp_lt (tgt := 14) hx hb dX10_within_2 (by decide) (fun c1 => ?_) (fun c1 => ?_)
  · have hm := mr_if c1 hm
    refine lv_iconst (v := 0) hx hb dX10_within_14 (by decide) ?_
    obtain rfl := Option.some.inj hm
    subst hQ0
    exact W.zret (v := 0) hx hb hr rfl (fun t ht hW => ⟨rfl, ht⟩) (fun q h => by cases h) dX10_within_15
  · have hm := mr_un c1 hm
    refine lv_iload_n hx hb dX10_within_5 rfl (lv_at hl 0 rfl) ?_
    refine lv_iload_n hx hb dX10_within_6 rfl (lv_at hl 2 rfl) ?_
    refine lv_icmp_gt (tgt := 14) hx hb dX10_within_7 (by decide) (fun c2 => ?_) (fun c2 => ?_)
    · have hm := mr_if c2 hm
      refine lv_iconst (v := 0) hx hb dX10_within_14 (by decide) ?_
      obtain rfl := Option.some.inj hm
      subst hQ0
      exact W.zret (v := 0) hx hb hr rfl (fun t ht hW => ⟨rfl, ht⟩) (fun q h => by cases h) dX10_within_15
    · have hm := mr_un c2 hm
      refine lv_iconst (v := 1) hx hb dX10_within_10 (by decide) ?_
      refine lv_goto (tgt := 15) hx hb dX10_within_11 (by decide) ?_
      obtain rfl := Option.some.inj hm
      subst hQ0
      exact W.zret (v := 1) hx hb hr rfl (fun t ht hW => ⟨rfl, ht⟩) (fun q h => by cases h) dX10_within_15
set_option maxHeartbeats 4000000 in
set_option maxRecDepth 100000 in
theorem kX10_addInt (l : Launch) (htr : l.stackTraces = false) (dC : Nat → ClassId) (dI : Nat → Nat → Nat) (adK adV : Nat → Nat) (cI cB cJ cZ cQ : ClassId) (obM mq_tape obY obA obB mq_kept mq_sizes mq_asked mq_pairs : Nat) (m_thrown : Int32) (m_taped : Int32) (m_has : Int32) (m_place : Int32) (m_many : Int32) (m_tape : Nat → Int32) (sz : Nat) (a0 : Int32) (res : (Nat → Int32) × Int32) (hm : m_X10_addInt m_tape m_taped a0 = some res) : Met l yX10_addInt wsX10_addInt (rmX10_addInt 0 0) (pcW (sr_Z adK adV) (dC, dI) srCl [(cI, .int), (cB, .byte), (cJ, .long), (cZ, .boolean), (cQ, .object "SchemaReader$Schema")] [.ref obM, .int a0] [(obM, .inr (1, [.int m_thrown, .ref mq_tape, .int m_taped, .ref obY, .ref obA, .ref obB, .int m_has, .int m_place, .ref mq_kept, .ref mq_sizes, .ref mq_asked, .ref mq_pairs, .int m_many])), (mq_tape, .inl (cB, 4096, .inl m_tape))] sz) (va_Qv (fun u' => u' = res) (pcB (dC, dI) srCl [(cI, .int), (cB, .byte), (cJ, .long), (cZ, .boolean), (cQ, .object "SchemaReader$Schema")] (fun u : (Nat → Int32) × Int32 => [(obM, .inr (1, [.int m_thrown, .ref mq_tape, .int u.2, .ref obY, .ref obA, .ref obB, .int m_has, .int m_place, .ref mq_kept, .ref mq_sizes, .ref mq_asked, .ref mq_pairs, .int m_many])), (mq_tape, .inl (cB, 4096, .inl u.1))]) (va_A [(obM, .inr (1, [.int m_thrown, .ref mq_tape, .int m_taped, .ref obY, .ref obA, .ref obB, .int m_has, .int m_place, .ref mq_kept, .ref mq_sizes, .ref mq_asked, .ref mq_pairs, .int m_many])), (mq_tape, .inl (cB, 4096, .inl m_tape))] sz)) (va_A [(obM, .inr (1, [.int m_thrown, .ref mq_tape, .int m_taped, .ref obY, .ref obA, .ref obB, .int m_has, .int m_place, .ref mq_kept, .ref mq_sizes, .ref mq_asked, .ref mq_pairs, .int m_many])), (mq_tape, .inl (cB, 4096, .inl m_tape))] sz)) 0 0 (va_A [(obM, .inr (1, [.int m_thrown, .ref mq_tape, .int m_taped, .ref obY, .ref obA, .ref obB, .int m_has, .int m_place, .ref mq_kept, .ref mq_sizes, .ref mq_asked, .ref mq_pairs, .int m_many])), (mq_tape, .inl (cB, 4096, .inl m_tape))] sz) := by
  refine Met.ofW (cc := cX10_addInt) (maxL := 3) (ret := none) (by decide) rfl ?_
  intro p e s m args below meth c s₁ B hml hv
  obtain ⟨rfl, hsz, hP, hK, hD0, hz0⟩ := hv
  have hx := B.exec
  have hb := B.bytes
  have hr := B.returns
  have hts := atoms_spec (ws := wsX10_addInt) B.pre
  have hown : s.vm.findClass RX10 = some m.cls := findClass_of_methodNamed B.named
  have hlocks := B.notSynchronized
  subst hsz
  have hD := hD0.self (sz := s.heap.size)
  generalize hAe : va_A [(obM, .inr (1, [.int m_thrown, .ref mq_tape, .int m_taped, .ref obY, .ref obA, .ref obB, .int m_has, .int m_place, .ref mq_kept, .ref mq_sizes, .ref mq_asked, .ref mq_pairs, .int m_many])), (mq_tape, .inl (cB, 4096, .inl m_tape))] s.heap.size = A at hD hz0 ⊢
  have hA : ∀ q : Nat, s.heap.size ≤ q → A q := fun q h => by rw [← hAe]; exact Or.inr h
  have hS : va_S A s.heap s.heap [] := va_S.rf
  generalize hQ0 : MQ below (va_Qv (fun u' => u' = res) (pcB (dC, dI) srCl [(cI, .int), (cB, .byte), (cJ, .long), (cZ, .boolean), (cQ, .object "SchemaReader$Schema")] (fun u : (Nat → Int32) × Int32 => [(obM, .inr (1, [.int m_thrown, .ref mq_tape, .int u.2, .ref obY, .ref obA, .ref obB, .int m_has, .int m_place, .ref mq_kept, .ref mq_sizes, .ref mq_asked, .ref mq_pairs, .int m_many])), (mq_tape, .inl (cB, 4096, .inl u.1))]) A) A) [.ref obM, .int a0].toArray s 0 0 A = Q0
  have hl := lv_entry [.ref obM, .int a0] (n := 3) (Nat.le_of_ble_eq_true rfl)
  rw [lg_entry_eq]
  generalize (lg_sl [.ref obM, .int a0] ++ List.replicate (3 - (lg_sl [.ref obM, .int a0]).length) Slot.unset).toArray = ls at hl ⊢
  have hl : lv_has ls 3 [(0, .ref obM), (1, .int a0)] := hl
  unfold m_X10_addInt at hm
  refine lv_bipush (v := 24) hx hb dX10_addInt_0 (by decide) ?_
  have j3 : ∀ (n3 : Nat) (m_tape : Nat → Int32) (m_taped : Int32) (x1 : Int32) (x2 : Int32) (H : Heap) (locs : List Loc) (ls : Array Slot), va_P (dC, dI) srCl [(obM, .inr (1, [.int m_thrown, .ref mq_tape, .int m_taped, .ref obY, .ref obA, .ref obB, .int m_has, .int m_place, .ref mq_kept, .ref mq_sizes, .ref mq_asked, .ref mq_pairs, .int m_many])), (mq_tape, .inl (cB, 4096, .inl m_tape))] H → va_D A [(obM, .inr (1, [.int m_thrown, .ref mq_tape, .int m_taped, .ref obY, .ref obA, .ref obB, .int m_has, .int m_place, .ref mq_kept, .ref mq_sizes, .ref mq_asked, .ref mq_pairs, .int m_many])), (mq_tape, .inl (cB, 4096, .inl m_tape))] → va_S A s.heap H locs → lv_has ls 3 [(0, .ref obM), (1, .int x1), (2, .int x2)] → m_X10_addInt_3 n3 m_tape m_taped x1 x2 = some res → W p l e (headSpec wsX10_addInt (rmX10_addInt 0 0)).room s m [.ref obM, .int a0].toArray below meth c H locs 0 0 Q0 (F0 m 3 ls []) := by
    intro n3
    induction n3 with
    | zero => intro m_tape m_taped x1 x2 H locs ls hP hD hS hl hm; exact nomatch (show (none : Option _) = some res from hm)
    | succ n3 ih3 =>
      intro m_tape m_taped x1 x2 H locs ls hP hD hS hl hm
      rw [m_X10_addInt_3] at hm
      refine lv_iload_n hx hb dX10_addInt_3 rfl (lv_at hl 2 rfl) ?_
      refine lv_if_lt (tgt := 36) hx hb dX10_addInt_4 (by decide) (fun c1 => ?_) (fun c1 => ?_)
      · have hm := mr_if c1 hm
        obtain rfl := Option.some.inj hm
        subst hQ0
        exact W.vret hx hb hr (fun t ht hW => ⟨⟨(m_tape, m_taped), rfl, rfl, by rw [ht]; exact hP, va_K.moved hW.alike hK, hD⟩, hS.F ht⟩) hS.2.2 dX10_addInt_36
      · have hm := mr_un c1 hm
        refine lv_aload_n hx hb dX10_addInt_7 rfl (lv_at hl 0 rfl) ?_
        refine va_get (D := (dC, dI)) (ci := 1) (v := .ref mq_tape) (C := RX10) (T := TX10) (N := 13) hx hb hts (inX10 _) hown hK hP 0 rfl rfl 1 (by decide) (hts _ (List.mem_cons_of_mem _ wf10_7)) (fun _ h9 => h9) rfl dX10_addInt_8 ?_
        refine lv_aload_n hx hb dX10_addInt_11 rfl (lv_at hl 0 rfl) ?_
        refine va_get (D := (dC, dI)) (ci := 1) (v := .int m_taped) (C := RX10) (T := TX10) (N := 13) hx hb hts (inX10 _) hown hK hP 0 rfl rfl 2 (by decide) (hts _ (List.mem_cons_of_mem _ wf10_48)) (fun _ h9 => h9) rfl dX10_addInt_12 ?_
        refine lv_iload_n hx hb dX10_addInt_15 rfl (lv_at hl 1 rfl) ?_
        refine lv_iload_n hx hb dX10_addInt_16 rfl (lv_at hl 2 rfl) ?_
        refine lv_ishr hx hb dX10_addInt_17 ?_
        refine lv_i2b hx hb dX10_addInt_18 rfl ?_
        obtain ⟨h2, hm⟩ := mr_bd hm
        refine va_bast hx hb hK hP hD hS 1 1 rfl rfl h2 dX10_addInt_19 (fun H locs hP hD hS => ?_)
        have hP : va_P (dC, dI) srCl [(obM, .inr (1, [.int m_thrown, .ref mq_tape, .int m_taped, .ref obY, .ref obA, .ref obB, .int m_has, .int m_place, .ref mq_kept, .ref mq_sizes, .ref mq_asked, .ref mq_pairs, .int m_many])), (mq_tape, .inl (cB, 4096, .inl (upd m_tape (m_taped : Int32).toNatClampNeg (vp_nar .byte (((x1 >>> (x2 &&& 31)) : Int32).toInt8.toInt32)))))] H := hP
        have hD : va_D A [(obM, .inr (1, [.int m_thrown, .ref mq_tape, .int m_taped, .ref obY, .ref obA, .ref obB, .int m_has, .int m_place, .ref mq_kept, .ref mq_sizes, .ref mq_asked, .ref mq_pairs, .int m_many])), (mq_tape, .inl (cB, 4096, .inl (upd m_tape (m_taped : Int32).toNatClampNeg (vp_nar .byte (((x1 >>> (x2 &&& 31)) : Int32).toInt8.toInt32)))))] := hD
        refine lv_aload_n hx hb dX10_addInt_20 rfl (lv_at hl 0 rfl) ?_
        refine lv_dup hx hb dX10_addInt_21 rfl ?_
        refine va_get (D := (dC, dI)) (ci := 1) (v := .int m_taped) (C := RX10) (T := TX10) (N := 13) hx hb hts (inX10 _) hown hK hP 0 rfl rfl 2 (by decide) (hts _ (List.mem_cons_of_mem _ wf10_48)) (fun _ h9 => h9) rfl dX10_addInt_22 ?_
        refine lv_iconst (v := 1) hx hb dX10_addInt_25 (by decide) ?_
        refine lv_iadd hx hb dX10_addInt_26 ?_
        refine va_put (D := (dC, dI)) (ci := 1) (v := .int (m_taped + 1)) (ty := .int) (C := RX10) (T := TX10) (N := 13) hx hb hts (inX10 _) tyX10 tyX10_ok nmX10 hown hK hP hD hS 0 rfl rfl 2 (by decide) (hts _ (List.mem_cons_of_mem _ wf10_48)) (fun _ h9 => h9) rfl (by decide +kernel) rfl rfl (Nat.le_of_ble_eq_true rfl) dX10_addInt_27 (fun H locs hP hD hS => ?_)
        have hP : va_P (dC, dI) srCl [(obM, .inr (1, [.int m_thrown, .ref mq_tape, .int (m_taped + 1), .ref obY, .ref obA, .ref obB, .int m_has, .int m_place, .ref mq_kept, .ref mq_sizes, .ref mq_asked, .ref mq_pairs, .int m_many])), (mq_tape, .inl (cB, 4096, .inl (upd m_tape (m_taped : Int32).toNatClampNeg (vp_nar .byte (((x1 >>> (x2 &&& 31)) : Int32).toInt8.toInt32)))))] H := hP
        have hD : va_D A [(obM, .inr (1, [.int m_thrown, .ref mq_tape, .int (m_taped + 1), .ref obY, .ref obA, .ref obB, .int m_has, .int m_place, .ref mq_kept, .ref mq_sizes, .ref mq_asked, .ref mq_pairs, .int m_many])), (mq_tape, .inl (cB, 4096, .inl (upd m_tape (m_taped : Int32).toNatClampNeg (vp_nar .byte (((x1 >>> (x2 &&& 31)) : Int32).toInt8.toInt32)))))] := hD
        refine lv_iinc (v := x2 + (-8)) (lv' := [(2, .int (x2 + (-8))), (0, .ref obM), (1, .int x1)]) hx hb dX10_addInt_30 hl (k := 2) rfl rfl (by decide) rfl (fun ls hl => ?_)
        refine lv_goto (tgt := 3) hx hb dX10_addInt_33 (by decide) ?_
        exact ih3 (upd m_tape (m_taped : Int32).toNatClampNeg (vp_nar .byte (((x1 >>> (x2 &&& 31)) : Int32).toInt8.toInt32))) (m_taped + 1) x1 (x2 + (-8)) _ _ ls hP hD hS (lv_sub hl [1, 2, 0] rfl) hm
  refine lv_istore_n (lv' := [(2, .int 24), (0, .ref obM), (1, .int a0)]) hx hb dX10_addInt_2 rfl hl (by decide) rfl (fun ls hl => ?_)
  exact j3 sr_fuel m_tape m_taped a0 24 _ _ ls hP hD hS (lv_sub hl [1, 2, 0] rfl) hm
set_option maxHeartbeats 4000000 in
set_option maxRecDepth 100000 in
theorem kX10_feed (l : Launch) (htr : l.stackTraces = false) (dC : Nat → ClassId) (dI : Nat → Nat → Nat) (adK adV : Nat → Nat) (cI cB cJ cZ cQ : ClassId) (obM mq_tape obY obA obB mq_kept mq_sizes mq_asked mq_pairs : Nat) (m_thrown : Int32) (m_taped : Int32) (m_has : Int32) (m_place : Int32) (m_many : Int32) (m_tape : Nat → Int32) (sz : Nat) (a0 : Int32) (a1 : Int32) (a2 : Int32) (a3 : Int32) (a4 : Int32) (res : Int32 × Int32 × (Nat → Int32) × Int32) (hm : m_X10_feed m_thrown m_tape m_taped a0 a1 a2 a3 a4 = some res) : Met l yX10_feed wsX10_feed (rmX10_feed 0 0) (pcW (sr_Z adK adV) (dC, dI) srCl [(cI, .int), (cB, .byte), (cJ, .long), (cZ, .boolean), (cQ, .object "SchemaReader$Schema")] [.ref obM, .int a0, .int a1, .int a2, .int a3, .int a4] [(obM, .inr (1, [.int m_thrown, .ref mq_tape, .int m_taped, .ref obY, .ref obA, .ref obB, .int m_has, .int m_place, .ref mq_kept, .ref mq_sizes, .ref mq_asked, .ref mq_pairs, .int m_many])), (mq_tape, .inl (cB, 4096, .inl m_tape))] sz) (va_Qi (fun r' u' => r' = res.1 ∧ u' = res.2) (pcB (dC, dI) srCl [(cI, .int), (cB, .byte), (cJ, .long), (cZ, .boolean), (cQ, .object "SchemaReader$Schema")] (fun u : Int32 × (Nat → Int32) × Int32 => [(obM, .inr (1, [.int u.1, .ref mq_tape, .int u.2.2, .ref obY, .ref obA, .ref obB, .int m_has, .int m_place, .ref mq_kept, .ref mq_sizes, .ref mq_asked, .ref mq_pairs, .int m_many])), (mq_tape, .inl (cB, 4096, .inl u.2.1))]) (va_A [(obM, .inr (1, [.int m_thrown, .ref mq_tape, .int m_taped, .ref obY, .ref obA, .ref obB, .int m_has, .int m_place, .ref mq_kept, .ref mq_sizes, .ref mq_asked, .ref mq_pairs, .int m_many])), (mq_tape, .inl (cB, 4096, .inl m_tape))] sz)) (va_A [(obM, .inr (1, [.int m_thrown, .ref mq_tape, .int m_taped, .ref obY, .ref obA, .ref obB, .int m_has, .int m_place, .ref mq_kept, .ref mq_sizes, .ref mq_asked, .ref mq_pairs, .int m_many])), (mq_tape, .inl (cB, 4096, .inl m_tape))] sz)) 0 0 (va_A [(obM, .inr (1, [.int m_thrown, .ref mq_tape, .int m_taped, .ref obY, .ref obA, .ref obB, .int m_has, .int m_place, .ref mq_kept, .ref mq_sizes, .ref mq_asked, .ref mq_pairs, .int m_many])), (mq_tape, .inl (cB, 4096, .inl m_tape))] sz) := by
  refine Met.ofW (cc := cX10_feed) (maxL := 6) (ret := (some .int)) (by decide) rfl ?_
  intro p e s m args below meth c s₁ B hml hv
  obtain ⟨rfl, hsz, hP, hK, hD0, hz0⟩ := hv
  have hx := B.exec
  have hb := B.bytes
  have hr := B.returns
  have hts := atoms_spec (ws := wsX10_feed) B.pre
  have hown : s.vm.findClass RX10 = some m.cls := findClass_of_methodNamed B.named
  have hlocks := B.notSynchronized
  subst hsz
  have hD := hD0.self (sz := s.heap.size)
  generalize hAe : va_A [(obM, .inr (1, [.int m_thrown, .ref mq_tape, .int m_taped, .ref obY, .ref obA, .ref obB, .int m_has, .int m_place, .ref mq_kept, .ref mq_sizes, .ref mq_asked, .ref mq_pairs, .int m_many])), (mq_tape, .inl (cB, 4096, .inl m_tape))] s.heap.size = A at hD hz0 ⊢
  have hA : ∀ q : Nat, s.heap.size ≤ q → A q := fun q h => by rw [← hAe]; exact Or.inr h
  have hS : va_S A s.heap s.heap [] := va_S.rf
  generalize hQ0 : MQ below (va_Qi (fun r' u' => r' = res.1 ∧ u' = res.2) (pcB (dC, dI) srCl [(cI, .int), (cB, .byte), (cJ, .long), (cZ, .boolean), (cQ, .object "SchemaReader$Schema")] (fun u : Int32 × (Nat → Int32) × Int32 => [(obM, .inr (1, [.int u.1, .ref mq_tape, .int u.2.2, .ref obY, .ref obA, .ref obB, .int m_has, .int m_place, .ref mq_kept, .ref mq_sizes, .ref mq_asked, .ref mq_pairs, .int m_many])), (mq_tape, .inl (cB, 4096, .inl u.2.1))]) A) A) [.ref obM, .int a0, .int a1, .int a2, .int a3, .int a4].toArray s 0 0 A = Q0
  have hl := lv_entry [.ref obM, .int a0, .int a1, .int a2, .int a3, .int a4] (n := 6) (Nat.le_of_ble_eq_true rfl)
  rw [lg_entry_eq]
  generalize (lg_sl [.ref obM, .int a0, .int a1, .int a2, .int a3, .int a4] ++ List.replicate (6 - (lg_sl [.ref obM, .int a0, .int a1, .int a2, .int a3, .int a4]).length) Slot.unset).toArray = ls at hl ⊢
  have hl : lv_has ls 6 [(0, .ref obM), (1, .int a0), (2, .int a1), (3, .int a2), (4, .int a3), (5, .int a4)] := hl
  unfold m_X10_feed at hm
  refine lv_aload_n hx hb dX10_feed_0 rfl (lv_at hl 0 rfl) ?_
  refine lv_aload_n hx hb dX10_feed_1 rfl (lv_at hl 0 rfl) ?_
  refine va_get (D := (dC, dI)) (ci := 1) (v := .int m_taped) (C := RX10) (T := TX10) (N := 13) hx hb hts (inX10 _) hown hK hP 0 rfl rfl 2 (by decide) (hts _ (List.mem_cons_of_mem _ wf10_48)) (fun _ h9 => h9) rfl dX10_feed_2 ?_
  refine lv_bipush (v := 20) hx hb dX10_feed_5 (by decide) ?_
  refine lv_iadd hx hb dX10_feed_7 ?_
  refine lv_sipush (v := 4096) hx hb dX10_feed_8 (by decide) ?_
  have j19 : ∀ (m_thrown : Int32) (m_tape : Nat → Int32) (m_taped : Int32) (x1 : Int32) (x2 : Int32) (x3 : Int32) (x4 : Int32) (x5 : Int32) (y0 : Int32) (H : Heap) (locs : List Loc) (ls : Array Slot), va_P (dC, dI) srCl [(obM, .inr (1, [.int m_thrown, .ref mq_tape, .int m_taped, .ref obY, .ref obA, .ref obB, .int m_has, .int m_place, .ref mq_kept, .ref mq_sizes, .ref mq_asked, .ref mq_pairs, .int m_many])), (mq_tape, .inl (cB, 4096, .inl m_tape))] H → va_D A [(obM, .inr (1, [.int m_thrown, .ref mq_tape, .int m_taped, .ref obY, .ref obA, .ref obB, .int m_has, .int m_place, .ref mq_kept, .ref mq_sizes, .ref mq_asked, .ref mq_pairs, .int m_many])), (mq_tape, .inl (cB, 4096, .inl m_tape))] → va_S A s.heap H locs → lv_has ls 6 [(0, .ref obM), (1, .int x1), (2, .int x2), (3, .int x3), (4, .int x4), (5, .int x5)] → m_X10_feed_19 m_thrown m_tape m_taped x1 x2 x3 x4 x5 y0 = some res → W p l e (headSpec wsX10_feed (rmX10_feed 0 0)).room s m [.ref obM, .int a0, .int a1, .int a2, .int a3, .int a4].toArray below meth c H locs 0 0 Q0 (F0 m 19 ls [.int y0, .ref obM]) := by
    intro m_thrown m_tape m_taped x1 x2 x3 x4 x5 y0 H locs ls hP hD hS hl hm
    unfold m_X10_feed_19 at hm
    refine lv_iconst (v := 0) hx hb dX10_feed_19 (by decide) ?_
    obtain ⟨⟨r1, m_thrown_1⟩, hz1, hm⟩ := mr_bind hm
    try dsimp only at hm
    refine mr_wVi (As := [.int y0, .int 0]) (rest := []) (sr_okZ adK adV) ⟨hx, hb, hml, hown, hts⟩ (kX10_refused l htr dC dI adK adV cI cB cJ cZ cQ obM mq_tape obY obA obB mq_kept mq_sizes mq_asked mq_pairs m_thrown m_taped m_has m_place m_many _ y0 0 _ hz1) (cwV 2 hts (g10_51 _) rfl rfl rfl (by decide +kernel) ⟨(by show 0 + 1 ≤ 1; omega), (by show 8 + (3 + 11) + (0) ≤ 22; omega)⟩) hS hA hP hD hK hz0 (wr := [(mq_tape, .inl (cB, 4096, .inl m_tape))]) (w1 := [(obM, .inr (1, [.int m_thrown_1, .ref mq_tape, .int m_taped, .ref obY, .ref obA, .ref obB, .int m_has, .int m_place, .ref mq_kept, .ref mq_sizes, .ref mq_asked, .ref mq_pairs, .int m_many])), (mq_tape, .inl (cB, 4096, .inl m_tape))]) [0] [1] [1, 0] rfl rfl rfl rfl rfl (by decide) rfl rfl rfl (va_recv hK hP (ci := 1) (q0 := 0) rfl rfl) rfl rfl hl.1 (Nat.le_of_ble_eq_true rfl) dX10_feed_20 ⟨Nat.zero_le _, Nat.zero_le _⟩ (fun H locs hP hD hS => ?_)
    refine lv_if_eq (tgt := 28) hx hb dX10_feed_23 (by decide) (fun c2 => ?_) (fun c2 => ?_)
    · have hm := mr_if c2 hm
      refine lv_aload_n hx hb dX10_feed_28 rfl (lv_at hl 0 rfl) ?_
      refine lv_iload_n hx hb dX10_feed_29 rfl (lv_at hl 1 rfl) ?_
      obtain ⟨⟨m_tape_3, m_taped_3⟩, hz3, hm⟩ := mr_bind hm
      try dsimp only at hm
      refine mr_wVv (As := [.int x1]) (rest := []) (sr_okZ adK adV) ⟨hx, hb, hml, hown, hts⟩ (kX10_addInt l htr dC dI adK adV cI cB cJ cZ cQ obM mq_tape obY obA obB mq_kept mq_sizes mq_asked mq_pairs m_thrown_1 m_taped m_has m_place m_many m_tape _ x1 _ hz3) (cwV 1 hts (g10_55 _) rfl rfl rfl (by decide +kernel) ⟨(by show 0 + 1 ≤ 1; omega), (by show 8 + (3 + 11) + (0) ≤ 22; omega)⟩) hS hA hP hD hK hz0 (wr := []) (w1 := [(obM, .inr (1, [.int m_thrown_1, .ref mq_tape, .int m_taped_3, .ref obY, .ref obA, .ref obB, .int m_has, .int m_place, .ref mq_kept, .ref mq_sizes, .ref mq_asked, .ref mq_pairs, .int m_many])), (mq_tape, .inl (cB, 4096, .inl m_tape_3))]) [0, 1] [] [0, 1] rfl rfl rfl rfl rfl (by decide) rfl rfl rfl (va_recv hK hP (ci := 1) (q0 := 0) rfl rfl) rfl rfl hl.1 (Nat.le_of_ble_eq_true rfl) dX10_feed_30 ⟨Nat.zero_le _, Nat.zero_le _⟩ (fun H locs hP hD hS => ?_)
      refine lv_aload_n hx hb dX10_feed_33 rfl (lv_at hl 0 rfl) ?_
      refine lv_iload_n hx hb dX10_feed_34 rfl (lv_at hl 2 rfl) ?_
      obtain ⟨⟨m_tape_4, m_taped_4⟩, hz4, hm⟩ := mr_bind hm
      try dsimp only at hm
      refine mr_wVv (As := [.int x2]) (rest := []) (sr_okZ adK adV) ⟨hx, hb, hml, hown, hts⟩ (kX10_addInt l htr dC dI adK adV cI cB cJ cZ cQ obM mq_tape obY obA obB mq_kept mq_sizes mq_asked mq_pairs m_thrown_1 m_taped_3 m_has m_place m_many m_tape_3 _ x2 _ hz4) (cwV 1 hts (g10_55 _) rfl rfl rfl (by decide +kernel) ⟨(by show 0 + 1 ≤ 1; omega), (by show 8 + (3 + 11) + (0) ≤ 22; omega)⟩) hS hA hP hD hK hz0 (wr := []) (w1 := [(obM, .inr (1, [.int m_thrown_1, .ref mq_tape, .int m_taped_4, .ref obY, .ref obA, .ref obB, .int m_has, .int m_place, .ref mq_kept, .ref mq_sizes, .ref mq_asked, .ref mq_pairs, .int m_many])), (mq_tape, .inl (cB, 4096, .inl m_tape_4))]) [0, 1] [] [0, 1] rfl rfl rfl rfl rfl (by decide) rfl rfl rfl (va_recv hK hP (ci := 1) (q0 := 0) rfl rfl) rfl rfl hl.1 (Nat.le_of_ble_eq_true rfl) dX10_feed_35 ⟨Nat.zero_le _, Nat.zero_le _⟩ (fun H locs hP hD hS => ?_)
      refine lv_aload_n hx hb dX10_feed_38 rfl (lv_at hl 0 rfl) ?_
      refine lv_iload_n hx hb dX10_feed_39 rfl (lv_at hl 3 rfl) ?_
      obtain ⟨⟨m_tape_5, m_taped_5⟩, hz5, hm⟩ := mr_bind hm
      try dsimp only at hm
      refine mr_wVv (As := [.int x3]) (rest := []) (sr_okZ adK adV) ⟨hx, hb, hml, hown, hts⟩ (kX10_addInt l htr dC dI adK adV cI cB cJ cZ cQ obM mq_tape obY obA obB mq_kept mq_sizes mq_asked mq_pairs m_thrown_1 m_taped_4 m_has m_place m_many m_tape_4 _ x3 _ hz5) (cwV 1 hts (g10_55 _) rfl rfl rfl (by decide +kernel) ⟨(by show 0 + 1 ≤ 1; omega), (by show 8 + (3 + 11) + (0) ≤ 22; omega)⟩) hS hA hP hD hK hz0 (wr := []) (w1 := [(obM, .inr (1, [.int m_thrown_1, .ref mq_tape, .int m_taped_5, .ref obY, .ref obA, .ref obB, .int m_has, .int m_place, .ref mq_kept, .ref mq_sizes, .ref mq_asked, .ref mq_pairs, .int m_many])), (mq_tape, .inl (cB, 4096, .inl m_tape_5))]) [0, 1] [] [0, 1] rfl rfl rfl rfl rfl (by decide) rfl rfl rfl (va_recv hK hP (ci := 1) (q0 := 0) rfl rfl) rfl rfl hl.1 (Nat.le_of_ble_eq_true rfl) dX10_feed_40 ⟨Nat.zero_le _, Nat.zero_le _⟩ (fun H locs hP hD hS => ?_)
      refine lv_aload_n hx hb dX10_feed_43 rfl (lv_at hl 0 rfl) ?_
      refine lv_iload hx hb dX10_feed_44 (lv_at hl 4 rfl) ?_
      obtain ⟨⟨m_tape_6, m_taped_6⟩, hz6, hm⟩ := mr_bind hm
      try dsimp only at hm
      refine mr_wVv (As := [.int x4]) (rest := []) (sr_okZ adK adV) ⟨hx, hb, hml, hown, hts⟩ (kX10_addInt l htr dC dI adK adV cI cB cJ cZ cQ obM mq_tape obY obA obB mq_kept mq_sizes mq_asked mq_pairs m_thrown_1 m_taped_5 m_has m_place m_many m_tape_5 _ x4 _ hz6) (cwV 1 hts (g10_55 _) rfl rfl rfl (by decide +kernel) ⟨(by show 0 + 1 ≤ 1; omega), (by show 8 + (3 + 11) + (0) ≤ 22; omega)⟩) hS hA hP hD hK hz0 (wr := []) (w1 := [(obM, .inr (1, [.int m_thrown_1, .ref mq_tape, .int m_taped_6, .ref obY, .ref obA, .ref obB, .int m_has, .int m_place, .ref mq_kept, .ref mq_sizes, .ref mq_asked, .ref mq_pairs, .int m_many])), (mq_tape, .inl (cB, 4096, .inl m_tape_6))]) [0, 1] [] [0, 1] rfl rfl rfl rfl rfl (by decide) rfl rfl rfl (va_recv hK hP (ci := 1) (q0 := 0) rfl rfl) rfl rfl hl.1 (Nat.le_of_ble_eq_true rfl) dX10_feed_46 ⟨Nat.zero_le _, Nat.zero_le _⟩ (fun H locs hP hD hS => ?_)
      refine lv_aload_n hx hb dX10_feed_49 rfl (lv_at hl 0 rfl) ?_
      refine lv_iload hx hb dX10_feed_50 (lv_at hl 5 rfl) ?_
      obtain ⟨⟨m_tape_7, m_taped_7⟩, hz7, hm⟩ := mr_bind hm
      try dsimp only at hm
      refine mr_wVv (As := [.int x5]) (rest := []) (sr_okZ adK adV) ⟨hx, hb, hml, hown, hts⟩ (kX10_addInt l htr dC dI adK adV cI cB cJ cZ cQ obM mq_tape obY obA obB mq_kept mq_sizes mq_asked mq_pairs m_thrown_1 m_taped_6 m_has m_place m_many m_tape_6 _ x5 _ hz7) (cwV 1 hts (g10_55 _) rfl rfl rfl (by decide +kernel) ⟨(by show 0 + 1 ≤ 1; omega), (by show 8 + (3 + 11) + (0) ≤ 22; omega)⟩) hS hA hP hD hK hz0 (wr := []) (w1 := [(obM, .inr (1, [.int m_thrown_1, .ref mq_tape, .int m_taped_7, .ref obY, .ref obA, .ref obB, .int m_has, .int m_place, .ref mq_kept, .ref mq_sizes, .ref mq_asked, .ref mq_pairs, .int m_many])), (mq_tape, .inl (cB, 4096, .inl m_tape_7))]) [0, 1] [] [0, 1] rfl rfl rfl rfl rfl (by decide) rfl rfl rfl (va_recv hK hP (ci := 1) (q0 := 0) rfl rfl) rfl rfl hl.1 (Nat.le_of_ble_eq_true rfl) dX10_feed_52 ⟨Nat.zero_le _, Nat.zero_le _⟩ (fun H locs hP hD hS => ?_)
      refine lv_aload_n hx hb dX10_feed_55 rfl (lv_at hl 0 rfl) ?_
      refine va_get (D := (dC, dI)) (ci := 1) (v := .int m_taped_7) (C := RX10) (T := TX10) (N := 13) hx hb hts (inX10 _) hown hK hP 0 rfl rfl 2 (by decide) (hts _ (List.mem_cons_of_mem _ wf10_48)) (fun _ h9 => h9) rfl dX10_feed_56 ?_
      obtain rfl := Option.some.inj hm
      subst hQ0
      exact W.iret (v := m_taped_7) hx hb hr (fun t ht hW => ⟨⟨m_taped_7, (m_thrown_1, m_tape_7, m_taped_7), rfl, ⟨rfl, rfl⟩, by rw [ht]; exact hP, va_K.moved hW.alike hK, hD⟩, hS.F ht⟩) hS.2.2 dX10_feed_59
    · have hm := mr_un c2 hm
      refine lv_iconst (v := 0) hx hb dX10_feed_26 (by decide) ?_
      obtain rfl := Option.some.inj hm
      subst hQ0
      exact W.iret (v := 0) hx hb hr (fun t ht hW => ⟨⟨0, (m_thrown_1, m_tape, m_taped), rfl, ⟨rfl, rfl⟩, by rw [ht]; exact hP, va_K.moved hW.alike hK, hD⟩, hS.F ht⟩) hS.2.2 dX10_feed_27
  refine lv_icmp_le (tgt := 18) hx hb dX10_feed_11 (by decide) (fun c8 => ?_) (fun c8 => ?_)
  · have hm := mr_if c8 hm
    refine lv_iconst (v := 0) hx hb dX10_feed_18 (by decide) ?_
    exact j19 m_thrown m_tape m_taped a0 a1 a2 a3 a4 0 _ _ ls hP hD hS (lv_sub hl [0, 1, 2, 3, 4, 5] rfl) hm
  · have hm := mr_un c8 hm
    refine lv_iconst (v := 1) hx hb dX10_feed_14 (by decide) ?_
    refine lv_goto (tgt := 19) hx hb dX10_feed_15 (by decide) ?_
    exact j19 m_thrown m_tape m_taped a0 a1 a2 a3 a4 1 _ _ ls hP hD hS (lv_sub hl [0, 1, 2, 3, 4, 5] rfl) hm
set_option maxHeartbeats 4000000 in
set_option maxRecDepth 100000 in
theorem kX10_end (l : Launch) (htr : l.stackTraces = false) (dC : Nat → ClassId) (dI : Nat → Nat → Nat) (adK adV : Nat → Nat) (cI cB cJ cZ cQ : ClassId) (obM mq_tape obY obA obB mq_kept mq_sizes mq_asked mq_pairs : Nat) (m_thrown : Int32) (m_taped : Int32) (m_has : Int32) (m_place : Int32) (m_many : Int32) (sz : Nat) (a0 : Int32) (res : Int32 × Int32) (hm : m_X10_end m_thrown m_taped a0 = some res) : Met l yX10_end wsX10_end (rmX10_end 0 0) (pcW (sr_Z adK adV) (dC, dI) srCl [(cI, .int), (cB, .byte), (cJ, .long), (cZ, .boolean), (cQ, .object "SchemaReader$Schema")] [.ref obM, .int a0] [(obM, .inr (1, [.int m_thrown, .ref mq_tape, .int m_taped, .ref obY, .ref obA, .ref obB, .int m_has, .int m_place, .ref mq_kept, .ref mq_sizes, .ref mq_asked, .ref mq_pairs, .int m_many]))] sz) (va_Qv (fun u' => u' = res) (pcB (dC, dI) srCl [(cI, .int), (cB, .byte), (cJ, .long), (cZ, .boolean), (cQ, .object "SchemaReader$Schema")] (fun u : Int32 × Int32 => [(obM, .inr (1, [.int u.1, .ref mq_tape, .int u.2, .ref obY, .ref obA, .ref obB, .int m_has, .int m_place, .ref mq_kept, .ref mq_sizes, .ref mq_asked, .ref mq_pairs, .int m_many]))]) (va_A [(obM, .inr (1, [.int m_thrown, .ref mq_tape, .int m_taped, .ref obY, .ref obA, .ref obB, .int m_has, .int m_place, .ref mq_kept, .ref mq_sizes, .ref mq_asked, .ref mq_pairs, .int m_many]))] sz)) (va_A [(obM, .inr (1, [.int m_thrown, .ref mq_tape, .int m_taped, .ref obY, .ref obA, .ref obB, .int m_has, .int m_place, .ref mq_kept, .ref mq_sizes, .ref mq_asked, .ref mq_pairs, .int m_many]))] sz)) 0 0 (va_A [(obM, .inr (1, [.int m_thrown, .ref mq_tape, .int m_taped, .ref obY, .ref obA, .ref obB, .int m_has, .int m_place, .ref mq_kept, .ref mq_sizes, .ref mq_asked, .ref mq_pairs, .int m_many]))] sz) := by
  refine Met.ofW (cc := cX10_end) (maxL := 2) (ret := none) (by decide) rfl ?_
  intro p e s m args below meth c s₁ B hml hv
  obtain ⟨rfl, hsz, hP, hK, hD0, hz0⟩ := hv
  have hx := B.exec
  have hb := B.bytes
  have hr := B.returns
  have hts := atoms_spec (ws := wsX10_end) B.pre
  have hown : s.vm.findClass RX10 = some m.cls := findClass_of_methodNamed B.named
  have hlocks := B.notSynchronized
  subst hsz
  have hD := hD0.self (sz := s.heap.size)
  generalize hAe : va_A [(obM, .inr (1, [.int m_thrown, .ref mq_tape, .int m_taped, .ref obY, .ref obA, .ref obB, .int m_has, .int m_place, .ref mq_kept, .ref mq_sizes, .ref mq_asked, .ref mq_pairs, .int m_many]))] s.heap.size = A at hD hz0 ⊢
  have hA : ∀ q : Nat, s.heap.size ≤ q → A q := fun q h => by rw [← hAe]; exact Or.inr h
  have hS : va_S A s.heap s.heap [] := va_S.rf
  generalize hQ0 : MQ below (va_Qv (fun u' => u' = res) (pcB (dC, dI) srCl [(cI, .int), (cB, .byte), (cJ, .long), (cZ, .boolean), (cQ, .object "SchemaReader$Schema")] (fun u : Int32 × Int32 => [(obM, .inr (1, [.int u.1, .ref mq_tape, .int u.2, .ref obY, .ref obA, .ref obB, .int m_has, .int m_place, .ref mq_kept, .ref mq_sizes, .ref mq_asked, .ref mq_pairs, .int m_many]))]) A) A) [.ref obM, .int a0].toArray s 0 0 A = Q0
  have hl := lv_entry [.ref obM, .int a0] (n := 2) (Nat.le_of_ble_eq_true rfl)
  rw [lg_entry_eq]
  generalize (lg_sl [.ref obM, .int a0] ++ List.replicate (2 - (lg_sl [.ref obM, .int a0]).length) Slot.unset).toArray = ls at hl ⊢
  have hl : lv_has ls 2 [(0, .ref obM), (1, .int a0)] := hl
  unfold m_X10_end at hm
  refine lv_aload_n hx hb dX10_end_0 rfl (lv_at hl 0 rfl) ?_
  refine lv_iload_n hx hb dX10_end_1 rfl (lv_at hl 1 rfl) ?_
  refine lv_iconst (v := 0) hx hb dX10_end_2 (by decide) ?_
  refine lv_aload_n hx hb dX10_end_3 rfl (lv_at hl 0 rfl) ?_
  refine va_get (D := (dC, dI)) (ci := 1) (v := .int m_taped) (C := RX10) (T := TX10) (N := 13) hx hb hts (inX10 _) hown hK hP 0 rfl rfl 2 (by decide) (hts _ (List.mem_cons_of_mem _ wf10_48)) (fun _ h9 => h9) rfl dX10_end_4 ?_
  obtain ⟨r1, hz1, hm⟩ := mr_bind hm
  refine mr_pS (As := [.int a0, .int 0, .int m_taped]) (rest := [.ref obM]) (sr_okZ adK adV) ⟨hx, hb, hml, hown, hts⟩ (kX10_within l htr dC dI adK adV cI cB cJ cZ cQ  a0 0 m_taped r1 hz1) (va_cwS 3 hts (g10_59 _) rfl rfl rfl (by decide +kernel) ⟨(by show 0 + 1 ≤ 1; omega), (by show 8 + (3 + 11) + (0) ≤ 22; omega)⟩) hS hP hK hz0 [] rfl rfl rfl hl.1 (Nat.le_of_ble_eq_true rfl) dX10_end_7 ⟨Nat.zero_le _, Nat.zero_le _⟩ ?_
  have j18 : ∀ (m_thrown : Int32) (m_taped : Int32) (x1 : Int32) (y0 : Int32) (H : Heap) (locs : List Loc) (ls : Array Slot), va_P (dC, dI) srCl [(obM, .inr (1, [.int m_thrown, .ref mq_tape, .int m_taped, .ref obY, .ref obA, .ref obB, .int m_has, .int m_place, .ref mq_kept, .ref mq_sizes, .ref mq_asked, .ref mq_pairs, .int m_many]))] H → va_D A [(obM, .inr (1, [.int m_thrown, .ref mq_tape, .int m_taped, .ref obY, .ref obA, .ref obB, .int m_has, .int m_place, .ref mq_kept, .ref mq_sizes, .ref mq_asked, .ref mq_pairs, .int m_many]))] → va_S A s.heap H locs → lv_has ls 2 [(0, .ref obM), (1, .int x1)] → m_X10_end_18 m_thrown m_taped x1 y0 = some res → W p l e (headSpec wsX10_end (rmX10_end 0 0)).room s m [.ref obM, .int a0].toArray below meth c H locs 0 0 Q0 (F0 m 18 ls [.int y0, .ref obM]) := by
    intro m_thrown m_taped x1 y0 H locs ls hP hD hS hl hm
    unfold m_X10_end_18 at hm
    refine lv_iconst (v := 0) hx hb dX10_end_18 (by decide) ?_
    obtain ⟨⟨r2, m_thrown_2⟩, hz2, hm⟩ := mr_bind hm
    try dsimp only at hm
    refine mr_wVi (As := [.int y0, .int 0]) (rest := []) (sr_okZ adK adV) ⟨hx, hb, hml, hown, hts⟩ (kX10_refused l htr dC dI adK adV cI cB cJ cZ cQ obM mq_tape obY obA obB mq_kept mq_sizes mq_asked mq_pairs m_thrown m_taped m_has m_place m_many _ y0 0 _ hz2) (cwV 2 hts (g10_51 _) rfl rfl rfl (by decide +kernel) ⟨(by show 0 + 1 ≤ 1; omega), (by show 8 + (3 + 11) + (0) ≤ 22; omega)⟩) hS hA hP hD hK hz0 (wr := []) (w1 := [(obM, .inr (1, [.int m_thrown_2, .ref mq_tape, .int m_taped, .ref obY, .ref obA, .ref obB, .int m_has, .int m_place, .ref mq_kept, .ref mq_sizes, .ref mq_asked, .ref mq_pairs, .int m_many]))]) [0] [] [0] rfl rfl rfl rfl rfl (by decide) rfl rfl rfl (va_recv hK hP (ci := 1) (q0 := 0) rfl rfl) rfl rfl hl.1 (Nat.le_of_ble_eq_true rfl) dX10_end_19 ⟨Nat.zero_le _, Nat.zero_le _⟩ (fun H locs hP hD hS => ?_)
    refine lv_if_ne (tgt := 30) hx hb dX10_end_22 (by decide) (fun c3 => ?_) (fun c3 => ?_)
    · have hm := mr_un c3 hm
      obtain rfl := Option.some.inj hm
      subst hQ0
      exact W.vret hx hb hr (fun t ht hW => ⟨⟨(m_thrown_2, m_taped), rfl, rfl, by rw [ht]; exact hP, va_K.moved hW.alike hK, hD⟩, hS.F ht⟩) hS.2.2 dX10_end_30
    · have hm := mr_if c3 hm
      refine lv_aload_n hx hb dX10_end_25 rfl (lv_at hl 0 rfl) ?_
      refine lv_iload_n hx hb dX10_end_26 rfl (lv_at hl 1 rfl) ?_
      refine va_put (D := (dC, dI)) (ci := 1) (v := .int x1) (ty := .int) (C := RX10) (T := TX10) (N := 13) hx hb hts (inX10 _) tyX10 tyX10_ok nmX10 hown hK hP hD hS 0 rfl rfl 2 (by decide) (hts _ (List.mem_cons_of_mem _ wf10_48)) (fun _ h9 => h9) rfl (by decide +kernel) rfl rfl (Nat.le_of_ble_eq_true rfl) dX10_end_27 (fun H locs hP hD hS => ?_)
      have hP : va_P (dC, dI) srCl [(obM, .inr (1, [.int m_thrown_2, .ref mq_tape, .int x1, .ref obY, .ref obA, .ref obB, .int m_has, .int m_place, .ref mq_kept, .ref mq_sizes, .ref mq_asked, .ref mq_pairs, .int m_many]))] H := hP
      have hD : va_D A [(obM, .inr (1, [.int m_thrown_2, .ref mq_tape, .int x1, .ref obY, .ref obA, .ref obB, .int m_has, .int m_place, .ref mq_kept, .ref mq_sizes, .ref mq_asked, .ref mq_pairs, .int m_many]))] := hD
      obtain rfl := Option.some.inj hm
      subst hQ0
      exact W.vret hx hb hr (fun t ht hW => ⟨⟨(m_thrown_2, x1), rfl, rfl, by rw [ht]; exact hP, va_K.moved hW.alike hK, hD⟩, hS.F ht⟩) hS.2.2 dX10_end_30
  refine lv_if_ne (tgt := 17) hx hb dX10_end_10 (by decide) (fun c4 => ?_) (fun c4 => ?_)
  · have hm := mr_un c4 hm
    refine lv_iconst (v := 0) hx hb dX10_end_17 (by decide) ?_
    exact j18 m_thrown m_taped a0 0 _ _ ls hP hD hS (lv_sub hl [0, 1] rfl) hm
  · have hm := mr_if c4 hm
    refine lv_iconst (v := 1) hx hb dX10_end_13 (by decide) ?_
    refine lv_goto (tgt := 18) hx hb dX10_end_14 (by decide) ?_
    exact j18 m_thrown m_taped a0 1 _ _ ls hP hD hS (lv_sub hl [0, 1] rfl) hm
set_option maxHeartbeats 4000000 in
set_option maxRecDepth 100000 in
theorem kX10_isPlace (l : Launch) (htr : l.stackTraces = false) (dC : Nat → ClassId) (dI : Nat → Nat → Nat) (adK adV : Nat → Nat) (cI cB cJ cZ cQ : ClassId) (a0 : Int32) (res : Int32) (hm : m_X10_isPlace a0 = some res) : Met l yX10_isPlace wsX10_isPlace (rmX10_isPlace 0 0) (pcR (sr_Z adK adV) (dC, dI) srCl [(cI, .int), (cB, .byte), (cJ, .long), (cZ, .boolean), (cQ, .object "SchemaReader$Schema")] [.int a0] []) (k2_QcV (.int res)) 0 0 (fun _ => False) := by
  refine Met.ofW (cc := cX10_isPlace) (maxL := 1) (ret := (some .boolean)) (by decide) rfl ?_
  intro p e s m args below meth c s₁ B hml hv
  obtain ⟨rfl, hP, hK, hz0⟩ := hv
  have hx := B.exec
  have hb := B.bytes
  have hr := B.returns
  have hts := atoms_spec (ws := wsX10_isPlace) B.pre
  have hown : s.vm.findClass RX10 = some m.cls := findClass_of_methodNamed B.named
  have hlocks := B.notSynchronized
  have hS : va_S (fun _ => False) s.heap s.heap [] := va_S.rf
  generalize hQ0 : MQ below (k2_QcV (.int res)) [.int a0].toArray s 0 0 (fun _ => False) = Q0
  have hl := lv_entry [.int a0] (n := 1) (Nat.le_of_ble_eq_true rfl)
  rw [lg_entry_eq]
  generalize (lg_sl [.int a0] ++ List.replicate (1 - (lg_sl [.int a0]).length) Slot.unset).toArray = ls at hl ⊢
  have hl : lv_has ls 1 [(0, .int a0)] := hl
  unfold m_X10_isPlace at hm
  refine lv_iload_n hx hb dX10_isPlace_0 rfl (lv_at hl 0 rfl) ?_
  refine lv_iconst (v := 0) hx hb dX10_isPlace_1 (by decide) ?_
  refine lv_bipush (v := 7) hx hb dX10_isPlace_2 (by decide) ?_
  obtain ⟨r1, hz1, hm⟩ := mr_bind hm
  refine mr_pS (As := [.int a0, .int 0, .int 7]) (rest := []) (sr_okZ adK adV) ⟨hx, hb, hml, hown, hts⟩ (kX10_within l htr dC dI adK adV cI cB cJ cZ cQ  a0 0 7 r1 hz1) (va_cwS 3 hts (g10_59 _) rfl rfl rfl (by decide +kernel) ⟨(by show 0 + 1 ≤ 1; omega), (by show 8 + (3 + 11) + (0) ≤ 22; omega)⟩) hS hP hK hz0 [] rfl rfl rfl hl.1 (Nat.le_of_ble_eq_true rfl) dX10_isPlace_4 ⟨Nat.zero_le _, Nat.zero_le _⟩ ?_
  obtain ⟨h2, hm⟩ := mr_bz hm
  obtain rfl := Option.some.inj hm
  subst hQ0
  exact W.zret (v := r1) hx hb hr h2 (fun t ht hW => ⟨rfl, ht⟩) (fun q h => by cases h) dX10_isPlace_7
set_option maxHeartbeats 4000000 in
set_option maxRecDepth 100000 in
theorem kX10_place (l : Launch) (htr : l.stackTraces = false) (dC : Nat → ClassId) (dI : Nat → Nat → Nat) (adK adV : Nat → Nat) (cI cB cJ cZ cQ : ClassId) (obM mq_tape obY obA obB mq_kept mq_sizes mq_asked mq_pairs : Nat) (m_thrown : Int32) (m_taped : Int32) (m_has : Int32) (m_place : Int32) (m_many : Int32) (sz : Nat) (res : Int32 × Int32) (hm : m_X10_place m_thrown m_place = some res) : Met l yX10_place wsX10_place (rmX10_place 0 0) (pcW (sr_Z adK adV) (dC, dI) srCl [(cI, .int), (cB, .byte), (cJ, .long), (cZ, .boolean), (cQ, .object "SchemaReader$Schema")] [.ref obM] [(obM, .inr (1, [.int m_thrown, .ref mq_tape, .int m_taped, .ref obY, .ref obA, .ref obB, .int m_has, .int m_place, .ref mq_kept, .ref mq_sizes, .ref mq_asked, .ref mq_pairs, .int m_many]))] sz) (va_Qi (fun r' u' => r' = res.1 ∧ u' = res.2) (pcB (dC, dI) srCl [(cI, .int), (cB, .byte), (cJ, .long), (cZ, .boolean), (cQ, .object "SchemaReader$Schema")] (fun u : Int32 => [(obM, .inr (1, [.int u, .ref mq_tape, .int m_taped, .ref obY, .ref obA, .ref obB, .int m_has, .int m_place, .ref mq_kept, .ref mq_sizes, .ref mq_asked, .ref mq_pairs, .int m_many]))]) (va_A [(obM, .inr (1, [.int m_thrown, .ref mq_tape, .int m_taped, .ref obY, .ref obA, .ref obB, .int m_has, .int m_place, .ref mq_kept, .ref mq_sizes, .ref mq_asked, .ref mq_pairs, .int m_many]))] sz)) (va_A [(obM, .inr (1, [.int m_thrown, .ref mq_tape, .int m_taped, .ref obY, .ref obA, .ref obB, .int m_has, .int m_place, .ref mq_kept, .ref mq_sizes, .ref mq_asked, .ref mq_pairs, .int m_many]))] sz)) 0 0 (va_A [(obM, .inr (1, [.int m_thrown, .ref mq_tape, .int m_taped, .ref obY, .ref obA, .ref obB, .int m_has, .int m_place, .ref mq_kept, .ref mq_sizes, .ref mq_asked, .ref mq_pairs, .int m_many]))] sz) := by
  refine Met.ofW (cc := cX10_place) (maxL := 1) (ret := (some .int)) (by decide) rfl ?_
  intro p e s m args below meth c s₁ B hml hv
  obtain ⟨rfl, hsz, hP, hK, hD0, hz0⟩ := hv
  have hx := B.exec
  have hb := B.bytes
  have hr := B.returns
  have hts := atoms_spec (ws := wsX10_place) B.pre
  have hown : s.vm.findClass RX10 = some m.cls := findClass_of_methodNamed B.named
  have hlocks := B.notSynchronized
  subst hsz
  have hD := hD0.self (sz := s.heap.size)
  generalize hAe : va_A [(obM, .inr (1, [.int m_thrown, .ref mq_tape, .int m_taped, .ref obY, .ref obA, .ref obB, .int m_has, .int m_place, .ref mq_kept, .ref mq_sizes, .ref mq_asked, .ref mq_pairs, .int m_many]))] s.heap.size = A at hD hz0 ⊢
  have hA : ∀ q : Nat, s.heap.size ≤ q → A q := fun q h => by rw [← hAe]; exact Or.inr h
  have hS : va_S A s.heap s.heap [] := va_S.rf
  generalize hQ0 : MQ below (va_Qi (fun r' u' => r' = res.1 ∧ u' = res.2) (pcB (dC, dI) srCl [(cI, .int), (cB, .byte), (cJ, .long), (cZ, .boolean), (cQ, .object "SchemaReader$Schema")] (fun u : Int32 => [(obM, .inr (1, [.int u, .ref mq_tape, .int m_taped, .ref obY, .ref obA, .ref obB, .int m_has, .int m_place, .ref mq_kept, .ref mq_sizes, .ref mq_asked, .ref mq_pairs, .int m_many]))]) A) A) [.ref obM].toArray s 0 0 A = Q0
  have hl := lv_entry [.ref obM] (n := 1) (Nat.le_of_ble_eq_true rfl)
  rw [lg_entry_eq]
  generalize (lg_sl [.ref obM] ++ List.replicate (1 - (lg_sl [.ref obM]).length) Slot.unset).toArray = ls at hl ⊢
  have hl : lv_has ls 1 [(0, .ref obM)] := hl
  unfold m_X10_place at hm
  refine lv_aload_n hx hb dX10_place_0 rfl (lv_at hl 0 rfl) ?_
  refine lv_iconst (v := 0) hx hb dX10_place_1 (by decide) ?_
  refine va_put (D := (dC, dI)) (ci := 1) (v := .int 0) (ty := .int) (C := RX10) (T := TX10) (N := 13) hx hb hts (inX10 _) tyX10 tyX10_ok nmX10 hown hK hP hD hS 0 rfl rfl 0 (by decide) (hts _ (List.mem_cons_of_mem _ wf10_45)) (fun _ h9 => h9) rfl (by decide +kernel) rfl rfl (Nat.le_of_ble_eq_true rfl) dX10_place_2 (fun H locs hP hD hS => ?_)
  have hP : va_P (dC, dI) srCl [(obM, .inr (1, [.int 0, .ref mq_tape, .int m_taped, .ref obY, .ref obA, .ref obB, .int m_has, .int m_place, .ref mq_kept, .ref mq_sizes, .ref mq_asked, .ref mq_pairs, .int m_many]))] H := hP
  have hD : va_D A [(obM, .inr (1, [.int 0, .ref mq_tape, .int m_taped, .ref obY, .ref obA, .ref obB, .int m_has, .int m_place, .ref mq_kept, .ref mq_sizes, .ref mq_asked, .ref mq_pairs, .int m_many]))] := hD
  refine lv_aload_n hx hb dX10_place_5 rfl (lv_at hl 0 rfl) ?_
  refine va_get (D := (dC, dI)) (ci := 1) (v := .int m_place) (C := RX10) (T := TX10) (N := 13) hx hb hts (inX10 _) hown hK hP 0 rfl rfl 7 (by decide) (hts _ (List.mem_cons_of_mem _ wf10_26)) (fun _ h9 => h9) rfl dX10_place_6 ?_
  obtain rfl := Option.some.inj hm
  subst hQ0
  exact W.iret (v := m_place) hx hb hr (fun t ht hW => ⟨⟨m_place, 0, rfl, ⟨rfl, rfl⟩, by rw [ht]; exact hP, va_K.moved hW.alike hK, hD⟩, hS.F ht⟩) hS.2.2 dX10_place_9
set_option maxHeartbeats 4000000 in
set_option maxRecDepth 100000 in
theorem kX10_size (l : Launch) (htr : l.stackTraces = false) (dC : Nat → ClassId) (dI : Nat → Nat → Nat) (adK adV : Nat → Nat) (cI cB cJ cZ cQ : ClassId) (obM mq_tape obY obA obB mq_kept mq_sizes mq_asked mq_pairs yq_bytes yq_kinds yq_firsts yq_numbers yq_sizes yq_inner yq_nexts yq_letters yq_sorts yq_names yq_wide yq_kids yq_many yq_fallback yq_kidShape yq_kidName yq_kidDefault yq_kidNext yq_finished yq_plain yq_told : Nat) (m_thrown : Int32) (m_taped : Int32) (m_has : Int32) (m_place : Int32) (m_many : Int32) (y_length : Int32) (y_at : Int32) (y_deep : Int32) (y_fault : Int32) (y_place : Int32) (y_end : Int32) (y_nodes : Int32) (y_lettered : Int32) (y_shapes : Int32) (y_looked : Int32) (y_kidCount : Int32) (y_done : Int32) (y_root : Int32) (y_plainSize : Int32) (sz : Nat) (res : Int32 × Int32) (hm : m_X10_size m_thrown m_has y_plainSize = some res) : Met l yX10_size wsX10_size (rmX10_size 0 0) (pcW (sr_Z adK adV) (dC, dI) srCl [(cI, .int), (cB, .byte), (cJ, .long), (cZ, .boolean), (cQ, .object "SchemaReader$Schema")] [.ref obM] [(obM, .inr (1, [.int m_thrown, .ref mq_tape, .int m_taped, .ref obY, .ref obA, .ref obB, .int m_has, .int m_place, .ref mq_kept, .ref mq_sizes, .ref mq_asked, .ref mq_pairs, .int m_many])), (obY, .inr (0, [.ref yq_bytes, .int y_length, .int y_at, .int y_deep, .int y_fault, .int y_place, .int y_end, .int y_nodes, .ref yq_kinds, .ref yq_firsts, .ref yq_numbers, .ref yq_sizes, .ref yq_inner, .ref yq_nexts, .ref yq_letters, .int y_lettered, .int y_shapes, .int y_looked, .ref yq_sorts, .ref yq_names, .ref yq_wide, .ref yq_kids, .ref yq_many, .ref yq_fallback, .int y_kidCount, .ref yq_kidShape, .ref yq_kidName, .ref yq_kidDefault, .ref yq_kidNext, .int y_done, .ref yq_finished, .int y_root, .ref yq_plain, .int y_plainSize, .ref yq_told]))] sz) (va_Qi (fun r' u' => r' = res.1 ∧ u' = res.2) (pcB (dC, dI) srCl [(cI, .int), (cB, .byte), (cJ, .long), (cZ, .boolean), (cQ, .object "SchemaReader$Schema")] (fun u : Int32 => [(obM, .inr (1, [.int u, .ref mq_tape, .int m_taped, .ref obY, .ref obA, .ref obB, .int m_has, .int m_place, .ref mq_kept, .ref mq_sizes, .ref mq_asked, .ref mq_pairs, .int m_many])), (obY, .inr (0, [.ref yq_bytes, .int y_length, .int y_at, .int y_deep, .int y_fault, .int y_place, .int y_end, .int y_nodes, .ref yq_kinds, .ref yq_firsts, .ref yq_numbers, .ref yq_sizes, .ref yq_inner, .ref yq_nexts, .ref yq_letters, .int y_lettered, .int y_shapes, .int y_looked, .ref yq_sorts, .ref yq_names, .ref yq_wide, .ref yq_kids, .ref yq_many, .ref yq_fallback, .int y_kidCount, .ref yq_kidShape, .ref yq_kidName, .ref yq_kidDefault, .ref yq_kidNext, .int y_done, .ref yq_finished, .int y_root, .ref yq_plain, .int y_plainSize, .ref yq_told]))]) (va_A [(obM, .inr (1, [.int m_thrown, .ref mq_tape, .int m_taped, .ref obY, .ref obA, .ref obB, .int m_has, .int m_place, .ref mq_kept, .ref mq_sizes, .ref mq_asked, .ref mq_pairs, .int m_many])), (obY, .inr (0, [.ref yq_bytes, .int y_length, .int y_at, .int y_deep, .int y_fault, .int y_place, .int y_end, .int y_nodes, .ref yq_kinds, .ref yq_firsts, .ref yq_numbers, .ref yq_sizes, .ref yq_inner, .ref yq_nexts, .ref yq_letters, .int y_lettered, .int y_shapes, .int y_looked, .ref yq_sorts, .ref yq_names, .ref yq_wide, .ref yq_kids, .ref yq_many, .ref yq_fallback, .int y_kidCount, .ref yq_kidShape, .ref yq_kidName, .ref yq_kidDefault, .ref yq_kidNext, .int y_done, .ref yq_finished, .int y_root, .ref yq_plain, .int y_plainSize, .ref yq_told]))] sz)) (va_A [(obM, .inr (1, [.int m_thrown, .ref mq_tape, .int m_taped, .ref obY, .ref obA, .ref obB, .int m_has, .int m_place, .ref mq_kept, .ref mq_sizes, .ref mq_asked, .ref mq_pairs, .int m_many])), (obY, .inr (0, [.ref yq_bytes, .int y_length, .int y_at, .int y_deep, .int y_fault, .int y_place, .int y_end, .int y_nodes, .ref yq_kinds, .ref yq_firsts, .ref yq_numbers, .ref yq_sizes, .ref yq_inner, .ref yq_nexts, .ref yq_letters, .int y_lettered, .int y_shapes, .int y_looked, .ref yq_sorts, .ref yq_names, .ref yq_wide, .ref yq_kids, .ref yq_many, .ref yq_fallback, .int y_kidCount, .ref yq_kidShape, .ref yq_kidName, .ref yq_kidDefault, .ref yq_kidNext, .int y_done, .ref yq_finished, .int y_root, .ref yq_plain, .int y_plainSize, .ref yq_told]))] sz)) 0 0 (va_A [(obM, .inr (1, [.int m_thrown, .ref mq_tape, .int m_taped, .ref obY, .ref obA, .ref obB, .int m_has, .int m_place, .ref mq_kept, .ref mq_sizes, .ref mq_asked, .ref mq_pairs, .int m_many])), (obY, .inr (0, [.ref yq_bytes, .int y_length, .int y_at, .int y_deep, .int y_fault, .int y_place, .int y_end, .int y_nodes, .ref yq_kinds, .ref yq_firsts, .ref yq_numbers, .ref yq_sizes, .ref yq_inner, .ref yq_nexts, .ref yq_letters, .int y_lettered, .int y_shapes, .int y_looked, .ref yq_sorts, .ref yq_names, .ref yq_wide, .ref yq_kids, .ref yq_many, .ref yq_fallback, .int y_kidCount, .ref yq_kidShape, .ref yq_kidName, .ref yq_kidDefault, .ref yq_kidNext, .int y_done, .ref yq_finished, .int y_root, .ref yq_plain, .int y_plainSize, .ref yq_told]))] sz) := by
  refine Met.ofW (cc := cX10_size) (maxL := 1) (ret := (some .int)) (by decide) rfl ?_
  intro p e s m args below meth c s₁ B hml hv
  obtain ⟨rfl, hsz, hP, hK, hD0, hz0⟩ := hv
  have hx := B.exec
  have hb := B.bytes
  have hr := B.returns
  have hts := atoms_spec (ws := wsX10_size) B.pre
  have hown : s.vm.findClass RX10 = some m.cls := findClass_of_methodNamed B.named
  have hlocks := B.notSynchronized
  subst hsz
  have hD := hD0.self (sz := s.heap.size)
  generalize hAe : va_A [(obM, .inr (1, [.int m_thrown, .ref mq_tape, .int m_taped, .ref obY, .ref obA, .ref obB, .int m_has, .int m_place, .ref mq_kept, .ref mq_sizes, .ref mq_asked, .ref mq_pairs, .int m_many])), (obY, .inr (0, [.ref yq_bytes, .int y_length, .int y_at, .int y_deep, .int y_fault, .int y_place, .int y_end, .int y_nodes, .ref yq_kinds, .ref yq_firsts, .ref yq_numbers, .ref yq_sizes, .ref yq_inner, .ref yq_nexts, .ref yq_letters, .int y_lettered, .int y_shapes, .int y_looked, .ref yq_sorts, .ref yq_names, .ref yq_wide, .ref yq_kids, .ref yq_many, .ref yq_fallback, .int y_kidCount, .ref yq_kidShape, .ref yq_kidName, .ref yq_kidDefault, .ref yq_kidNext, .int y_done, .ref yq_finished, .int y_root, .ref yq_plain, .int y_plainSize, .ref yq_told]))] s.heap.size = A at hD hz0 ⊢
  have hA : ∀ q : Nat, s.heap.size ≤ q → A q := fun q h => by rw [← hAe]; exact Or.inr h
  have hS : va_S A s.heap s.heap [] := va_S.rf
  generalize hQ0 : MQ below (va_Qi (fun r' u' => r' = res.1 ∧ u' = res.2) (pcB (dC, dI) srCl [(cI, .int), (cB, .byte), (cJ, .long), (cZ, .boolean), (cQ, .object "SchemaReader$Schema")] (fun u : Int32 => [(obM, .inr (1, [.int u, .ref mq_tape, .int m_taped, .ref obY, .ref obA, .ref obB, .int m_has, .int m_place, .ref mq_kept, .ref mq_sizes, .ref mq_asked, .ref mq_pairs, .int m_many])), (obY, .inr (0, [.ref yq_bytes, .int y_length, .int y_at, .int y_deep, .int y_fault, .int y_place, .int y_end, .int y_nodes, .ref yq_kinds, .ref yq_firsts, .ref yq_numbers, .ref yq_sizes, .ref yq_inner, .ref yq_nexts, .ref yq_letters, .int y_lettered, .int y_shapes, .int y_looked, .ref yq_sorts, .ref yq_names, .ref yq_wide, .ref yq_kids, .ref yq_many, .ref yq_fallback, .int y_kidCount, .ref yq_kidShape, .ref yq_kidName, .ref yq_kidDefault, .ref yq_kidNext, .int y_done, .ref yq_finished, .int y_root, .ref yq_plain, .int y_plainSize, .ref yq_told]))]) A) A) [.ref obM].toArray s 0 0 A = Q0
  have hl := lv_entry [.ref obM] (n := 1) (Nat.le_of_ble_eq_true rfl)
  rw [lg_entry_eq]
  generalize (lg_sl [.ref obM] ++ List.replicate (1 - (lg_sl [.ref obM]).length) Slot.unset).toArray = ls at hl ⊢
  have hl : lv_has ls 1 [(0, .ref obM)] := hl
  unfold m_X10_size at hm
  refine lv_aload_n hx hb dX10_size_0 rfl (lv_at hl 0 rfl) ?_
  refine lv_iconst (v := 0) hx hb dX10_size_1 (by decide) ?_
  refine va_put (D := (dC, dI)) (ci := 1) (v := .int 0) (ty := .int) (C := RX10) (T := TX10) (N := 13) hx hb hts (inX10 _) tyX10 tyX10_ok nmX10 hown hK hP hD hS 0 rfl rfl 0 (by decide) (hts _ (List.mem_cons_of_mem _ wf10_45)) (fun _ h9 => h9) rfl (by decide +kernel) rfl rfl (Nat.le_of_ble_eq_true rfl) dX10_size_2 (fun H locs hP hD hS => ?_)
  have hP : va_P (dC, dI) srCl [(obM, .inr (1, [.int 0, .ref mq_tape, .int m_taped, .ref obY, .ref obA, .ref obB, .int m_has, .int m_place, .ref mq_kept, .ref mq_sizes, .ref mq_asked, .ref mq_pairs, .int m_many])), (obY, .inr (0, [.ref yq_bytes, .int y_length, .int y_at, .int y_deep, .int y_fault, .int y_place, .int y_end, .int y_nodes, .ref yq_kinds, .ref yq_firsts, .ref yq_numbers, .ref yq_sizes, .ref yq_inner, .ref yq_nexts, .ref yq_letters, .int y_lettered, .int y_shapes, .int y_looked, .ref yq_sorts, .ref yq_names, .ref yq_wide, .ref yq_kids, .ref yq_many, .ref yq_fallback, .int y_kidCount, .ref yq_kidShape, .ref yq_kidName, .ref yq_kidDefault, .ref yq_kidNext, .int y_done, .ref yq_finished, .int y_root, .ref yq_plain, .int y_plainSize, .ref yq_told]))] H := hP
  have hD : va_D A [(obM, .inr (1, [.int 0, .ref mq_tape, .int m_taped, .ref obY, .ref obA, .ref obB, .int m_has, .int m_place, .ref mq_kept, .ref mq_sizes, .ref mq_asked, .ref mq_pairs, .int m_many])), (obY, .inr (0, [.ref yq_bytes, .int y_length, .int y_at, .int y_deep, .int y_fault, .int y_place, .int y_end, .int y_nodes, .ref yq_kinds, .ref yq_firsts, .ref yq_numbers, .ref yq_sizes, .ref yq_inner, .ref yq_nexts, .ref yq_letters, .int y_lettered, .int y_shapes, .int y_looked, .ref yq_sorts, .ref yq_names, .ref yq_wide, .ref yq_kids, .ref yq_many, .ref yq_fallback, .int y_kidCount, .ref yq_kidShape, .ref yq_kidName, .ref yq_kidDefault, .ref yq_kidNext, .int y_done, .ref yq_finished, .int y_root, .ref yq_plain, .int y_plainSize, .ref yq_told]))] := hD
  refine lv_aload_n hx hb dX10_size_5 rfl (lv_at hl 0 rfl) ?_
  refine va_get (D := (dC, dI)) (ci := 1) (v := .int m_has) (C := RX10) (T := TX10) (N := 13) hx hb hts (inX10 _) hown hK hP 0 rfl rfl 6 (by decide) (hts _ (List.mem_cons_of_mem _ wf10_67)) (fun _ h9 => h9) rfl dX10_size_6 ?_
  refine lv_if_eq (tgt := 22) hx hb dX10_size_9 (by decide) (fun c1 => ?_) (fun c1 => ?_)
  · have hm := mr_if c1 hm
    refine lv_iconst (v := 0) hx hb dX10_size_22 (by decide) ?_
    obtain rfl := Option.some.inj hm
    subst hQ0
    exact W.iret (v := 0) hx hb hr (fun t ht hW => ⟨⟨0, 0, rfl, ⟨rfl, rfl⟩, by rw [ht]; exact hP, va_K.moved hW.alike hK, hD⟩, hS.F ht⟩) hS.2.2 dX10_size_23
  · have hm := mr_un c1 hm
    refine lv_aload_n hx hb dX10_size_12 rfl (lv_at hl 0 rfl) ?_
    refine va_get (D := (dC, dI)) (ci := 1) (v := .ref obY) (C := RX10) (T := TX10) (N := 13) hx hb hts (inX10 _) hown hK hP 0 rfl rfl 3 (by decide) (hts _ (List.mem_cons_of_mem _ wf10_16)) (fun _ h9 => h9) rfl dX10_size_13 ?_
    refine va_getN (D := (dC, dI)) (ci := 0) (v := .int y_plainSize) (C := RX9) (T := TX9) (N := 35) hx hb hts (inX9 _) hown hK hP 1 rfl rfl 33 (by decide) (va_Nw.use rfl (hz0.2.2.2.2.2.2.1 _ wf10_72)) (fun _ h9 => h9) rfl dX10_size_16 ?_
    refine lv_goto (tgt := 23) hx hb dX10_size_19 (by decide) ?_
    obtain rfl := Option.some.inj hm
    subst hQ0
    exact W.iret (v := y_plainSize) hx hb hr (fun t ht hW => ⟨⟨y_plainSize, 0, rfl, ⟨rfl, rfl⟩, by rw [ht]; exact hP, va_K.moved hW.alike hK, hD⟩, hS.F ht⟩) hS.2.2 dX10_size_23
set_option maxHeartbeats 4000000 in
set_option maxRecDepth 100000 in
theorem kX10_letter (l : Launch) (htr : l.stackTraces = false) (dC : Nat → ClassId) (dI : Nat → Nat → Nat) (adK adV : Nat → Nat) (cI cB cJ cZ cQ : ClassId) (obM mq_tape obY obA obB mq_kept mq_sizes mq_asked mq_pairs yq_bytes yq_kinds yq_firsts yq_numbers yq_sizes yq_inner yq_nexts yq_letters yq_sorts yq_names yq_wide yq_kids yq_many yq_fallback yq_kidShape yq_kidName yq_kidDefault yq_kidNext yq_finished yq_plain yq_told : Nat) (m_thrown : Int32) (m_taped : Int32) (m_has : Int32) (m_place : Int32) (m_many : Int32) (y_length : Int32) (y_at : Int32) (y_deep : Int32) (y_fault : Int32) (y_place : Int32) (y_end : Int32) (y_nodes : Int32) (y_lettered : Int32) (y_shapes : Int32) (y_looked : Int32) (y_kidCount : Int32) (y_done : Int32) (y_root : Int32) (y_plainSize : Int32) (y_plain : Nat → Int32) (sz : Nat) (a0 : Int32) (res : Int32 × Int32) (hm : m_X10_letter m_thrown m_has y_plain y_plainSize a0 = some res) : Met l yX10_letter wsX10_letter (rmX10_letter 0 0) (pcW (sr_Z adK adV) (dC, dI) srCl [(cI, .int), (cB, .byte), (cJ, .long), (cZ, .boolean), (cQ, .object "SchemaReader$Schema")] [.ref obM, .int a0] [(obM, .inr (1, [.int m_thrown, .ref mq_tape, .int m_taped, .ref obY, .ref obA, .ref obB, .int m_has, .int m_place, .ref mq_kept, .ref mq_sizes, .ref mq_asked, .ref mq_pairs, .int m_many])), (obY, .inr (0, [.ref yq_bytes, .int y_length, .int y_at, .int y_deep, .int y_fault, .int y_place, .int y_end, .int y_nodes, .ref yq_kinds, .ref yq_firsts, .ref yq_numbers, .ref yq_sizes, .ref yq_inner, .ref yq_nexts, .ref yq_letters, .int y_lettered, .int y_shapes, .int y_looked, .ref yq_sorts, .ref yq_names, .ref yq_wide, .ref yq_kids, .ref yq_many, .ref yq_fallback, .int y_kidCount, .ref yq_kidShape, .ref yq_kidName, .ref yq_kidDefault, .ref yq_kidNext, .int y_done, .ref yq_finished, .int y_root, .ref yq_plain, .int y_plainSize, .ref yq_told])), (yq_plain, .inl (cB, 4200, .inl y_plain))] sz) (va_Qi (fun r' u' => r' = res.1 ∧ u' = res.2) (pcB (dC, dI) srCl [(cI, .int), (cB, .byte), (cJ, .long), (cZ, .boolean), (cQ, .object "SchemaReader$Schema")] (fun u : Int32 => [(obM, .inr (1, [.int u, .ref mq_tape, .int m_taped, .ref obY, .ref obA, .ref obB, .int m_has, .int m_place, .ref mq_kept, .ref mq_sizes, .ref mq_asked, .ref mq_pairs, .int m_many])), (obY, .inr (0, [.ref yq_bytes, .int y_length, .int y_at, .int y_deep, .int y_fault, .int y_place, .int y_end, .int y_nodes, .ref yq_kinds, .ref yq_firsts, .ref yq_numbers, .ref yq_sizes, .ref yq_inner, .ref yq_nexts, .ref yq_letters, .int y_lettered, .int y_shapes, .int y_looked, .ref yq_sorts, .ref yq_names, .ref yq_wide, .ref yq_kids, .ref yq_many, .ref yq_fallback, .int y_kidCount, .ref yq_kidShape, .ref yq_kidName, .ref yq_kidDefault, .ref yq_kidNext, .int y_done, .ref yq_finished, .int y_root, .ref yq_plain, .int y_plainSize, .ref yq_told])), (yq_plain, .inl (cB, 4200, .inl y_plain))]) (va_A [(obM, .inr (1, [.int m_thrown, .ref mq_tape, .int m_taped, .ref obY, .ref obA, .ref obB, .int m_has, .int m_place, .ref mq_kept, .ref mq_sizes, .ref mq_asked, .ref mq_pairs, .int m_many])), (obY, .inr (0, [.ref yq_bytes, .int y_length, .int y_at, .int y_deep, .int y_fault, .int y_place, .int y_end, .int y_nodes, .ref yq_kinds, .ref yq_firsts, .ref yq_numbers, .ref yq_sizes, .ref yq_inner, .ref yq_nexts, .ref yq_letters, .int y_lettered, .int y_shapes, .int y_looked, .ref yq_sorts, .ref yq_names, .ref yq_wide, .ref yq_kids, .ref yq_many, .ref yq_fallback, .int y_kidCount, .ref yq_kidShape, .ref yq_kidName, .ref yq_kidDefault, .ref yq_kidNext, .int y_done, .ref yq_finished, .int y_root, .ref yq_plain, .int y_plainSize, .ref yq_told])), (yq_plain, .inl (cB, 4200, .inl y_plain))] sz)) (va_A [(obM, .inr (1, [.int m_thrown, .ref mq_tape, .int m_taped, .ref obY, .ref obA, .ref obB, .int m_has, .int m_place, .ref mq_kept, .ref mq_sizes, .ref mq_asked, .ref mq_pairs, .int m_many])), (obY, .inr (0, [.ref yq_bytes, .int y_length, .int y_at, .int y_deep, .int y_fault, .int y_place, .int y_end, .int y_nodes, .ref yq_kinds, .ref yq_firsts, .ref yq_numbers, .ref yq_sizes, .ref yq_inner, .ref yq_nexts, .ref yq_letters, .int y_lettered, .int y_shapes, .int y_looked, .ref yq_sorts, .ref yq_names, .ref yq_wide, .ref yq_kids, .ref yq_many, .ref yq_fallback, .int y_kidCount, .ref yq_kidShape, .ref yq_kidName, .ref yq_kidDefault, .ref yq_kidNext, .int y_done, .ref yq_finished, .int y_root, .ref yq_plain, .int y_plainSize, .ref yq_told])), (yq_plain, .inl (cB, 4200, .inl y_plain))] sz)) 0 0 (va_A [(obM, .inr (1, [.int m_thrown, .ref mq_tape, .int m_taped, .ref obY, .ref obA, .ref obB, .int m_has, .int m_place, .ref mq_kept, .ref mq_sizes, .ref mq_asked, .ref mq_pairs, .int m_many])), (obY, .inr (0, [.ref yq_bytes, .int y_length, .int y_at, .int y_deep, .int y_fault, .int y_place, .int y_end, .int y_nodes, .ref yq_kinds, .ref yq_firsts, .ref yq_numbers, .ref yq_sizes, .ref yq_inner, .ref yq_nexts, .ref yq_letters, .int y_lettered, .int y_shapes, .int y_looked, .ref yq_sorts, .ref yq_names, .ref yq_wide, .ref yq_kids, .ref yq_many, .ref yq_fallback, .int y_kidCount, .ref yq_kidShape, .ref yq_kidName, .ref yq_kidDefault, .ref yq_kidNext, .int y_done, .ref yq_finished, .int y_root, .ref yq_plain, .int y_plainSize, .ref yq_told])), (yq_plain, .inl (cB, 4200, .inl y_plain))] sz) := by
  refine Met.ofW (cc := cX10_letter) (maxL := 2) (ret := (some .int)) (by decide) rfl ?_
  intro p e s m args below meth c s₁ B hml hv
  obtain ⟨rfl, hsz, hP, hK, hD0, hz0⟩ := hv
  have hx := B.exec
  have hb := B.bytes
  have hr := B.returns
  have hts := atoms_spec (ws := wsX10_letter) B.pre
  have hown : s.vm.findClass RX10 = some m.cls := findClass_of_methodNamed B.named
  have hlocks := B.notSynchronized
  subst hsz
  have hD := hD0.self (sz := s.heap.size)
  generalize hAe : va_A [(obM, .inr (1, [.int m_thrown, .ref mq_tape, .int m_taped, .ref obY, .ref obA, .ref obB, .int m_has, .int m_place, .ref mq_kept, .ref mq_sizes, .ref mq_asked, .ref mq_pairs, .int m_many])), (obY, .inr (0, [.ref yq_bytes, .int y_length, .int y_at, .int y_deep, .int y_fault, .int y_place, .int y_end, .int y_nodes, .ref yq_kinds, .ref yq_firsts, .ref yq_numbers, .ref yq_sizes, .ref yq_inner, .ref yq_nexts, .ref yq_letters, .int y_lettered, .int y_shapes, .int y_looked, .ref yq_sorts, .ref yq_names, .ref yq_wide, .ref yq_kids, .ref yq_many, .ref yq_fallback, .int y_kidCount, .ref yq_kidShape, .ref yq_kidName, .ref yq_kidDefault, .ref yq_kidNext, .int y_done, .ref yq_finished, .int y_root, .ref yq_plain, .int y_plainSize, .ref yq_told])), (yq_plain, .inl (cB, 4200, .inl y_plain))] s.heap.size = A at hD hz0 ⊢
  have hA : ∀ q : Nat, s.heap.size ≤ q → A q := fun q h => by rw [← hAe]; exact Or.inr h
  have hS : va_S A s.heap s.heap [] := va_S.rf
  generalize hQ0 : MQ below (va_Qi (fun r' u' => r' = res.1 ∧ u' = res.2) (pcB (dC, dI) srCl [(cI, .int), (cB, .byte), (cJ, .long), (cZ, .boolean), (cQ, .object "SchemaReader$Schema")] (fun u : Int32 => [(obM, .inr (1, [.int u, .ref mq_tape, .int m_taped, .ref obY, .ref obA, .ref obB, .int m_has, .int m_place, .ref mq_kept, .ref mq_sizes, .ref mq_asked, .ref mq_pairs, .int m_many])), (obY, .inr (0, [.ref yq_bytes, .int y_length, .int y_at, .int y_deep, .int y_fault, .int y_place, .int y_end, .int y_nodes, .ref yq_kinds, .ref yq_firsts, .ref yq_numbers, .ref yq_sizes, .ref yq_inner, .ref yq_nexts, .ref yq_letters, .int y_lettered, .int y_shapes, .int y_looked, .ref yq_sorts, .ref yq_names, .ref yq_wide, .ref yq_kids, .ref yq_many, .ref yq_fallback, .int y_kidCount, .ref yq_kidShape, .ref yq_kidName, .ref yq_kidDefault, .ref yq_kidNext, .int y_done, .ref yq_finished, .int y_root, .ref yq_plain, .int y_plainSize, .ref yq_told])), (yq_plain, .inl (cB, 4200, .inl y_plain))]) A) A) [.ref obM, .int a0].toArray s 0 0 A = Q0
  have hl := lv_entry [.ref obM, .int a0] (n := 2) (Nat.le_of_ble_eq_true rfl)
  rw [lg_entry_eq]
  generalize (lg_sl [.ref obM, .int a0] ++ List.replicate (2 - (lg_sl [.ref obM, .int a0]).length) Slot.unset).toArray = ls at hl ⊢
  have hl : lv_has ls 2 [(0, .ref obM), (1, .int a0)] := hl
  unfold m_X10_letter at hm
  refine lv_aload_n hx hb dX10_letter_0 rfl (lv_at hl 0 rfl) ?_
  refine lv_aload_n hx hb dX10_letter_1 rfl (lv_at hl 0 rfl) ?_
  refine va_get (D := (dC, dI)) (ci := 1) (v := .int m_has) (C := RX10) (T := TX10) (N := 13) hx hb hts (inX10 _) hown hK hP 0 rfl rfl 6 (by decide) (hts _ (List.mem_cons_of_mem _ wf10_67)) (fun _ h9 => h9) rfl dX10_letter_2 ?_
  have j30 : ∀ (m_thrown : Int32) (x1 : Int32) (y0 : Int32) (H : Heap) (locs : List Loc) (ls : Array Slot), va_P (dC, dI) srCl [(obM, .inr (1, [.int m_thrown, .ref mq_tape, .int m_taped, .ref obY, .ref obA, .ref obB, .int m_has, .int m_place, .ref mq_kept, .ref mq_sizes, .ref mq_asked, .ref mq_pairs, .int m_many])), (obY, .inr (0, [.ref yq_bytes, .int y_length, .int y_at, .int y_deep, .int y_fault, .int y_place, .int y_end, .int y_nodes, .ref yq_kinds, .ref yq_firsts, .ref yq_numbers, .ref yq_sizes, .ref yq_inner, .ref yq_nexts, .ref yq_letters, .int y_lettered, .int y_shapes, .int y_looked, .ref yq_sorts, .ref yq_names, .ref yq_wide, .ref yq_kids, .ref yq_many, .ref yq_fallback, .int y_kidCount, .ref yq_kidShape, .ref yq_kidName, .ref yq_kidDefault, .ref yq_kidNext, .int y_done, .ref yq_finished, .int y_root, .ref yq_plain, .int y_plainSize, .ref yq_told])), (yq_plain, .inl (cB, 4200, .inl y_plain))] H → va_D A [(obM, .inr (1, [.int m_thrown, .ref mq_tape, .int m_taped, .ref obY, .ref obA, .ref obB, .int m_has, .int m_place, .ref mq_kept, .ref mq_sizes, .ref mq_asked, .ref mq_pairs, .int m_many])), (obY, .inr (0, [.ref yq_bytes, .int y_length, .int y_at, .int y_deep, .int y_fault, .int y_place, .int y_end, .int y_nodes, .ref yq_kinds, .ref yq_firsts, .ref yq_numbers, .ref yq_sizes, .ref yq_inner, .ref yq_nexts, .ref yq_letters, .int y_lettered, .int y_shapes, .int y_looked, .ref yq_sorts, .ref yq_names, .ref yq_wide, .ref yq_kids, .ref yq_many, .ref yq_fallback, .int y_kidCount, .ref yq_kidShape, .ref yq_kidName, .ref yq_kidDefault, .ref yq_kidNext, .int y_done, .ref yq_finished, .int y_root, .ref yq_plain, .int y_plainSize, .ref yq_told])), (yq_plain, .inl (cB, 4200, .inl y_plain))] → va_S A s.heap H locs → lv_has ls 2 [(0, .ref obM), (1, .int x1)] → m_X10_letter_30 m_has y_plain y_plainSize m_thrown x1 y0 = some res → W p l e (headSpec wsX10_letter (rmX10_letter 0 0)).room s m [.ref obM, .int a0].toArray below meth c H locs 0 0 Q0 (F0 m 30 ls [.int y0, .ref obM]) := by
    intro m_thrown x1 y0 H locs ls hP hD hS hl hm
    unfold m_X10_letter_30 at hm
    refine lv_iconst (v := 0) hx hb dX10_letter_30 (by decide) ?_
    obtain ⟨⟨r1, m_thrown_1⟩, hz1, hm⟩ := mr_bind hm
    try dsimp only at hm
    refine mr_wVi (As := [.int y0, .int 0]) (rest := []) (sr_okZ adK adV) ⟨hx, hb, hml, hown, hts⟩ (kX10_refused l htr dC dI adK adV cI cB cJ cZ cQ obM mq_tape obY obA obB mq_kept mq_sizes mq_asked mq_pairs m_thrown m_taped m_has m_place m_many _ y0 0 _ hz1) (cwV 2 hts (g10_51 _) rfl rfl rfl (by decide +kernel) ⟨(by show 0 + 1 ≤ 1; omega), (by show 8 + (3 + 11) + (0) ≤ 22; omega)⟩) hS hA hP hD hK hz0 (wr := [(obY, .inr (0, [.ref yq_bytes, .int y_length, .int y_at, .int y_deep, .int y_fault, .int y_place, .int y_end, .int y_nodes, .ref yq_kinds, .ref yq_firsts, .ref yq_numbers, .ref yq_sizes, .ref yq_inner, .ref yq_nexts, .ref yq_letters, .int y_lettered, .int y_shapes, .int y_looked, .ref yq_sorts, .ref yq_names, .ref yq_wide, .ref yq_kids, .ref yq_many, .ref yq_fallback, .int y_kidCount, .ref yq_kidShape, .ref yq_kidName, .ref yq_kidDefault, .ref yq_kidNext, .int y_done, .ref yq_finished, .int y_root, .ref yq_plain, .int y_plainSize, .ref yq_told])), (yq_plain, .inl (cB, 4200, .inl y_plain))]) (w1 := [(obM, .inr (1, [.int m_thrown_1, .ref mq_tape, .int m_taped, .ref obY, .ref obA, .ref obB, .int m_has, .int m_place, .ref mq_kept, .ref mq_sizes, .ref mq_asked, .ref mq_pairs, .int m_many])), (obY, .inr (0, [.ref yq_bytes, .int y_length, .int y_at, .int y_deep, .int y_fault, .int y_place, .int y_end, .int y_nodes, .ref yq_kinds, .ref yq_firsts, .ref yq_numbers, .ref yq_sizes, .ref yq_inner, .ref yq_nexts, .ref yq_letters, .int y_lettered, .int y_shapes, .int y_looked, .ref yq_sorts, .ref yq_names, .ref yq_wide, .ref yq_kids, .ref yq_many, .ref yq_fallback, .int y_kidCount, .ref yq_kidShape, .ref yq_kidName, .ref yq_kidDefault, .ref yq_kidNext, .int y_done, .ref yq_finished, .int y_root, .ref yq_plain, .int y_plainSize, .ref yq_told])), (yq_plain, .inl (cB, 4200, .inl y_plain))]) [0] [1, 2] [2, 0, 1] rfl rfl rfl rfl rfl (by decide) rfl rfl rfl (va_recv hK hP (ci := 1) (q0 := 0) rfl rfl) rfl rfl hl.1 (Nat.le_of_ble_eq_true rfl) dX10_letter_31 ⟨Nat.zero_le _, Nat.zero_le _⟩ (fun H locs hP hD hS => ?_)
    refine lv_if_eq (tgt := 41) hx hb dX10_letter_34 (by decide) (fun c2 => ?_) (fun c2 => ?_)
    · have hm := mr_if c2 hm
      refine lv_aload_n hx hb dX10_letter_41 rfl (lv_at hl 0 rfl) ?_
      refine va_get (D := (dC, dI)) (ci := 1) (v := .ref obY) (C := RX10) (T := TX10) (N := 13) hx hb hts (inX10 _) hown hK hP 0 rfl rfl 3 (by decide) (hts _ (List.mem_cons_of_mem _ wf10_16)) (fun _ h9 => h9) rfl dX10_letter_42 ?_
      refine va_getN (D := (dC, dI)) (ci := 0) (v := .ref yq_plain) (C := RX9) (T := TX9) (N := 35) hx hb hts (inX9 _) hown hK hP 1 rfl rfl 32 (by decide) (va_Nw.use rfl (hz0.2.2.2.2.2.2.1 _ wf10_75)) (fun _ h9 => h9) rfl dX10_letter_45 ?_
      refine lv_iload_n hx hb dX10_letter_48 rfl (lv_at hl 1 rfl) ?_
      obtain ⟨h3, hm⟩ := mr_bd hm
      refine va_bald hx hb hK hP 2 1 rfl rfl h3 dX10_letter_49 ?_
      refine lv_sipush (v := 255) hx hb dX10_letter_50 (by decide) ?_
      refine lv_iand hx hb dX10_letter_53 ?_
      obtain rfl := Option.some.inj hm
      subst hQ0
      exact W.iret (v := ((y_plain (x1 : Int32).toNatClampNeg) &&& 255)) hx hb hr (fun t ht hW => ⟨⟨((y_plain (x1 : Int32).toNatClampNeg) &&& 255), m_thrown_1, rfl, ⟨rfl, rfl⟩, by rw [ht]; exact hP, va_K.moved hW.alike hK, hD⟩, hS.F ht⟩) hS.2.2 dX10_letter_54
    · have hm := mr_un c2 hm
      refine lv_iconst (v := 0) hx hb dX10_letter_37 (by decide) ?_
      refine lv_goto (tgt := 54) hx hb dX10_letter_38 (by decide) ?_
      obtain rfl := Option.some.inj hm
      subst hQ0
      exact W.iret (v := 0) hx hb hr (fun t ht hW => ⟨⟨0, m_thrown_1, rfl, ⟨rfl, rfl⟩, by rw [ht]; exact hP, va_K.moved hW.alike hK, hD⟩, hS.F ht⟩) hS.2.2 dX10_letter_54
  have j25 : ∀ (m_thrown : Int32) (x1 : Int32) (H : Heap) (locs : List Loc) (ls : Array Slot), va_P (dC, dI) srCl [(obM, .inr (1, [.int m_thrown, .ref mq_tape, .int m_taped, .ref obY, .ref obA, .ref obB, .int m_has, .int m_place, .ref mq_kept, .ref mq_sizes, .ref mq_asked, .ref mq_pairs, .int m_many])), (obY, .inr (0, [.ref yq_bytes, .int y_length, .int y_at, .int y_deep, .int y_fault, .int y_place, .int y_end, .int y_nodes, .ref yq_kinds, .ref yq_firsts, .ref yq_numbers, .ref yq_sizes, .ref yq_inner, .ref yq_nexts, .ref yq_letters, .int y_lettered, .int y_shapes, .int y_looked, .ref yq_sorts, .ref yq_names, .ref yq_wide, .ref yq_kids, .ref yq_many, .ref yq_fallback, .int y_kidCount, .ref yq_kidShape, .ref yq_kidName, .ref yq_kidDefault, .ref yq_kidNext, .int y_done, .ref yq_finished, .int y_root, .ref yq_plain, .int y_plainSize, .ref yq_told])), (yq_plain, .inl (cB, 4200, .inl y_plain))] H → va_D A [(obM, .inr (1, [.int m_thrown, .ref mq_tape, .int m_taped, .ref obY, .ref obA, .ref obB, .int m_has, .int m_place, .ref mq_kept, .ref mq_sizes, .ref mq_asked, .ref mq_pairs, .int m_many])), (obY, .inr (0, [.ref yq_bytes, .int y_length, .int y_at, .int y_deep, .int y_fault, .int y_place, .int y_end, .int y_nodes, .ref yq_kinds, .ref yq_firsts, .ref yq_numbers, .ref yq_sizes, .ref yq_inner, .ref yq_nexts, .ref yq_letters, .int y_lettered, .int y_shapes, .int y_looked, .ref yq_sorts, .ref yq_names, .ref yq_wide, .ref yq_kids, .ref yq_many, .ref yq_fallback, .int y_kidCount, .ref yq_kidShape, .ref yq_kidName, .ref yq_kidDefault, .ref yq_kidNext, .int y_done, .ref yq_finished, .int y_root, .ref yq_plain, .int y_plainSize, .ref yq_told])), (yq_plain, .inl (cB, 4200, .inl y_plain))] → va_S A s.heap H locs → lv_has ls 2 [(0, .ref obM), (1, .int x1)] → m_X10_letter_25 m_has y_plain y_plainSize m_thrown x1 = some res → W p l e (headSpec wsX10_letter (rmX10_letter 0 0)).room s m [.ref obM, .int a0].toArray below meth c H locs 0 0 Q0 (F0 m 25 ls [.ref obM]) := by
    intro m_thrown x1 H locs ls hP hD hS hl hm
    unfold m_X10_letter_25 at hm
    refine lv_iconst (v := 1) hx hb dX10_letter_25 (by decide) ?_
    refine lv_goto (tgt := 30) hx hb dX10_letter_26 (by decide) ?_
    exact j30 m_thrown x1 1 _ _ ls hP hD hS (lv_sub hl [0, 1] rfl) hm
  refine lv_if_eq (tgt := 25) hx hb dX10_letter_5 (by decide) (fun c4 => ?_) (fun c4 => ?_)
  · have hm := mr_if c4 hm
    exact j25 m_thrown a0 _ _ ls hP hD hS (lv_sub hl [0, 1] rfl) hm
  · have hm := mr_un c4 hm
    refine lv_iload_n hx hb dX10_letter_8 rfl (lv_at hl 1 rfl) ?_
    refine lv_iconst (v := 0) hx hb dX10_letter_9 (by decide) ?_
    refine lv_aload_n hx hb dX10_letter_10 rfl (lv_at hl 0 rfl) ?_
    refine va_get (D := (dC, dI)) (ci := 1) (v := .ref obY) (C := RX10) (T := TX10) (N := 13) hx hb hts (inX10 _) hown hK hP 0 rfl rfl 3 (by decide) (hts _ (List.mem_cons_of_mem _ wf10_16)) (fun _ h9 => h9) rfl dX10_letter_11 ?_
    refine va_getN (D := (dC, dI)) (ci := 0) (v := .int y_plainSize) (C := RX9) (T := TX9) (N := 35) hx hb hts (inX9 _) hown hK hP 1 rfl rfl 33 (by decide) (va_Nw.use rfl (hz0.2.2.2.2.2.2.1 _ wf10_72)) (fun _ h9 => h9) rfl dX10_letter_14 ?_
    refine lv_iconst (v := 1) hx hb dX10_letter_17 (by decide) ?_
    refine lv_isub hx hb dX10_letter_18 ?_
    obtain ⟨r5, hz5, hm⟩ := mr_bind hm
    refine mr_pS (As := [.int a0, .int 0, .int (y_plainSize - 1)]) (rest := [.ref obM]) (sr_okZ adK adV) ⟨hx, hb, hml, hown, hts⟩ (kX10_within l htr dC dI adK adV cI cB cJ cZ cQ  a0 0 (y_plainSize - 1) r5 hz5) (va_cwS 3 hts (g10_59 _) rfl rfl rfl (by decide +kernel) ⟨(by show 0 + 1 ≤ 1; omega), (by show 8 + (3 + 11) + (0) ≤ 22; omega)⟩) hS hP hK hz0 [] rfl rfl rfl hl.1 (Nat.le_of_ble_eq_true rfl) dX10_letter_19 ⟨Nat.zero_le _, Nat.zero_le _⟩ ?_
    refine lv_if_ne (tgt := 29) hx hb dX10_letter_22 (by decide) (fun c6 => ?_) (fun c6 => ?_)
    · have hm := mr_un c6 hm
      refine lv_iconst (v := 0) hx hb dX10_letter_29 (by decide) ?_
      exact j30 m_thrown a0 0 _ _ ls hP hD hS (lv_sub hl [0, 1] rfl) hm
    · have hm := mr_if c6 hm
      exact j25 m_thrown a0 _ _ ls hP hD hS (lv_sub hl [0, 1] rfl) hm
set_option maxHeartbeats 4000000 in
set_option maxRecDepth 100000 in
theorem kX10_print (l : Launch) (htr : l.stackTraces = false) (dC : Nat → ClassId) (dI : Nat → Nat → Nat) (adK adV : Nat → Nat) (cI cB cJ cZ cQ : ClassId) (obM mq_tape obY obA obB mq_kept mq_sizes mq_asked mq_pairs yq_bytes yq_kinds yq_firsts yq_numbers yq_sizes yq_inner yq_nexts yq_letters yq_sorts yq_names yq_wide yq_kids yq_many yq_fallback yq_kidShape yq_kidName yq_kidDefault yq_kidNext yq_finished yq_plain yq_told : Nat) (m_thrown : Int32) (m_taped : Int32) (m_has : Int32) (m_place : Int32) (m_many : Int32) (y_length : Int32) (y_at : Int32) (y_deep : Int32) (y_fault : Int32) (y_place : Int32) (y_end : Int32) (y_nodes : Int32) (y_lettered : Int32) (y_shapes : Int32) (y_looked : Int32) (y_kidCount : Int32) (y_done : Int32) (y_root : Int32) (y_plainSize : Int32) (y_plain : Nat → Int32) (sz : Nat) (res : Int64 × Int32) (hm : m_X10_print m_thrown m_has y_plain y_plainSize = some res) : Met l yX10_print wsX10_print (rmX10_print 0 0) (pcW (sr_Z adK adV) (dC, dI) srCl [(cI, .int), (cB, .byte), (cJ, .long), (cZ, .boolean), (cQ, .object "SchemaReader$Schema")] [.ref obM] [(obM, .inr (1, [.int m_thrown, .ref mq_tape, .int m_taped, .ref obY, .ref obA, .ref obB, .int m_has, .int m_place, .ref mq_kept, .ref mq_sizes, .ref mq_asked, .ref mq_pairs, .int m_many])), (obY, .inr (0, [.ref yq_bytes, .int y_length, .int y_at, .int y_deep, .int y_fault, .int y_place, .int y_end, .int y_nodes, .ref yq_kinds, .ref yq_firsts, .ref yq_numbers, .ref yq_sizes, .ref yq_inner, .ref yq_nexts, .ref yq_letters, .int y_lettered, .int y_shapes, .int y_looked, .ref yq_sorts, .ref yq_names, .ref yq_wide, .ref yq_kids, .ref yq_many, .ref yq_fallback, .int y_kidCount, .ref yq_kidShape, .ref yq_kidName, .ref yq_kidDefault, .ref yq_kidNext, .int y_done, .ref yq_finished, .int y_root, .ref yq_plain, .int y_plainSize, .ref yq_told])), (yq_plain, .inl (cB, 4200, .inl y_plain))] sz) (va_Ql (fun r' u' => r' = res.1 ∧ u' = res.2) (pcB (dC, dI) srCl [(cI, .int), (cB, .byte), (cJ, .long), (cZ, .boolean), (cQ, .object "SchemaReader$Schema")] (fun u : Int32 => [(obM, .inr (1, [.int u, .ref mq_tape, .int m_taped, .ref obY, .ref obA, .ref obB, .int m_has, .int m_place, .ref mq_kept, .ref mq_sizes, .ref mq_asked, .ref mq_pairs, .int m_many])), (obY, .inr (0, [.ref yq_bytes, .int y_length, .int y_at, .int y_deep, .int y_fault, .int y_place, .int y_end, .int y_nodes, .ref yq_kinds, .ref yq_firsts, .ref yq_numbers, .ref yq_sizes, .ref yq_inner, .ref yq_nexts, .ref yq_letters, .int y_lettered, .int y_shapes, .int y_looked, .ref yq_sorts, .ref yq_names, .ref yq_wide, .ref yq_kids, .ref yq_many, .ref yq_fallback, .int y_kidCount, .ref yq_kidShape, .ref yq_kidName, .ref yq_kidDefault, .ref yq_kidNext, .int y_done, .ref yq_finished, .int y_root, .ref yq_plain, .int y_plainSize, .ref yq_told])), (yq_plain, .inl (cB, 4200, .inl y_plain))]) (va_A [(obM, .inr (1, [.int m_thrown, .ref mq_tape, .int m_taped, .ref obY, .ref obA, .ref obB, .int m_has, .int m_place, .ref mq_kept, .ref mq_sizes, .ref mq_asked, .ref mq_pairs, .int m_many])), (obY, .inr (0, [.ref yq_bytes, .int y_length, .int y_at, .int y_deep, .int y_fault, .int y_place, .int y_end, .int y_nodes, .ref yq_kinds, .ref yq_firsts, .ref yq_numbers, .ref yq_sizes, .ref yq_inner, .ref yq_nexts, .ref yq_letters, .int y_lettered, .int y_shapes, .int y_looked, .ref yq_sorts, .ref yq_names, .ref yq_wide, .ref yq_kids, .ref yq_many, .ref yq_fallback, .int y_kidCount, .ref yq_kidShape, .ref yq_kidName, .ref yq_kidDefault, .ref yq_kidNext, .int y_done, .ref yq_finished, .int y_root, .ref yq_plain, .int y_plainSize, .ref yq_told])), (yq_plain, .inl (cB, 4200, .inl y_plain))] sz)) (va_A [(obM, .inr (1, [.int m_thrown, .ref mq_tape, .int m_taped, .ref obY, .ref obA, .ref obB, .int m_has, .int m_place, .ref mq_kept, .ref mq_sizes, .ref mq_asked, .ref mq_pairs, .int m_many])), (obY, .inr (0, [.ref yq_bytes, .int y_length, .int y_at, .int y_deep, .int y_fault, .int y_place, .int y_end, .int y_nodes, .ref yq_kinds, .ref yq_firsts, .ref yq_numbers, .ref yq_sizes, .ref yq_inner, .ref yq_nexts, .ref yq_letters, .int y_lettered, .int y_shapes, .int y_looked, .ref yq_sorts, .ref yq_names, .ref yq_wide, .ref yq_kids, .ref yq_many, .ref yq_fallback, .int y_kidCount, .ref yq_kidShape, .ref yq_kidName, .ref yq_kidDefault, .ref yq_kidNext, .int y_done, .ref yq_finished, .int y_root, .ref yq_plain, .int y_plainSize, .ref yq_told])), (yq_plain, .inl (cB, 4200, .inl y_plain))] sz)) 0 0 (va_A [(obM, .inr (1, [.int m_thrown, .ref mq_tape, .int m_taped, .ref obY, .ref obA, .ref obB, .int m_has, .int m_place, .ref mq_kept, .ref mq_sizes, .ref mq_asked, .ref mq_pairs, .int m_many])), (obY, .inr (0, [.ref yq_bytes, .int y_length, .int y_at, .int y_deep, .int y_fault, .int y_place, .int y_end, .int y_nodes, .ref yq_kinds, .ref yq_firsts, .ref yq_numbers, .ref yq_sizes, .ref yq_inner, .ref yq_nexts, .ref yq_letters, .int y_lettered, .int y_shapes, .int y_looked, .ref yq_sorts, .ref yq_names, .ref yq_wide, .ref yq_kids, .ref yq_many, .ref yq_fallback, .int y_kidCount, .ref yq_kidShape, .ref yq_kidName, .ref yq_kidDefault, .ref yq_kidNext, .int y_done, .ref yq_finished, .int y_root, .ref yq_plain, .int y_plainSize, .ref yq_told])), (yq_plain, .inl (cB, 4200, .inl y_plain))] sz) := by
  refine Met.ofW (cc := cX10_print) (maxL := 1) (ret := (some .long)) (by decide) rfl ?_
  intro p e s m args below meth c s₁ B hml hv
  obtain ⟨rfl, hsz, hP, hK, hD0, hz0⟩ := hv
  have hx := B.exec
  have hb := B.bytes
  have hr := B.returns
  have hts := atoms_spec (ws := wsX10_print) B.pre
  have hown : s.vm.findClass RX10 = some m.cls := findClass_of_methodNamed B.named
  have hlocks := B.notSynchronized
  subst hsz
  have hD := hD0.self (sz := s.heap.size)
  generalize hAe : va_A [(obM, .inr (1, [.int m_thrown, .ref mq_tape, .int m_taped, .ref obY, .ref obA, .ref obB, .int m_has, .int m_place, .ref mq_kept, .ref mq_sizes, .ref mq_asked, .ref mq_pairs, .int m_many])), (obY, .inr (0, [.ref yq_bytes, .int y_length, .int y_at, .int y_deep, .int y_fault, .int y_place, .int y_end, .int y_nodes, .ref yq_kinds, .ref yq_firsts, .ref yq_numbers, .ref yq_sizes, .ref yq_inner, .ref yq_nexts, .ref yq_letters, .int y_lettered, .int y_shapes, .int y_looked, .ref yq_sorts, .ref yq_names, .ref yq_wide, .ref yq_kids, .ref yq_many, .ref yq_fallback, .int y_kidCount, .ref yq_kidShape, .ref yq_kidName, .ref yq_kidDefault, .ref yq_kidNext, .int y_done, .ref yq_finished, .int y_root, .ref yq_plain, .int y_plainSize, .ref yq_told])), (yq_plain, .inl (cB, 4200, .inl y_plain))] s.heap.size = A at hD hz0 ⊢
  have hA : ∀ q : Nat, s.heap.size ≤ q → A q := fun q h => by rw [← hAe]; exact Or.inr h
  have hS : va_S A s.heap s.heap [] := va_S.rf
  generalize hQ0 : MQ below (va_Ql (fun r' u' => r' = res.1 ∧ u' = res.2) (pcB (dC, dI) srCl [(cI, .int), (cB, .byte), (cJ, .long), (cZ, .boolean), (cQ, .object "SchemaReader$Schema")] (fun u : Int32 => [(obM, .inr (1, [.int u, .ref mq_tape, .int m_taped, .ref obY, .ref obA, .ref obB, .int m_has, .int m_place, .ref mq_kept, .ref mq_sizes, .ref mq_asked, .ref mq_pairs, .int m_many])), (obY, .inr (0, [.ref yq_bytes, .int y_length, .int y_at, .int y_deep, .int y_fault, .int y_place, .int y_end, .int y_nodes, .ref yq_kinds, .ref yq_firsts, .ref yq_numbers, .ref yq_sizes, .ref yq_inner, .ref yq_nexts, .ref yq_letters, .int y_lettered, .int y_shapes, .int y_looked, .ref yq_sorts, .ref yq_names, .ref yq_wide, .ref yq_kids, .ref yq_many, .ref yq_fallback, .int y_kidCount, .ref yq_kidShape, .ref yq_kidName, .ref yq_kidDefault, .ref yq_kidNext, .int y_done, .ref yq_finished, .int y_root, .ref yq_plain, .int y_plainSize, .ref yq_told])), (yq_plain, .inl (cB, 4200, .inl y_plain))]) A) A) [.ref obM].toArray s 0 0 A = Q0
  have hl := lv_entry [.ref obM] (n := 1) (Nat.le_of_ble_eq_true rfl)
  rw [lg_entry_eq]
  generalize (lg_sl [.ref obM] ++ List.replicate (1 - (lg_sl [.ref obM]).length) Slot.unset).toArray = ls at hl ⊢
  have hl : lv_has ls 1 [(0, .ref obM)] := hl
  unfold m_X10_print at hm
  refine lv_aload_n hx hb dX10_print_0 rfl (lv_at hl 0 rfl) ?_
  refine lv_iconst (v := 0) hx hb dX10_print_1 (by decide) ?_
  refine va_put (D := (dC, dI)) (ci := 1) (v := .int 0) (ty := .int) (C := RX10) (T := TX10) (N := 13) hx hb hts (inX10 _) tyX10 tyX10_ok nmX10 hown hK hP hD hS 0 rfl rfl 0 (by decide) (hts _ (List.mem_cons_of_mem _ wf10_45)) (fun _ h9 => h9) rfl (by decide +kernel) rfl rfl (Nat.le_of_ble_eq_true rfl) dX10_print_2 (fun H locs hP hD hS => ?_)
  have hP : va_P (dC, dI) srCl [(obM, .inr (1, [.int 0, .ref mq_tape, .int m_taped, .ref obY, .ref obA, .ref obB, .int m_has, .int m_place, .ref mq_kept, .ref mq_sizes, .ref mq_asked, .ref mq_pairs, .int m_many])), (obY, .inr (0, [.ref yq_bytes, .int y_length, .int y_at, .int y_deep, .int y_fault, .int y_place, .int y_end, .int y_nodes, .ref yq_kinds, .ref yq_firsts, .ref yq_numbers, .ref yq_sizes, .ref yq_inner, .ref yq_nexts, .ref yq_letters, .int y_lettered, .int y_shapes, .int y_looked, .ref yq_sorts, .ref yq_names, .ref yq_wide, .ref yq_kids, .ref yq_many, .ref yq_fallback, .int y_kidCount, .ref yq_kidShape, .ref yq_kidName, .ref yq_kidDefault, .ref yq_kidNext, .int y_done, .ref yq_finished, .int y_root, .ref yq_plain, .int y_plainSize, .ref yq_told])), (yq_plain, .inl (cB, 4200, .inl y_plain))] H := hP
  have hD : va_D A [(obM, .inr (1, [.int 0, .ref mq_tape, .int m_taped, .ref obY, .ref obA, .ref obB, .int m_has, .int m_place, .ref mq_kept, .ref mq_sizes, .ref mq_asked, .ref mq_pairs, .int m_many])), (obY, .inr (0, [.ref yq_bytes, .int y_length, .int y_at, .int y_deep, .int y_fault, .int y_place, .int y_end, .int y_nodes, .ref yq_kinds, .ref yq_firsts, .ref yq_numbers, .ref yq_sizes, .ref yq_inner, .ref yq_nexts, .ref yq_letters, .int y_lettered, .int y_shapes, .int y_looked, .ref yq_sorts, .ref yq_names, .ref yq_wide, .ref yq_kids, .ref yq_many, .ref yq_fallback, .int y_kidCount, .ref yq_kidShape, .ref yq_kidName, .ref yq_kidDefault, .ref yq_kidNext, .int y_done, .ref yq_finished, .int y_root, .ref yq_plain, .int y_plainSize, .ref yq_told])), (yq_plain, .inl (cB, 4200, .inl y_plain))] := hD
  refine lv_aload_n hx hb dX10_print_5 rfl (lv_at hl 0 rfl) ?_
  refine va_get (D := (dC, dI)) (ci := 1) (v := .int m_has) (C := RX10) (T := TX10) (N := 13) hx hb hts (inX10 _) hown hK hP 0 rfl rfl 6 (by decide) (hts _ (List.mem_cons_of_mem _ wf10_67)) (fun _ h9 => h9) rfl dX10_print_6 ?_
  refine lv_if_eq (tgt := 22) hx hb dX10_print_9 (by decide) (fun c1 => ?_) (fun c1 => ?_)
  · have hm := mr_if c1 hm
    refine lv_lconst (v := 0) hx hb dX10_print_22 (by decide) ?_
    obtain rfl := Option.some.inj hm
    subst hQ0
    exact W.lret (v := 0) hx hb hr (fun t ht hW => ⟨⟨0, 0, rfl, ⟨rfl, rfl⟩, by rw [ht]; exact hP, va_K.moved hW.alike hK, hD⟩, hS.F ht⟩) hS.2.2 dX10_print_23
  · have hm := mr_un c1 hm
    refine lv_aload_n hx hb dX10_print_12 rfl (lv_at hl 0 rfl) ?_
    refine va_get (D := (dC, dI)) (ci := 1) (v := .ref obY) (C := RX10) (T := TX10) (N := 13) hx hb hts (inX10 _) hown hK hP 0 rfl rfl 3 (by decide) (hts _ (List.mem_cons_of_mem _ wf10_16)) (fun _ h9 => h9) rfl dX10_print_13 ?_
    obtain ⟨r2, hz2, hm⟩ := mr_bind hm
    refine mr_pV (As := []) (rest := []) (sr_okZ adK adV) ⟨hx, hb, hml, hown, hts⟩ (kX9_print l htr dC dI adK adV cI cB cJ cZ cQ obY yq_bytes yq_kinds yq_firsts yq_numbers yq_sizes yq_inner yq_nexts yq_letters yq_sorts yq_names yq_wide yq_kids yq_many yq_fallback yq_kidShape yq_kidName yq_kidDefault yq_kidNext yq_finished yq_plain yq_told y_length y_at y_deep y_fault y_place y_end y_nodes y_lettered y_shapes y_looked y_kidCount y_done y_root y_plainSize y_plain r2 hz2) (cwV 0 hts (g10_78 _) rfl rfl rfl (by decide +kernel) ⟨(by show 0 + 1 ≤ 1; omega), (by show 8 + (7 + 11) + (0) ≤ 26; omega)⟩) hS hP hK hz0 [1, 2] rfl (va_recv hK hP (ci := 0) (q0 := 1) rfl rfl) rfl rfl hl.1 (Nat.le_of_ble_eq_true rfl) dX10_print_16 ⟨Nat.zero_le _, Nat.zero_le _⟩ ?_
    refine lv_goto (tgt := 23) hx hb dX10_print_19 (by decide) ?_
    obtain rfl := Option.some.inj hm
    subst hQ0
    exact W.lret (v := r2) hx hb hr (fun t ht hW => ⟨⟨r2, 0, rfl, ⟨rfl, rfl⟩, by rw [ht]; exact hP, va_K.moved hW.alike hK, hD⟩, hS.F ht⟩) hS.2.2 dX10_print_23
set_option maxHeartbeats 4000000 in
set_option maxRecDepth 100000 in
theorem kX10_keep (l : Launch) (htr : l.stackTraces = false) (dC : Nat → ClassId) (dI : Nat → Nat → Nat) (adK adV : Nat → Nat) (cI cB cJ cZ cQ : ClassId) (obM mq_tape obY obA obB mq_kept mq_sizes mq_asked mq_pairs yq_bytes yq_kinds yq_firsts yq_numbers yq_sizes yq_inner yq_nexts yq_letters yq_sorts yq_names yq_wide yq_kids yq_many yq_fallback yq_kidShape yq_kidName yq_kidDefault yq_kidNext yq_finished yq_plain yq_told : Nat) (m_thrown : Int32) (m_taped : Int32) (m_has : Int32) (m_place : Int32) (m_many : Int32) (y_length : Int32) (y_at : Int32) (y_deep : Int32) (y_fault : Int32) (y_place : Int32) (y_end : Int32) (y_nodes : Int32) (y_lettered : Int32) (y_shapes : Int32) (y_looked : Int32) (y_kidCount : Int32) (y_done : Int32) (y_root : Int32) (y_plainSize : Int32) (m_kept : Nat → Int32) (m_sizes : Nat → Int32) (y_bytes : Nat → Int32) (sz : Nat) (a0 : Int32) (res : Int32 × Int32 × Int32 × (Nat → Int32) × (Nat → Int32)) (hm : m_X10_keep m_thrown m_has m_kept m_sizes y_bytes y_length a0 = some res) : Met l yX10_keep wsX10_keep (rmX10_keep 0 0) (pcW (sr_Z adK adV) (dC, dI) srCl [(cI, .int), (cB, .byte), (cJ, .long), (cZ, .boolean), (cQ, .object "SchemaReader$Schema")] [.ref obM, .int a0] [(obM, .inr (1, [.int m_thrown, .ref mq_tape, .int m_taped, .ref obY, .ref obA, .ref obB, .int m_has, .int m_place, .ref mq_kept, .ref mq_sizes, .ref mq_asked, .ref mq_pairs, .int m_many])), (mq_kept, .inl (cB, 32768, .inl m_kept)), (mq_sizes, .inl (cI, 8, .inl m_sizes)), (obY, .inr (0, [.ref yq_bytes, .int y_length, .int y_at, .int y_deep, .int y_fault, .int y_place, .int y_end, .int y_nodes, .ref yq_kinds, .ref yq_firsts, .ref yq_numbers, .ref yq_sizes, .ref yq_inner, .ref yq_nexts, .ref yq_letters, .int y_lettered, .int y_shapes, .int y_looked, .ref yq_sorts, .ref yq_names, .ref yq_wide, .ref yq_kids, .ref yq_many, .ref yq_fallback, .int y_kidCount, .ref yq_kidShape, .ref yq_kidName, .ref yq_kidDefault, .ref yq_kidNext, .int y_done, .ref yq_finished, .int y_root, .ref yq_plain, .int y_plainSize, .ref yq_told])), (yq_bytes, .inl (cB, 4096, .inl y_bytes))] sz) (va_Qi (fun r' u' => r' = res.1 ∧ u' = res.2) (pcB (dC, dI) srCl [(cI, .int), (cB, .byte), (cJ, .long), (cZ, .boolean), (cQ, .object "SchemaReader$Schema")] (fun u : Int32 × Int32 × (Nat → Int32) × (Nat → Int32) => [(obM, .inr (1, [.int u.1, .ref mq_tape, .int m_taped, .ref obY, .ref obA, .ref obB, .int u.2.1, .int m_place, .ref mq_kept, .ref mq_sizes, .ref mq_asked, .ref mq_pairs, .int m_many])), (mq_kept, .inl (cB, 32768, .inl u.2.2.1)), (mq_sizes, .inl (cI, 8, .inl u.2.2.2)), (obY, .inr (0, [.ref yq_bytes, .int y_length, .int y_at, .int y_deep, .int y_fault, .int y_place, .int y_end, .int y_nodes, .ref yq_kinds, .ref yq_firsts, .ref yq_numbers, .ref yq_sizes, .ref yq_inner, .ref yq_nexts, .ref yq_letters, .int y_lettered, .int y_shapes, .int y_looked, .ref yq_sorts, .ref yq_names, .ref yq_wide, .ref yq_kids, .ref yq_many, .ref yq_fallback, .int y_kidCount, .ref yq_kidShape, .ref yq_kidName, .ref yq_kidDefault, .ref yq_kidNext, .int y_done, .ref yq_finished, .int y_root, .ref yq_plain, .int y_plainSize, .ref yq_told])), (yq_bytes, .inl (cB, 4096, .inl y_bytes))]) (va_A [(obM, .inr (1, [.int m_thrown, .ref mq_tape, .int m_taped, .ref obY, .ref obA, .ref obB, .int m_has, .int m_place, .ref mq_kept, .ref mq_sizes, .ref mq_asked, .ref mq_pairs, .int m_many])), (mq_kept, .inl (cB, 32768, .inl m_kept)), (mq_sizes, .inl (cI, 8, .inl m_sizes)), (obY, .inr (0, [.ref yq_bytes, .int y_length, .int y_at, .int y_deep, .int y_fault, .int y_place, .int y_end, .int y_nodes, .ref yq_kinds, .ref yq_firsts, .ref yq_numbers, .ref yq_sizes, .ref yq_inner, .ref yq_nexts, .ref yq_letters, .int y_lettered, .int y_shapes, .int y_looked, .ref yq_sorts, .ref yq_names, .ref yq_wide, .ref yq_kids, .ref yq_many, .ref yq_fallback, .int y_kidCount, .ref yq_kidShape, .ref yq_kidName, .ref yq_kidDefault, .ref yq_kidNext, .int y_done, .ref yq_finished, .int y_root, .ref yq_plain, .int y_plainSize, .ref yq_told])), (yq_bytes, .inl (cB, 4096, .inl y_bytes))] sz)) (va_A [(obM, .inr (1, [.int m_thrown, .ref mq_tape, .int m_taped, .ref obY, .ref obA, .ref obB, .int m_has, .int m_place, .ref mq_kept, .ref mq_sizes, .ref mq_asked, .ref mq_pairs, .int m_many])), (mq_kept, .inl (cB, 32768, .inl m_kept)), (mq_sizes, .inl (cI, 8, .inl m_sizes)), (obY, .inr (0, [.ref yq_bytes, .int y_length, .int y_at, .int y_deep, .int y_fault, .int y_place, .int y_end, .int y_nodes, .ref yq_kinds, .ref yq_firsts, .ref yq_numbers, .ref yq_sizes, .ref yq_inner, .ref yq_nexts, .ref yq_letters, .int y_lettered, .int y_shapes, .int y_looked, .ref yq_sorts, .ref yq_names, .ref yq_wide, .ref yq_kids, .ref yq_many, .ref yq_fallback, .int y_kidCount, .ref yq_kidShape, .ref yq_kidName, .ref yq_kidDefault, .ref yq_kidNext, .int y_done, .ref yq_finished, .int y_root, .ref yq_plain, .int y_plainSize, .ref yq_told])), (yq_bytes, .inl (cB, 4096, .inl y_bytes))] sz)) 0 0 (va_A [(obM, .inr (1, [.int m_thrown, .ref mq_tape, .int m_taped, .ref obY, .ref obA, .ref obB, .int m_has, .int m_place, .ref mq_kept, .ref mq_sizes, .ref mq_asked, .ref mq_pairs, .int m_many])), (mq_kept, .inl (cB, 32768, .inl m_kept)), (mq_sizes, .inl (cI, 8, .inl m_sizes)), (obY, .inr (0, [.ref yq_bytes, .int y_length, .int y_at, .int y_deep, .int y_fault, .int y_place, .int y_end, .int y_nodes, .ref yq_kinds, .ref yq_firsts, .ref yq_numbers, .ref yq_sizes, .ref yq_inner, .ref yq_nexts, .ref yq_letters, .int y_lettered, .int y_shapes, .int y_looked, .ref yq_sorts, .ref yq_names, .ref yq_wide, .ref yq_kids, .ref yq_many, .ref yq_fallback, .int y_kidCount, .ref yq_kidShape, .ref yq_kidName, .ref yq_kidDefault, .ref yq_kidNext, .int y_done, .ref yq_finished, .int y_root, .ref yq_plain, .int y_plainSize, .ref yq_told])), (yq_bytes, .inl (cB, 4096, .inl y_bytes))] sz) := by
  refine Met.ofW (cc := cX10_keep) (maxL := 4) (ret := (some .int)) (by decide) rfl ?_
  intro p e s m args below meth c s₁ B hml hv
  obtain ⟨rfl, hsz, hP, hK, hD0, hz0⟩ := hv
  have hx := B.exec
  have hb := B.bytes
  have hr := B.returns
  have hts := atoms_spec (ws := wsX10_keep) B.pre
  have hown : s.vm.findClass RX10 = some m.cls := findClass_of_methodNamed B.named
  have hlocks := B.notSynchronized
  subst hsz
  have hD := hD0.self (sz := s.heap.size)
  generalize hAe : va_A [(obM, .inr (1, [.int m_thrown, .ref mq_tape, .int m_taped, .ref obY, .ref obA, .ref obB, .int m_has, .int m_place, .ref mq_kept, .ref mq_sizes, .ref mq_asked, .ref mq_pairs, .int m_many])), (mq_kept, .inl (cB, 32768, .inl m_kept)), (mq_sizes, .inl (cI, 8, .inl m_sizes)), (obY, .inr (0, [.ref yq_bytes, .int y_length, .int y_at, .int y_deep, .int y_fault, .int y_place, .int y_end, .int y_nodes, .ref yq_kinds, .ref yq_firsts, .ref yq_numbers, .ref yq_sizes, .ref yq_inner, .ref yq_nexts, .ref yq_letters, .int y_lettered, .int y_shapes, .int y_looked, .ref yq_sorts, .ref yq_names, .ref yq_wide, .ref yq_kids, .ref yq_many, .ref yq_fallback, .int y_kidCount, .ref yq_kidShape, .ref yq_kidName, .ref yq_kidDefault, .ref yq_kidNext, .int y_done, .ref yq_finished, .int y_root, .ref yq_plain, .int y_plainSize, .ref yq_told])), (yq_bytes, .inl (cB, 4096, .inl y_bytes))] s.heap.size = A at hD hz0 ⊢
  have hA : ∀ q : Nat, s.heap.size ≤ q → A q := fun q h => by rw [← hAe]; exact Or.inr h
  have hS : va_S A s.heap s.heap [] := va_S.rf
  generalize hQ0 : MQ below (va_Qi (fun r' u' => r' = res.1 ∧ u' = res.2) (pcB (dC, dI) srCl [(cI, .int), (cB, .byte), (cJ, .long), (cZ, .boolean), (cQ, .object "SchemaReader$Schema")] (fun u : Int32 × Int32 × (Nat → Int32) × (Nat → Int32) => [(obM, .inr (1, [.int u.1, .ref mq_tape, .int m_taped, .ref obY, .ref obA, .ref obB, .int u.2.1, .int m_place, .ref mq_kept, .ref mq_sizes, .ref mq_asked, .ref mq_pairs, .int m_many])), (mq_kept, .inl (cB, 32768, .inl u.2.2.1)), (mq_sizes, .inl (cI, 8, .inl u.2.2.2)), (obY, .inr (0, [.ref yq_bytes, .int y_length, .int y_at, .int y_deep, .int y_fault, .int y_place, .int y_end, .int y_nodes, .ref yq_kinds, .ref yq_firsts, .ref yq_numbers, .ref yq_sizes, .ref yq_inner, .ref yq_nexts, .ref yq_letters, .int y_lettered, .int y_shapes, .int y_looked, .ref yq_sorts, .ref yq_names, .ref yq_wide, .ref yq_kids, .ref yq_many, .ref yq_fallback, .int y_kidCount, .ref yq_kidShape, .ref yq_kidName, .ref yq_kidDefault, .ref yq_kidNext, .int y_done, .ref yq_finished, .int y_root, .ref yq_plain, .int y_plainSize, .ref yq_told])), (yq_bytes, .inl (cB, 4096, .inl y_bytes))]) A) A) [.ref obM, .int a0].toArray s 0 0 A = Q0
  have hl := lv_entry [.ref obM, .int a0] (n := 4) (Nat.le_of_ble_eq_true rfl)
  rw [lg_entry_eq]
  generalize (lg_sl [.ref obM, .int a0] ++ List.replicate (4 - (lg_sl [.ref obM, .int a0]).length) Slot.unset).toArray = ls at hl ⊢
  have hl : lv_has ls 4 [(0, .ref obM), (1, .int a0)] := hl
  unfold m_X10_keep at hm
  refine lv_aload_n hx hb dX10_keep_0 rfl (lv_at hl 0 rfl) ?_
  refine lv_iload_n hx hb dX10_keep_1 rfl (lv_at hl 1 rfl) ?_
  obtain ⟨r1, hz1, hm⟩ := mr_bind hm
  refine mr_pS (As := [.int a0]) (rest := [.ref obM]) (sr_okZ adK adV) ⟨hx, hb, hml, hown, hts⟩ (kX10_isPlace l htr dC dI adK adV cI cB cJ cZ cQ  a0 r1 hz1) (va_cwS 1 hts (g10_82 _) rfl rfl rfl (by decide +kernel) ⟨(by show 1 + 1 ≤ 2; omega), (by show 8 + (1 + 11) + (22) ≤ 42; omega)⟩) hS hP hK hz0 [] rfl rfl rfl hl.1 (Nat.le_of_ble_eq_true rfl) dX10_keep_2 ⟨Nat.zero_le _, Nat.zero_le _⟩ ?_
  have j13 : ∀ (m_thrown : Int32) (m_has : Int32) (m_kept : Nat → Int32) (m_sizes : Nat → Int32) (x1 : Int32) (y0 : Int32) (H : Heap) (locs : List Loc) (ls : Array Slot), va_P (dC, dI) srCl [(obM, .inr (1, [.int m_thrown, .ref mq_tape, .int m_taped, .ref obY, .ref obA, .ref obB, .int m_has, .int m_place, .ref mq_kept, .ref mq_sizes, .ref mq_asked, .ref mq_pairs, .int m_many])), (mq_kept, .inl (cB, 32768, .inl m_kept)), (mq_sizes, .inl (cI, 8, .inl m_sizes)), (obY, .inr (0, [.ref yq_bytes, .int y_length, .int y_at, .int y_deep, .int y_fault, .int y_place, .int y_end, .int y_nodes, .ref yq_kinds, .ref yq_firsts, .ref yq_numbers, .ref yq_sizes, .ref yq_inner, .ref yq_nexts, .ref yq_letters, .int y_lettered, .int y_shapes, .int y_looked, .ref yq_sorts, .ref yq_names, .ref yq_wide, .ref yq_kids, .ref yq_many, .ref yq_fallback, .int y_kidCount, .ref yq_kidShape, .ref yq_kidName, .ref yq_kidDefault, .ref yq_kidNext, .int y_done, .ref yq_finished, .int y_root, .ref yq_plain, .int y_plainSize, .ref yq_told])), (yq_bytes, .inl (cB, 4096, .inl y_bytes))] H → va_D A [(obM, .inr (1, [.int m_thrown, .ref mq_tape, .int m_taped, .ref obY, .ref obA, .ref obB, .int m_has, .int m_place, .ref mq_kept, .ref mq_sizes, .ref mq_asked, .ref mq_pairs, .int m_many])), (mq_kept, .inl (cB, 32768, .inl m_kept)), (mq_sizes, .inl (cI, 8, .inl m_sizes)), (obY, .inr (0, [.ref yq_bytes, .int y_length, .int y_at, .int y_deep, .int y_fault, .int y_place, .int y_end, .int y_nodes, .ref yq_kinds, .ref yq_firsts, .ref yq_numbers, .ref yq_sizes, .ref yq_inner, .ref yq_nexts, .ref yq_letters, .int y_lettered, .int y_shapes, .int y_looked, .ref yq_sorts, .ref yq_names, .ref yq_wide, .ref yq_kids, .ref yq_many, .ref yq_fallback, .int y_kidCount, .ref yq_kidShape, .ref yq_kidName, .ref yq_kidDefault, .ref yq_kidNext, .int y_done, .ref yq_finished, .int y_root, .ref yq_plain, .int y_plainSize, .ref yq_told])), (yq_bytes, .inl (cB, 4096, .inl y_bytes))] → va_S A s.heap H locs → lv_has ls 4 [(0, .ref obM), (1, .int x1)] → m_X10_keep_13 y_bytes y_length m_thrown m_has m_kept m_sizes x1 y0 = some res → W p l e (headSpec wsX10_keep (rmX10_keep 0 0)).room s m [.ref obM, .int a0].toArray below meth c H locs 0 0 Q0 (F0 m 13 ls [.int y0, .ref obM]) := by
    intro m_thrown m_has m_kept m_sizes x1 y0 H locs ls hP hD hS hl hm
    unfold m_X10_keep_13 at hm
    refine lv_aload_n hx hb dX10_keep_13 rfl (lv_at hl 0 rfl) ?_
    refine va_get (D := (dC, dI)) (ci := 1) (v := .int m_has) (C := RX10) (T := TX10) (N := 13) hx hb hts (inX10 _) hown hK hP 0 rfl rfl 6 (by decide) (hts _ (List.mem_cons_of_mem _ wf10_67)) (fun _ h9 => h9) rfl dX10_keep_14 ?_
    have j25 : ∀ (m_thrown : Int32) (m_has : Int32) (m_kept : Nat → Int32) (m_sizes : Nat → Int32) (x1 : Int32) (y0 : Int32) (y1 : Int32) (H : Heap) (locs : List Loc) (ls : Array Slot), va_P (dC, dI) srCl [(obM, .inr (1, [.int m_thrown, .ref mq_tape, .int m_taped, .ref obY, .ref obA, .ref obB, .int m_has, .int m_place, .ref mq_kept, .ref mq_sizes, .ref mq_asked, .ref mq_pairs, .int m_many])), (mq_kept, .inl (cB, 32768, .inl m_kept)), (mq_sizes, .inl (cI, 8, .inl m_sizes)), (obY, .inr (0, [.ref yq_bytes, .int y_length, .int y_at, .int y_deep, .int y_fault, .int y_place, .int y_end, .int y_nodes, .ref yq_kinds, .ref yq_firsts, .ref yq_numbers, .ref yq_sizes, .ref yq_inner, .ref yq_nexts, .ref yq_letters, .int y_lettered, .int y_shapes, .int y_looked, .ref yq_sorts, .ref yq_names, .ref yq_wide, .ref yq_kids, .ref yq_many, .ref yq_fallback, .int y_kidCount, .ref yq_kidShape, .ref yq_kidName, .ref yq_kidDefault, .ref yq_kidNext, .int y_done, .ref yq_finished, .int y_root, .ref yq_plain, .int y_plainSize, .ref yq_told])), (yq_bytes, .inl (cB, 4096, .inl y_bytes))] H → va_D A [(obM, .inr (1, [.int m_thrown, .ref mq_tape, .int m_taped, .ref obY, .ref obA, .ref obB, .int m_has, .int m_place, .ref mq_kept, .ref mq_sizes, .ref mq_asked, .ref mq_pairs, .int m_many])), (mq_kept, .inl (cB, 32768, .inl m_kept)), (mq_sizes, .inl (cI, 8, .inl m_sizes)), (obY, .inr (0, [.ref yq_bytes, .int y_length, .int y_at, .int y_deep, .int y_fault, .int y_place, .int y_end, .int y_nodes, .ref yq_kinds, .ref yq_firsts, .ref yq_numbers, .ref yq_sizes, .ref yq_inner, .ref yq_nexts, .ref yq_letters, .int y_lettered, .int y_shapes, .int y_looked, .ref yq_sorts, .ref yq_names, .ref yq_wide, .ref yq_kids, .ref yq_many, .ref yq_fallback, .int y_kidCount, .ref yq_kidShape, .ref yq_kidName, .ref yq_kidDefault, .ref yq_kidNext, .int y_done, .ref yq_finished, .int y_root, .ref yq_plain, .int y_plainSize, .ref yq_told])), (yq_bytes, .inl (cB, 4096, .inl y_bytes))] → va_S A s.heap H locs → lv_has ls 4 [(0, .ref obM), (1, .int x1)] → m_X10_keep_25 y_bytes y_length m_thrown m_has m_kept m_sizes x1 y0 y1 = some res → W p l e (headSpec wsX10_keep (rmX10_keep 0 0)).room s m [.ref obM, .int a0].toArray below meth c H locs 0 0 Q0 (F0 m 25 ls [.int y0, .int y1, .ref obM]) := by
      intro m_thrown m_has m_kept m_sizes x1 y0 y1 H locs ls hP hD hS hl hm
      unfold m_X10_keep_25 at hm
      obtain ⟨⟨r2, m_thrown_2⟩, hz2, hm⟩ := mr_bind hm
      try dsimp only at hm
      refine mr_wVi (As := [.int y1, .int y0]) (rest := []) (sr_okZ adK adV) ⟨hx, hb, hml, hown, hts⟩ (kX10_refused l htr dC dI adK adV cI cB cJ cZ cQ obM mq_tape obY obA obB mq_kept mq_sizes mq_asked mq_pairs m_thrown m_taped m_has m_place m_many _ y1 y0 _ hz2) (cwV 2 hts (g10_51 _) rfl rfl rfl (by decide +kernel) ⟨(by show 0 + 1 ≤ 2; omega), (by show 8 + (3 + 11) + (0) ≤ 42; omega)⟩) hS hA hP hD hK hz0 (wr := [(mq_kept, .inl (cB, 32768, .inl m_kept)), (mq_sizes, .inl (cI, 8, .inl m_sizes)), (obY, .inr (0, [.ref yq_bytes, .int y_length, .int y_at, .int y_deep, .int y_fault, .int y_place, .int y_end, .int y_nodes, .ref yq_kinds, .ref yq_firsts, .ref yq_numbers, .ref yq_sizes, .ref yq_inner, .ref yq_nexts, .ref yq_letters, .int y_lettered, .int y_shapes, .int y_looked, .ref yq_sorts, .ref yq_names, .ref yq_wide, .ref yq_kids, .ref yq_many, .ref yq_fallback, .int y_kidCount, .ref yq_kidShape, .ref yq_kidName, .ref yq_kidDefault, .ref yq_kidNext, .int y_done, .ref yq_finished, .int y_root, .ref yq_plain, .int y_plainSize, .ref yq_told])), (yq_bytes, .inl (cB, 4096, .inl y_bytes))]) (w1 := [(obM, .inr (1, [.int m_thrown_2, .ref mq_tape, .int m_taped, .ref obY, .ref obA, .ref obB, .int m_has, .int m_place, .ref mq_kept, .ref mq_sizes, .ref mq_asked, .ref mq_pairs, .int m_many])), (mq_kept, .inl (cB, 32768, .inl m_kept)), (mq_sizes, .inl (cI, 8, .inl m_sizes)), (obY, .inr (0, [.ref yq_bytes, .int y_length, .int y_at, .int y_deep, .int y_fault, .int y_place, .int y_end, .int y_nodes, .ref yq_kinds, .ref yq_firsts, .ref yq_numbers, .ref yq_sizes, .ref yq_inner, .ref yq_nexts, .ref yq_letters, .int y_lettered, .int y_shapes, .int y_looked, .ref yq_sorts, .ref yq_names, .ref yq_wide, .ref yq_kids, .ref yq_many, .ref yq_fallback, .int y_kidCount, .ref yq_kidShape, .ref yq_kidName, .ref yq_kidDefault, .ref yq_kidNext, .int y_done, .ref yq_finished, .int y_root, .ref yq_plain, .int y_plainSize, .ref yq_told])), (yq_bytes, .inl (cB, 4096, .inl y_bytes))]) [0] [1, 2, 3, 4] [4, 0, 1, 2, 3] rfl rfl rfl rfl rfl (by decide) rfl rfl rfl (va_recv hK hP (ci := 1) (q0 := 0) rfl rfl) rfl rfl hl.1 (Nat.le_of_ble_eq_true rfl) dX10_keep_25 ⟨Nat.zero_le _, Nat.zero_le _⟩ (fun H locs hP hD hS => ?_)
      refine lv_if_eq (tgt := 33) hx hb dX10_keep_28 (by decide) (fun c3 => ?_) (fun c3 => ?_)
      · have hm := mr_if c3 hm
        refine lv_aload_n hx hb dX10_keep_33 rfl (lv_at hl 0 rfl) ?_
        refine lv_iconst (v := 0) hx hb dX10_keep_34 (by decide) ?_
        refine va_put (D := (dC, dI)) (ci := 1) (v := .int 0) (ty := .boolean) (C := RX10) (T := TX10) (N := 13) hx hb hts (inX10 _) tyX10 tyX10_ok nmX10 hown hK hP hD hS 0 rfl rfl 6 (by decide) (hts _ (List.mem_cons_of_mem _ wf10_67)) (fun _ h9 => h9) rfl (by decide +kernel) rfl rfl (Nat.le_of_ble_eq_true rfl) dX10_keep_35 (fun H locs hP hD hS => ?_)
        have hP : va_P (dC, dI) srCl [(obM, .inr (1, [.int m_thrown_2, .ref mq_tape, .int m_taped, .ref obY, .ref obA, .ref obB, .int 0, .int m_place, .ref mq_kept, .ref mq_sizes, .ref mq_asked, .ref mq_pairs, .int m_many])), (mq_kept, .inl (cB, 32768, .inl m_kept)), (mq_sizes, .inl (cI, 8, .inl m_sizes)), (obY, .inr (0, [.ref yq_bytes, .int y_length, .int y_at, .int y_deep, .int y_fault, .int y_place, .int y_end, .int y_nodes, .ref yq_kinds, .ref yq_firsts, .ref yq_numbers, .ref yq_sizes, .ref yq_inner, .ref yq_nexts, .ref yq_letters, .int y_lettered, .int y_shapes, .int y_looked, .ref yq_sorts, .ref yq_names, .ref yq_wide, .ref yq_kids, .ref yq_many, .ref yq_fallback, .int y_kidCount, .ref yq_kidShape, .ref yq_kidName, .ref yq_kidDefault, .ref yq_kidNext, .int y_done, .ref yq_finished, .int y_root, .ref yq_plain, .int y_plainSize, .ref yq_told])), (yq_bytes, .inl (cB, 4096, .inl y_bytes))] H := hP
        have hD : va_D A [(obM, .inr (1, [.int m_thrown_2, .ref mq_tape, .int m_taped, .ref obY, .ref obA, .ref obB, .int 0, .int m_place, .ref mq_kept, .ref mq_sizes, .ref mq_asked, .ref mq_pairs, .int m_many])), (mq_kept, .inl (cB, 32768, .inl m_kept)), (mq_sizes, .inl (cI, 8, .inl m_sizes)), (obY, .inr (0, [.ref yq_bytes, .int y_length, .int y_at, .int y_deep, .int y_fault, .int y_place, .int y_end, .int y_nodes, .ref yq_kinds, .ref yq_firsts, .ref yq_numbers, .ref yq_sizes, .ref yq_inner, .ref yq_nexts, .ref yq_letters, .int y_lettered, .int y_shapes, .int y_looked, .ref yq_sorts, .ref yq_names, .ref yq_wide, .ref yq_kids, .ref yq_many, .ref yq_fallback, .int y_kidCount, .ref yq_kidShape, .ref yq_kidName, .ref yq_kidDefault, .ref yq_kidNext, .int y_done, .ref yq_finished, .int y_root, .ref yq_plain, .int y_plainSize, .ref yq_told])), (yq_bytes, .inl (cB, 4096, .inl y_bytes))] := hD
        refine lv_aload_n hx hb dX10_keep_38 rfl (lv_at hl 0 rfl) ?_
        refine va_get (D := (dC, dI)) (ci := 1) (v := .ref mq_sizes) (C := RX10) (T := TX10) (N := 13) hx hb hts (inX10 _) hown hK hP 0 rfl rfl 9 (by decide) (hts _ (List.mem_cons_of_mem _ wf10_34)) (fun _ h9 => h9) rfl dX10_keep_39 ?_
        refine lv_iload_n hx hb dX10_keep_42 rfl (lv_at hl 1 rfl) ?_
        refine lv_aload_n hx hb dX10_keep_43 rfl (lv_at hl 0 rfl) ?_
        refine va_get (D := (dC, dI)) (ci := 1) (v := .ref obY) (C := RX10) (T := TX10) (N := 13) hx hb hts (inX10 _) hown hK hP 0 rfl rfl 3 (by decide) (hts _ (List.mem_cons_of_mem _ wf10_16)) (fun _ h9 => h9) rfl dX10_keep_44 ?_
        refine va_getN (D := (dC, dI)) (ci := 0) (v := .int y_length) (C := RX9) (T := TX9) (N := 35) hx hb hts (inX9 _) hown hK hP 3 rfl rfl 1 (by decide) (va_Nw.use rfl (hz0.2.2.2.2.2.2.1 _ wf10_86)) (fun _ h9 => h9) rfl dX10_keep_47 ?_
        obtain ⟨h4, hm⟩ := mr_bd hm
        refine va_iast hx hb hK hP hD hS 2 0 rfl rfl h4 dX10_keep_50 (fun H locs hP hD hS => ?_)
        have hP : va_P (dC, dI) srCl [(obM, .inr (1, [.int m_thrown_2, .ref mq_tape, .int m_taped, .ref obY, .ref obA, .ref obB, .int 0, .int m_place, .ref mq_kept, .ref mq_sizes, .ref mq_asked, .ref mq_pairs, .int m_many])), (mq_kept, .inl (cB, 32768, .inl m_kept)), (mq_sizes, .inl (cI, 8, .inl (upd m_sizes (x1 : Int32).toNatClampNeg y_length))), (obY, .inr (0, [.ref yq_bytes, .int y_length, .int y_at, .int y_deep, .int y_fault, .int y_place, .int y_end, .int y_nodes, .ref yq_kinds, .ref yq_firsts, .ref yq_numbers, .ref yq_sizes, .ref yq_inner, .ref yq_nexts, .ref yq_letters, .int y_lettered, .int y_shapes, .int y_looked, .ref yq_sorts, .ref yq_names, .ref yq_wide, .ref yq_kids, .ref yq_many, .ref yq_fallback, .int y_kidCount, .ref yq_kidShape, .ref yq_kidName, .ref yq_kidDefault, .ref yq_kidNext, .int y_done, .ref yq_finished, .int y_root, .ref yq_plain, .int y_plainSize, .ref yq_told])), (yq_bytes, .inl (cB, 4096, .inl y_bytes))] H := hP
        have hD : va_D A [(obM, .inr (1, [.int m_thrown_2, .ref mq_tape, .int m_taped, .ref obY, .ref obA, .ref obB, .int 0, .int m_place, .ref mq_kept, .ref mq_sizes, .ref mq_asked, .ref mq_pairs, .int m_many])), (mq_kept, .inl (cB, 32768, .inl m_kept)), (mq_sizes, .inl (cI, 8, .inl (upd m_sizes (x1 : Int32).toNatClampNeg y_length))), (obY, .inr (0, [.ref yq_bytes, .int y_length, .int y_at, .int y_deep, .int y_fault, .int y_place, .int y_end, .int y_nodes, .ref yq_kinds, .ref yq_firsts, .ref yq_numbers, .ref yq_sizes, .ref yq_inner, .ref yq_nexts, .ref yq_letters, .int y_lettered, .int y_shapes, .int y_looked, .ref yq_sorts, .ref yq_names, .ref yq_wide, .ref yq_kids, .ref yq_many, .ref yq_fallback, .int y_kidCount, .ref yq_kidShape, .ref yq_kidName, .ref yq_kidDefault, .ref yq_kidNext, .int y_done, .ref yq_finished, .int y_root, .ref yq_plain, .int y_plainSize, .ref yq_told])), (yq_bytes, .inl (cB, 4096, .inl y_bytes))] := hD
        refine lv_iconst (v := 0) hx hb dX10_keep_51 (by decide) ?_
        have j53 : ∀ (n53 : Nat) (m_thrown : Int32) (m_has : Int32) (m_kept : Nat → Int32) (m_sizes : Nat → Int32) (x1 : Int32) (x2 : Int32) (H : Heap) (locs : List Loc) (ls : Array Slot), va_P (dC, dI) srCl [(obM, .inr (1, [.int m_thrown, .ref mq_tape, .int m_taped, .ref obY, .ref obA, .ref obB, .int m_has, .int m_place, .ref mq_kept, .ref mq_sizes, .ref mq_asked, .ref mq_pairs, .int m_many])), (mq_kept, .inl (cB, 32768, .inl m_kept)), (mq_sizes, .inl (cI, 8, .inl m_sizes)), (obY, .inr (0, [.ref yq_bytes, .int y_length, .int y_at, .int y_deep, .int y_fault, .int y_place, .int y_end, .int y_nodes, .ref yq_kinds, .ref yq_firsts, .ref yq_numbers, .ref yq_sizes, .ref yq_inner, .ref yq_nexts, .ref yq_letters, .int y_lettered, .int y_shapes, .int y_looked, .ref yq_sorts, .ref yq_names, .ref yq_wide, .ref yq_kids, .ref yq_many, .ref yq_fallback, .int y_kidCount, .ref yq_kidShape, .ref yq_kidName, .ref yq_kidDefault, .ref yq_kidNext, .int y_done, .ref yq_finished, .int y_root, .ref yq_plain, .int y_plainSize, .ref yq_told])), (yq_bytes, .inl (cB, 4096, .inl y_bytes))] H → va_D A [(obM, .inr (1, [.int m_thrown, .ref mq_tape, .int m_taped, .ref obY, .ref obA, .ref obB, .int m_has, .int m_place, .ref mq_kept, .ref mq_sizes, .ref mq_asked, .ref mq_pairs, .int m_many])), (mq_kept, .inl (cB, 32768, .inl m_kept)), (mq_sizes, .inl (cI, 8, .inl m_sizes)), (obY, .inr (0, [.ref yq_bytes, .int y_length, .int y_at, .int y_deep, .int y_fault, .int y_place, .int y_end, .int y_nodes, .ref yq_kinds, .ref yq_firsts, .ref yq_numbers, .ref yq_sizes, .ref yq_inner, .ref yq_nexts, .ref yq_letters, .int y_lettered, .int y_shapes, .int y_looked, .ref yq_sorts, .ref yq_names, .ref yq_wide, .ref yq_kids, .ref yq_many, .ref yq_fallback, .int y_kidCount, .ref yq_kidShape, .ref yq_kidName, .ref yq_kidDefault, .ref yq_kidNext, .int y_done, .ref yq_finished, .int y_root, .ref yq_plain, .int y_plainSize, .ref yq_told])), (yq_bytes, .inl (cB, 4096, .inl y_bytes))] → va_S A s.heap H locs → lv_has ls 4 [(0, .ref obM), (1, .int x1), (2, .int x2)] → m_X10_keep_53 y_bytes y_length n53 m_thrown m_has m_kept m_sizes x1 x2 = some res → W p l e (headSpec wsX10_keep (rmX10_keep 0 0)).room s m [.ref obM, .int a0].toArray below meth c H locs 0 0 Q0 (F0 m 53 ls []) := by
          intro n53
          induction n53 with
          | zero => intro m_thrown m_has m_kept m_sizes x1 x2 H locs ls hP hD hS hl hm; exact nomatch (show (none : Option _) = some res from hm)
          | succ n53 ih53 =>
            intro m_thrown m_has m_kept m_sizes x1 x2 H locs ls hP hD hS hl hm
            rw [m_X10_keep_53] at hm
            refine lv_iload_n hx hb dX10_keep_53 rfl (lv_at hl 2 rfl) ?_
            refine lv_aload_n hx hb dX10_keep_54 rfl (lv_at hl 0 rfl) ?_
            refine va_get (D := (dC, dI)) (ci := 1) (v := .ref obY) (C := RX10) (T := TX10) (N := 13) hx hb hts (inX10 _) hown hK hP 0 rfl rfl 3 (by decide) (hts _ (List.mem_cons_of_mem _ wf10_16)) (fun _ h9 => h9) rfl dX10_keep_55 ?_
            refine va_getN (D := (dC, dI)) (ci := 0) (v := .int y_length) (C := RX9) (T := TX9) (N := 35) hx hb hts (inX9 _) hown hK hP 3 rfl rfl 1 (by decide) (va_Nw.use rfl (hz0.2.2.2.2.2.2.1 _ wf10_86)) (fun _ h9 => h9) rfl dX10_keep_58 ?_
            refine lv_icmp_ge (tgt := 91) hx hb dX10_keep_61 (by decide) (fun c5 => ?_) (fun c5 => ?_)
            · have hm := mr_if c5 hm
              refine lv_iconst (v := 0) hx hb dX10_keep_91 (by decide) ?_
              refine lv_istore_n (lv' := [(2, .int 0), (0, .ref obM), (1, .int x1)]) hx hb dX10_keep_92 rfl hl (by decide) rfl (fun ls hl => ?_)
              refine lv_iconst (v := 0) hx hb dX10_keep_93 (by decide) ?_
              have j95 : ∀ (n95 : Nat) (m_thrown : Int32) (m_has : Int32) (m_kept : Nat → Int32) (m_sizes : Nat → Int32) (x2 : Int32) (x3 : Int32) (H : Heap) (locs : List Loc) (ls : Array Slot), va_P (dC, dI) srCl [(obM, .inr (1, [.int m_thrown, .ref mq_tape, .int m_taped, .ref obY, .ref obA, .ref obB, .int m_has, .int m_place, .ref mq_kept, .ref mq_sizes, .ref mq_asked, .ref mq_pairs, .int m_many])), (mq_kept, .inl (cB, 32768, .inl m_kept)), (mq_sizes, .inl (cI, 8, .inl m_sizes)), (obY, .inr (0, [.ref yq_bytes, .int y_length, .int y_at, .int y_deep, .int y_fault, .int y_place, .int y_end, .int y_nodes, .ref yq_kinds, .ref yq_firsts, .ref yq_numbers, .ref yq_sizes, .ref yq_inner, .ref yq_nexts, .ref yq_letters, .int y_lettered, .int y_shapes, .int y_looked, .ref yq_sorts, .ref yq_names, .ref yq_wide, .ref yq_kids, .ref yq_many, .ref yq_fallback, .int y_kidCount, .ref yq_kidShape, .ref yq_kidName, .ref yq_kidDefault, .ref yq_kidNext, .int y_done, .ref yq_finished, .int y_root, .ref yq_plain, .int y_plainSize, .ref yq_told])), (yq_bytes, .inl (cB, 4096, .inl y_bytes))] H → va_D A [(obM, .inr (1, [.int m_thrown, .ref mq_tape, .int m_taped, .ref obY, .ref obA, .ref obB, .int m_has, .int m_place, .ref mq_kept, .ref mq_sizes, .ref mq_asked, .ref mq_pairs, .int m_many])), (mq_kept, .inl (cB, 32768, .inl m_kept)), (mq_sizes, .inl (cI, 8, .inl m_sizes)), (obY, .inr (0, [.ref yq_bytes, .int y_length, .int y_at, .int y_deep, .int y_fault, .int y_place, .int y_end, .int y_nodes, .ref yq_kinds, .ref yq_firsts, .ref yq_numbers, .ref yq_sizes, .ref yq_inner, .ref yq_nexts, .ref yq_letters, .int y_lettered, .int y_shapes, .int y_looked, .ref yq_sorts, .ref yq_names, .ref yq_wide, .ref yq_kids, .ref yq_many, .ref yq_fallback, .int y_kidCount, .ref yq_kidShape, .ref yq_kidName, .ref yq_kidDefault, .ref yq_kidNext, .int y_done, .ref yq_finished, .int y_root, .ref yq_plain, .int y_plainSize, .ref yq_told])), (yq_bytes, .inl (cB, 4096, .inl y_bytes))] → va_S A s.heap H locs → lv_has ls 4 [(0, .ref obM), (2, .int x2), (3, .int x3)] → m_X10_keep_95 y_bytes y_length n95 m_thrown m_has m_kept m_sizes x2 x3 = some res → W p l e (headSpec wsX10_keep (rmX10_keep 0 0)).room s m [.ref obM, .int a0].toArray below meth c H locs 0 0 Q0 (F0 m 95 ls []) := by
                intro n95
                induction n95 with
                | zero => intro m_thrown m_has m_kept m_sizes x2 x3 H locs ls hP hD hS hl hm; exact nomatch (show (none : Option _) = some res from hm)
                | succ n95 ih95 =>
                  intro m_thrown m_has m_kept m_sizes x2 x3 H locs ls hP hD hS hl hm
                  rw [m_X10_keep_95] at hm
                  refine lv_iload_n hx hb dX10_keep_95 rfl (lv_at hl 2 rfl) ?_
                  refine lv_bipush (v := 8) hx hb dX10_keep_96 (by decide) ?_
                  refine lv_icmp_ge (tgt := 124) hx hb dX10_keep_98 (by decide) (fun c6 => ?_) (fun c6 => ?_)
                  · have hm := mr_if c6 hm
                    refine lv_iload_n hx hb dX10_keep_124 rfl (lv_at hl 1 rfl) ?_
                    obtain rfl := Option.some.inj hm
                    subst hQ0
                    exact W.iret (v := x2) hx hb hr (fun t ht hW => ⟨⟨x2, (m_thrown, m_has, m_kept, m_sizes), rfl, ⟨rfl, rfl⟩, by rw [ht]; exact hP, va_K.moved hW.alike hK, hD⟩, hS.F ht⟩) hS.2.2 dX10_keep_125
                  · have hm := mr_un c6 hm
                    refine lv_aload_n hx hb dX10_keep_101 rfl (lv_at hl 0 rfl) ?_
                    refine va_get (D := (dC, dI)) (ci := 1) (v := .ref mq_sizes) (C := RX10) (T := TX10) (N := 13) hx hb hts (inX10 _) hown hK hP 0 rfl rfl 9 (by decide) (hts _ (List.mem_cons_of_mem _ wf10_34)) (fun _ h9 => h9) rfl dX10_keep_102 ?_
                    refine lv_iload_n hx hb dX10_keep_105 rfl (lv_at hl 2 rfl) ?_
                    obtain ⟨h7, hm⟩ := mr_bd hm
                    refine va_iald hx hb hK hP 2 0 rfl rfl h7 dX10_keep_106 ?_
                    refine lv_if_lt (tgt := 116) hx hb dX10_keep_107 (by decide) (fun c8 => ?_) (fun c8 => ?_)
                    · have hm := mr_if c8 hm
                      refine lv_iload_n hx hb dX10_keep_116 rfl (lv_at hl 1 rfl) ?_
                      refine lv_istore_n (lv' := [(2, .int x2), (0, .ref obM), (3, .int x3)]) hx hb dX10_keep_117 rfl hl (by decide) rfl (fun ls hl => ?_)
                      refine lv_iinc (v := x3 + 1) (lv' := [(3, .int (x3 + 1)), (2, .int x2), (0, .ref obM)]) hx hb dX10_keep_118 hl (k := 2) rfl rfl (by decide) rfl (fun ls hl => ?_)
                      refine lv_goto (tgt := 95) hx hb dX10_keep_121 (by decide) ?_
                      exact ih95 m_thrown m_has m_kept m_sizes x2 (x3 + 1) _ _ ls hP hD hS (lv_sub hl [2, 1, 0] rfl) hm
                    · have hm := mr_un c8 hm
                      refine lv_iload_n hx hb dX10_keep_110 rfl (lv_at hl 1 rfl) ?_
                      refine lv_iconst (v := 1) hx hb dX10_keep_111 (by decide) ?_
                      refine lv_iadd hx hb dX10_keep_112 ?_
                      refine lv_goto (tgt := 117) hx hb dX10_keep_113 (by decide) ?_
                      refine lv_istore_n (lv' := [(2, .int (x2 + 1)), (0, .ref obM), (3, .int x3)]) hx hb dX10_keep_117 rfl hl (by decide) rfl (fun ls hl => ?_)
                      refine lv_iinc (v := x3 + 1) (lv' := [(3, .int (x3 + 1)), (2, .int (x2 + 1)), (0, .ref obM)]) hx hb dX10_keep_118 hl (k := 2) rfl rfl (by decide) rfl (fun ls hl => ?_)
                      refine lv_goto (tgt := 95) hx hb dX10_keep_121 (by decide) ?_
                      exact ih95 m_thrown m_has m_kept m_sizes (x2 + 1) (x3 + 1) _ _ ls hP hD hS (lv_sub hl [2, 1, 0] rfl) hm
              refine lv_istore_n (lv' := [(3, .int 0), (2, .int 0), (0, .ref obM), (1, .int x1)]) hx hb dX10_keep_94 rfl hl (by decide) rfl (fun ls hl => ?_)
              exact j95 sr_fuel m_thrown m_has m_kept m_sizes 0 0 _ _ ls hP hD hS (lv_sub hl [2, 1, 0] rfl) hm
            · have hm := mr_un c5 hm
              refine lv_aload_n hx hb dX10_keep_64 rfl (lv_at hl 0 rfl) ?_
              refine va_get (D := (dC, dI)) (ci := 1) (v := .ref mq_kept) (C := RX10) (T := TX10) (N := 13) hx hb hts (inX10 _) hown hK hP 0 rfl rfl 8 (by decide) (hts _ (List.mem_cons_of_mem _ wf10_31)) (fun _ h9 => h9) rfl dX10_keep_65 ?_
              refine lv_sipush (v := 4096) hx hb dX10_keep_68 (by decide) ?_
              refine lv_iload_n hx hb dX10_keep_71 rfl (lv_at hl 1 rfl) ?_
              refine lv_imul hx hb dX10_keep_72 ?_
              refine lv_iload_n hx hb dX10_keep_73 rfl (lv_at hl 2 rfl) ?_
              refine lv_iadd hx hb dX10_keep_74 ?_
              refine lv_aload_n hx hb dX10_keep_75 rfl (lv_at hl 0 rfl) ?_
              refine va_get (D := (dC, dI)) (ci := 1) (v := .ref obY) (C := RX10) (T := TX10) (N := 13) hx hb hts (inX10 _) hown hK hP 0 rfl rfl 3 (by decide) (hts _ (List.mem_cons_of_mem _ wf10_16)) (fun _ h9 => h9) rfl dX10_keep_76 ?_
              refine va_getN (D := (dC, dI)) (ci := 0) (v := .ref yq_bytes) (C := RX9) (T := TX9) (N := 35) hx hb hts (inX9 _) hown hK hP 3 rfl rfl 0 (by decide) (va_Nw.use rfl (hz0.2.2.2.2.2.2.1 _ wf10_89)) (fun _ h9 => h9) rfl dX10_keep_79 ?_
              refine lv_iload_n hx hb dX10_keep_82 rfl (lv_at hl 2 rfl) ?_
              obtain ⟨h9, hm⟩ := mr_bd hm
              refine va_bald hx hb hK hP 4 1 rfl rfl h9 dX10_keep_83 ?_
              obtain ⟨h10, hm⟩ := mr_bd hm
              refine va_bast hx hb hK hP hD hS 1 1 rfl rfl h10 dX10_keep_84 (fun H locs hP hD hS => ?_)
              have hP : va_P (dC, dI) srCl [(obM, .inr (1, [.int m_thrown, .ref mq_tape, .int m_taped, .ref obY, .ref obA, .ref obB, .int m_has, .int m_place, .ref mq_kept, .ref mq_sizes, .ref mq_asked, .ref mq_pairs, .int m_many])), (mq_kept, .inl (cB, 32768, .inl (upd m_kept (((4096 * x1) + x2) : Int32).toNatClampNeg (vp_nar .byte (y_bytes (x2 : Int32).toNatClampNeg))))), (mq_sizes, .inl (cI, 8, .inl m_sizes)), (obY, .inr (0, [.ref yq_bytes, .int y_length, .int y_at, .int y_deep, .int y_fault, .int y_place, .int y_end, .int y_nodes, .ref yq_kinds, .ref yq_firsts, .ref yq_numbers, .ref yq_sizes, .ref yq_inner, .ref yq_nexts, .ref yq_letters, .int y_lettered, .int y_shapes, .int y_looked, .ref yq_sorts, .ref yq_names, .ref yq_wide, .ref yq_kids, .ref yq_many, .ref yq_fallback, .int y_kidCount, .ref yq_kidShape, .ref yq_kidName, .ref yq_kidDefault, .ref yq_kidNext, .int y_done, .ref yq_finished, .int y_root, .ref yq_plain, .int y_plainSize, .ref yq_told])), (yq_bytes, .inl (cB, 4096, .inl y_bytes))] H := hP
              have hD : va_D A [(obM, .inr (1, [.int m_thrown, .ref mq_tape, .int m_taped, .ref obY, .ref obA, .ref obB, .int m_has, .int m_place, .ref mq_kept, .ref mq_sizes, .ref mq_asked, .ref mq_pairs, .int m_many])), (mq_kept, .inl (cB, 32768, .inl (upd m_kept (((4096 * x1) + x2) : Int32).toNatClampNeg (vp_nar .byte (y_bytes (x2 : Int32).toNatClampNeg))))), (mq_sizes, .inl (cI, 8, .inl m_sizes)), (obY, .inr (0, [.ref yq_bytes, .int y_length, .int y_at, .int y_deep, .int y_fault, .int y_place, .int y_end, .int y_nodes, .ref yq_kinds, .ref yq_firsts, .ref yq_numbers, .ref yq_sizes, .ref yq_inner, .ref yq_nexts, .ref yq_letters, .int y_lettered, .int y_shapes, .int y_looked, .ref yq_sorts, .ref yq_names, .ref yq_wide, .ref yq_kids, .ref yq_many, .ref yq_fallback, .int y_kidCount, .ref yq_kidShape, .ref yq_kidName, .ref yq_kidDefault, .ref yq_kidNext, .int y_done, .ref yq_finished, .int y_root, .ref yq_plain, .int y_plainSize, .ref yq_told])), (yq_bytes, .inl (cB, 4096, .inl y_bytes))] := hD
              refine lv_iinc (v := x2 + 1) (lv' := [(2, .int (x2 + 1)), (0, .ref obM), (1, .int x1)]) hx hb dX10_keep_85 hl (k := 2) rfl rfl (by decide) rfl (fun ls hl => ?_)
              refine lv_goto (tgt := 53) hx hb dX10_keep_88 (by decide) ?_
              exact ih53 m_thrown m_has (upd m_kept (((4096 * x1) + x2) : Int32).toNatClampNeg (vp_nar .byte (y_bytes (x2 : Int32).toNatClampNeg))) m_sizes x1 (x2 + 1) _ _ ls hP hD hS (lv_sub hl [1, 2, 0] rfl) hm
        refine lv_istore_n (lv' := [(2, .int 0), (0, .ref obM), (1, .int x1)]) hx hb dX10_keep_52 rfl hl (by decide) rfl (fun ls hl => ?_)
        exact j53 sr_fuel m_thrown_2 0 m_kept (upd m_sizes (x1 : Int32).toNatClampNeg y_length) x1 0 _ _ ls hP hD hS (lv_sub hl [1, 2, 0] rfl) hm
      · have hm := mr_un c3 hm
        refine lv_iconst (v := 0) hx hb dX10_keep_31 (by decide) ?_
        obtain rfl := Option.some.inj hm
        subst hQ0
        exact W.iret (v := 0) hx hb hr (fun t ht hW => ⟨⟨0, (m_thrown_2, m_has, m_kept, m_sizes), rfl, ⟨rfl, rfl⟩, by rw [ht]; exact hP, va_K.moved hW.alike hK, hD⟩, hS.F ht⟩) hS.2.2 dX10_keep_32
    refine lv_if_ne (tgt := 24) hx hb dX10_keep_17 (by decide) (fun c11 => ?_) (fun c11 => ?_)
    · have hm := mr_un c11 hm
      refine lv_iconst (v := 0) hx hb dX10_keep_24 (by decide) ?_
      exact j25 m_thrown m_has m_kept m_sizes x1 0 y0 _ _ ls hP hD hS (lv_sub hl [0, 1] rfl) hm
    · have hm := mr_if c11 hm
      refine lv_iconst (v := 1) hx hb dX10_keep_20 (by decide) ?_
      refine lv_goto (tgt := 25) hx hb dX10_keep_21 (by decide) ?_
      exact j25 m_thrown m_has m_kept m_sizes x1 1 y0 _ _ ls hP hD hS (lv_sub hl [0, 1] rfl) hm
  refine lv_if_ne (tgt := 12) hx hb dX10_keep_5 (by decide) (fun c12 => ?_) (fun c12 => ?_)
  · have hm := mr_un c12 hm
    refine lv_iconst (v := 0) hx hb dX10_keep_12 (by decide) ?_
    exact j13 m_thrown m_has m_kept m_sizes a0 0 _ _ ls hP hD hS (lv_sub hl [0, 1] rfl) hm
  · have hm := mr_if c12 hm
    refine lv_iconst (v := 1) hx hb dX10_keep_8 (by decide) ?_
    refine lv_goto (tgt := 13) hx hb dX10_keep_9 (by decide) ?_
    exact j13 m_thrown m_has m_kept m_sizes a0 1 _ _ ls hP hD hS (lv_sub hl [0, 1] rfl) hm
set_option maxHeartbeats 4000000 in
set_option maxRecDepth 100000 in
theorem kX10_sixOf (l : Launch) (htr : l.stackTraces = false) (dC : Nat → ClassId) (dI : Nat → Nat → Nat) (adK adV : Nat → Nat) (cI cB cJ cZ cQ : ClassId) (a0 : Int32) (res : Int32) (hm : m_X10_sixOf a0 = some res) : Met l yX10_sixOf wsX10_sixOf (rmX10_sixOf 0 0) (pcR (sr_Z adK adV) (dC, dI) srCl [(cI, .int), (cB, .byte), (cJ, .long), (cZ, .boolean), (cQ, .object "SchemaReader$Schema")] [.int a0] []) (k2_QcV (.int res)) 0 0 (fun _ => False) := by
  refine Met.ofW (cc := cX10_sixOf) (maxL := 1) (ret := (some .boolean)) (by decide) rfl ?_
  intro p e s m args below meth c s₁ B hml hv
  obtain ⟨rfl, hP, hK, hz0⟩ := hv
  have hx := B.exec
  have hb := B.bytes
  have hr := B.returns
  have hts := atoms_spec (ws := wsX10_sixOf) B.pre
  have hown : s.vm.findClass RX10 = some m.cls := findClass_of_methodNamed B.named
  have hlocks := B.notSynchronized
  have hS : va_S (fun _ => False) s.heap s.heap [] := va_S.rf
  generalize hQ0 : MQ below (k2_QcV (.int res)) [.int a0].toArray s 0 0 (fun _ => False) = Q0
  have hl := lv_entry [.int a0] (n := 1) (Nat.le_of_ble_eq_true rfl)
  rw [lg_entry_eq]
  generalize (lg_sl [.int a0] ++ List.replicate (1 - (lg_sl [.int a0]).length) Slot.unset).toArray = ls at hl ⊢
  have hl : lv_has ls 1 [(0, .int a0)] := hl
  unfold m_X10_sixOf at hm
  refine lv_iload_n hx hb dX10_sixOf_0 rfl (lv_at hl 0 rfl) ?_
  refine lv_bipush (v := 6) hx hb dX10_sixOf_1 (by decide) ?_
  refine lv_icmp_ge (tgt := 10) hx hb dX10_sixOf_3 (by decide) (fun c1 => ?_) (fun c1 => ?_)
  · have hm := mr_if c1 hm
    refine lv_iconst (v := 0) hx hb dX10_sixOf_10 (by decide) ?_
    obtain rfl := Option.some.inj hm
    subst hQ0
    exact W.zret (v := 0) hx hb hr rfl (fun t ht hW => ⟨rfl, ht⟩) (fun q h => by cases h) dX10_sixOf_11
  · have hm := mr_un c1 hm
    refine lv_iconst (v := 1) hx hb dX10_sixOf_6 (by decide) ?_
    refine lv_goto (tgt := 11) hx hb dX10_sixOf_7 (by decide) ?_
    obtain rfl := Option.some.inj hm
    subst hQ0
    exact W.zret (v := 1) hx hb hr rfl (fun t ht hW => ⟨rfl, ht⟩) (fun q h => by cases h) dX10_sixOf_11
set_option maxHeartbeats 4000000 in
set_option maxRecDepth 100000 in
theorem kX10_matchesSix (l : Launch) (htr : l.stackTraces = false) (dC : Nat → ClassId) (dI : Nat → Nat → Nat) (adK adV : Nat → Nat) (cI cB cJ cZ cQ : ClassId) (a0 : Int32) (a1 : Int32) (res : Int32) (hm : m_X10_matchesSix a0 a1 = some res) : Met l yX10_matchesSix wsX10_matchesSix (rmX10_matchesSix 0 0) (pcR (sr_Z adK adV) (dC, dI) srCl [(cI, .int), (cB, .byte), (cJ, .long), (cZ, .boolean), (cQ, .object "SchemaReader$Schema")] [.int a0, .int a1] []) (k2_QcV (.int res)) 0 0 (fun _ => False) := by
  refine Met.ofW (cc := cX10_matchesSix) (maxL := 2) (ret := (some .boolean)) (by decide) rfl ?_
  intro p e s m args below meth c s₁ B hml hv
  obtain ⟨rfl, hP, hK, hz0⟩ := hv
  have hx := B.exec
  have hb := B.bytes
  have hr := B.returns
  have hts := atoms_spec (ws := wsX10_matchesSix) B.pre
  have hown : s.vm.findClass RX10 = some m.cls := findClass_of_methodNamed B.named
  have hlocks := B.notSynchronized
  have hS : va_S (fun _ => False) s.heap s.heap [] := va_S.rf
  generalize hQ0 : MQ below (k2_QcV (.int res)) [.int a0, .int a1].toArray s 0 0 (fun _ => False) = Q0
  have hl := lv_entry [.int a0, .int a1] (n := 2) (Nat.le_of_ble_eq_true rfl)
  rw [lg_entry_eq]
  generalize (lg_sl [.int a0, .int a1] ++ List.replicate (2 - (lg_sl [.int a0, .int a1]).length) Slot.unset).toArray = ls at hl ⊢
  have hl : lv_has ls 2 [(0, .int a0), (1, .int a1)] := hl
  unfold m_X10_matchesSix at hm
  refine lv_iload_n hx hb dX10_matchesSix_0 rfl (lv_at hl 0 rfl) ?_
  refine lv_iload_n hx hb dX10_matchesSix_1 rfl (lv_at hl 1 rfl) ?_
  refine lv_icmp_eq (tgt := 35) hx hb dX10_matchesSix_2 (by decide) (fun c1 => ?_) (fun c1 => ?_)
  · have hm := mr_if c1 hm
    refine lv_iconst (v := 1) hx hb dX10_matchesSix_35 (by decide) ?_
    refine lv_goto (tgt := 40) hx hb dX10_matchesSix_36 (by decide) ?_
    obtain rfl := Option.some.inj hm
    subst hQ0
    exact W.zret (v := 1) hx hb hr rfl (fun t ht hW => ⟨rfl, ht⟩) (fun q h => by cases h) dX10_matchesSix_40
  · have hm := mr_un c1 hm
    refine lv_iload_n hx hb dX10_matchesSix_5 rfl (lv_at hl 0 rfl) ?_
    refine lv_iconst (v := 2) hx hb dX10_matchesSix_6 (by decide) ?_
    have j15 : ∀ (x0 : Int32) (x1 : Int32) (ls : Array Slot), lv_has ls 2 [(0, .int x0), (1, .int x1)] → m_X10_matchesSix_15 x0 x1 = some res → W p l e (headSpec wsX10_matchesSix (rmX10_matchesSix 0 0)).room s m [.int a0, .int a1].toArray below meth c s.heap [] 0 0 Q0 (F0 m 15 ls []) := by
      intro x0 x1 ls hl hm
      unfold m_X10_matchesSix_15 at hm
      refine lv_iload_n hx hb dX10_matchesSix_15 rfl (lv_at hl 0 rfl) ?_
      refine lv_iconst (v := 4) hx hb dX10_matchesSix_16 (by decide) ?_
      refine lv_icmp_eq (tgt := 25) hx hb dX10_matchesSix_17 (by decide) (fun c2 => ?_) (fun c2 => ?_)
      · have hm := mr_if c2 hm
        refine lv_iload_n hx hb dX10_matchesSix_25 rfl (lv_at hl 1 rfl) ?_
        refine lv_iconst (v := 4) hx hb dX10_matchesSix_26 (by decide) ?_
        refine lv_icmp_eq (tgt := 35) hx hb dX10_matchesSix_27 (by decide) (fun c3 => ?_) (fun c3 => ?_)
        · have hm := mr_if c3 hm
          refine lv_iconst (v := 1) hx hb dX10_matchesSix_35 (by decide) ?_
          refine lv_goto (tgt := 40) hx hb dX10_matchesSix_36 (by decide) ?_
          obtain rfl := Option.some.inj hm
          subst hQ0
          exact W.zret (v := 1) hx hb hr rfl (fun t ht hW => ⟨rfl, ht⟩) (fun q h => by cases h) dX10_matchesSix_40
        · have hm := mr_un c3 hm
          refine lv_iload_n hx hb dX10_matchesSix_30 rfl (lv_at hl 1 rfl) ?_
          refine lv_iconst (v := 5) hx hb dX10_matchesSix_31 (by decide) ?_
          refine lv_icmp_ne (tgt := 39) hx hb dX10_matchesSix_32 (by decide) (fun c4 => ?_) (fun c4 => ?_)
          · have hm := mr_un c4 hm
            refine lv_iconst (v := 0) hx hb dX10_matchesSix_39 (by decide) ?_
            obtain rfl := Option.some.inj hm
            subst hQ0
            exact W.zret (v := 0) hx hb hr rfl (fun t ht hW => ⟨rfl, ht⟩) (fun q h => by cases h) dX10_matchesSix_40
          · have hm := mr_if c4 hm
            refine lv_iconst (v := 1) hx hb dX10_matchesSix_35 (by decide) ?_
            refine lv_goto (tgt := 40) hx hb dX10_matchesSix_36 (by decide) ?_
            obtain rfl := Option.some.inj hm
            subst hQ0
            exact W.zret (v := 1) hx hb hr rfl (fun t ht hW => ⟨rfl, ht⟩) (fun q h => by cases h) dX10_matchesSix_40
      · have hm := mr_un c2 hm
        refine lv_iload_n hx hb dX10_matchesSix_20 rfl (lv_at hl 0 rfl) ?_
        refine lv_iconst (v := 5) hx hb dX10_matchesSix_21 (by decide) ?_
        refine lv_icmp_ne (tgt := 39) hx hb dX10_matchesSix_22 (by decide) (fun c5 => ?_) (fun c5 => ?_)
        · have hm := mr_un c5 hm
          refine lv_iconst (v := 0) hx hb dX10_matchesSix_39 (by decide) ?_
          obtain rfl := Option.some.inj hm
          subst hQ0
          exact W.zret (v := 0) hx hb hr rfl (fun t ht hW => ⟨rfl, ht⟩) (fun q h => by cases h) dX10_matchesSix_40
        · have hm := mr_if c5 hm
          refine lv_iload_n hx hb dX10_matchesSix_25 rfl (lv_at hl 1 rfl) ?_
          refine lv_iconst (v := 4) hx hb dX10_matchesSix_26 (by decide) ?_
          refine lv_icmp_eq (tgt := 35) hx hb dX10_matchesSix_27 (by decide) (fun c6 => ?_) (fun c6 => ?_)
          · have hm := mr_if c6 hm
            refine lv_iconst (v := 1) hx hb dX10_matchesSix_35 (by decide) ?_
            refine lv_goto (tgt := 40) hx hb dX10_matchesSix_36 (by decide) ?_
            obtain rfl := Option.some.inj hm
            subst hQ0
            exact W.zret (v := 1) hx hb hr rfl (fun t ht hW => ⟨rfl, ht⟩) (fun q h => by cases h) dX10_matchesSix_40
          · have hm := mr_un c6 hm
            refine lv_iload_n hx hb dX10_matchesSix_30 rfl (lv_at hl 1 rfl) ?_
            refine lv_iconst (v := 5) hx hb dX10_matchesSix_31 (by decide) ?_
            refine lv_icmp_ne (tgt := 39) hx hb dX10_matchesSix_32 (by decide) (fun c7 => ?_) (fun c7 => ?_)
            · have hm := mr_un c7 hm
              refine lv_iconst (v := 0) hx hb dX10_matchesSix_39 (by decide) ?_
              obtain rfl := Option.some.inj hm
              subst hQ0
              exact W.zret (v := 0) hx hb hr rfl (fun t ht hW => ⟨rfl, ht⟩) (fun q h => by cases h) dX10_matchesSix_40
            · have hm := mr_if c7 hm
              refine lv_iconst (v := 1) hx hb dX10_matchesSix_35 (by decide) ?_
              refine lv_goto (tgt := 40) hx hb dX10_matchesSix_36 (by decide) ?_
              obtain rfl := Option.some.inj hm
              subst hQ0
              exact W.zret (v := 1) hx hb hr rfl (fun t ht hW => ⟨rfl, ht⟩) (fun q h => by cases h) dX10_matchesSix_40
    refine lv_icmp_ne (tgt := 15) hx hb dX10_matchesSix_7 (by decide) (fun c8 => ?_) (fun c8 => ?_)
    · have hm := mr_un c8 hm
      exact j15 a0 a1 ls (lv_sub hl [0, 1] rfl) hm
    · have hm := mr_if c8 hm
      refine lv_iload_n hx hb dX10_matchesSix_10 rfl (lv_at hl 1 rfl) ?_
      refine lv_iconst (v := 3) hx hb dX10_matchesSix_11 (by decide) ?_
      refine lv_icmp_eq (tgt := 35) hx hb dX10_matchesSix_12 (by decide) (fun c9 => ?_) (fun c9 => ?_)
      · have hm := mr_if c9 hm
        refine lv_iconst (v := 1) hx hb dX10_matchesSix_35 (by decide) ?_
        refine lv_goto (tgt := 40) hx hb dX10_matchesSix_36 (by decide) ?_
        obtain rfl := Option.some.inj hm
        subst hQ0
        exact W.zret (v := 1) hx hb hr rfl (fun t ht hW => ⟨rfl, ht⟩) (fun q h => by cases h) dX10_matchesSix_40
      · have hm := mr_un c9 hm
        exact j15 a0 a1 ls (lv_sub hl [0, 1] rfl) hm
set_option maxHeartbeats 4000000 in
set_option maxRecDepth 100000 in
theorem kX10_fieldLike (l : Launch) (htr : l.stackTraces = false) (dC : Nat → ClassId) (dI : Nat → Nat → Nat) (adK adV : Nat → Nat) (cI cB cJ cZ cQ : ClassId) (obA aq_bytes aq_kinds aq_firsts aq_numbers aq_sizes aq_inner aq_nexts aq_letters aq_sorts aq_names aq_wide aq_kids aq_many aq_fallback aq_kidShape aq_kidName aq_kidDefault aq_kidNext aq_finished aq_plain aq_told obB bq_bytes bq_kinds bq_firsts bq_numbers bq_sizes bq_inner bq_nexts bq_letters bq_sorts bq_names bq_wide bq_kids bq_many bq_fallback bq_kidShape bq_kidName bq_kidDefault bq_kidNext bq_finished bq_plain bq_told : Nat) (a_length : Int32) (a_at : Int32) (a_deep : Int32) (a_fault : Int32) (a_place : Int32) (a_end : Int32) (a_nodes : Int32) (a_lettered : Int32) (a_shapes : Int32) (a_looked : Int32) (a_kidCount : Int32) (a_done : Int32) (a_root : Int32) (a_plainSize : Int32) (b_length : Int32) (b_at : Int32) (b_deep : Int32) (b_fault : Int32) (b_place : Int32) (b_end : Int32) (b_nodes : Int32) (b_lettered : Int32) (b_shapes : Int32) (b_looked : Int32) (b_kidCount : Int32) (b_done : Int32) (b_root : Int32) (b_plainSize : Int32) (a_numbers : Nat → Int64) (a_sizes : Nat → Int32) (a_letters : Nat → Int32) (a_kids : Nat → Int32) (a_kidName : Nat → Int32) (a_kidNext : Nat → Int32) (b_numbers : Nat → Int64) (b_sizes : Nat → Int32) (b_letters : Nat → Int32) (b_kidName : Nat → Int32) (a1 : Int32) (a3 : Int32) (res : Int32) (hm : m_X10_fieldLike a_numbers a_sizes a_letters a_kids a_kidName a_kidNext b_numbers b_sizes b_letters b_kidName a1 a3 = some res) : Met l yX10_fieldLike wsX10_fieldLike (rmX10_fieldLike 0 0) (pcR (sr_Z adK adV) (dC, dI) srCl [(cI, .int), (cB, .byte), (cJ, .long), (cZ, .boolean), (cQ, .object "SchemaReader$Schema")] [.ref obA, .int a1, .ref obB, .int a3] [(obA, .inr (0, [.ref aq_bytes, .int a_length, .int a_at, .int a_deep, .int a_fault, .int a_place, .int a_end, .int a_nodes, .ref aq_kinds, .ref aq_firsts, .ref aq_numbers, .ref aq_sizes, .ref aq_inner, .ref aq_nexts, .ref aq_letters, .int a_lettered, .int a_shapes, .int a_looked, .ref aq_sorts, .ref aq_names, .ref aq_wide, .ref aq_kids, .ref aq_many, .ref aq_fallback, .int a_kidCount, .ref aq_kidShape, .ref aq_kidName, .ref aq_kidDefault, .ref aq_kidNext, .int a_done, .ref aq_finished, .int a_root, .ref aq_plain, .int a_plainSize, .ref aq_told])), (aq_numbers, .inl (cJ, 4200, .inr (.inl a_numbers))), (aq_sizes, .inl (cI, 4200, .inl a_sizes)), (aq_letters, .inl (cB, 4200, .inl a_letters)), (aq_kids, .inl (cI, 140, .inl a_kids)), (aq_kidName, .inl (cI, 2200, .inl a_kidName)), (aq_kidNext, .inl (cI, 2200, .inl a_kidNext)), (obB, .inr (0, [.ref bq_bytes, .int b_length, .int b_at, .int b_deep, .int b_fault, .int b_place, .int b_end, .int b_nodes, .ref bq_kinds, .ref bq_firsts, .ref bq_numbers, .ref bq_sizes, .ref bq_inner, .ref bq_nexts, .ref bq_letters, .int b_lettered, .int b_shapes, .int b_looked, .ref bq_sorts, .ref bq_names, .ref bq_wide, .ref bq_kids, .ref bq_many, .ref bq_fallback, .int b_kidCount, .ref bq_kidShape, .ref bq_kidName, .ref bq_kidDefault, .ref bq_kidNext, .int b_done, .ref bq_finished, .int b_root, .ref bq_plain, .int b_plainSize, .ref bq_told])), (bq_numbers, .inl (cJ, 4200, .inr (.inl b_numbers))), (bq_sizes, .inl (cI, 4200, .inl b_sizes)), (bq_letters, .inl (cB, 4200, .inl b_letters)), (bq_kidName, .inl (cI, 2200, .inl b_kidName))]) (k2_QcV (.int res)) 0 0 (fun _ => False) := by
  refine Met.ofW (cc := cX10_fieldLike) (maxL := 5) (ret := (some .int)) (by decide) rfl ?_
  intro p e s m args below meth c s₁ B hml hv
  obtain ⟨rfl, hP, hK, hz0⟩ := hv
  have hx := B.exec
  have hb := B.bytes
  have hr := B.returns
  have hts := atoms_spec (ws := wsX10_fieldLike) B.pre
  have hown : s.vm.findClass RX10 = some m.cls := findClass_of_methodNamed B.named
  have hlocks := B.notSynchronized
  have hS : va_S (fun _ => False) s.heap s.heap [] := va_S.rf
  generalize hQ0 : MQ below (k2_QcV (.int res)) [.ref obA, .int a1, .ref obB, .int a3].toArray s 0 0 (fun _ => False) = Q0
  have hl := lv_entry [.ref obA, .int a1, .ref obB, .int a3] (n := 5) (Nat.le_of_ble_eq_true rfl)
  rw [lg_entry_eq]
  generalize (lg_sl [.ref obA, .int a1, .ref obB, .int a3] ++ List.replicate (5 - (lg_sl [.ref obA, .int a1, .ref obB, .int a3]).length) Slot.unset).toArray = ls at hl ⊢
  have hl : lv_has ls 5 [(0, .ref obA), (1, .int a1), (2, .ref obB), (3, .int a3)] := hl
  unfold m_X10_fieldLike at hm
  refine lv_aload_n hx hb dX10_fieldLike_0 rfl (lv_at hl 0 rfl) ?_
  refine va_getN (D := (dC, dI)) (ci := 0) (v := .ref aq_kids) (C := RX9) (T := TX9) (N := 35) hx hb hts (inX9 _) hown hK hP 0 rfl rfl 21 (by decide) (va_Nw.use rfl (hz0.2.2.2.2.2.2.1 _ wf10_105)) (fun _ h9 => h9) rfl dX10_fieldLike_1 ?_
  refine lv_iload_n hx hb dX10_fieldLike_4 rfl (lv_at hl 1 rfl) ?_
  obtain ⟨h1, hm⟩ := mr_bd hm
  refine va_iald hx hb hK hP 4 0 rfl rfl h1 dX10_fieldLike_5 ?_
  have j8 : ∀ (n8 : Nat) (x3 : Int32) (x4 : Int32) (ls : Array Slot), lv_has ls 5 [(0, .ref obA), (2, .ref obB), (3, .int x3), (4, .int x4)] → m_X10_fieldLike_8 a_numbers a_sizes a_letters a_kids a_kidName a_kidNext b_numbers b_sizes b_letters b_kidName n8 x3 x4 = some res → W p l e (headSpec wsX10_fieldLike (rmX10_fieldLike 0 0)).room s m [.ref obA, .int a1, .ref obB, .int a3].toArray below meth c s.heap [] 0 0 Q0 (F0 m 8 ls []) := by
    intro n8
    induction n8 with
    | zero => intro x3 x4 ls hl hm; exact nomatch (show (none : Option _) = some res from hm)
    | succ n8 ih8 =>
      intro x3 x4 ls hl hm
      rw [m_X10_fieldLike_8] at hm
      refine lv_iload hx hb dX10_fieldLike_8 (lv_at hl 3 rfl) ?_
      refine lv_if_lt (tgt := 49) hx hb dX10_fieldLike_10 (by decide) (fun c2 => ?_) (fun c2 => ?_)
      · have hm := mr_if c2 hm
        refine lv_iconst (v := -1) hx hb dX10_fieldLike_49 (by decide) ?_
        obtain rfl := Option.some.inj hm
        subst hQ0
        exact W.iret (v := (-1)) hx hb hr (fun t ht hW => ⟨rfl, ht⟩) (fun q h => by cases h) dX10_fieldLike_50
      · have hm := mr_un c2 hm
        refine lv_aload_n hx hb dX10_fieldLike_13 rfl (lv_at hl 0 rfl) ?_
        refine lv_aload_n hx hb dX10_fieldLike_14 rfl (lv_at hl 0 rfl) ?_
        refine va_getN (D := (dC, dI)) (ci := 0) (v := .ref aq_kidName) (C := RX9) (T := TX9) (N := 35) hx hb hts (inX9 _) hown hK hP 0 rfl rfl 26 (by decide) (va_Nw.use rfl (hz0.2.2.2.2.2.2.1 _ wf10_142)) (fun _ h9 => h9) rfl dX10_fieldLike_15 ?_
        refine lv_iload hx hb dX10_fieldLike_18 (lv_at hl 3 rfl) ?_
        obtain ⟨h3, hm⟩ := mr_bd hm
        refine va_iald hx hb hK hP 5 0 rfl rfl h3 dX10_fieldLike_20 ?_
        refine lv_aload_n hx hb dX10_fieldLike_21 rfl (lv_at hl 1 rfl) ?_
        refine lv_aload_n hx hb dX10_fieldLike_22 rfl (lv_at hl 1 rfl) ?_
        refine va_getN (D := (dC, dI)) (ci := 0) (v := .ref bq_kidName) (C := RX9) (T := TX9) (N := 35) hx hb hts (inX9 _) hown hK hP 7 rfl rfl 26 (by decide) (va_Nw.use rfl (hz0.2.2.2.2.2.2.1 _ wf10_142)) (fun _ h9 => h9) rfl dX10_fieldLike_23 ?_
        refine lv_iload_n hx hb dX10_fieldLike_26 rfl (lv_at hl 2 rfl) ?_
        obtain ⟨h4, hm⟩ := mr_bd hm
        refine va_iald hx hb hK hP 11 0 rfl rfl h4 dX10_fieldLike_27 ?_
        obtain ⟨r5, hz5, hm⟩ := mr_bind hm
        refine mr_pVN (As := [.int (a_kidName (x4 : Int32).toNatClampNeg), .ref obB, .int (b_kidName (x3 : Int32).toNatClampNeg)]) (rest := []) (sr_okZ adK adV) ⟨hx, hb, hml, hown, hts⟩ (kX9_same l htr dC dI adK adV cI cB cJ cZ cQ obA aq_bytes aq_kinds aq_firsts aq_numbers aq_sizes aq_inner aq_nexts aq_letters aq_sorts aq_names aq_wide aq_kids aq_many aq_fallback aq_kidShape aq_kidName aq_kidDefault aq_kidNext aq_finished aq_plain aq_told obB bq_bytes bq_kinds bq_firsts bq_numbers bq_sizes bq_inner bq_nexts bq_letters bq_sorts bq_names bq_wide bq_kids bq_many bq_fallback bq_kidShape bq_kidName bq_kidDefault bq_kidNext bq_finished bq_plain bq_told a_length a_at a_deep a_fault a_place a_end a_nodes a_lettered a_shapes a_looked a_kidCount a_done a_root a_plainSize b_length b_at b_deep b_fault b_place b_end b_nodes b_lettered b_shapes b_looked b_kidCount b_done b_root b_plainSize a_numbers a_sizes a_letters b_numbers b_sizes b_letters (a_kidName (x4 : Int32).toNatClampNeg) (b_kidName (x3 : Int32).toNatClampNeg) r5 hz5) (sr_cnV 3 hts rfl gn10_115.1 (hz0.2.2.2.2.2.2.1 _ gn10_115.2) rfl rfl (by decide +kernel) ⟨(by show 0 + 1 ≤ 1; omega), (by show 8 + (5 + 11) + (0) ≤ 24; omega)⟩) hS hP hK hz0 [0, 1, 2, 3, 7, 8, 9, 10] rfl (va_recv hK hP (ci := 0) (q0 := 0) rfl rfl) rfl rfl hl.1 (Nat.le_of_ble_eq_true rfl) dX10_fieldLike_28 ⟨Nat.zero_le _, Nat.zero_le _⟩ ?_
        refine lv_if_eq (tgt := 37) hx hb dX10_fieldLike_31 (by decide) (fun c6 => ?_) (fun c6 => ?_)
        · have hm := mr_if c6 hm
          refine lv_aload_n hx hb dX10_fieldLike_37 rfl (lv_at hl 0 rfl) ?_
          refine va_getN (D := (dC, dI)) (ci := 0) (v := .ref aq_kidNext) (C := RX9) (T := TX9) (N := 35) hx hb hts (inX9 _) hown hK hP 0 rfl rfl 28 (by decide) (va_Nw.use rfl (hz0.2.2.2.2.2.2.1 _ wf10_122)) (fun _ h9 => h9) rfl dX10_fieldLike_38 ?_
          refine lv_iload hx hb dX10_fieldLike_41 (lv_at hl 3 rfl) ?_
          obtain ⟨h7, hm⟩ := mr_bd hm
          refine va_iald hx hb hK hP 6 0 rfl rfl h7 dX10_fieldLike_43 ?_
          refine lv_istore (lv' := [(4, .int (a_kidNext (x4 : Int32).toNatClampNeg)), (0, .ref obA), (2, .ref obB), (3, .int x3)]) hx hb dX10_fieldLike_44 hl (by decide) rfl (fun ls hl => ?_)
          refine lv_goto (tgt := 8) hx hb dX10_fieldLike_46 (by decide) ?_
          exact ih8 x3 (a_kidNext (x4 : Int32).toNatClampNeg) ls (lv_sub hl [1, 2, 3, 0] rfl) hm
        · have hm := mr_un c6 hm
          refine lv_iload hx hb dX10_fieldLike_34 (lv_at hl 3 rfl) ?_
          obtain rfl := Option.some.inj hm
          subst hQ0
          exact W.iret (v := x4) hx hb hr (fun t ht hW => ⟨rfl, ht⟩) (fun q h => by cases h) dX10_fieldLike_36
  refine lv_istore (lv' := [(4, .int (a_kids (a1 : Int32).toNatClampNeg)), (0, .ref obA), (1, .int a1), (2, .ref obB), (3, .int a3)]) hx hb dX10_fieldLike_6 hl (by decide) rfl (fun ls hl => ?_)
  exact j8 sr_fuel a3 (a_kids (a1 : Int32).toNatClampNeg) ls (lv_sub hl [1, 3, 4, 0] rfl) hm
end
section
abbrev cX10_matchesT : ByteArray := prog_12_method_18_code
def yX10_matchesT : MethodName := ⟨RX10, "matches", "(LSchemaReaderModel$Text;ILSchemaReaderModel$Text;I)Z"⟩
def wsX10_matchesT : List Cond := .code yX10_matchesT cX10_matchesT 6 (some .boolean) :: sr_G
def nq_cX10_matchesT : Nat := 0xac030400a7040700a02e1d7700b42c2e1b7700b42a1200a0091004151d00997300b62e1d7000b42c2c2e1b7000b42a2aac6c00b82e2e1d6900b42c6600b42c2c2e2e1b6900b42a6600b42a2a1f00a0071004150a009f06100415ac0305009f05150415ac030400a7040700996200b8051504151100995f00b805151900995f00b804152300995f00b805150b009a5f00b80415ac040500a0081005150a009f0810041505362e1d5c00b42c04362e1b5c00b42a
theorem kq_cX10_matchesT : qOk cX10_matchesT nq_cX10_matchesT 179 = true := by decide +kernel
theorem dX10_matchesT_0 : decode cX10_matchesT 0 = .ok (.aload_n 0, 1) := qd_42 kq_cX10_matchesT (by decide +kernel)
theorem dX10_matchesT_1 : decode cX10_matchesT 1 = .ok (.getfield 92, 3) := qd_180 kq_cX10_matchesT (by decide +kernel)
theorem dX10_matchesT_4 : decode cX10_matchesT 4 = .ok (.iload_n 1, 1) := qd_27 kq_cX10_matchesT (by decide +kernel)
theorem dX10_matchesT_5 : decode cX10_matchesT 5 = .ok (.iaload, 1) := qd_46 kq_cX10_matchesT (by decide +kernel)
theorem dX10_matchesT_6 : decode cX10_matchesT 6 = .ok (.istore 4, 2) := qd_54 kq_cX10_matchesT (by decide +kernel)
theorem dX10_matchesT_8 : decode cX10_matchesT 8 = .ok (.aload_n 2, 1) := qd_44 kq_cX10_matchesT (by decide +kernel)
theorem dX10_matchesT_9 : decode cX10_matchesT 9 = .ok (.getfield 92, 3) := qd_180 kq_cX10_matchesT (by decide +kernel)
theorem dX10_matchesT_12 : decode cX10_matchesT 12 = .ok (.iload_n 3, 1) := qd_29 kq_cX10_matchesT (by decide +kernel)
theorem dX10_matchesT_13 : decode cX10_matchesT 13 = .ok (.iaload, 1) := qd_46 kq_cX10_matchesT (by decide +kernel)
theorem dX10_matchesT_14 : decode cX10_matchesT 14 = .ok (.istore 5, 2) := qd_54 kq_cX10_matchesT (by decide +kernel)
theorem dX10_matchesT_16 : decode cX10_matchesT 16 = .ok (.iload 4, 2) := qd_21 kq_cX10_matchesT (by decide +kernel)
theorem dX10_matchesT_18 : decode cX10_matchesT 18 = .ok (.bipush 8, 2) := qd_16 kq_cX10_matchesT (by decide +kernel)
theorem dX10_matchesT_20 : decode cX10_matchesT 20 = .ok (.if_icmp .eq 10, 3) := qd_159 kq_cX10_matchesT (by decide +kernel)
theorem dX10_matchesT_23 : decode cX10_matchesT 23 = .ok (.iload 5, 2) := qd_21 kq_cX10_matchesT (by decide +kernel)
theorem dX10_matchesT_25 : decode cX10_matchesT 25 = .ok (.bipush 8, 2) := qd_16 kq_cX10_matchesT (by decide +kernel)
theorem dX10_matchesT_27 : decode cX10_matchesT 27 = .ok (.if_icmp .ne 5, 3) := qd_160 kq_cX10_matchesT (by decide +kernel)
theorem dX10_matchesT_30 : decode cX10_matchesT 30 = .ok (.iconst 1, 1) := qd_4 kq_cX10_matchesT (by decide +kernel)
theorem dX10_matchesT_31 : decode cX10_matchesT 31 = .ok (.ireturn, 1) := qd_172 kq_cX10_matchesT (by decide +kernel)
theorem dX10_matchesT_32 : decode cX10_matchesT 32 = .ok (.iload 4, 2) := qd_21 kq_cX10_matchesT (by decide +kernel)
theorem dX10_matchesT_34 : decode cX10_matchesT 34 = .ok (.invokestatic 95, 3) := qd_184 kq_cX10_matchesT (by decide +kernel)
theorem dX10_matchesT_37 : decode cX10_matchesT 37 = .ok (.ifCond .ne 11, 3) := qd_154 kq_cX10_matchesT (by decide +kernel)
theorem dX10_matchesT_40 : decode cX10_matchesT 40 = .ok (.iload 5, 2) := qd_21 kq_cX10_matchesT (by decide +kernel)
theorem dX10_matchesT_42 : decode cX10_matchesT 42 = .ok (.invokestatic 95, 3) := qd_184 kq_cX10_matchesT (by decide +kernel)
theorem dX10_matchesT_45 : decode cX10_matchesT 45 = .ok (.ifCond .eq 35, 3) := qd_153 kq_cX10_matchesT (by decide +kernel)
theorem dX10_matchesT_48 : decode cX10_matchesT 48 = .ok (.iload 4, 2) := qd_21 kq_cX10_matchesT (by decide +kernel)
theorem dX10_matchesT_50 : decode cX10_matchesT 50 = .ok (.invokestatic 95, 3) := qd_184 kq_cX10_matchesT (by decide +kernel)
theorem dX10_matchesT_53 : decode cX10_matchesT 53 = .ok (.ifCond .eq 25, 3) := qd_153 kq_cX10_matchesT (by decide +kernel)
theorem dX10_matchesT_56 : decode cX10_matchesT 56 = .ok (.iload 5, 2) := qd_21 kq_cX10_matchesT (by decide +kernel)
theorem dX10_matchesT_58 : decode cX10_matchesT 58 = .ok (.invokestatic 95, 3) := qd_184 kq_cX10_matchesT (by decide +kernel)
theorem dX10_matchesT_61 : decode cX10_matchesT 61 = .ok (.ifCond .eq 17, 3) := qd_153 kq_cX10_matchesT (by decide +kernel)
theorem dX10_matchesT_64 : decode cX10_matchesT 64 = .ok (.iload 4, 2) := qd_21 kq_cX10_matchesT (by decide +kernel)
theorem dX10_matchesT_66 : decode cX10_matchesT 66 = .ok (.iload 5, 2) := qd_21 kq_cX10_matchesT (by decide +kernel)
theorem dX10_matchesT_68 : decode cX10_matchesT 68 = .ok (.invokestatic 98, 3) := qd_184 kq_cX10_matchesT (by decide +kernel)
theorem dX10_matchesT_71 : decode cX10_matchesT 71 = .ok (.ifCond .eq 7, 3) := qd_153 kq_cX10_matchesT (by decide +kernel)
theorem dX10_matchesT_74 : decode cX10_matchesT 74 = .ok (.iconst 1, 1) := qd_4 kq_cX10_matchesT (by decide +kernel)
theorem dX10_matchesT_75 : decode cX10_matchesT 75 = .ok (.goto 4, 3) := qd_167 kq_cX10_matchesT (by decide +kernel)
theorem dX10_matchesT_78 : decode cX10_matchesT 78 = .ok (.iconst 0, 1) := qd_3 kq_cX10_matchesT (by decide +kernel)
theorem dX10_matchesT_79 : decode cX10_matchesT 79 = .ok (.ireturn, 1) := qd_172 kq_cX10_matchesT (by decide +kernel)
theorem dX10_matchesT_80 : decode cX10_matchesT 80 = .ok (.iload 4, 2) := qd_21 kq_cX10_matchesT (by decide +kernel)
theorem dX10_matchesT_82 : decode cX10_matchesT 82 = .ok (.iload 5, 2) := qd_21 kq_cX10_matchesT (by decide +kernel)
theorem dX10_matchesT_84 : decode cX10_matchesT 84 = .ok (.if_icmp .eq 5, 3) := qd_159 kq_cX10_matchesT (by decide +kernel)
theorem dX10_matchesT_87 : decode cX10_matchesT 87 = .ok (.iconst 0, 1) := qd_3 kq_cX10_matchesT (by decide +kernel)
theorem dX10_matchesT_88 : decode cX10_matchesT 88 = .ok (.ireturn, 1) := qd_172 kq_cX10_matchesT (by decide +kernel)
theorem dX10_matchesT_89 : decode cX10_matchesT 89 = .ok (.iload 4, 2) := qd_21 kq_cX10_matchesT (by decide +kernel)
theorem dX10_matchesT_91 : decode cX10_matchesT 91 = .ok (.bipush 6, 2) := qd_16 kq_cX10_matchesT (by decide +kernel)
theorem dX10_matchesT_93 : decode cX10_matchesT 93 = .ok (.if_icmp .eq 10, 3) := qd_159 kq_cX10_matchesT (by decide +kernel)
theorem dX10_matchesT_96 : decode cX10_matchesT 96 = .ok (.iload 4, 2) := qd_21 kq_cX10_matchesT (by decide +kernel)
theorem dX10_matchesT_98 : decode cX10_matchesT 98 = .ok (.bipush 7, 2) := qd_16 kq_cX10_matchesT (by decide +kernel)
theorem dX10_matchesT_100 : decode cX10_matchesT 100 = .ok (.if_icmp .ne 31, 3) := qd_160 kq_cX10_matchesT (by decide +kernel)
theorem dX10_matchesT_103 : decode cX10_matchesT 103 = .ok (.aload_n 0, 1) := qd_42 kq_cX10_matchesT (by decide +kernel)
theorem dX10_matchesT_104 : decode cX10_matchesT 104 = .ok (.aload_n 0, 1) := qd_42 kq_cX10_matchesT (by decide +kernel)
theorem dX10_matchesT_105 : decode cX10_matchesT 105 = .ok (.getfield 102, 3) := qd_180 kq_cX10_matchesT (by decide +kernel)
theorem dX10_matchesT_108 : decode cX10_matchesT 108 = .ok (.aload_n 0, 1) := qd_42 kq_cX10_matchesT (by decide +kernel)
theorem dX10_matchesT_109 : decode cX10_matchesT 109 = .ok (.getfield 105, 3) := qd_180 kq_cX10_matchesT (by decide +kernel)
theorem dX10_matchesT_112 : decode cX10_matchesT 112 = .ok (.iload_n 1, 1) := qd_27 kq_cX10_matchesT (by decide +kernel)
theorem dX10_matchesT_113 : decode cX10_matchesT 113 = .ok (.iaload, 1) := qd_46 kq_cX10_matchesT (by decide +kernel)
theorem dX10_matchesT_114 : decode cX10_matchesT 114 = .ok (.iaload, 1) := qd_46 kq_cX10_matchesT (by decide +kernel)
theorem dX10_matchesT_115 : decode cX10_matchesT 115 = .ok (.aload_n 2, 1) := qd_44 kq_cX10_matchesT (by decide +kernel)
theorem dX10_matchesT_116 : decode cX10_matchesT 116 = .ok (.aload_n 2, 1) := qd_44 kq_cX10_matchesT (by decide +kernel)
theorem dX10_matchesT_117 : decode cX10_matchesT 117 = .ok (.getfield 102, 3) := qd_180 kq_cX10_matchesT (by decide +kernel)
theorem dX10_matchesT_120 : decode cX10_matchesT 120 = .ok (.aload_n 2, 1) := qd_44 kq_cX10_matchesT (by decide +kernel)
theorem dX10_matchesT_121 : decode cX10_matchesT 121 = .ok (.getfield 105, 3) := qd_180 kq_cX10_matchesT (by decide +kernel)
theorem dX10_matchesT_124 : decode cX10_matchesT 124 = .ok (.iload_n 3, 1) := qd_29 kq_cX10_matchesT (by decide +kernel)
theorem dX10_matchesT_125 : decode cX10_matchesT 125 = .ok (.iaload, 1) := qd_46 kq_cX10_matchesT (by decide +kernel)
theorem dX10_matchesT_126 : decode cX10_matchesT 126 = .ok (.iaload, 1) := qd_46 kq_cX10_matchesT (by decide +kernel)
theorem dX10_matchesT_127 : decode cX10_matchesT 127 = .ok (.invokestatic 108, 3) := qd_184 kq_cX10_matchesT (by decide +kernel)
theorem dX10_matchesT_130 : decode cX10_matchesT 130 = .ok (.ireturn, 1) := qd_172 kq_cX10_matchesT (by decide +kernel)
theorem dX10_matchesT_131 : decode cX10_matchesT 131 = .ok (.aload_n 0, 1) := qd_42 kq_cX10_matchesT (by decide +kernel)
theorem dX10_matchesT_132 : decode cX10_matchesT 132 = .ok (.aload_n 0, 1) := qd_42 kq_cX10_matchesT (by decide +kernel)
theorem dX10_matchesT_133 : decode cX10_matchesT 133 = .ok (.getfield 112, 3) := qd_180 kq_cX10_matchesT (by decide +kernel)
theorem dX10_matchesT_136 : decode cX10_matchesT 136 = .ok (.iload_n 1, 1) := qd_27 kq_cX10_matchesT (by decide +kernel)
theorem dX10_matchesT_137 : decode cX10_matchesT 137 = .ok (.iaload, 1) := qd_46 kq_cX10_matchesT (by decide +kernel)
theorem dX10_matchesT_138 : decode cX10_matchesT 138 = .ok (.aload_n 2, 1) := qd_44 kq_cX10_matchesT (by decide +kernel)
theorem dX10_matchesT_139 : decode cX10_matchesT 139 = .ok (.aload_n 2, 1) := qd_44 kq_cX10_matchesT (by decide +kernel)
theorem dX10_matchesT_140 : decode cX10_matchesT 140 = .ok (.getfield 112, 3) := qd_180 kq_cX10_matchesT (by decide +kernel)
theorem dX10_matchesT_143 : decode cX10_matchesT 143 = .ok (.iload_n 3, 1) := qd_29 kq_cX10_matchesT (by decide +kernel)
theorem dX10_matchesT_144 : decode cX10_matchesT 144 = .ok (.iaload, 1) := qd_46 kq_cX10_matchesT (by decide +kernel)
theorem dX10_matchesT_145 : decode cX10_matchesT 145 = .ok (.invokevirtual 115, 3) := qd_182 kq_cX10_matchesT (by decide +kernel)
theorem dX10_matchesT_148 : decode cX10_matchesT 148 = .ok (.ifCond .eq 29, 3) := qd_153 kq_cX10_matchesT (by decide +kernel)
theorem dX10_matchesT_151 : decode cX10_matchesT 151 = .ok (.iload 4, 2) := qd_21 kq_cX10_matchesT (by decide +kernel)
theorem dX10_matchesT_153 : decode cX10_matchesT 153 = .ok (.bipush 9, 2) := qd_16 kq_cX10_matchesT (by decide +kernel)
theorem dX10_matchesT_155 : decode cX10_matchesT 155 = .ok (.if_icmp .ne 18, 3) := qd_160 kq_cX10_matchesT (by decide +kernel)
theorem dX10_matchesT_158 : decode cX10_matchesT 158 = .ok (.aload_n 0, 1) := qd_42 kq_cX10_matchesT (by decide +kernel)
theorem dX10_matchesT_159 : decode cX10_matchesT 159 = .ok (.getfield 119, 3) := qd_180 kq_cX10_matchesT (by decide +kernel)
theorem dX10_matchesT_162 : decode cX10_matchesT 162 = .ok (.iload_n 1, 1) := qd_27 kq_cX10_matchesT (by decide +kernel)
theorem dX10_matchesT_163 : decode cX10_matchesT 163 = .ok (.iaload, 1) := qd_46 kq_cX10_matchesT (by decide +kernel)
theorem dX10_matchesT_164 : decode cX10_matchesT 164 = .ok (.aload_n 2, 1) := qd_44 kq_cX10_matchesT (by decide +kernel)
theorem dX10_matchesT_165 : decode cX10_matchesT 165 = .ok (.getfield 119, 3) := qd_180 kq_cX10_matchesT (by decide +kernel)
theorem dX10_matchesT_168 : decode cX10_matchesT 168 = .ok (.iload_n 3, 1) := qd_29 kq_cX10_matchesT (by decide +kernel)
theorem dX10_matchesT_169 : decode cX10_matchesT 169 = .ok (.iaload, 1) := qd_46 kq_cX10_matchesT (by decide +kernel)
theorem dX10_matchesT_170 : decode cX10_matchesT 170 = .ok (.if_icmp .ne 7, 3) := qd_160 kq_cX10_matchesT (by decide +kernel)
theorem dX10_matchesT_173 : decode cX10_matchesT 173 = .ok (.iconst 1, 1) := qd_4 kq_cX10_matchesT (by decide +kernel)
theorem dX10_matchesT_174 : decode cX10_matchesT 174 = .ok (.goto 4, 3) := qd_167 kq_cX10_matchesT (by decide +kernel)
theorem dX10_matchesT_177 : decode cX10_matchesT 177 = .ok (.iconst 0, 1) := qd_3 kq_cX10_matchesT (by decide +kernel)
theorem dX10_matchesT_178 : decode cX10_matchesT 178 = .ok (.ireturn, 1) := qd_172 kq_cX10_matchesT (by decide +kernel)
def rmX10_matchesT (d : Nat) (mc ms : Nat) : Room := { frames := 1 * d + 1, cells := mc, slots := ms, locals := 25 * d + 24 }
abbrev cX10_branchFor : ByteArray := prog_12_method_19_code
def yX10_branchFor : MethodName := ⟨RX10, "branchFor", "(LSchemaReaderModel$Text;ILSchemaReaderModel$Text;I)I"⟩
def wsX10_branchFor : List Cond := .code yX10_branchFor cX10_branchFor 5 (some .int) :: sr_G
def nq_cX10_branchFor : Nat := 0xac02dfffa704362e04157a00b42cac04150600996c00b82e04156600b42c2c1b2a22009b041504362e1d6900b42c
theorem kq_cX10_branchFor : qOk cX10_branchFor nq_cX10_branchFor 46 = true := by decide +kernel
theorem dX10_branchFor_0 : decode cX10_branchFor 0 = .ok (.aload_n 2, 1) := qd_44 kq_cX10_branchFor (by decide +kernel)
theorem dX10_branchFor_1 : decode cX10_branchFor 1 = .ok (.getfield 105, 3) := qd_180 kq_cX10_branchFor (by decide +kernel)
theorem dX10_branchFor_4 : decode cX10_branchFor 4 = .ok (.iload_n 3, 1) := qd_29 kq_cX10_branchFor (by decide +kernel)
theorem dX10_branchFor_5 : decode cX10_branchFor 5 = .ok (.iaload, 1) := qd_46 kq_cX10_branchFor (by decide +kernel)
theorem dX10_branchFor_6 : decode cX10_branchFor 6 = .ok (.istore 4, 2) := qd_54 kq_cX10_branchFor (by decide +kernel)
theorem dX10_branchFor_8 : decode cX10_branchFor 8 = .ok (.iload 4, 2) := qd_21 kq_cX10_branchFor (by decide +kernel)
theorem dX10_branchFor_10 : decode cX10_branchFor 10 = .ok (.ifCond .lt 34, 3) := qd_155 kq_cX10_branchFor (by decide +kernel)
theorem dX10_branchFor_13 : decode cX10_branchFor 13 = .ok (.aload_n 0, 1) := qd_42 kq_cX10_branchFor (by decide +kernel)
theorem dX10_branchFor_14 : decode cX10_branchFor 14 = .ok (.iload_n 1, 1) := qd_27 kq_cX10_branchFor (by decide +kernel)
theorem dX10_branchFor_15 : decode cX10_branchFor 15 = .ok (.aload_n 2, 1) := qd_44 kq_cX10_branchFor (by decide +kernel)
theorem dX10_branchFor_16 : decode cX10_branchFor 16 = .ok (.aload_n 2, 1) := qd_44 kq_cX10_branchFor (by decide +kernel)
theorem dX10_branchFor_17 : decode cX10_branchFor 17 = .ok (.getfield 102, 3) := qd_180 kq_cX10_branchFor (by decide +kernel)
theorem dX10_branchFor_20 : decode cX10_branchFor 20 = .ok (.iload 4, 2) := qd_21 kq_cX10_branchFor (by decide +kernel)
theorem dX10_branchFor_22 : decode cX10_branchFor 22 = .ok (.iaload, 1) := qd_46 kq_cX10_branchFor (by decide +kernel)
theorem dX10_branchFor_23 : decode cX10_branchFor 23 = .ok (.invokestatic 108, 3) := qd_184 kq_cX10_branchFor (by decide +kernel)
theorem dX10_branchFor_26 : decode cX10_branchFor 26 = .ok (.ifCond .eq 6, 3) := qd_153 kq_cX10_branchFor (by decide +kernel)
theorem dX10_branchFor_29 : decode cX10_branchFor 29 = .ok (.iload 4, 2) := qd_21 kq_cX10_branchFor (by decide +kernel)
theorem dX10_branchFor_31 : decode cX10_branchFor 31 = .ok (.ireturn, 1) := qd_172 kq_cX10_branchFor (by decide +kernel)
theorem dX10_branchFor_32 : decode cX10_branchFor 32 = .ok (.aload_n 2, 1) := qd_44 kq_cX10_branchFor (by decide +kernel)
theorem dX10_branchFor_33 : decode cX10_branchFor 33 = .ok (.getfield 122, 3) := qd_180 kq_cX10_branchFor (by decide +kernel)
theorem dX10_branchFor_36 : decode cX10_branchFor 36 = .ok (.iload 4, 2) := qd_21 kq_cX10_branchFor (by decide +kernel)
theorem dX10_branchFor_38 : decode cX10_branchFor 38 = .ok (.iaload, 1) := qd_46 kq_cX10_branchFor (by decide +kernel)
theorem dX10_branchFor_39 : decode cX10_branchFor 39 = .ok (.istore 4, 2) := qd_54 kq_cX10_branchFor (by decide +kernel)
theorem dX10_branchFor_41 : decode cX10_branchFor 41 = .ok (.goto (-33), 3) := qd_167 kq_cX10_branchFor (by decide +kernel)
theorem dX10_branchFor_44 : decode cX10_branchFor 44 = .ok (.iconst (-1), 1) := qd_2 kq_cX10_branchFor (by decide +kernel)
theorem dX10_branchFor_45 : decode cX10_branchFor 45 = .ok (.ireturn, 1) := qd_172 kq_cX10_branchFor (by decide +kernel)
def rmX10_branchFor (mc ms : Nat) : Room := { frames := 152, cells := mc, slots := ms, locals := 3799 }
abbrev cX10_ask : ByteArray := prog_12_method_20_code
def yX10_ask : MethodName := ⟨RX10, "ask", "(II)V"⟩
def wsX10_ask : List Cond := .code yX10_ask cX10_ask 3 none :: sr_G
def nq_cX10_ask : Nat := 0xb17d00b560047d00b4592a4f601c681b8c00117d00b42a2a00b42a5404601c681b8c00112600b42a2a009a33601c681b8c00112600b42a
theorem kq_cX10_ask : qOk cX10_ask nq_cX10_ask 55 = true := by decide +kernel
theorem dX10_ask_0 : decode cX10_ask 0 = .ok (.aload_n 0, 1) := qd_42 kq_cX10_ask (by decide +kernel)
theorem dX10_ask_1 : decode cX10_ask 1 = .ok (.getfield 38, 3) := qd_180 kq_cX10_ask (by decide +kernel)
theorem dX10_ask_4 : decode cX10_ask 4 = .ok (.sipush 140, 3) := qd_17 kq_cX10_ask (by decide +kernel)
theorem dX10_ask_7 : decode cX10_ask 7 = .ok (.iload_n 1, 1) := qd_27 kq_cX10_ask (by decide +kernel)
theorem dX10_ask_8 : decode cX10_ask 8 = .ok (.imul, 1) := qd_104 kq_cX10_ask (by decide +kernel)
theorem dX10_ask_9 : decode cX10_ask 9 = .ok (.iload_n 2, 1) := qd_28 kq_cX10_ask (by decide +kernel)
theorem dX10_ask_10 : decode cX10_ask 10 = .ok (.iadd, 1) := qd_96 kq_cX10_ask (by decide +kernel)
theorem dX10_ask_11 : decode cX10_ask 11 = .ok (.baload, 1) := qd_51 kq_cX10_ask (by decide +kernel)
theorem dX10_ask_12 : decode cX10_ask 12 = .ok (.ifCond .ne 42, 3) := qd_154 kq_cX10_ask (by decide +kernel)
theorem dX10_ask_15 : decode cX10_ask 15 = .ok (.aload_n 0, 1) := qd_42 kq_cX10_ask (by decide +kernel)
theorem dX10_ask_16 : decode cX10_ask 16 = .ok (.getfield 38, 3) := qd_180 kq_cX10_ask (by decide +kernel)
theorem dX10_ask_19 : decode cX10_ask 19 = .ok (.sipush 140, 3) := qd_17 kq_cX10_ask (by decide +kernel)
theorem dX10_ask_22 : decode cX10_ask 22 = .ok (.iload_n 1, 1) := qd_27 kq_cX10_ask (by decide +kernel)
theorem dX10_ask_23 : decode cX10_ask 23 = .ok (.imul, 1) := qd_104 kq_cX10_ask (by decide +kernel)
theorem dX10_ask_24 : decode cX10_ask 24 = .ok (.iload_n 2, 1) := qd_28 kq_cX10_ask (by decide +kernel)
theorem dX10_ask_25 : decode cX10_ask 25 = .ok (.iadd, 1) := qd_96 kq_cX10_ask (by decide +kernel)
theorem dX10_ask_26 : decode cX10_ask 26 = .ok (.iconst 1, 1) := qd_4 kq_cX10_ask (by decide +kernel)
theorem dX10_ask_27 : decode cX10_ask 27 = .ok (.bastore, 1) := qd_84 kq_cX10_ask (by decide +kernel)
theorem dX10_ask_28 : decode cX10_ask 28 = .ok (.aload_n 0, 1) := qd_42 kq_cX10_ask (by decide +kernel)
theorem dX10_ask_29 : decode cX10_ask 29 = .ok (.getfield 42, 3) := qd_180 kq_cX10_ask (by decide +kernel)
theorem dX10_ask_32 : decode cX10_ask 32 = .ok (.aload_n 0, 1) := qd_42 kq_cX10_ask (by decide +kernel)
theorem dX10_ask_33 : decode cX10_ask 33 = .ok (.getfield 125, 3) := qd_180 kq_cX10_ask (by decide +kernel)
theorem dX10_ask_36 : decode cX10_ask 36 = .ok (.sipush 140, 3) := qd_17 kq_cX10_ask (by decide +kernel)
theorem dX10_ask_39 : decode cX10_ask 39 = .ok (.iload_n 1, 1) := qd_27 kq_cX10_ask (by decide +kernel)
theorem dX10_ask_40 : decode cX10_ask 40 = .ok (.imul, 1) := qd_104 kq_cX10_ask (by decide +kernel)
theorem dX10_ask_41 : decode cX10_ask 41 = .ok (.iload_n 2, 1) := qd_28 kq_cX10_ask (by decide +kernel)
theorem dX10_ask_42 : decode cX10_ask 42 = .ok (.iadd, 1) := qd_96 kq_cX10_ask (by decide +kernel)
theorem dX10_ask_43 : decode cX10_ask 43 = .ok (.iastore, 1) := qd_79 kq_cX10_ask (by decide +kernel)
theorem dX10_ask_44 : decode cX10_ask 44 = .ok (.aload_n 0, 1) := qd_42 kq_cX10_ask (by decide +kernel)
theorem dX10_ask_45 : decode cX10_ask 45 = .ok (.dup, 1) := qd_89 kq_cX10_ask (by decide +kernel)
theorem dX10_ask_46 : decode cX10_ask 46 = .ok (.getfield 125, 3) := qd_180 kq_cX10_ask (by decide +kernel)
theorem dX10_ask_49 : decode cX10_ask 49 = .ok (.iconst 1, 1) := qd_4 kq_cX10_ask (by decide +kernel)
theorem dX10_ask_50 : decode cX10_ask 50 = .ok (.iadd, 1) := qd_96 kq_cX10_ask (by decide +kernel)
theorem dX10_ask_51 : decode cX10_ask 51 = .ok (.putfield 125, 3) := qd_181 kq_cX10_ask (by decide +kernel)
theorem dX10_ask_54 : decode cX10_ask 54 = .ok (.return_, 1) := qd_177 kq_cX10_ask (by decide +kernel)
def rmX10_ask (mc ms : Nat) : Room := { frames := 0, cells := mc, slots := ms, locals := 0 }
theorem g10_95 (c0 : Cond) : GoodIn (c0 :: sr_G) (va_wsS RX10 95 yX10_sixOf wsX10_sixOf) := sr_S c0 (sr_insI [(7, 62), (7, 63), (1, 6), (7, 64)] (by decide +kernel))
theorem g10_98 (c0 : Cond) : GoodIn (c0 :: sr_G) (va_wsS RX10 98 yX10_matchesSix wsX10_matchesSix) := sr_S c0 (sr_insI [(7, 65), (7, 66), (1, 6), (7, 67)] (by decide +kernel))
theorem g10_108 (c0 : Cond) : GoodIn (c0 :: sr_G) (va_wsS RX10 108 yX10_matchesT wsX10_matchesT) := sr_S c0 (sr_insI [(7, 59), (7, 60), (1, 6), (7, 61)] (by decide +kernel))
end
section
set_option maxHeartbeats 4000000 in
set_option maxRecDepth 100000 in
theorem kX10_matchesT (l : Launch) (htr : l.stackTraces = false) (dC : Nat → ClassId) (dI : Nat → Nat → Nat) (adK adV : Nat → Nat) (cI cB cJ cZ cQ : ClassId) (obA aq_bytes aq_kinds aq_firsts aq_numbers aq_sizes aq_inner aq_nexts aq_letters aq_sorts aq_names aq_wide aq_kids aq_many aq_fallback aq_kidShape aq_kidName aq_kidDefault aq_kidNext aq_finished aq_plain aq_told obB bq_bytes bq_kinds bq_firsts bq_numbers bq_sizes bq_inner bq_nexts bq_letters bq_sorts bq_names bq_wide bq_kids bq_many bq_fallback bq_kidShape bq_kidName bq_kidDefault bq_kidNext bq_finished bq_plain bq_told : Nat) : ∀ (d : Nat) (a_length : Int32) (a_at : Int32) (a_deep : Int32) (a_fault : Int32) (a_place : Int32) (a_end : Int32) (a_nodes : Int32) (a_lettered : Int32) (a_shapes : Int32) (a_looked : Int32) (a_kidCount : Int32) (a_done : Int32) (a_root : Int32) (a_plainSize : Int32) (b_length : Int32) (b_at : Int32) (b_deep : Int32) (b_fault : Int32) (b_place : Int32) (b_end : Int32) (b_nodes : Int32) (b_lettered : Int32) (b_shapes : Int32) (b_looked : Int32) (b_kidCount : Int32) (b_done : Int32) (b_root : Int32) (b_plainSize : Int32) (a_numbers : Nat → Int64) (a_sizes : Nat → Int32) (a_letters : Nat → Int32) (a_sorts : Nat → Int32) (a_names : Nat → Int32) (a_wide : Nat → Int32) (a_kids : Nat → Int32) (a_kidShape : Nat → Int32) (b_numbers : Nat → Int64) (b_sizes : Nat → Int32) (b_letters : Nat → Int32) (b_sorts : Nat → Int32) (b_names : Nat → Int32) (b_wide : Nat → Int32) (b_kids : Nat → Int32) (b_kidShape : Nat → Int32) (a1 : Int32) (a3 : Int32) (res : Int32), m_X10_matchesT d a_numbers a_sizes a_letters a_sorts a_names a_wide a_kids a_kidShape b_numbers b_sizes b_letters b_sorts b_names b_wide b_kids b_kidShape a1 a3 = some res → Met l yX10_matchesT wsX10_matchesT (rmX10_matchesT d 0 0) (pcR (sr_Z adK adV) (dC, dI) srCl [(cI, .int), (cB, .byte), (cJ, .long), (cZ, .boolean), (cQ, .object "SchemaReader$Schema")] [.ref obA, .int a1, .ref obB, .int a3] [(obA, .inr (0, [.ref aq_bytes, .int a_length, .int a_at, .int a_deep, .int a_fault, .int a_place, .int a_end, .int a_nodes, .ref aq_kinds, .ref aq_firsts, .ref aq_numbers, .ref aq_sizes, .ref aq_inner, .ref aq_nexts, .ref aq_letters, .int a_lettered, .int a_shapes, .int a_looked, .ref aq_sorts, .ref aq_names, .ref aq_wide, .ref aq_kids, .ref aq_many, .ref aq_fallback, .int a_kidCount, .ref aq_kidShape, .ref aq_kidName, .ref aq_kidDefault, .ref aq_kidNext, .int a_done, .ref aq_finished, .int a_root, .ref aq_plain, .int a_plainSize, .ref aq_told])), (aq_numbers, .inl (cJ, 4200, .inr (.inl a_numbers))), (aq_sizes, .inl (cI, 4200, .inl a_sizes)), (aq_letters, .inl (cB, 4200, .inl a_letters)), (aq_sorts, .inl (cI, 140, .inl a_sorts)), (aq_names, .inl (cI, 140, .inl a_names)), (aq_wide, .inl (cI, 140, .inl a_wide)), (aq_kids, .inl (cI, 140, .inl a_kids)), (aq_kidShape, .inl (cI, 2200, .inl a_kidShape)), (obB, .inr (0, [.ref bq_bytes, .int b_length, .int b_at, .int b_deep, .int b_fault, .int b_place, .int b_end, .int b_nodes, .ref bq_kinds, .ref bq_firsts, .ref bq_numbers, .ref bq_sizes, .ref bq_inner, .ref bq_nexts, .ref bq_letters, .int b_lettered, .int b_shapes, .int b_looked, .ref bq_sorts, .ref bq_names, .ref bq_wide, .ref bq_kids, .ref bq_many, .ref bq_fallback, .int b_kidCount, .ref bq_kidShape, .ref bq_kidName, .ref bq_kidDefault, .ref bq_kidNext, .int b_done, .ref bq_finished, .int b_root, .ref bq_plain, .int b_plainSize, .ref bq_told])), (bq_numbers, .inl (cJ, 4200, .inr (.inl b_numbers))), (bq_sizes, .inl (cI, 4200, .inl b_sizes)), (bq_letters, .inl (cB, 4200, .inl b_letters)), (bq_sorts, .inl (cI, 140, .inl b_sorts)), (bq_names, .inl (cI, 140, .inl b_names)), (bq_wide, .inl (cI, 140, .inl b_wide)), (bq_kids, .inl (cI, 140, .inl b_kids)), (bq_kidShape, .inl (cI, 2200, .inl b_kidShape))]) (k2_QcV (.int res)) 0 0 (fun _ => False) := by
  intro d
  induction d with
  | zero => intro a_length a_at a_deep a_fault a_place a_end a_nodes a_lettered a_shapes a_looked a_kidCount a_done a_root a_plainSize b_length b_at b_deep b_fault b_place b_end b_nodes b_lettered b_shapes b_looked b_kidCount b_done b_root b_plainSize a_numbers a_sizes a_letters a_sorts a_names a_wide a_kids a_kidShape b_numbers b_sizes b_letters b_sorts b_names b_wide b_kids b_kidShape a1 a3 res hm; exact nomatch (show (none : Option _) = some res from hm)
  | succ d ihd =>
    intro a_length a_at a_deep a_fault a_place a_end a_nodes a_lettered a_shapes a_looked a_kidCount a_done a_root a_plainSize b_length b_at b_deep b_fault b_place b_end b_nodes b_lettered b_shapes b_looked b_kidCount b_done b_root b_plainSize a_numbers a_sizes a_letters a_sorts a_names a_wide a_kids a_kidShape b_numbers b_sizes b_letters b_sorts b_names b_wide b_kids b_kidShape a1 a3 res hm
    refine Met.ofW (cc := cX10_matchesT) (maxL := 6) (ret := (some .boolean)) (by decide) rfl ?_
    intro p e s m args below meth c s₁ B hml hv
    obtain ⟨rfl, hP, hK, hz0⟩ := hv
    have hx := B.exec
    have hb := B.bytes
    have hr := B.returns
    have hts := atoms_spec (ws := wsX10_matchesT) B.pre
    have hown : s.vm.findClass RX10 = some m.cls := findClass_of_methodNamed B.named
    have hlocks := B.notSynchronized
    have hS : va_S (fun _ => False) s.heap s.heap [] := va_S.rf
    generalize hQ0 : MQ below (k2_QcV (.int res)) [.ref obA, .int a1, .ref obB, .int a3].toArray s 0 0 (fun _ => False) = Q0
    have hl := lv_entry [.ref obA, .int a1, .ref obB, .int a3] (n := 6) (Nat.le_of_ble_eq_true rfl)
    rw [lg_entry_eq]
    generalize (lg_sl [.ref obA, .int a1, .ref obB, .int a3] ++ List.replicate (6 - (lg_sl [.ref obA, .int a1, .ref obB, .int a3]).length) Slot.unset).toArray = ls at hl ⊢
    have hl : lv_has ls 6 [(0, .ref obA), (1, .int a1), (2, .ref obB), (3, .int a3)] := hl
    rw [m_X10_matchesT] at hm
    refine lv_aload_n hx hb dX10_matchesT_0 rfl (lv_at hl 0 rfl) ?_
    refine va_getN (D := (dC, dI)) (ci := 0) (v := .ref aq_sorts) (C := RX9) (T := TX9) (N := 35) hx hb hts (inX9 _) hown hK hP 0 rfl rfl 18 (by decide) (va_Nw.use rfl (hz0.2.2.2.2.2.2.1 _ wf10_92)) (fun _ h9 => h9) rfl dX10_matchesT_1 ?_
    refine lv_iload_n hx hb dX10_matchesT_4 rfl (lv_at hl 1 rfl) ?_
    obtain ⟨h1, hm⟩ := mr_bd hm
    refine va_iald hx hb hK hP 4 0 rfl rfl h1 dX10_matchesT_5 ?_
    refine lv_istore (lv' := [(4, .int (a_sorts (a1 : Int32).toNatClampNeg)), (0, .ref obA), (1, .int a1), (2, .ref obB), (3, .int a3)]) hx hb dX10_matchesT_6 hl (by decide) rfl (fun ls hl => ?_)
    refine lv_aload_n hx hb dX10_matchesT_8 rfl (lv_at hl 3 rfl) ?_
    refine va_getN (D := (dC, dI)) (ci := 0) (v := .ref bq_sorts) (C := RX9) (T := TX9) (N := 35) hx hb hts (inX9 _) hown hK hP 9 rfl rfl 18 (by decide) (va_Nw.use rfl (hz0.2.2.2.2.2.2.1 _ wf10_92)) (fun _ h9 => h9) rfl dX10_matchesT_9 ?_
    refine lv_iload_n hx hb dX10_matchesT_12 rfl (lv_at hl 4 rfl) ?_
    obtain ⟨h2, hm⟩ := mr_bd hm
    refine va_iald hx hb hK hP 13 0 rfl rfl h2 dX10_matchesT_13 ?_
    refine lv_istore (lv' := [(5, .int (b_sorts (a3 : Int32).toNatClampNeg)), (4, .int (a_sorts (a1 : Int32).toNatClampNeg)), (0, .ref obA), (1, .int a1), (2, .ref obB), (3, .int a3)]) hx hb dX10_matchesT_14 hl (by decide) rfl (fun ls hl => ?_)
    refine lv_iload hx hb dX10_matchesT_16 (lv_at hl 1 rfl) ?_
    refine lv_bipush (v := 8) hx hb dX10_matchesT_18 (by decide) ?_
    refine lv_icmp_eq (tgt := 30) hx hb dX10_matchesT_20 (by decide) (fun c3 => ?_) (fun c3 => ?_)
    · have hm := mr_if c3 hm
      refine lv_iconst (v := 1) hx hb dX10_matchesT_30 (by decide) ?_
      obtain rfl := Option.some.inj hm
      subst hQ0
      exact W.zret (v := 1) hx hb hr rfl (fun t ht hW => ⟨rfl, ht⟩) (fun q h => by cases h) dX10_matchesT_31
    · have hm := mr_un c3 hm
      refine lv_iload hx hb dX10_matchesT_23 (lv_at hl 0 rfl) ?_
      refine lv_bipush (v := 8) hx hb dX10_matchesT_25 (by decide) ?_
      refine lv_icmp_ne (tgt := 32) hx hb dX10_matchesT_27 (by decide) (fun c4 => ?_) (fun c4 => ?_)
      · have hm := mr_un c4 hm
        refine lv_iload hx hb dX10_matchesT_32 (lv_at hl 1 rfl) ?_
        obtain ⟨r5, hz5, hm⟩ := mr_bind hm
        refine mr_pS (As := [.int (a_sorts (a1 : Int32).toNatClampNeg)]) (rest := []) (sr_okZ adK adV) ⟨hx, hb, hml, hown, hts⟩ (kX10_sixOf l htr dC dI adK adV cI cB cJ cZ cQ  (a_sorts (a1 : Int32).toNatClampNeg) r5 hz5) (va_cwS 1 hts (g10_95 _) rfl rfl rfl (by decide +kernel) ⟨(by show 0 + 1 ≤ 1 * (d + 1) + 1; omega), (by show 8 + (1 + 11) + (0) ≤ 25 * (d + 1) + 24; omega)⟩) hS hP hK hz0 [] rfl rfl rfl hl.1 (Nat.le_of_ble_eq_true rfl) dX10_matchesT_34 ⟨Nat.zero_le _, Nat.zero_le _⟩ ?_
        have j48 : ∀ (x4 : Int32) (x5 : Int32) (ls : Array Slot), lv_has ls 6 [(4, .int x4), (5, .int x5)] → m_X10_matchesT_48 (m_X10_matchesT d) a_numbers a_sizes a_letters a_sorts a_names a_wide a_kids a_kidShape b_numbers b_sizes b_letters b_sorts b_names b_wide b_kids b_kidShape x4 x5 = some res → W p l e (headSpec wsX10_matchesT (rmX10_matchesT (d + 1) 0 0)).room s m [.ref obA, .int a1, .ref obB, .int a3].toArray below meth c s.heap [] 0 0 Q0 (F0 m 48 ls []) := by
          intro x4 x5 ls hl hm
          unfold m_X10_matchesT_48 at hm
          refine lv_iload hx hb dX10_matchesT_48 (lv_at hl 0 rfl) ?_
          obtain ⟨r6, hz6, hm⟩ := mr_bind hm
          refine mr_pS (As := [.int x4]) (rest := []) (sr_okZ adK adV) ⟨hx, hb, hml, hown, hts⟩ (kX10_sixOf l htr dC dI adK adV cI cB cJ cZ cQ  x4 r6 hz6) (va_cwS 1 hts (g10_95 _) rfl rfl rfl (by decide +kernel) ⟨(by show 0 + 1 ≤ 1 * (d + 1) + 1; omega), (by show 8 + (1 + 11) + (0) ≤ 25 * (d + 1) + 24; omega)⟩) hS hP hK hz0 [] rfl rfl rfl hl.1 (Nat.le_of_ble_eq_true rfl) dX10_matchesT_50 ⟨Nat.zero_le _, Nat.zero_le _⟩ ?_
          refine lv_if_eq (tgt := 78) hx hb dX10_matchesT_53 (by decide) (fun c7 => ?_) (fun c7 => ?_)
          · have hm := mr_if c7 hm
            refine lv_iconst (v := 0) hx hb dX10_matchesT_78 (by decide) ?_
            obtain rfl := Option.some.inj hm
            subst hQ0
            exact W.zret (v := 0) hx hb hr rfl (fun t ht hW => ⟨rfl, ht⟩) (fun q h => by cases h) dX10_matchesT_79
          · have hm := mr_un c7 hm
            refine lv_iload hx hb dX10_matchesT_56 (lv_at hl 1 rfl) ?_
            obtain ⟨r8, hz8, hm⟩ := mr_bind hm
            refine mr_pS (As := [.int x5]) (rest := []) (sr_okZ adK adV) ⟨hx, hb, hml, hown, hts⟩ (kX10_sixOf l htr dC dI adK adV cI cB cJ cZ cQ  x5 r8 hz8) (va_cwS 1 hts (g10_95 _) rfl rfl rfl (by decide +kernel) ⟨(by show 0 + 1 ≤ 1 * (d + 1) + 1; omega), (by show 8 + (1 + 11) + (0) ≤ 25 * (d + 1) + 24; omega)⟩) hS hP hK hz0 [] rfl rfl rfl hl.1 (Nat.le_of_ble_eq_true rfl) dX10_matchesT_58 ⟨Nat.zero_le _, Nat.zero_le _⟩ ?_
            refine lv_if_eq (tgt := 78) hx hb dX10_matchesT_61 (by decide) (fun c9 => ?_) (fun c9 => ?_)
            · have hm := mr_if c9 hm
              refine lv_iconst (v := 0) hx hb dX10_matchesT_78 (by decide) ?_
              obtain rfl := Option.some.inj hm
              subst hQ0
              exact W.zret (v := 0) hx hb hr rfl (fun t ht hW => ⟨rfl, ht⟩) (fun q h => by cases h) dX10_matchesT_79
            · have hm := mr_un c9 hm
              refine lv_iload hx hb dX10_matchesT_64 (lv_at hl 0 rfl) ?_
              refine lv_iload hx hb dX10_matchesT_66 (lv_at hl 1 rfl) ?_
              obtain ⟨r10, hz10, hm⟩ := mr_bind hm
              refine mr_pS (As := [.int x4, .int x5]) (rest := []) (sr_okZ adK adV) ⟨hx, hb, hml, hown, hts⟩ (kX10_matchesSix l htr dC dI adK adV cI cB cJ cZ cQ  x4 x5 r10 hz10) (va_cwS 2 hts (g10_98 _) rfl rfl rfl (by decide +kernel) ⟨(by show 0 + 1 ≤ 1 * (d + 1) + 1; omega), (by show 8 + (2 + 11) + (0) ≤ 25 * (d + 1) + 24; omega)⟩) hS hP hK hz0 [] rfl rfl rfl hl.1 (Nat.le_of_ble_eq_true rfl) dX10_matchesT_68 ⟨Nat.zero_le _, Nat.zero_le _⟩ ?_
              refine lv_if_eq (tgt := 78) hx hb dX10_matchesT_71 (by decide) (fun c11 => ?_) (fun c11 => ?_)
              · have hm := mr_if c11 hm
                refine lv_iconst (v := 0) hx hb dX10_matchesT_78 (by decide) ?_
                obtain rfl := Option.some.inj hm
                subst hQ0
                exact W.zret (v := 0) hx hb hr rfl (fun t ht hW => ⟨rfl, ht⟩) (fun q h => by cases h) dX10_matchesT_79
              · have hm := mr_un c11 hm
                refine lv_iconst (v := 1) hx hb dX10_matchesT_74 (by decide) ?_
                refine lv_goto (tgt := 79) hx hb dX10_matchesT_75 (by decide) ?_
                obtain rfl := Option.some.inj hm
                subst hQ0
                exact W.zret (v := 1) hx hb hr rfl (fun t ht hW => ⟨rfl, ht⟩) (fun q h => by cases h) dX10_matchesT_79
        refine lv_if_ne (tgt := 48) hx hb dX10_matchesT_37 (by decide) (fun c12 => ?_) (fun c12 => ?_)
        · have hm := mr_un c12 hm
          exact j48 (a_sorts (a1 : Int32).toNatClampNeg) (b_sorts (a3 : Int32).toNatClampNeg) ls (lv_sub hl [1, 0] rfl) hm
        · have hm := mr_if c12 hm
          refine lv_iload hx hb dX10_matchesT_40 (lv_at hl 0 rfl) ?_
          obtain ⟨r13, hz13, hm⟩ := mr_bind hm
          refine mr_pS (As := [.int (b_sorts (a3 : Int32).toNatClampNeg)]) (rest := []) (sr_okZ adK adV) ⟨hx, hb, hml, hown, hts⟩ (kX10_sixOf l htr dC dI adK adV cI cB cJ cZ cQ  (b_sorts (a3 : Int32).toNatClampNeg) r13 hz13) (va_cwS 1 hts (g10_95 _) rfl rfl rfl (by decide +kernel) ⟨(by show 0 + 1 ≤ 1 * (d + 1) + 1; omega), (by show 8 + (1 + 11) + (0) ≤ 25 * (d + 1) + 24; omega)⟩) hS hP hK hz0 [] rfl rfl rfl hl.1 (Nat.le_of_ble_eq_true rfl) dX10_matchesT_42 ⟨Nat.zero_le _, Nat.zero_le _⟩ ?_
          refine lv_if_eq (tgt := 80) hx hb dX10_matchesT_45 (by decide) (fun c14 => ?_) (fun c14 => ?_)
          · have hm := mr_if c14 hm
            refine lv_iload hx hb dX10_matchesT_80 (lv_at hl 1 rfl) ?_
            refine lv_iload hx hb dX10_matchesT_82 (lv_at hl 0 rfl) ?_
            refine lv_icmp_eq (tgt := 89) hx hb dX10_matchesT_84 (by decide) (fun c15 => ?_) (fun c15 => ?_)
            · have hm := mr_if c15 hm
              refine lv_iload hx hb dX10_matchesT_89 (lv_at hl 1 rfl) ?_
              refine lv_bipush (v := 6) hx hb dX10_matchesT_91 (by decide) ?_
              have j103 : ∀ (x1 : Int32) (x3 : Int32) (ls : Array Slot), lv_has ls 6 [(0, .ref obA), (1, .int x1), (2, .ref obB), (3, .int x3)] → m_X10_matchesT_103 (m_X10_matchesT d) a_numbers a_sizes a_letters a_sorts a_names a_wide a_kids a_kidShape b_numbers b_sizes b_letters b_sorts b_names b_wide b_kids b_kidShape x1 x3 = some res → W p l e (headSpec wsX10_matchesT (rmX10_matchesT (d + 1) 0 0)).room s m [.ref obA, .int a1, .ref obB, .int a3].toArray below meth c s.heap [] 0 0 Q0 (F0 m 103 ls []) := by
                intro x1 x3 ls hl hm
                unfold m_X10_matchesT_103 at hm
                refine lv_aload_n hx hb dX10_matchesT_103 rfl (lv_at hl 0 rfl) ?_
                refine lv_aload_n hx hb dX10_matchesT_104 rfl (lv_at hl 0 rfl) ?_
                refine va_getN (D := (dC, dI)) (ci := 0) (v := .ref aq_kidShape) (C := RX9) (T := TX9) (N := 35) hx hb hts (inX9 _) hown hK hP 0 rfl rfl 25 (by decide) (va_Nw.use rfl (hz0.2.2.2.2.2.2.1 _ wf10_102)) (fun _ h9 => h9) rfl dX10_matchesT_105 ?_
                refine lv_aload_n hx hb dX10_matchesT_108 rfl (lv_at hl 0 rfl) ?_
                refine va_getN (D := (dC, dI)) (ci := 0) (v := .ref aq_kids) (C := RX9) (T := TX9) (N := 35) hx hb hts (inX9 _) hown hK hP 0 rfl rfl 21 (by decide) (va_Nw.use rfl (hz0.2.2.2.2.2.2.1 _ wf10_105)) (fun _ h9 => h9) rfl dX10_matchesT_109 ?_
                refine lv_iload_n hx hb dX10_matchesT_112 rfl (lv_at hl 1 rfl) ?_
                obtain ⟨h16, hm⟩ := mr_bd hm
                refine va_iald hx hb hK hP 7 0 rfl rfl h16 dX10_matchesT_113 ?_
                obtain ⟨h17, hm⟩ := mr_bd hm
                refine va_iald hx hb hK hP 8 0 rfl rfl h17 dX10_matchesT_114 ?_
                refine lv_aload_n hx hb dX10_matchesT_115 rfl (lv_at hl 2 rfl) ?_
                refine lv_aload_n hx hb dX10_matchesT_116 rfl (lv_at hl 2 rfl) ?_
                refine va_getN (D := (dC, dI)) (ci := 0) (v := .ref bq_kidShape) (C := RX9) (T := TX9) (N := 35) hx hb hts (inX9 _) hown hK hP 9 rfl rfl 25 (by decide) (va_Nw.use rfl (hz0.2.2.2.2.2.2.1 _ wf10_102)) (fun _ h9 => h9) rfl dX10_matchesT_117 ?_
                refine lv_aload_n hx hb dX10_matchesT_120 rfl (lv_at hl 2 rfl) ?_
                refine va_getN (D := (dC, dI)) (ci := 0) (v := .ref bq_kids) (C := RX9) (T := TX9) (N := 35) hx hb hts (inX9 _) hown hK hP 9 rfl rfl 21 (by decide) (va_Nw.use rfl (hz0.2.2.2.2.2.2.1 _ wf10_105)) (fun _ h9 => h9) rfl dX10_matchesT_121 ?_
                refine lv_iload_n hx hb dX10_matchesT_124 rfl (lv_at hl 3 rfl) ?_
                obtain ⟨h18, hm⟩ := mr_bd hm
                refine va_iald hx hb hK hP 16 0 rfl rfl h18 dX10_matchesT_125 ?_
                obtain ⟨h19, hm⟩ := mr_bd hm
                refine va_iald hx hb hK hP 17 0 rfl rfl h19 dX10_matchesT_126 ?_
                obtain ⟨r20, hz20, hm⟩ := mr_bind hm
                refine mr_pS (As := [.ref obA, .int (a_kidShape ((a_kids (x1 : Int32).toNatClampNeg) : Int32).toNatClampNeg), .ref obB, .int (b_kidShape ((b_kids (x3 : Int32).toNatClampNeg) : Int32).toNatClampNeg)]) (rest := []) (sr_okZ adK adV) ⟨hx, hb, hml, hown, hts⟩ (ihd a_length a_at a_deep a_fault a_place a_end a_nodes a_lettered a_shapes a_looked a_kidCount a_done a_root a_plainSize b_length b_at b_deep b_fault b_place b_end b_nodes b_lettered b_shapes b_looked b_kidCount b_done b_root b_plainSize a_numbers a_sizes a_letters a_sorts a_names a_wide a_kids a_kidShape b_numbers b_sizes b_letters b_sorts b_names b_wide b_kids b_kidShape (a_kidShape ((a_kids (x1 : Int32).toNatClampNeg) : Int32).toNatClampNeg) (b_kidShape ((b_kids (x3 : Int32).toNatClampNeg) : Int32).toNatClampNeg) r20 hz20) (va_cwS 4 hts (g10_108 _) rfl rfl rfl (by decide +kernel) ⟨(by show 1 * d + 1 + 1 ≤ 1 * (d + 1) + 1; omega), (by show 8 + (6 + 11) + (25 * d + 24) ≤ 25 * (d + 1) + 24; omega)⟩) hS hP hK hz0 [0, 1, 2, 3, 4, 5, 6, 7, 8, 9, 10, 11, 12, 13, 14, 15, 16, 17] rfl rfl rfl hl.1 (Nat.le_of_ble_eq_true rfl) dX10_matchesT_127 ⟨Nat.zero_le _, Nat.zero_le _⟩ ?_
                obtain ⟨h21, hm⟩ := mr_bz hm
                obtain rfl := Option.some.inj hm
                subst hQ0
                exact W.zret (v := r20) hx hb hr h21 (fun t ht hW => ⟨rfl, ht⟩) (fun q h => by cases h) dX10_matchesT_130
              refine lv_icmp_eq (tgt := 103) hx hb dX10_matchesT_93 (by decide) (fun c22 => ?_) (fun c22 => ?_)
              · have hm := mr_if c22 hm
                exact j103 a1 a3 ls (lv_sub hl [2, 3, 4, 5] rfl) hm
              · have hm := mr_un c22 hm
                refine lv_iload hx hb dX10_matchesT_96 (lv_at hl 1 rfl) ?_
                refine lv_bipush (v := 7) hx hb dX10_matchesT_98 (by decide) ?_
                refine lv_icmp_ne (tgt := 131) hx hb dX10_matchesT_100 (by decide) (fun c23 => ?_) (fun c23 => ?_)
                · have hm := mr_un c23 hm
                  refine lv_aload_n hx hb dX10_matchesT_131 rfl (lv_at hl 2 rfl) ?_
                  refine lv_aload_n hx hb dX10_matchesT_132 rfl (lv_at hl 2 rfl) ?_
                  refine va_getN (D := (dC, dI)) (ci := 0) (v := .ref aq_names) (C := RX9) (T := TX9) (N := 35) hx hb hts (inX9 _) hown hK hP 0 rfl rfl 19 (by decide) (va_Nw.use rfl (hz0.2.2.2.2.2.2.1 _ wf10_112)) (fun _ h9 => h9) rfl dX10_matchesT_133 ?_
                  refine lv_iload_n hx hb dX10_matchesT_136 rfl (lv_at hl 3 rfl) ?_
                  obtain ⟨h24, hm⟩ := mr_bd hm
                  refine va_iald hx hb hK hP 5 0 rfl rfl h24 dX10_matchesT_137 ?_
                  refine lv_aload_n hx hb dX10_matchesT_138 rfl (lv_at hl 4 rfl) ?_
                  refine lv_aload_n hx hb dX10_matchesT_139 rfl (lv_at hl 4 rfl) ?_
                  refine va_getN (D := (dC, dI)) (ci := 0) (v := .ref bq_names) (C := RX9) (T := TX9) (N := 35) hx hb hts (inX9 _) hown hK hP 9 rfl rfl 19 (by decide) (va_Nw.use rfl (hz0.2.2.2.2.2.2.1 _ wf10_112)) (fun _ h9 => h9) rfl dX10_matchesT_140 ?_
                  refine lv_iload_n hx hb dX10_matchesT_143 rfl (lv_at hl 5 rfl) ?_
                  obtain ⟨h25, hm⟩ := mr_bd hm
                  refine va_iald hx hb hK hP 14 0 rfl rfl h25 dX10_matchesT_144 ?_
                  obtain ⟨r26, hz26, hm⟩ := mr_bind hm
                  refine mr_pVN (As := [.int (a_names (a1 : Int32).toNatClampNeg), .ref obB, .int (b_names (a3 : Int32).toNatClampNeg)]) (rest := []) (sr_okZ adK adV) ⟨hx, hb, hml, hown, hts⟩ (kX9_same l htr dC dI adK adV cI cB cJ cZ cQ obA aq_bytes aq_kinds aq_firsts aq_numbers aq_sizes aq_inner aq_nexts aq_letters aq_sorts aq_names aq_wide aq_kids aq_many aq_fallback aq_kidShape aq_kidName aq_kidDefault aq_kidNext aq_finished aq_plain aq_told obB bq_bytes bq_kinds bq_firsts bq_numbers bq_sizes bq_inner bq_nexts bq_letters bq_sorts bq_names bq_wide bq_kids bq_many bq_fallback bq_kidShape bq_kidName bq_kidDefault bq_kidNext bq_finished bq_plain bq_told a_length a_at a_deep a_fault a_place a_end a_nodes a_lettered a_shapes a_looked a_kidCount a_done a_root a_plainSize b_length b_at b_deep b_fault b_place b_end b_nodes b_lettered b_shapes b_looked b_kidCount b_done b_root b_plainSize a_numbers a_sizes a_letters b_numbers b_sizes b_letters (a_names (a1 : Int32).toNatClampNeg) (b_names (a3 : Int32).toNatClampNeg) r26 hz26) (sr_cnV 3 hts rfl gn10_115.1 (hz0.2.2.2.2.2.2.1 _ gn10_115.2) rfl rfl (by decide +kernel) ⟨(by show 0 + 1 ≤ 1 * (d + 1) + 1; omega), (by show 8 + (5 + 11) + (0) ≤ 25 * (d + 1) + 24; omega)⟩) hS hP hK hz0 [0, 1, 2, 3, 9, 10, 11, 12] rfl (va_recv hK hP (ci := 0) (q0 := 0) rfl rfl) rfl rfl hl.1 (Nat.le_of_ble_eq_true rfl) dX10_matchesT_145 ⟨Nat.zero_le _, Nat.zero_le _⟩ ?_
                  refine lv_if_eq (tgt := 177) hx hb dX10_matchesT_148 (by decide) (fun c27 => ?_) (fun c27 => ?_)
                  · have hm := mr_if c27 hm
                    refine lv_iconst (v := 0) hx hb dX10_matchesT_177 (by decide) ?_
                    obtain rfl := Option.some.inj hm
                    subst hQ0
                    exact W.zret (v := 0) hx hb hr rfl (fun t ht hW => ⟨rfl, ht⟩) (fun q h => by cases h) dX10_matchesT_178
                  · have hm := mr_un c27 hm
                    refine lv_iload hx hb dX10_matchesT_151 (lv_at hl 1 rfl) ?_
                    refine lv_bipush (v := 9) hx hb dX10_matchesT_153 (by decide) ?_
                    refine lv_icmp_ne (tgt := 173) hx hb dX10_matchesT_155 (by decide) (fun c28 => ?_) (fun c28 => ?_)
                    · have hm := mr_un c28 hm
                      refine lv_iconst (v := 1) hx hb dX10_matchesT_173 (by decide) ?_
                      refine lv_goto (tgt := 178) hx hb dX10_matchesT_174 (by decide) ?_
                      obtain rfl := Option.some.inj hm
                      subst hQ0
                      exact W.zret (v := 1) hx hb hr rfl (fun t ht hW => ⟨rfl, ht⟩) (fun q h => by cases h) dX10_matchesT_178
                    · have hm := mr_if c28 hm
                      refine lv_aload_n hx hb dX10_matchesT_158 rfl (lv_at hl 2 rfl) ?_
                      refine va_getN (D := (dC, dI)) (ci := 0) (v := .ref aq_wide) (C := RX9) (T := TX9) (N := 35) hx hb hts (inX9 _) hown hK hP 0 rfl rfl 20 (by decide) (va_Nw.use rfl (hz0.2.2.2.2.2.2.1 _ wf10_119)) (fun _ h9 => h9) rfl dX10_matchesT_159 ?_
                      refine lv_iload_n hx hb dX10_matchesT_162 rfl (lv_at hl 3 rfl) ?_
                      obtain ⟨h29, hm⟩ := mr_bd hm
                      refine va_iald hx hb hK hP 6 0 rfl rfl h29 dX10_matchesT_163 ?_
                      refine lv_aload_n hx hb dX10_matchesT_164 rfl (lv_at hl 4 rfl) ?_
                      refine va_getN (D := (dC, dI)) (ci := 0) (v := .ref bq_wide) (C := RX9) (T := TX9) (N := 35) hx hb hts (inX9 _) hown hK hP 9 rfl rfl 20 (by decide) (va_Nw.use rfl (hz0.2.2.2.2.2.2.1 _ wf10_119)) (fun _ h9 => h9) rfl dX10_matchesT_165 ?_
                      refine lv_iload_n hx hb dX10_matchesT_168 rfl (lv_at hl 5 rfl) ?_
                      obtain ⟨h30, hm⟩ := mr_bd hm
                      refine va_iald hx hb hK hP 15 0 rfl rfl h30 dX10_matchesT_169 ?_
                      refine lv_icmp_ne (tgt := 177) hx hb dX10_matchesT_170 (by decide) (fun c31 => ?_) (fun c31 => ?_)
                      · have hm := mr_un c31 hm
                        refine lv_iconst (v := 0) hx hb dX10_matchesT_177 (by decide) ?_
                        obtain rfl := Option.some.inj hm
                        subst hQ0
                        exact W.zret (v := 0) hx hb hr rfl (fun t ht hW => ⟨rfl, ht⟩) (fun q h => by cases h) dX10_matchesT_178
                      · have hm := mr_if c31 hm
                        refine lv_iconst (v := 1) hx hb dX10_matchesT_173 (by decide) ?_
                        refine lv_goto (tgt := 178) hx hb dX10_matchesT_174 (by decide) ?_
                        obtain rfl := Option.some.inj hm
                        subst hQ0
                        exact W.zret (v := 1) hx hb hr rfl (fun t ht hW => ⟨rfl, ht⟩) (fun q h => by cases h) dX10_matchesT_178
                · have hm := mr_if c23 hm
                  exact j103 a1 a3 ls (lv_sub hl [2, 3, 4, 5] rfl) hm
            · have hm := mr_un c15 hm
              refine lv_iconst (v := 0) hx hb dX10_matchesT_87 (by decide) ?_
              obtain rfl := Option.some.inj hm
              subst hQ0
              exact W.zret (v := 0) hx hb hr rfl (fun t ht hW => ⟨rfl, ht⟩) (fun q h => by cases h) dX10_matchesT_88
          · have hm := mr_un c14 hm
            exact j48 (a_sorts (a1 : Int32).toNatClampNeg) (b_sorts (a3 : Int32).toNatClampNeg) ls (lv_sub hl [1, 0] rfl) hm
      · have hm := mr_if c4 hm
        refine lv_iconst (v := 1) hx hb dX10_matchesT_30 (by decide) ?_
        obtain rfl := Option.some.inj hm
        subst hQ0
        exact W.zret (v := 1) hx hb hr rfl (fun t ht hW => ⟨rfl, ht⟩) (fun q h => by cases h) dX10_matchesT_31
set_option maxHeartbeats 4000000 in
set_option maxRecDepth 100000 in
theorem kX10_branchFor (l : Launch) (htr : l.stackTraces = false) (dC : Nat → ClassId) (dI : Nat → Nat → Nat) (adK adV : Nat → Nat) (cI cB cJ cZ cQ : ClassId) (obA aq_bytes aq_kinds aq_firsts aq_numbers aq_sizes aq_inner aq_nexts aq_letters aq_sorts aq_names aq_wide aq_kids aq_many aq_fallback aq_kidShape aq_kidName aq_kidDefault aq_kidNext aq_finished aq_plain aq_told obB bq_bytes bq_kinds bq_firsts bq_numbers bq_sizes bq_inner bq_nexts bq_letters bq_sorts bq_names bq_wide bq_kids bq_many bq_fallback bq_kidShape bq_kidName bq_kidDefault bq_kidNext bq_finished bq_plain bq_told : Nat) (a_length : Int32) (a_at : Int32) (a_deep : Int32) (a_fault : Int32) (a_place : Int32) (a_end : Int32) (a_nodes : Int32) (a_lettered : Int32) (a_shapes : Int32) (a_looked : Int32) (a_kidCount : Int32) (a_done : Int32) (a_root : Int32) (a_plainSize : Int32) (b_length : Int32) (b_at : Int32) (b_deep : Int32) (b_fault : Int32) (b_place : Int32) (b_end : Int32) (b_nodes : Int32) (b_lettered : Int32) (b_shapes : Int32) (b_looked : Int32) (b_kidCount : Int32) (b_done : Int32) (b_root : Int32) (b_plainSize : Int32) (a_numbers : Nat → Int64) (a_sizes : Nat → Int32) (a_letters : Nat → Int32) (a_sorts : Nat → Int32) (a_names : Nat → Int32) (a_wide : Nat → Int32) (a_kids : Nat → Int32) (a_kidShape : Nat → Int32) (b_numbers : Nat → Int64) (b_sizes : Nat → Int32) (b_letters : Nat → Int32) (b_sorts : Nat → Int32) (b_names : Nat → Int32) (b_wide : Nat → Int32) (b_kids : Nat → Int32) (b_kidShape : Nat → Int32) (b_kidNext : Nat → Int32) (a1 : Int32) (a3 : Int32) (res : Int32) (hm : m_X10_branchFor a_numbers a_sizes a_letters a_sorts a_names a_wide a_kids a_kidShape b_numbers b_sizes b_letters b_sorts b_names b_wide b_kids b_kidShape b_kidNext a1 a3 = some res) : Met l yX10_branchFor wsX10_branchFor (rmX10_branchFor 0 0) (pcR (sr_Z adK adV) (dC, dI) srCl [(cI, .int), (cB, .byte), (cJ, .long), (cZ, .boolean), (cQ, .object "SchemaReader$Schema")] [.ref obA, .int a1, .ref obB, .int a3] [(obA, .inr (0, [.ref aq_bytes, .int a_length, .int a_at, .int a_deep, .int a_fault, .int a_place, .int a_end, .int a_nodes, .ref aq_kinds, .ref aq_firsts, .ref aq_numbers, .ref aq_sizes, .ref aq_inner, .ref aq_nexts, .ref aq_letters, .int a_lettered, .int a_shapes, .int a_looked, .ref aq_sorts, .ref aq_names, .ref aq_wide, .ref aq_kids, .ref aq_many, .ref aq_fallback, .int a_kidCount, .ref aq_kidShape, .ref aq_kidName, .ref aq_kidDefault, .ref aq_kidNext, .int a_done, .ref aq_finished, .int a_root, .ref aq_plain, .int a_plainSize, .ref aq_told])), (aq_numbers, .inl (cJ, 4200, .inr (.inl a_numbers))), (aq_sizes, .inl (cI, 4200, .inl a_sizes)), (aq_letters, .inl (cB, 4200, .inl a_letters)), (aq_sorts, .inl (cI, 140, .inl a_sorts)), (aq_names, .inl (cI, 140, .inl a_names)), (aq_wide, .inl (cI, 140, .inl a_wide)), (aq_kids, .inl (cI, 140, .inl a_kids)), (aq_kidShape, .inl (cI, 2200, .inl a_kidShape)), (obB, .inr (0, [.ref bq_bytes, .int b_length, .int b_at, .int b_deep, .int b_fault, .int b_place, .int b_end, .int b_nodes, .ref bq_kinds, .ref bq_firsts, .ref bq_numbers, .ref bq_sizes, .ref bq_inner, .ref bq_nexts, .ref bq_letters, .int b_lettered, .int b_shapes, .int b_looked, .ref bq_sorts, .ref bq_names, .ref bq_wide, .ref bq_kids, .ref bq_many, .ref bq_fallback, .int b_kidCount, .ref bq_kidShape, .ref bq_kidName, .ref bq_kidDefault, .ref bq_kidNext, .int b_done, .ref bq_finished, .int b_root, .ref bq_plain, .int b_plainSize, .ref bq_told])), (bq_numbers, .inl (cJ, 4200, .inr (.inl b_numbers))), (bq_sizes, .inl (cI, 4200, .inl b_sizes)), (bq_letters, .inl (cB, 4200, .inl b_letters)), (bq_sorts, .inl (cI, 140, .inl b_sorts)), (bq_names, .inl (cI, 140, .inl b_names)), (bq_wide, .inl (cI, 140, .inl b_wide)), (bq_kids, .inl (cI, 140, .inl b_kids)), (bq_kidShape, .inl (cI, 2200, .inl b_kidShape)), (bq_kidNext, .inl (cI, 2200, .inl b_kidNext))]) (k2_QcV (.int res)) 0 0 (fun _ => False) := by
  refine Met.ofW (cc := cX10_branchFor) (maxL := 5) (ret := (some .int)) (by decide) rfl ?_
  intro p e s m args below meth c s₁ B hml hv
  obtain ⟨rfl, hP, hK, hz0⟩ := hv
  have hx := B.exec
  have hb := B.bytes
  have hr := B.returns
  have hts := atoms_spec (ws := wsX10_branchFor) B.pre
  have hown : s.vm.findClass RX10 = some m.cls := findClass_of_methodNamed B.named
  have hlocks := B.notSynchronized
  have hS : va_S (fun _ => False) s.heap s.heap [] := va_S.rf
  generalize hQ0 : MQ below (k2_QcV (.int res)) [.ref obA, .int a1, .ref obB, .int a3].toArray s 0 0 (fun _ => False) = Q0
  have hl := lv_entry [.ref obA, .int a1, .ref obB, .int a3] (n := 5) (Nat.le_of_ble_eq_true rfl)
  rw [lg_entry_eq]
  generalize (lg_sl [.ref obA, .int a1, .ref obB, .int a3] ++ List.replicate (5 - (lg_sl [.ref obA, .int a1, .ref obB, .int a3]).length) Slot.unset).toArray = ls at hl ⊢
  have hl : lv_has ls 5 [(0, .ref obA), (1, .int a1), (2, .ref obB), (3, .int a3)] := hl
  unfold m_X10_branchFor at hm
  refine lv_aload_n hx hb dX10_branchFor_0 rfl (lv_at hl 2 rfl) ?_
  refine va_getN (D := (dC, dI)) (ci := 0) (v := .ref bq_kids) (C := RX9) (T := TX9) (N := 35) hx hb hts (inX9 _) hown hK hP 9 rfl rfl 21 (by decide) (va_Nw.use rfl (hz0.2.2.2.2.2.2.1 _ wf10_105)) (fun _ h9 => h9) rfl dX10_branchFor_1 ?_
  refine lv_iload_n hx hb dX10_branchFor_4 rfl (lv_at hl 3 rfl) ?_
  obtain ⟨h1, hm⟩ := mr_bd hm
  refine va_iald hx hb hK hP 16 0 rfl rfl h1 dX10_branchFor_5 ?_
  have j8 : ∀ (n8 : Nat) (x1 : Int32) (x4 : Int32) (ls : Array Slot), lv_has ls 5 [(0, .ref obA), (1, .int x1), (2, .ref obB), (4, .int x4)] → m_X10_branchFor_8 a_numbers a_sizes a_letters a_sorts a_names a_wide a_kids a_kidShape b_numbers b_sizes b_letters b_sorts b_names b_wide b_kids b_kidShape b_kidNext n8 x1 x4 = some res → W p l e (headSpec wsX10_branchFor (rmX10_branchFor 0 0)).room s m [.ref obA, .int a1, .ref obB, .int a3].toArray below meth c s.heap [] 0 0 Q0 (F0 m 8 ls []) := by
    intro n8
    induction n8 with
    | zero => intro x1 x4 ls hl hm; exact nomatch (show (none : Option _) = some res from hm)
    | succ n8 ih8 =>
      intro x1 x4 ls hl hm
      rw [m_X10_branchFor_8] at hm
      refine lv_iload hx hb dX10_branchFor_8 (lv_at hl 3 rfl) ?_
      refine lv_if_lt (tgt := 44) hx hb dX10_branchFor_10 (by decide) (fun c2 => ?_) (fun c2 => ?_)
      · have hm := mr_if c2 hm
        refine lv_iconst (v := -1) hx hb dX10_branchFor_44 (by decide) ?_
        obtain rfl := Option.some.inj hm
        subst hQ0
        exact W.iret (v := (-1)) hx hb hr (fun t ht hW => ⟨rfl, ht⟩) (fun q h => by cases h) dX10_branchFor_45
      · have hm := mr_un c2 hm
        refine lv_aload_n hx hb dX10_branchFor_13 rfl (lv_at hl 0 rfl) ?_
        refine lv_iload_n hx hb dX10_branchFor_14 rfl (lv_at hl 1 rfl) ?_
        refine lv_aload_n hx hb dX10_branchFor_15 rfl (lv_at hl 2 rfl) ?_
        refine lv_aload_n hx hb dX10_branchFor_16 rfl (lv_at hl 2 rfl) ?_
        refine va_getN (D := (dC, dI)) (ci := 0) (v := .ref bq_kidShape) (C := RX9) (T := TX9) (N := 35) hx hb hts (inX9 _) hown hK hP 9 rfl rfl 25 (by decide) (va_Nw.use rfl (hz0.2.2.2.2.2.2.1 _ wf10_102)) (fun _ h9 => h9) rfl dX10_branchFor_17 ?_
        refine lv_iload hx hb dX10_branchFor_20 (lv_at hl 3 rfl) ?_
        obtain ⟨h3, hm⟩ := mr_bd hm
        refine va_iald hx hb hK hP 17 0 rfl rfl h3 dX10_branchFor_22 ?_
        obtain ⟨r4, hz4, hm⟩ := mr_bind hm
        refine mr_pS (As := [.ref obA, .int x1, .ref obB, .int (b_kidShape (x4 : Int32).toNatClampNeg)]) (rest := []) (sr_okZ adK adV) ⟨hx, hb, hml, hown, hts⟩ (kX10_matchesT l htr dC dI adK adV cI cB cJ cZ cQ obA aq_bytes aq_kinds aq_firsts aq_numbers aq_sizes aq_inner aq_nexts aq_letters aq_sorts aq_names aq_wide aq_kids aq_many aq_fallback aq_kidShape aq_kidName aq_kidDefault aq_kidNext aq_finished aq_plain aq_told obB bq_bytes bq_kinds bq_firsts bq_numbers bq_sizes bq_inner bq_nexts bq_letters bq_sorts bq_names bq_wide bq_kids bq_many bq_fallback bq_kidShape bq_kidName bq_kidDefault bq_kidNext bq_finished bq_plain bq_told 150 a_length a_at a_deep a_fault a_place a_end a_nodes a_lettered a_shapes a_looked a_kidCount a_done a_root a_plainSize b_length b_at b_deep b_fault b_place b_end b_nodes b_lettered b_shapes b_looked b_kidCount b_done b_root b_plainSize a_numbers a_sizes a_letters a_sorts a_names a_wide a_kids a_kidShape b_numbers b_sizes b_letters b_sorts b_names b_wide b_kids b_kidShape x1 (b_kidShape (x4 : Int32).toNatClampNeg) r4 hz4) (va_cwS 4 hts (g10_108 _) rfl rfl rfl (by decide +kernel) ⟨(by show 1 * 150 + 1 + 1 ≤ 152; omega), (by show 8 + (6 + 11) + (25 * 150 + 24) ≤ 3799; omega)⟩) hS hP hK hz0 [0, 1, 2, 3, 4, 5, 6, 7, 8, 9, 10, 11, 12, 13, 14, 15, 16, 17] rfl rfl rfl hl.1 (Nat.le_of_ble_eq_true rfl) dX10_branchFor_23 ⟨Nat.zero_le _, Nat.zero_le _⟩ ?_
        refine lv_if_eq (tgt := 32) hx hb dX10_branchFor_26 (by decide) (fun c5 => ?_) (fun c5 => ?_)
        · have hm := mr_if c5 hm
          refine lv_aload_n hx hb dX10_branchFor_32 rfl (lv_at hl 2 rfl) ?_
          refine va_getN (D := (dC, dI)) (ci := 0) (v := .ref bq_kidNext) (C := RX9) (T := TX9) (N := 35) hx hb hts (inX9 _) hown hK hP 9 rfl rfl 28 (by decide) (va_Nw.use rfl (hz0.2.2.2.2.2.2.1 _ wf10_122)) (fun _ h9 => h9) rfl dX10_branchFor_33 ?_
          refine lv_iload hx hb dX10_branchFor_36 (lv_at hl 3 rfl) ?_
          obtain ⟨h6, hm⟩ := mr_bd hm
          refine va_iald hx hb hK hP 18 0 rfl rfl h6 dX10_branchFor_38 ?_
          refine lv_istore (lv' := [(4, .int (b_kidNext (x4 : Int32).toNatClampNeg)), (0, .ref obA), (1, .int x1), (2, .ref obB)]) hx hb dX10_branchFor_39 hl (by decide) rfl (fun ls hl => ?_)
          refine lv_goto (tgt := 8) hx hb dX10_branchFor_41 (by decide) ?_
          exact ih8 x1 (b_kidNext (x4 : Int32).toNatClampNeg) ls (lv_sub hl [1, 2, 3, 0] rfl) hm
        · have hm := mr_un c5 hm
          refine lv_iload hx hb dX10_branchFor_29 (lv_at hl 3 rfl) ?_
          obtain rfl := Option.some.inj hm
          subst hQ0
          exact W.iret (v := x4) hx hb hr (fun t ht hW => ⟨rfl, ht⟩) (fun q h => by cases h) dX10_branchFor_31
  refine lv_istore (lv' := [(4, .int (b_kids (a3 : Int32).toNatClampNeg)), (0, .ref obA), (1, .int a1), (2, .ref obB), (3, .int a3)]) hx hb dX10_branchFor_6 hl (by decide) rfl (fun ls hl => ?_)
  exact j8 sr_fuel a1 (b_kids (a3 : Int32).toNatClampNeg) ls (lv_sub hl [1, 2, 3, 0] rfl) hm
set_option maxHeartbeats 4000000 in
set_option maxRecDepth 100000 in
theorem kX10_ask (l : Launch) (htr : l.stackTraces = false) (dC : Nat → ClassId) (dI : Nat → Nat → Nat) (adK adV : Nat → Nat) (cI cB cJ cZ cQ : ClassId) (obM mq_tape obY obA obB mq_kept mq_sizes mq_asked mq_pairs : Nat) (m_thrown : Int32) (m_taped : Int32) (m_has : Int32) (m_place : Int32) (m_many : Int32) (m_asked : Nat → Int32) (m_pairs : Nat → Int32) (sz : Nat) (a0 : Int32) (a1 : Int32) (res : (Nat → Int32) × (Nat → Int32) × Int32) (hm : m_X10_ask m_asked m_pairs m_many a0 a1 = some res) : Met l yX10_ask wsX10_ask (rmX10_ask 0 0) (pcW (sr_Z adK adV) (dC, dI) srCl [(cI, .int), (cB, .byte), (cJ, .long), (cZ, .boolean), (cQ, .object "SchemaReader$Schema")] [.ref obM, .int a0, .int a1] [(obM, .inr (1, [.int m_thrown, .ref mq_tape, .int m_taped, .ref obY, .ref obA, .ref obB, .int m_has, .int m_place, .ref mq_kept, .ref mq_sizes, .ref mq_asked, .ref mq_pairs, .int m_many])), (mq_asked, .inl (cZ, 19600, .inl m_asked)), (mq_pairs, .inl (cI, 19600, .inl m_pairs))] sz) (va_Qv (fun u' => u' = res) (pcB (dC, dI) srCl [(cI, .int), (cB, .byte), (cJ, .long), (cZ, .boolean), (cQ, .object "SchemaReader$Schema")] (fun u : (Nat → Int32) × (Nat → Int32) × Int32 => [(obM, .inr (1, [.int m_thrown, .ref mq_tape, .int m_taped, .ref obY, .ref obA, .ref obB, .int m_has, .int m_place, .ref mq_kept, .ref mq_sizes, .ref mq_asked, .ref mq_pairs, .int u.2.2])), (mq_asked, .inl (cZ, 19600, .inl u.1)), (mq_pairs, .inl (cI, 19600, .inl u.2.1))]) (va_A [(obM, .inr (1, [.int m_thrown, .ref mq_tape, .int m_taped, .ref obY, .ref obA, .ref obB, .int m_has, .int m_place, .ref mq_kept, .ref mq_sizes, .ref mq_asked, .ref mq_pairs, .int m_many])), (mq_asked, .inl (cZ, 19600, .inl m_asked)), (mq_pairs, .inl (cI, 19600, .inl m_pairs))] sz)) (va_A [(obM, .inr (1, [.int m_thrown, .ref mq_tape, .int m_taped, .ref obY, .ref obA, .ref obB, .int m_has, .int m_place, .ref mq_kept, .ref mq_sizes, .ref mq_asked, .ref mq_pairs, .int m_many])), (mq_asked, .inl (cZ, 19600, .inl m_asked)), (mq_pairs, .inl (cI, 19600, .inl m_pairs))] sz)) 0 0 (va_A [(obM, .inr (1, [.int m_thrown, .ref mq_tape, .int m_taped, .ref obY, .ref obA, .ref obB, .int m_has, .int m_place, .ref mq_kept, .ref mq_sizes, .ref mq_asked, .ref mq_pairs, .int m_many])), (mq_asked, .inl (cZ, 19600, .inl m_asked)), (mq_pairs, .inl (cI, 19600, .inl m_pairs))] sz) := by
  refine Met.ofW (cc := cX10_ask) (maxL := 3) (ret := none) (by decide) rfl ?_
  intro p e s m args below meth c s₁ B hml hv
  obtain ⟨rfl, hsz, hP, hK, hD0, hz0⟩ := hv
  have hx := B.exec
  have hb := B.bytes
  have hr := B.returns
  have hts := atoms_spec (ws := wsX10_ask) B.pre
  have hown : s.vm.findClass RX10 = some m.cls := findClass_of_methodNamed B.named
  have hlocks := B.notSynchronized
  subst hsz
  have hD := hD0.self (sz := s.heap.size)
  generalize hAe : va_A [(obM, .inr (1, [.int m_thrown, .ref mq_tape, .int m_taped, .ref obY, .ref obA, .ref obB, .int m_has, .int m_place, .ref mq_kept, .ref mq_sizes, .ref mq_asked, .ref mq_pairs, .int m_many])), (mq_asked, .inl (cZ, 19600, .inl m_asked)), (mq_pairs, .inl (cI, 19600, .inl m_pairs))] s.heap.size = A at hD hz0 ⊢
  have hA : ∀ q : Nat, s.heap.size ≤ q → A q := fun q h => by rw [← hAe]; exact Or.inr h
  have hS : va_S A s.heap s.heap [] := va_S.rf
  generalize hQ0 : MQ below (va_Qv (fun u' => u' = res) (pcB (dC, dI) srCl [(cI, .int), (cB, .byte), (cJ, .long), (cZ, .boolean), (cQ, .object "SchemaReader$Schema")] (fun u : (Nat → Int32) × (Nat → Int32) × Int32 => [(obM, .inr (1, [.int m_thrown, .ref mq_tape, .int m_taped, .ref obY, .ref obA, .ref obB, .int m_has, .int m_place, .ref mq_kept, .ref mq_sizes, .ref mq_asked, .ref mq_pairs, .int u.2.2])), (mq_asked, .inl (cZ, 19600, .inl u.1)), (mq_pairs, .inl (cI, 19600, .inl u.2.1))]) A) A) [.ref obM, .int a0, .int a1].toArray s 0 0 A = Q0
  have hl := lv_entry [.ref obM, .int a0, .int a1] (n := 3) (Nat.le_of_ble_eq_true rfl)
  rw [lg_entry_eq]
  generalize (lg_sl [.ref obM, .int a0, .int a1] ++ List.replicate (3 - (lg_sl [.ref obM, .int a0, .int a1]).length) Slot.unset).toArray = ls at hl ⊢
  have hl : lv_has ls 3 [(0, .ref obM), (1, .int a0), (2, .int a1)] := hl
  unfold m_X10_ask at hm
  refine lv_aload_n hx hb dX10_ask_0 rfl (lv_at hl 0 rfl) ?_
  refine va_get (D := (dC, dI)) (ci := 1) (v := .ref mq_asked) (C := RX10) (T := TX10) (N := 13) hx hb hts (inX10 _) hown hK hP 0 rfl rfl 10 (by decide) (hts _ (List.mem_cons_of_mem _ wf10_38)) (fun _ h9 => h9) rfl dX10_ask_1 ?_
  refine lv_sipush (v := 140) hx hb dX10_ask_4 (by decide) ?_
  refine lv_iload_n hx hb dX10_ask_7 rfl (lv_at hl 1 rfl) ?_
  refine lv_imul hx hb dX10_ask_8 ?_
  refine lv_iload_n hx hb dX10_ask_9 rfl (lv_at hl 2 rfl) ?_
  refine lv_iadd hx hb dX10_ask_10 ?_
  obtain ⟨h1, hm⟩ := mr_bd hm
  refine va_zald hx hb hK hP 1 3 rfl rfl h1 dX10_ask_11 ?_
  refine lv_if_ne (tgt := 54) hx hb dX10_ask_12 (by decide) (fun c2 => ?_) (fun c2 => ?_)
  · have hm := mr_un c2 hm
    obtain rfl := Option.some.inj hm
    subst hQ0
    exact W.vret hx hb hr (fun t ht hW => ⟨⟨(m_asked, m_pairs, m_many), rfl, rfl, by rw [ht]; exact hP, va_K.moved hW.alike hK, hD⟩, hS.F ht⟩) hS.2.2 dX10_ask_54
  · have hm := mr_if c2 hm
    refine lv_aload_n hx hb dX10_ask_15 rfl (lv_at hl 0 rfl) ?_
    refine va_get (D := (dC, dI)) (ci := 1) (v := .ref mq_asked) (C := RX10) (T := TX10) (N := 13) hx hb hts (inX10 _) hown hK hP 0 rfl rfl 10 (by decide) (hts _ (List.mem_cons_of_mem _ wf10_38)) (fun _ h9 => h9) rfl dX10_ask_16 ?_
    refine lv_sipush (v := 140) hx hb dX10_ask_19 (by decide) ?_
    refine lv_iload_n hx hb dX10_ask_22 rfl (lv_at hl 1 rfl) ?_
    refine lv_imul hx hb dX10_ask_23 ?_
    refine lv_iload_n hx hb dX10_ask_24 rfl (lv_at hl 2 rfl) ?_
    refine lv_iadd hx hb dX10_ask_25 ?_
    refine lv_iconst (v := 1) hx hb dX10_ask_26 (by decide) ?_
    obtain ⟨h3, hm⟩ := mr_bd hm
    refine va_zast hx hb hK hP hD hS 1 3 rfl rfl h3 dX10_ask_27 (fun H locs hP hD hS => ?_)
    have hP : va_P (dC, dI) srCl [(obM, .inr (1, [.int m_thrown, .ref mq_tape, .int m_taped, .ref obY, .ref obA, .ref obB, .int m_has, .int m_place, .ref mq_kept, .ref mq_sizes, .ref mq_asked, .ref mq_pairs, .int m_many])), (mq_asked, .inl (cZ, 19600, .inl (upd m_asked (((140 * a0) + a1) : Int32).toNatClampNeg (vp_nar .boolean 1)))), (mq_pairs, .inl (cI, 19600, .inl m_pairs))] H := hP
    have hD : va_D A [(obM, .inr (1, [.int m_thrown, .ref mq_tape, .int m_taped, .ref obY, .ref obA, .ref obB, .int m_has, .int m_place, .ref mq_kept, .ref mq_sizes, .ref mq_asked, .ref mq_pairs, .int m_many])), (mq_asked, .inl (cZ, 19600, .inl (upd m_asked (((140 * a0) + a1) : Int32).toNatClampNeg (vp_nar .boolean 1)))), (mq_pairs, .inl (cI, 19600, .inl m_pairs))] := hD
    refine lv_aload_n hx hb dX10_ask_28 rfl (lv_at hl 0 rfl) ?_
    refine va_get (D := (dC, dI)) (ci := 1) (v := .ref mq_pairs) (C := RX10) (T := TX10) (N := 13) hx hb hts (inX10 _) hown hK hP 0 rfl rfl 11 (by decide) (hts _ (List.mem_cons_of_mem _ wf10_42)) (fun _ h9 => h9) rfl dX10_ask_29 ?_
    refine lv_aload_n hx hb dX10_ask_32 rfl (lv_at hl 0 rfl) ?_
    refine va_get (D := (dC, dI)) (ci := 1) (v := .int m_many) (C := RX10) (T := TX10) (N := 13) hx hb hts (inX10 _) hown hK hP 0 rfl rfl 12 (by decide) (hts _ (List.mem_cons_of_mem _ wf10_125)) (fun _ h9 => h9) rfl dX10_ask_33 ?_
    refine lv_sipush (v := 140) hx hb dX10_ask_36 (by decide) ?_
    refine lv_iload_n hx hb dX10_ask_39 rfl (lv_at hl 1 rfl) ?_
    refine lv_imul hx hb dX10_ask_40 ?_
    refine lv_iload_n hx hb dX10_ask_41 rfl (lv_at hl 2 rfl) ?_
    refine lv_iadd hx hb dX10_ask_42 ?_
    obtain ⟨h4, hm⟩ := mr_bd hm
    refine va_iast hx hb hK hP hD hS 2 0 rfl rfl h4 dX10_ask_43 (fun H locs hP hD hS => ?_)
    have hP : va_P (dC, dI) srCl [(obM, .inr (1, [.int m_thrown, .ref mq_tape, .int m_taped, .ref obY, .ref obA, .ref obB, .int m_has, .int m_place, .ref mq_kept, .ref mq_sizes, .ref mq_asked, .ref mq_pairs, .int m_many])), (mq_asked, .inl (cZ, 19600, .inl (upd m_asked (((140 * a0) + a1) : Int32).toNatClampNeg (vp_nar .boolean 1)))), (mq_pairs, .inl (cI, 19600, .inl (upd m_pairs (m_many : Int32).toNatClampNeg ((140 * a0) + a1))))] H := hP
    have hD : va_D A [(obM, .inr (1, [.int m_thrown, .ref mq_tape, .int m_taped, .ref obY, .ref obA, .ref obB, .int m_has, .int m_place, .ref mq_kept, .ref mq_sizes, .ref mq_asked, .ref mq_pairs, .int m_many])), (mq_asked, .inl (cZ, 19600, .inl (upd m_asked (((140 * a0) + a1) : Int32).toNatClampNeg (vp_nar .boolean 1)))), (mq_pairs, .inl (cI, 19600, .inl (upd m_pairs (m_many : Int32).toNatClampNeg ((140 * a0) + a1))))] := hD
    refine lv_aload_n hx hb dX10_ask_44 rfl (lv_at hl 0 rfl) ?_
    refine lv_dup hx hb dX10_ask_45 rfl ?_
    refine va_get (D := (dC, dI)) (ci := 1) (v := .int m_many) (C := RX10) (T := TX10) (N := 13) hx hb hts (inX10 _) hown hK hP 0 rfl rfl 12 (by decide) (hts _ (List.mem_cons_of_mem _ wf10_125)) (fun _ h9 => h9) rfl dX10_ask_46 ?_
    refine lv_iconst (v := 1) hx hb dX10_ask_49 (by decide) ?_
    refine lv_iadd hx hb dX10_ask_50 ?_
    refine va_put (D := (dC, dI)) (ci := 1) (v := .int (m_many + 1)) (ty := .int) (C := RX10) (T := TX10) (N := 13) hx hb hts (inX10 _) tyX10 tyX10_ok nmX10 hown hK hP hD hS 0 rfl rfl 12 (by decide) (hts _ (List.mem_cons_of_mem _ wf10_125)) (fun _ h9 => h9) rfl (by decide +kernel) rfl rfl (Nat.le_of_ble_eq_true rfl) dX10_ask_51 (fun H locs hP hD hS => ?_)
    have hP : va_P (dC, dI) srCl [(obM, .inr (1, [.int m_thrown, .ref mq_tape, .int m_taped, .ref obY, .ref obA, .ref obB, .int m_has, .int m_place, .ref mq_kept, .ref mq_sizes, .ref mq_asked, .ref mq_pairs, .int (m_many + 1)])), (mq_asked, .inl (cZ, 19600, .inl (upd m_asked (((140 * a0) + a1) : Int32).toNatClampNeg (vp_nar .boolean 1)))), (mq_pairs, .inl (cI, 19600, .inl (upd m_pairs (m_many : Int32).toNatClampNeg ((140 * a0) + a1))))] H := hP
    have hD : va_D A [(obM, .inr (1, [.int m_thrown, .ref mq_tape, .int m_taped, .ref obY, .ref obA, .ref obB, .int m_has, .int m_place, .ref mq_kept, .ref mq_sizes, .ref mq_asked, .ref mq_pairs, .int (m_many + 1)])), (mq_asked, .inl (cZ, 19600, .inl (upd m_asked (((140 * a0) + a1) : Int32).toNatClampNeg (vp_nar .boolean 1)))), (mq_pairs, .inl (cI, 19600, .inl (upd m_pairs (m_many : Int32).toNatClampNeg ((140 * a0) + a1))))] := hD
    obtain rfl := Option.some.inj hm
    subst hQ0
    exact W.vret hx hb hr (fun t ht hW => ⟨⟨((upd m_asked (((140 * a0) + a1) : Int32).toNatClampNeg (vp_nar .boolean 1)), (upd m_pairs (m_many : Int32).toNatClampNeg ((140 * a0) + a1)), (m_many + 1)), rfl, rfl, by rw [ht]; exact hP, va_K.moved hW.alike hK, hD⟩, hS.F ht⟩) hS.2.2 dX10_ask_54
end
section
abbrev cX9_read : ByteArray := prog_13_method_33_code
def yX9_read : MethodName := ⟨RX9, "read", "([BII)I"⟩
def wsX9_read : List Cond := .codeWith yX9_read cX9_read 5 (some .int) [(130, 134, 137, 85)] :: sr_G
def nq_cX9_read : Nat := 0xac032101b61e01b42a2aecffa7010484540304154a00b42a1100a2bd00b42a0415043603ac4e00b42a043a0a00a71b01b62a1801b5032a5200b5022a4e00b5032a0f01b5032ac000b5032ac300b5032addffa70104844f0204152f00b42a4f0204152900b42a4f041504152600b42a2200a206100415043603bd00b506102aa700b5032a6d00b5032a7000b5032a5f00b5032a6200b51d2aeaffa701048454336004151c2b04150900b42a1600a21d0415043603
theorem kq_cX9_read : qOk cX9_read nq_cX9_read 180 = true := by decide +kernel
theorem dX9_read_0 : decode cX9_read 0 = .ok (.iconst 0, 1) := qd_3 kq_cX9_read (by decide +kernel)
theorem dX9_read_1 : decode cX9_read 1 = .ok (.istore 4, 2) := qd_54 kq_cX9_read (by decide +kernel)
theorem dX9_read_3 : decode cX9_read 3 = .ok (.iload 4, 2) := qd_21 kq_cX9_read (by decide +kernel)
theorem dX9_read_5 : decode cX9_read 5 = .ok (.iload_n 3, 1) := qd_29 kq_cX9_read (by decide +kernel)
theorem dX9_read_6 : decode cX9_read 6 = .ok (.if_icmp .ge 22, 3) := qd_162 kq_cX9_read (by decide +kernel)
theorem dX9_read_9 : decode cX9_read 9 = .ok (.aload_n 0, 1) := qd_42 kq_cX9_read (by decide +kernel)
theorem dX9_read_10 : decode cX9_read 10 = .ok (.getfield 9, 3) := qd_180 kq_cX9_read (by decide +kernel)
theorem dX9_read_13 : decode cX9_read 13 = .ok (.iload 4, 2) := qd_21 kq_cX9_read (by decide +kernel)
theorem dX9_read_15 : decode cX9_read 15 = .ok (.aload_n 1, 1) := qd_43 kq_cX9_read (by decide +kernel)
theorem dX9_read_16 : decode cX9_read 16 = .ok (.iload_n 2, 1) := qd_28 kq_cX9_read (by decide +kernel)
theorem dX9_read_17 : decode cX9_read 17 = .ok (.iload 4, 2) := qd_21 kq_cX9_read (by decide +kernel)
theorem dX9_read_19 : decode cX9_read 19 = .ok (.iadd, 1) := qd_96 kq_cX9_read (by decide +kernel)
theorem dX9_read_20 : decode cX9_read 20 = .ok (.baload, 1) := qd_51 kq_cX9_read (by decide +kernel)
theorem dX9_read_21 : decode cX9_read 21 = .ok (.bastore, 1) := qd_84 kq_cX9_read (by decide +kernel)
theorem dX9_read_22 : decode cX9_read 22 = .ok (.iinc 4 1, 3) := qd_132 kq_cX9_read (by decide +kernel)
theorem dX9_read_25 : decode cX9_read 25 = .ok (.goto (-22), 3) := qd_167 kq_cX9_read (by decide +kernel)
theorem dX9_read_28 : decode cX9_read 28 = .ok (.aload_n 0, 1) := qd_42 kq_cX9_read (by decide +kernel)
theorem dX9_read_29 : decode cX9_read 29 = .ok (.iload_n 3, 1) := qd_29 kq_cX9_read (by decide +kernel)
theorem dX9_read_30 : decode cX9_read 30 = .ok (.putfield 98, 3) := qd_181 kq_cX9_read (by decide +kernel)
theorem dX9_read_33 : decode cX9_read 33 = .ok (.aload_n 0, 1) := qd_42 kq_cX9_read (by decide +kernel)
theorem dX9_read_34 : decode cX9_read 34 = .ok (.iconst 0, 1) := qd_3 kq_cX9_read (by decide +kernel)
theorem dX9_read_35 : decode cX9_read 35 = .ok (.putfield 95, 3) := qd_181 kq_cX9_read (by decide +kernel)
theorem dX9_read_38 : decode cX9_read 38 = .ok (.aload_n 0, 1) := qd_42 kq_cX9_read (by decide +kernel)
theorem dX9_read_39 : decode cX9_read 39 = .ok (.iconst 0, 1) := qd_3 kq_cX9_read (by decide +kernel)
theorem dX9_read_40 : decode cX9_read 40 = .ok (.putfield 112, 3) := qd_181 kq_cX9_read (by decide +kernel)
theorem dX9_read_43 : decode cX9_read 43 = .ok (.aload_n 0, 1) := qd_42 kq_cX9_read (by decide +kernel)
theorem dX9_read_44 : decode cX9_read 44 = .ok (.iconst 0, 1) := qd_3 kq_cX9_read (by decide +kernel)
theorem dX9_read_45 : decode cX9_read 45 = .ok (.putfield 109, 3) := qd_181 kq_cX9_read (by decide +kernel)
theorem dX9_read_48 : decode cX9_read 48 = .ok (.aload_n 0, 1) := qd_42 kq_cX9_read (by decide +kernel)
theorem dX9_read_49 : decode cX9_read 49 = .ok (.iconst 0, 1) := qd_3 kq_cX9_read (by decide +kernel)
theorem dX9_read_50 : decode cX9_read 50 = .ok (.putfield 167, 3) := qd_181 kq_cX9_read (by decide +kernel)
theorem dX9_read_53 : decode cX9_read 53 = .ok (.aload_n 0, 1) := qd_42 kq_cX9_read (by decide +kernel)
theorem dX9_read_54 : decode cX9_read 54 = .ok (.bipush 6, 2) := qd_16 kq_cX9_read (by decide +kernel)
theorem dX9_read_56 : decode cX9_read 56 = .ok (.putfield 189, 3) := qd_181 kq_cX9_read (by decide +kernel)
theorem dX9_read_59 : decode cX9_read 59 = .ok (.iconst 0, 1) := qd_3 kq_cX9_read (by decide +kernel)
theorem dX9_read_60 : decode cX9_read 60 = .ok (.istore 4, 2) := qd_54 kq_cX9_read (by decide +kernel)
theorem dX9_read_62 : decode cX9_read 62 = .ok (.iload 4, 2) := qd_21 kq_cX9_read (by decide +kernel)
theorem dX9_read_64 : decode cX9_read 64 = .ok (.bipush 6, 2) := qd_16 kq_cX9_read (by decide +kernel)
theorem dX9_read_66 : decode cX9_read 66 = .ok (.if_icmp .ge 34, 3) := qd_162 kq_cX9_read (by decide +kernel)
theorem dX9_read_69 : decode cX9_read 69 = .ok (.aload_n 0, 1) := qd_42 kq_cX9_read (by decide +kernel)
theorem dX9_read_70 : decode cX9_read 70 = .ok (.getfield 38, 3) := qd_180 kq_cX9_read (by decide +kernel)
theorem dX9_read_73 : decode cX9_read 73 = .ok (.iload 4, 2) := qd_21 kq_cX9_read (by decide +kernel)
theorem dX9_read_75 : decode cX9_read 75 = .ok (.iload 4, 2) := qd_21 kq_cX9_read (by decide +kernel)
theorem dX9_read_77 : decode cX9_read 77 = .ok (.iastore, 1) := qd_79 kq_cX9_read (by decide +kernel)
theorem dX9_read_78 : decode cX9_read 78 = .ok (.aload_n 0, 1) := qd_42 kq_cX9_read (by decide +kernel)
theorem dX9_read_79 : decode cX9_read 79 = .ok (.getfield 41, 3) := qd_180 kq_cX9_read (by decide +kernel)
theorem dX9_read_82 : decode cX9_read 82 = .ok (.iload 4, 2) := qd_21 kq_cX9_read (by decide +kernel)
theorem dX9_read_84 : decode cX9_read 84 = .ok (.iconst (-1), 1) := qd_2 kq_cX9_read (by decide +kernel)
theorem dX9_read_85 : decode cX9_read 85 = .ok (.iastore, 1) := qd_79 kq_cX9_read (by decide +kernel)
theorem dX9_read_86 : decode cX9_read 86 = .ok (.aload_n 0, 1) := qd_42 kq_cX9_read (by decide +kernel)
theorem dX9_read_87 : decode cX9_read 87 = .ok (.getfield 47, 3) := qd_180 kq_cX9_read (by decide +kernel)
theorem dX9_read_90 : decode cX9_read 90 = .ok (.iload 4, 2) := qd_21 kq_cX9_read (by decide +kernel)
theorem dX9_read_92 : decode cX9_read 92 = .ok (.iconst (-1), 1) := qd_2 kq_cX9_read (by decide +kernel)
theorem dX9_read_93 : decode cX9_read 93 = .ok (.iastore, 1) := qd_79 kq_cX9_read (by decide +kernel)
theorem dX9_read_94 : decode cX9_read 94 = .ok (.iinc 4 1, 3) := qd_132 kq_cX9_read (by decide +kernel)
theorem dX9_read_97 : decode cX9_read 97 = .ok (.goto (-35), 3) := qd_167 kq_cX9_read (by decide +kernel)
theorem dX9_read_100 : decode cX9_read 100 = .ok (.aload_n 0, 1) := qd_42 kq_cX9_read (by decide +kernel)
theorem dX9_read_101 : decode cX9_read 101 = .ok (.iconst 0, 1) := qd_3 kq_cX9_read (by decide +kernel)
theorem dX9_read_102 : decode cX9_read 102 = .ok (.putfield 195, 3) := qd_181 kq_cX9_read (by decide +kernel)
theorem dX9_read_105 : decode cX9_read 105 = .ok (.aload_n 0, 1) := qd_42 kq_cX9_read (by decide +kernel)
theorem dX9_read_106 : decode cX9_read 106 = .ok (.iconst 0, 1) := qd_3 kq_cX9_read (by decide +kernel)
theorem dX9_read_107 : decode cX9_read 107 = .ok (.putfield 192, 3) := qd_181 kq_cX9_read (by decide +kernel)
theorem dX9_read_110 : decode cX9_read 110 = .ok (.aload_n 0, 1) := qd_42 kq_cX9_read (by decide +kernel)
theorem dX9_read_111 : decode cX9_read 111 = .ok (.iconst 0, 1) := qd_3 kq_cX9_read (by decide +kernel)
theorem dX9_read_112 : decode cX9_read 112 = .ok (.putfield 271, 3) := qd_181 kq_cX9_read (by decide +kernel)
theorem dX9_read_115 : decode cX9_read 115 = .ok (.aload_n 0, 1) := qd_42 kq_cX9_read (by decide +kernel)
theorem dX9_read_116 : decode cX9_read 116 = .ok (.iconst 0, 1) := qd_3 kq_cX9_read (by decide +kernel)
theorem dX9_read_117 : decode cX9_read 117 = .ok (.putfield 78, 3) := qd_181 kq_cX9_read (by decide +kernel)
theorem dX9_read_120 : decode cX9_read 120 = .ok (.aload_n 0, 1) := qd_42 kq_cX9_read (by decide +kernel)
theorem dX9_read_121 : decode cX9_read 121 = .ok (.iconst (-1), 1) := qd_2 kq_cX9_read (by decide +kernel)
theorem dX9_read_122 : decode cX9_read 122 = .ok (.putfield 82, 3) := qd_181 kq_cX9_read (by decide +kernel)
theorem dX9_read_125 : decode cX9_read 125 = .ok (.aload_n 0, 1) := qd_42 kq_cX9_read (by decide +kernel)
theorem dX9_read_126 : decode cX9_read 126 = .ok (.iconst 0, 1) := qd_3 kq_cX9_read (by decide +kernel)
theorem dX9_read_127 : decode cX9_read 127 = .ok (.putfield 280, 3) := qd_181 kq_cX9_read (by decide +kernel)
theorem dX9_read_130 : decode cX9_read 130 = .ok (.aload_n 0, 1) := qd_42 kq_cX9_read (by decide +kernel)
theorem dX9_read_131 : decode cX9_read 131 = .ok (.invokevirtual 283, 3) := qd_182 kq_cX9_read (by decide +kernel)
theorem dX9_read_134 : decode cX9_read 134 = .ok (.goto 10, 3) := qd_167 kq_cX9_read (by decide +kernel)
theorem dX9_read_137 : decode cX9_read 137 = .ok (.astore 4, 2) := qd_58 kq_cX9_read (by decide +kernel)
theorem dX9_read_139 : decode cX9_read 139 = .ok (.aload_n 0, 1) := qd_42 kq_cX9_read (by decide +kernel)
theorem dX9_read_140 : decode cX9_read 140 = .ok (.getfield 78, 3) := qd_180 kq_cX9_read (by decide +kernel)
theorem dX9_read_143 : decode cX9_read 143 = .ok (.ireturn, 1) := qd_172 kq_cX9_read (by decide +kernel)
theorem dX9_read_144 : decode cX9_read 144 = .ok (.iconst 0, 1) := qd_3 kq_cX9_read (by decide +kernel)
theorem dX9_read_145 : decode cX9_read 145 = .ok (.istore 4, 2) := qd_54 kq_cX9_read (by decide +kernel)
theorem dX9_read_147 : decode cX9_read 147 = .ok (.iload 4, 2) := qd_21 kq_cX9_read (by decide +kernel)
theorem dX9_read_149 : decode cX9_read 149 = .ok (.aload_n 0, 1) := qd_42 kq_cX9_read (by decide +kernel)
theorem dX9_read_150 : decode cX9_read 150 = .ok (.getfield 189, 3) := qd_180 kq_cX9_read (by decide +kernel)
theorem dX9_read_153 : decode cX9_read 153 = .ok (.if_icmp .ge 17, 3) := qd_162 kq_cX9_read (by decide +kernel)
theorem dX9_read_156 : decode cX9_read 156 = .ok (.aload_n 0, 1) := qd_42 kq_cX9_read (by decide +kernel)
theorem dX9_read_157 : decode cX9_read 157 = .ok (.getfield 74, 3) := qd_180 kq_cX9_read (by decide +kernel)
theorem dX9_read_160 : decode cX9_read 160 = .ok (.iload 4, 2) := qd_21 kq_cX9_read (by decide +kernel)
theorem dX9_read_162 : decode cX9_read 162 = .ok (.iconst 0, 1) := qd_3 kq_cX9_read (by decide +kernel)
theorem dX9_read_163 : decode cX9_read 163 = .ok (.bastore, 1) := qd_84 kq_cX9_read (by decide +kernel)
theorem dX9_read_164 : decode cX9_read 164 = .ok (.iinc 4 1, 3) := qd_132 kq_cX9_read (by decide +kernel)
theorem dX9_read_167 : decode cX9_read 167 = .ok (.goto (-20), 3) := qd_167 kq_cX9_read (by decide +kernel)
theorem dX9_read_170 : decode cX9_read 170 = .ok (.aload_n 0, 1) := qd_42 kq_cX9_read (by decide +kernel)
theorem dX9_read_171 : decode cX9_read 171 = .ok (.aload_n 0, 1) := qd_42 kq_cX9_read (by decide +kernel)
theorem dX9_read_172 : decode cX9_read 172 = .ok (.getfield 286, 3) := qd_180 kq_cX9_read (by decide +kernel)
theorem dX9_read_175 : decode cX9_read 175 = .ok (.invokevirtual 289, 3) := qd_182 kq_cX9_read (by decide +kernel)
theorem dX9_read_178 : decode cX9_read 178 = .ok (.iconst 0, 1) := qd_3 kq_cX9_read (by decide +kernel)
theorem dX9_read_179 : decode cX9_read 179 = .ok (.ireturn, 1) := qd_172 kq_cX9_read (by decide +kernel)
def rmX9_read (mc ms : Nat) : Room := { frames := 87, cells := mc, slots := ms, locals := 1911 }
theorem g9_283 (c0 : Cond) : GoodIn (c0 :: sr_G) (wsV RX9 283 RX9 yX9_readAll wsX9_readAll) := sr_V c0 (sr_insI [(6, 2), (6, 4), (0, 46), (1, 7), (6, 5)] (by decide +kernel))
theorem ck9_85 : (.classLink RX9 85 "java/lang/IllegalStateException" : Cond) ∈ sr_G := sr_ins (ws := [_]) (by decide +kernel) _ List.mem_cons_self
end
