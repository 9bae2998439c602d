set_option maxHeartbeats 4000000 in
set_option maxRecDepth 100000 in
theorem kX10_thrown (l : Launch) (htr : l.stackTraces = false) (dC : Nat → ClassId) (dI : Nat → Nat → Nat) (adK adV : Nat → Nat) (cI cB cJ cZ cQ : ClassId) (obM mq_tape obY obA obB mq_kept mq_sizes mq_asked mq_pairs : Nat) (m_thrown : Int32) (m_taped : Int32) (m_has : Int32) (m_place : Int32) (m_many : Int32) (res : Int32) (hm : m_X10_thrown m_thrown = some res) : Met l yX10_thrown wsX10_thrown (rmX10_thrown 0 0) (pcR (sr_Z adK adV) (dC, dI) srCl [(cI, .int), (cB, .byte), (cJ, .long), (cZ, .boolean), (cQ, .object "SchemaReader$Schema")] [.ref obM] [(obM, .inr (1, [.int m_thrown, .ref mq_tape, .int m_taped, .ref obY, .ref obA, .ref obB, .int m_has, .int m_place, .ref mq_kept, .ref mq_sizes, .ref mq_asked, .ref mq_pairs, .int m_many]))]) (k2_QcV (.int res)) 0 0 (fun _ => False) := by
  refine Met.ofW (cc := cX10_thrown) (maxL := 1) (ret := (some .int)) (by decide) rfl ?_
  intro p e s m args below meth c s₁ B hml hv
  obtain ⟨rfl, hP, hK, hz0⟩ := hv
  have hx := B.exec
  have hb := B.bytes
  have hr := B.returns
  have hts := atoms_spec (ws := wsX10_thrown) B.pre
  have hown : s.vm.findClass RX10 = some m.cls := findClass_of_methodNamed B.named
  have hlocks := B.notSynchronized
  have hS : va_S (fun _ => False) s.heap s.heap [] := va_S.rf
  generalize hQ0 : MQ below (k2_QcV (.int res)) [.ref obM].toArray s 0 0 (fun _ => False) = Q0
  have hl := lv_entry [.ref obM] (n := 1) (Nat.le_of_ble_eq_true rfl)
  rw [lg_entry_eq]
  generalize (lg_sl [.ref obM] ++ List.replicate (1 - (lg_sl [.ref obM]).length) Slot.unset).toArray = ls at hl ⊢
  have hl : lv_has ls 1 [(0, .ref obM)] := hl
  unfold m_X10_thrown at hm
  refine lv_aload_n hx hb dX10_thrown_0 rfl (lv_at hl 0 rfl) ?_
  refine va_get (D := (dC, dI)) (ci := 1) (v := .int m_thrown) (C := RX10) (T := TX10) (N := 13) hx hb hts (inX10 _) hown hK hP 0 rfl rfl 0 (by decide) (hts _ (List.mem_cons_of_mem _ wf10_45)) (fun _ h9 => h9) rfl dX10_thrown_1 ?_
  obtain rfl := Option.some.inj hm
  subst hQ0
  exact W.iret (v := m_thrown) hx hb hr (fun t ht hW => ⟨rfl, ht⟩) (fun q h => by cases h) dX10_thrown_4
set_option maxHeartbeats 4000000 in
set_option maxRecDepth 100000 in
theorem kX10_refused (l : Launch) (htr : l.stackTraces = false) (dC : Nat → ClassId) (dI : Nat → Nat → Nat) (adK adV : Nat → Nat) (cI cB cJ cZ cQ : ClassId) (obM mq_tape obY obA obB mq_kept mq_sizes mq_asked mq_pairs : Nat) (m_thrown : Int32) (m_taped : Int32) (m_has : Int32) (m_place : Int32) (m_many : Int32) (sz : Nat) (a0 : Int32) (a1 : Int32) (res : Int32 × Int32) (hm : m_X10_refused m_thrown a0 a1 = some res) : Met l yX10_refused wsX10_refused (rmX10_refused 0 0) (pcW (sr_Z adK adV) (dC, dI) srCl [(cI, .int), (cB, .byte), (cJ, .long), (cZ, .boolean), (cQ, .object "SchemaReader$Schema")] [.ref obM, .int a0, .int a1] [(obM, .inr (1, [.int m_thrown, .ref mq_tape, .int m_taped, .ref obY, .ref obA, .ref obB, .int m_has, .int m_place, .ref mq_kept, .ref mq_sizes, .ref mq_asked, .ref mq_pairs, .int m_many]))] sz) (va_Qi (fun r' u' => r' = res.1 ∧ u' = res.2) (pcB (dC, dI) srCl [(cI, .int), (cB, .byte), (cJ, .long), (cZ, .boolean), (cQ, .object "SchemaReader$Schema")] (fun u : Int32 => [(obM, .inr (1, [.int u, .ref mq_tape, .int m_taped, .ref obY, .ref obA, .ref obB, .int m_has, .int m_place, .ref mq_kept, .ref mq_sizes, .ref mq_asked, .ref mq_pairs, .int m_many]))]) (va_A [(obM, .inr (1, [.int m_thrown, .ref mq_tape, .int m_taped, .ref obY, .ref obA, .ref obB, .int m_has, .int m_place, .ref mq_kept, .ref mq_sizes, .ref mq_asked, .ref mq_pairs, .int m_many]))] sz)) (va_A [(obM, .inr (1, [.int m_thrown, .ref mq_tape, .int m_taped, .ref obY, .ref obA, .ref obB, .int m_has, .int m_place, .ref mq_kept, .ref mq_sizes, .ref mq_asked, .ref mq_pairs, .int m_many]))] sz)) 0 0 (va_A [(obM, .inr (1, [.int m_thrown, .ref mq_tape, .int m_taped, .ref obY, .ref obA, .ref obB, .int m_has, .int m_place, .ref mq_kept, .ref mq_sizes, .ref mq_asked, .ref mq_pairs, .int m_many]))] sz) := by
  refine Met.ofW (cc := cX10_refused) (maxL := 3) (ret := (some .boolean)) (by decide) rfl ?_
  intro p e s m args below meth c s₁ B hml hv
  obtain ⟨rfl, hsz, hP, hK, hD0, hz0⟩ := hv
  have hx := B.exec
  have hb := B.bytes
  have hr := B.returns
  have hts := atoms_spec (ws := wsX10_refused) B.pre
  have hown : s.vm.findClass RX10 = some m.cls := findClass_of_methodNamed B.named
  have hlocks := B.notSynchronized
  subst hsz
  have hD := hD0.self (sz := s.heap.size)
  generalize hAe : va_A [(obM, .inr (1, [.int m_thrown, .ref mq_tape, .int m_taped, .ref obY, .ref obA, .ref obB, .int m_has, .int m_place, .ref mq_kept, .ref mq_sizes, .ref mq_asked, .ref mq_pairs, .int m_many]))] s.heap.size = A at hD hz0 ⊢
  have hA : ∀ q : Nat, s.heap.size ≤ q → A q := fun q h => by rw [← hAe]; exact Or.inr h
  have hS : va_S A s.heap s.heap [] := va_S.rf
  generalize hQ0 : MQ below (va_Qi (fun r' u' => r' = res.1 ∧ u' = res.2) (pcB (dC, dI) srCl [(cI, .int), (cB, .byte), (cJ, .long), (cZ, .boolean), (cQ, .object "SchemaReader$Schema")] (fun u : Int32 => [(obM, .inr (1, [.int u, .ref mq_tape, .int m_taped, .ref obY, .ref obA, .ref obB, .int m_has, .int m_place, .ref mq_kept, .ref mq_sizes, .ref mq_asked, .ref mq_pairs, .int m_many]))]) A) A) [.ref obM, .int a0, .int a1].toArray s 0 0 A = Q0
  have hl := lv_entry [.ref obM, .int a0, .int a1] (n := 3) (Nat.le_of_ble_eq_true rfl)
  rw [lg_entry_eq]
  generalize (lg_sl [.ref obM, .int a0, .int a1] ++ List.replicate (3 - (lg_sl [.ref obM, .int a0, .int a1]).length) Slot.unset).toArray = ls at hl ⊢
  have hl : lv_has ls 3 [(0, .ref obM), (1, .int a0), (2, .int a1)] := hl
  unfold m_X10_refused at hm
  refine lv_aload_n hx hb dX10_refused_0 rfl (lv_at hl 0 rfl) ?_
  refine lv_iload_n hx hb dX10_refused_1 rfl (lv_at hl 1 rfl) ?_
  refine lv_if_eq (tgt := 9) hx hb dX10_refused_2 (by decide) (fun c1 => ?_) (fun c1 => ?_)
  · have hm := mr_if c1 hm
    refine lv_iload_n hx hb dX10_refused_9 rfl (lv_at hl 2 rfl) ?_
    refine lv_if_eq (tgt := 17) hx hb dX10_refused_10 (by decide) (fun c2 => ?_) (fun c2 => ?_)
    · have hm := mr_if c2 hm
      refine lv_iconst (v := 0) hx hb dX10_refused_17 (by decide) ?_
      refine va_put (D := (dC, dI)) (ci := 1) (v := .int 0) (ty := .int) (C := RX10) (T := TX10) (N := 13) hx hb hts (inX10 _) tyX10 tyX10_ok nmX10 hown hK hP hD hS 0 rfl rfl 0 (by decide) (hts _ (List.mem_cons_of_mem _ wf10_45)) (fun _ h9 => h9) rfl (by decide +kernel) rfl rfl (Nat.le_of_ble_eq_true rfl) dX10_refused_18 (fun H locs hP hD hS => ?_)
      have hP : va_P (dC, dI) srCl [(obM, .inr (1, [.int 0, .ref mq_tape, .int m_taped, .ref obY, .ref obA, .ref obB, .int m_has, .int m_place, .ref mq_kept, .ref mq_sizes, .ref mq_asked, .ref mq_pairs, .int m_many]))] H := hP
      have hD : va_D A [(obM, .inr (1, [.int 0, .ref mq_tape, .int m_taped, .ref obY, .ref obA, .ref obB, .int m_has, .int m_place, .ref mq_kept, .ref mq_sizes, .ref mq_asked, .ref mq_pairs, .int m_many]))] := hD
      refine lv_aload_n hx hb dX10_refused_21 rfl (lv_at hl 0 rfl) ?_
      refine va_get (D := (dC, dI)) (ci := 1) (v := .int 0) (C := RX10) (T := TX10) (N := 13) hx hb hts (inX10 _) hown hK hP 0 rfl rfl 0 (by decide) (hts _ (List.mem_cons_of_mem _ wf10_45)) (fun _ h9 => h9) rfl dX10_refused_22 ?_
      refine lv_if_le (tgt := 32) hx hb dX10_refused_25 (by decide) (fun c3 => ?_) (fun c3 => ?_)
      · have hm := mr_if c3 hm
        refine lv_iconst (v := 0) hx hb dX10_refused_32 (by decide) ?_
        obtain rfl := Option.some.inj hm
        subst hQ0
        exact W.zret (v := 0) hx hb hr rfl (fun t ht hW => ⟨⟨0, 0, rfl, ⟨rfl, rfl⟩, by rw [ht]; exact hP, va_K.moved hW.alike hK, hD⟩, hS.F ht⟩) hS.2.2 dX10_refused_33
      · have hm := mr_un c3 hm
        refine lv_iconst (v := 1) hx hb dX10_refused_28 (by decide) ?_
        refine lv_goto (tgt := 33) hx hb dX10_refused_29 (by decide) ?_
        obtain rfl := Option.some.inj hm
        subst hQ0
        exact W.zret (v := 1) hx hb hr rfl (fun t ht hW => ⟨⟨1, 0, rfl, ⟨rfl, rfl⟩, by rw [ht]; exact hP, va_K.moved hW.alike hK, hD⟩, hS.F ht⟩) hS.2.2 dX10_refused_33
    · have hm := mr_un c2 hm
      refine lv_iconst (v := 2) hx hb dX10_refused_13 (by decide) ?_
      refine lv_goto (tgt := 18) hx hb dX10_refused_14 (by decide) ?_
      refine va_put (D := (dC, dI)) (ci := 1) (v := .int 2) (ty := .int) (C := RX10) (T := TX10) (N := 13) hx hb hts (inX10 _) tyX10 tyX10_ok nmX10 hown hK hP hD hS 0 rfl rfl 0 (by decide) (hts _ (List.mem_cons_of_mem _ wf10_45)) (fun _ h9 => h9) rfl (by decide +kernel) rfl rfl (Nat.le_of_ble_eq_true rfl) dX10_refused_18 (fun H locs hP hD hS => ?_)
      have hP : va_P (dC, dI) srCl [(obM, .inr (1, [.int 2, .ref mq_tape, .int m_taped, .ref obY, .ref obA, .ref obB, .int m_has, .int m_place, .ref mq_kept, .ref mq_sizes, .ref mq_asked, .ref mq_pairs, .int m_many]))] H := hP
      have hD : va_D A [(obM, .inr (1, [.int 2, .ref mq_tape, .int m_taped, .ref obY, .ref obA, .ref obB, .int m_has, .int m_place, .ref mq_kept, .ref mq_sizes, .ref mq_asked, .ref mq_pairs, .int m_many]))] := hD
      refine lv_aload_n hx hb dX10_refused_21 rfl (lv_at hl 0 rfl) ?_
      refine va_get (D := (dC, dI)) (ci := 1) (v := .int 2) (C := RX10) (T := TX10) (N := 13) hx hb hts (inX10 _) hown hK hP 0 rfl rfl 0 (by decide) (hts _ (List.mem_cons_of_mem _ wf10_45)) (fun _ h9 => h9) rfl dX10_refused_22 ?_
      refine lv_if_le (tgt := 32) hx hb dX10_refused_25 (by decide) (fun c4 => ?_) (fun c4 => ?_)
      · have hm := mr_if c4 hm
        refine lv_iconst (v := 0) hx hb dX10_refused_32 (by decide) ?_
        obtain rfl := Option.some.inj hm
        subst hQ0
        exact W.zret (v := 0) hx hb hr rfl (fun t ht hW => ⟨⟨0, 2, rfl, ⟨rfl, rfl⟩, by rw [ht]; exact hP, va_K.moved hW.alike hK, hD⟩, hS.F ht⟩) hS.2.2 dX10_refused_33
      · have hm := mr_un c4 hm
        refine lv_iconst (v := 1) hx hb dX10_refused_28 (by decide) ?_
        refine lv_goto (tgt := 33) hx hb dX10_refused_29 (by decide) ?_
        obtain rfl := Option.some.inj hm
        subst hQ0
        exact W.zret (v := 1) hx hb hr rfl (fun t ht hW => ⟨⟨1, 2, rfl, ⟨rfl, rfl⟩, by rw [ht]; exact hP, va_K.moved hW.alike hK, hD⟩, hS.F ht⟩) hS.2.2 dX10_refused_33
  · have hm := mr_un c1 hm
    refine lv_iconst (v := 1) hx hb dX10_refused_5 (by decide) ?_
    refine lv_goto (tgt := 18) hx hb dX10_refused_6 (by decide) ?_
    refine va_put (D := (dC, dI)) (ci := 1) (v := .int 1) (ty := .int) (C := RX10) (T := TX10) (N := 13) hx hb hts (inX10 _) tyX10 tyX10_ok nmX10 hown hK hP hD hS 0 rfl rfl 0 (by decide) (hts _ (List.mem_cons_of_mem _ wf10_45)) (fun _ h9 => h9) rfl (by decide +kernel) rfl rfl (Nat.le_of_ble_eq_true rfl) dX10_refused_18 (fun H locs hP hD hS => ?_)
    have hP : va_P (dC, dI) srCl [(obM, .inr (1, [.int 1, .ref mq_tape, .int m_taped, .ref obY, .ref obA, .ref obB, .int m_has, .int m_place, .ref mq_kept, .ref mq_sizes, .ref mq_asked, .ref mq_pairs, .int m_many]))] H := hP
    have hD : va_D A [(obM, .inr (1, [.int 1, .ref mq_tape, .int m_taped, .ref obY, .ref obA, .ref obB, .int m_has, .int m_place, .ref mq_kept, .ref mq_sizes, .ref mq_asked, .ref mq_pairs, .int m_many]))] := hD
    refine lv_aload_n hx hb dX10_refused_21 rfl (lv_at hl 0 rfl) ?_
    refine va_get (D := (dC, dI)) (ci := 1) (v := .int 1) (C := RX10) (T := TX10) (N := 13) hx hb hts (inX10 _) hown hK hP 0 rfl rfl 0 (by decide) (hts _ (List.mem_cons_of_mem _ wf10_45)) (fun _ h9 => h9) rfl dX10_refused_22 ?_
    refine lv_if_le (tgt := 32) hx hb dX10_refused_25 (by decide) (fun c5 => ?_) (fun c5 => ?_)
    · have hm := mr_if c5 hm
      refine lv_iconst (v := 0) hx hb dX10_refused_32 (by decide) ?_
      obtain rfl := Option.some.inj hm
      subst hQ0
      exact W.zret (v := 0) hx hb hr rfl (fun t ht hW => ⟨⟨0, 1, rfl, ⟨rfl, rfl⟩, by rw [ht]; exact hP, va_K.moved hW.alike hK, hD⟩, hS.F ht⟩) hS.2.2 dX10_refused_33
    · have hm := mr_un c5 hm
      refine lv_iconst (v := 1) hx hb dX10_refused_28 (by decide) ?_
      refine lv_goto (tgt := 33) hx hb dX10_refused_29 (by decide) ?_
      obtain rfl := Option.some.inj hm
      subst hQ0
      exact W.zret (v := 1) hx hb hr rfl (fun t ht hW => ⟨⟨1, 1, rfl, ⟨rfl, rfl⟩, by rw [ht]; exact hP, va_K.moved hW.alike hK, hD⟩, hS.F ht⟩) hS.2.2 dX10_refused_33
set_option maxHeartbeats 4000000 in
set_option maxRecDepth 100000 in
theorem kX10_within (l : Launch) (htr : l.stackTraces = false) (dC : Nat → ClassId) (dI : Nat → Nat → Nat) (adK adV : Nat → Nat) (cI cB cJ cZ cQ : ClassId) (a0 : Int32) (a1 : Int32) (a2 : Int32) (res : Int32) (hm : m_X10_within a0 a1 a2 = some res) : Met l yX10_within wsX10_within (rmX10_within 0 0) (pcR (sr_Z adK adV) (dC, dI) srCl [(cI, .int), (cB, .byte), (cJ, .long), (cZ, .boolean), (cQ, .object "SchemaReader$Schema")] [.int a0, .int a1, .int a2] []) (k2_QcV (.int res)) 0 0 (fun _ => False) := by
  refine Met.ofW (cc := cX10_within) (maxL := 3) (ret := (some .boolean)) (by decide) rfl ?_
  intro p e s m args below meth c s₁ B hml hv
  obtain ⟨rfl, hP, hK, hz0⟩ := hv
  have hx := B.exec
  have hb := B.bytes
  have hr := B.returns
  have hts := atoms_spec (ws := wsX10_within) B.pre
  have hown : s.vm.findClass RX10 = some m.cls := findClass_of_methodNamed B.named
  have hlocks := B.notSynchronized
  have hS : va_S (fun _ => False) s.heap s.heap [] := va_S.rf
  generalize hQ0 : MQ below (k2_QcV (.int res)) [.int a0, .int a1, .int a2].toArray s 0 0 (fun _ => False) = Q0
  have hl := lv_entry [.int a0, .int a1, .int a2] (n := 3) (Nat.le_of_ble_eq_true rfl)
  rw [lg_entry_eq]
  generalize (lg_sl [.int a0, .int a1, .int a2] ++ List.replicate (3 - (lg_sl [.int a0, .int a1, .int a2]).length) Slot.unset).toArray = ls at hl ⊢
  have hl : lv_has ls 3 [(0, .int a0), (1, .int a1), (2, .int a2)] := hl
  unfold m_X10_within at hm
  refine lv_iload_n hx hb dX10_within_0 rfl (lv_at hl 0 rfl) ?_
  refine lv_iload_n hx hb dX10_within_1 rfl (lv_at hl 1 rfl) ?_
  refine lv_icmp_lt (tgt := 14) hx hb dX10_within_2 (by decide) (fun c1 => ?_) (fun c1 => ?_)
  · have hm := mr_if c1 hm
    refine lv_iconst (v := 0) hx hb dX10_within_14 (by decide) ?_
    obtain rfl := Option.some.inj hm
    subst hQ0
    exact W.zret (v := 0) hx hb hr rfl (fun t ht hW => ⟨rfl, ht⟩) (fun q h => by cases h) dX10_within_15
  · have hm := mr_un c1 hm
    refine lv_iload_n hx hb dX10_within_5 rfl (lv_at hl 0 rfl) ?_
    refine lv_iload_n hx hb dX10_within_6 rfl (lv_at hl 2 rfl) ?_
    refine lv_icmp_gt (tgt := 14) hx hb dX10_within_7 (by decide) (fun c2 => ?_) (fun c2 => ?_)
    · have hm := mr_if c2 hm
      refine lv_iconst (v := 0) hx hb dX10_within_14 (by decide) ?_
      obtain rfl := Option.some.inj hm
      subst hQ0
      exact W.zret (v := 0) hx hb hr rfl (fun t ht hW => ⟨rfl, ht⟩) (fun q h => by cases h) dX10_within_15
    · have hm := mr_un c2 hm
      refine lv_iconst (v := 1) hx hb dX10_within_10 (by decide) ?_
      refine lv_goto (tgt := 15) hx hb dX10_within_11 (by decide) ?_
      obtain rfl := Option.some.inj hm
      subst hQ0
      exact W.zret (v := 1) hx hb hr rfl (fun t ht hW => ⟨rfl, ht⟩) (fun q h => by cases h) dX10_within_15
set_option maxHeartbeats 4000000 in
set_option maxRecDepth 100000 in
theorem kX10_addInt (l : Launch) (htr : l.stackTraces = false) (dC : Nat → ClassId) (dI : Nat → Nat → Nat) (adK adV : Nat → Nat) (cI cB cJ cZ cQ : ClassId) (obM mq_tape obY obA obB mq_kept mq_sizes mq_asked mq_pairs : Nat) (m_thrown : Int32) (m_taped : Int32) (m_has : Int32) (m_place : Int32) (m_many : Int32) (m_tape : Nat → Int32) (sz : Nat) (a0 : Int32) (res : (Nat → Int32) × Int32) (hm : m_X10_addInt m_tape m_taped a0 = some res) : Met l yX10_addInt wsX10_addInt (rmX10_addInt 0 0) (pcW (sr_Z adK adV) (dC, dI) srCl [(cI, .int), (cB, .byte), (cJ, .long), (cZ, .boolean), (cQ, .object "SchemaReader$Schema")] [.ref obM, .int a0] [(obM, .inr (1, [.int m_thrown, .ref mq_tape, .int m_taped, .ref obY, .ref obA, .ref obB, .int m_has, .int m_place, .ref mq_kept, .ref mq_sizes, .ref mq_asked, .ref mq_pairs, .int m_many])), (mq_tape, .inl (cB, 4096, .inl m_tape))] sz) (va_Qv (fun u' => u' = res) (pcB (dC, dI) srCl [(cI, .int), (cB, .byte), (cJ, .long), (cZ, .boolean), (cQ, .object "SchemaReader$Schema")] (fun u : (Nat → Int32) × Int32 => [(obM, .inr (1, [.int m_thrown, .ref mq_tape, .int u.2, .ref obY, .ref obA, .ref obB, .int m_has, .int m_place, .ref mq_kept, .ref mq_sizes, .ref mq_asked, .ref mq_pairs, .int m_many])), (mq_tape, .inl (cB, 4096, .inl u.1))]) (va_A [(obM, .inr (1, [.int m_thrown, .ref mq_tape, .int m_taped, .ref obY, .ref obA, .ref obB, .int m_has, .int m_place, .ref mq_kept, .ref mq_sizes, .ref mq_asked, .ref mq_pairs, .int m_many])), (mq_tape, .inl (cB, 4096, .inl m_tape))] sz)) (va_A [(obM, .inr (1, [.int m_thrown, .ref mq_tape, .int m_taped, .ref obY, .ref obA, .ref obB, .int m_has, .int m_place, .ref mq_kept, .ref mq_sizes, .ref mq_asked, .ref mq_pairs, .int m_many])), (mq_tape, .inl (cB, 4096, .inl m_tape))] sz)) 0 0 (va_A [(obM, .inr (1, [.int m_thrown, .ref mq_tape, .int m_taped, .ref obY, .ref obA, .ref obB, .int m_has, .int m_place, .ref mq_kept, .ref mq_sizes, .ref mq_asked, .ref mq_pairs, .int m_many])), (mq_tape, .inl (cB, 4096, .inl m_tape))] sz) := by
  refine Met.ofW (cc := cX10_addInt) (maxL := 3) (ret := none) (by decide) rfl ?_
  intro p e s m args below meth c s₁ B hml hv
  obtain ⟨rfl, hsz, hP, hK, hD0, hz0⟩ := hv
  have hx := B.exec
  have hb := B.bytes
  have hr := B.returns
  have hts := atoms_spec (ws := wsX10_addInt) B.pre
  have hown : s.vm.findClass RX10 = some m.cls := findClass_of_methodNamed B.named
  have hlocks := B.notSynchronized
  subst hsz
  have hD := hD0.self (sz := s.heap.size)
  generalize hAe : va_A [(obM, .inr (1, [.int m_thrown, .ref mq_tape, .int m_taped, .ref obY, .ref obA, .ref obB, .int m_has, .int m_place, .ref mq_kept, .ref mq_sizes, .ref mq_asked, .ref mq_pairs, .int m_many])), (mq_tape, .inl (cB, 4096, .inl m_tape))] s.heap.size = A at hD hz0 ⊢
  have hA : ∀ q : Nat, s.heap.size ≤ q → A q := fun q h => by rw [← hAe]; exact Or.inr h
  have hS : va_S A s.heap s.heap [] := va_S.rf
  generalize hQ0 : MQ below (va_Qv (fun u' => u' = res) (pcB (dC, dI) srCl [(cI, .int), (cB, .byte), (cJ, .long), (cZ, .boolean), (cQ, .object "SchemaReader$Schema")] (fun u : (Nat → Int32) × Int32 => [(obM, .inr (1, [.int m_thrown, .ref mq_tape, .int u.2, .ref obY, .ref obA, .ref obB, .int m_has, .int m_place, .ref mq_kept, .ref mq_sizes, .ref mq_asked, .ref mq_pairs, .int m_many])), (mq_tape, .inl (cB, 4096, .inl u.1))]) A) A) [.ref obM, .int a0].toArray s 0 0 A = Q0
  have hl := lv_entry [.ref obM, .int a0] (n := 3) (Nat.le_of_ble_eq_true rfl)
  rw [lg_entry_eq]
  generalize (lg_sl [.ref obM, .int a0] ++ List.replicate (3 - (lg_sl [.ref obM, .int a0]).length) Slot.unset).toArray = ls at hl ⊢
  have hl : lv_has ls 3 [(0, .ref obM), (1, .int a0)] := hl
  unfold m_X10_addInt at hm
  refine lv_bipush (v := 24) hx hb dX10_addInt_0 (by decide) ?_
  have j3 : ∀ (n3 : Nat) (m_tape : Nat → Int32) (m_taped : Int32) (x1 : Int32) (x2 : Int32) (H : Heap) (locs : List Loc) (ls : Array Slot), va_P (dC, dI) srCl [(obM, .inr (1, [.int m_thrown, .ref mq_tape, .int m_taped, .ref obY, .ref obA, .ref obB, .int m_has, .int m_place, .ref mq_kept, .ref mq_sizes, .ref mq_asked, .ref mq_pairs, .int m_many])), (mq_tape, .inl (cB, 4096, .inl m_tape))] H → va_D A [(obM, .inr (1, [.int m_thrown, .ref mq_tape, .int m_taped, .ref obY, .ref obA, .ref obB, .int m_has, .int m_place, .ref mq_kept, .ref mq_sizes, .ref mq_asked, .ref mq_pairs, .int m_many])), (mq_tape, .inl (cB, 4096, .inl m_tape))] → va_S A s.heap H locs → lv_has ls 3 [(0, .ref obM), (1, .int x1), (2, .int x2)] → m_X10_addInt_3 n3 m_tape m_taped x1 x2 = some res → W p l e (headSpec wsX10_addInt (rmX10_addInt 0 0)).room s m [.ref obM, .int a0].toArray below meth c H locs 0 0 Q0 (F0 m 3 ls []) := by
    intro n3
    induction n3 with
    | zero => intro m_tape m_taped x1 x2 H locs ls hP hD hS hl hm; exact nomatch (show (none : Option _) = some res from hm)
    | succ n3 ih3 =>
      intro m_tape m_taped x1 x2 H locs ls hP hD hS hl hm
      rw [m_X10_addInt_3] at hm
      refine lv_iload_n hx hb dX10_addInt_3 rfl (lv_at hl 2 rfl) ?_
      refine lv_if_lt (tgt := 36) hx hb dX10_addInt_4 (by decide) (fun c1 => ?_) (fun c1 => ?_)
      · have hm := mr_if c1 hm
        obtain rfl := Option.some.inj hm
        subst hQ0
        exact W.vret hx hb hr (fun t ht hW => ⟨⟨(m_tape, m_taped), rfl, rfl, by rw [ht]; exact hP, va_K.moved hW.alike hK, hD⟩, hS.F ht⟩) hS.2.2 dX10_addInt_36
      · have hm := mr_un c1 hm
        refine lv_aload_n hx hb dX10_addInt_7 rfl (lv_at hl 0 rfl) ?_
        refine va_get (D := (dC, dI)) (ci := 1) (v := .ref mq_tape) (C := RX10) (T := TX10) (N := 13) hx hb hts (inX10 _) hown hK hP 0 rfl rfl 1 (by decide) (hts _ (List.mem_cons_of_mem _ wf10_7)) (fun _ h9 => h9) rfl dX10_addInt_8 ?_
        refine lv_aload_n hx hb dX10_addInt_11 rfl (lv_at hl 0 rfl) ?_
        refine va_get (D := (dC, dI)) (ci := 1) (v := .int m_taped) (C := RX10) (T := TX10) (N := 13) hx hb hts (inX10 _) hown hK hP 0 rfl rfl 2 (by decide) (hts _ (List.mem_cons_of_mem _ wf10_48)) (fun _ h9 => h9) rfl dX10_addInt_12 ?_
        refine lv_iload_n hx hb dX10_addInt_15 rfl (lv_at hl 1 rfl) ?_
        refine lv_iload_n hx hb dX10_addInt_16 rfl (lv_at hl 2 rfl) ?_
        refine lv_ishr hx hb dX10_addInt_17 ?_
        refine lv_i2b hx hb dX10_addInt_18 rfl ?_
        obtain ⟨h2, hm⟩ := mr_bd hm
        refine va_bast hx hb hK hP hD hS 1 1 rfl rfl h2 dX10_addInt_19 (fun H locs hP hD hS => ?_)
        have hP : va_P (dC, dI) srCl [(obM, .inr (1, [.int m_thrown, .ref mq_tape, .int m_taped, .ref obY, .ref obA, .ref obB, .int m_has, .int m_place, .ref mq_kept, .ref mq_sizes, .ref mq_asked, .ref mq_pairs, .int m_many])), (mq_tape, .inl (cB, 4096, .inl (upd m_tape (m_taped : Int32).toNatClampNeg (vp_nar .byte (((x1 >>> (x2 &&& 31)) : Int32).toInt8.toInt32)))))] H := hP
        have hD : va_D A [(obM, .inr (1, [.int m_thrown, .ref mq_tape, .int m_taped, .ref obY, .ref obA, .ref obB, .int m_has, .int m_place, .ref mq_kept, .ref mq_sizes, .ref mq_asked, .ref mq_pairs, .int m_many])), (mq_tape, .inl (cB, 4096, .inl (upd m_tape (m_taped : Int32).toNatClampNeg (vp_nar .byte (((x1 >>> (x2 &&& 31)) : Int32).toInt8.toInt32)))))] := hD
        refine lv_aload_n hx hb dX10_addInt_20 rfl (lv_at hl 0 rfl) ?_
        refine lv_dup hx hb dX10_addInt_21 rfl ?_
        refine va_get (D := (dC, dI)) (ci := 1) (v := .int m_taped) (C := RX10) (T := TX10) (N := 13) hx hb hts (inX10 _) hown hK hP 0 rfl rfl 2 (by decide) (hts _ (List.mem_cons_of_mem _ wf10_48)) (fun _ h9 => h9) rfl dX10_addInt_22 ?_
        refine lv_iconst (v := 1) hx hb dX10_addInt_25 (by decide) ?_
        refine lv_iadd hx hb dX10_addInt_26 ?_
        refine va_put (D := (dC, dI)) (ci := 1) (v := .int (m_taped + 1)) (ty := .int) (C := RX10) (T := TX10) (N := 13) hx hb hts (inX10 _) tyX10 tyX10_ok nmX10 hown hK hP hD hS 0 rfl rfl 2 (by decide) (hts _ (List.mem_cons_of_mem _ wf10_48)) (fun _ h9 => h9) rfl (by decide +kernel) rfl rfl (Nat.le_of_ble_eq_true rfl) dX10_addInt_27 (fun H locs hP hD hS => ?_)
        have hP : va_P (dC, dI) srCl [(obM, .inr (1, [.int m_thrown, .ref mq_tape, .int (m_taped + 1), .ref obY, .ref obA, .ref obB, .int m_has, .int m_place, .ref mq_kept, .ref mq_sizes, .ref mq_asked, .ref mq_pairs, .int m_many])), (mq_tape, .inl (cB, 4096, .inl (upd m_tape (m_taped : Int32).toNatClampNeg (vp_nar .byte (((x1 >>> (x2 &&& 31)) : Int32).toInt8.toInt32)))))] H := hP
        have hD : va_D A [(obM, .inr (1, [.int m_thrown, .ref mq_tape, .int (m_taped + 1), .ref obY, .ref obA, .ref obB, .int m_has, .int m_place, .ref mq_kept, .ref mq_sizes, .ref mq_asked, .ref mq_pairs, .int m_many])), (mq_tape, .inl (cB, 4096, .inl (upd m_tape (m_taped : Int32).toNatClampNeg (vp_nar .byte (((x1 >>> (x2 &&& 31)) : Int32).toInt8.toInt32)))))] := hD
        refine lv_iinc (v := x2 + (-8)) (lv' := [(2, .int (x2 + (-8))), (0, .ref obM), (1, .int x1)]) hx hb dX10_addInt_30 hl (k := 2) rfl rfl (by decide) rfl (fun ls hl => ?_)
        refine lv_goto (tgt := 3) hx hb dX10_addInt_33 (by decide) ?_
        exact ih3 (upd m_tape (m_taped : Int32).toNatClampNeg (vp_nar .byte (((x1 >>> (x2 &&& 31)) : Int32).toInt8.toInt32))) (m_taped + 1) x1 (x2 + (-8)) _ _ ls hP hD hS (lv_sub hl [1, 2, 0] rfl) hm
  refine lv_istore_n (lv' := [(2, .int 24), (0, .ref obM), (1, .int a0)]) hx hb dX10_addInt_2 rfl hl (by decide) rfl (fun ls hl => ?_)
  exact j3 sr_fuel m_tape m_taped a0 24 _ _ ls hP hD hS (lv_sub hl [1, 2, 0] rfl) hm
set_option maxHeartbeats 4000000 in
set_option maxRecDepth 100000 in
theorem kX10_feed (l : Launch) (htr : l.stackTraces = false) (dC : Nat → ClassId) (dI : Nat → Nat → Nat) (adK adV : Nat → Nat) (cI cB cJ cZ cQ : ClassId) (obM mq_tape obY obA obB mq_kept mq_sizes mq_asked mq_pairs : Nat) (m_thrown : Int32) (m_taped : Int32) (m_has : Int32) (m_place : Int32) (m_many : Int32) (m_tape : Nat → Int32) (sz : Nat) (a0 : Int32) (a1 : Int32) (a2 : Int32) (a3 : Int32) (a4 : Int32) (res : Int32 × Int32 × (Nat → Int32) × Int32) (hm : m_X10_feed m_thrown m_tape m_taped a0 a1 a2 a3 a4 = some res) : Met l yX10_feed wsX10_feed (rmX10_feed 0 0) (pcW (sr_Z adK adV) (dC, dI) srCl [(cI, .int), (cB, .byte), (cJ, .long), (cZ, .boolean), (cQ, .object "SchemaReader$Schema")] [.ref obM, .int a0, .int a1, .int a2, .int a3, .int a4] [(obM, .inr (1, [.int m_thrown, .ref mq_tape, .int m_taped, .ref obY, .ref obA, .ref obB, .int m_has, .int m_place, .ref mq_kept, .ref mq_sizes, .ref mq_asked, .ref mq_pairs, .int m_many])), (mq_tape, .inl (cB, 4096, .inl m_tape))] sz) (va_Qi (fun r' u' => r' = res.1 ∧ u' = res.2) (pcB (dC, dI) srCl [(cI, .int), (cB, .byte), (cJ, .long), (cZ, .boolean), (cQ, .object "SchemaReader$Schema")] (fun u : Int32 × (Nat → Int32) × Int32 => [(obM, .inr (1, [.int u.1, .ref mq_tape, .int u.2.2, .ref obY, .ref obA, .ref obB, .int m_has, .int m_place, .ref mq_kept, .ref mq_sizes, .ref mq_asked, .ref mq_pairs, .int m_many])), (mq_tape, .inl (cB, 4096, .inl u.2.1))]) (va_A [(obM, .inr (1, [.int m_thrown, .ref mq_tape, .int m_taped, .ref obY, .ref obA, .ref obB, .int m_has, .int m_place, .ref mq_kept, .ref mq_sizes, .ref mq_asked, .ref mq_pairs, .int m_many])), (mq_tape, .inl (cB, 4096, .inl m_tape))] sz)) (va_A [(obM, .inr (1, [.int m_thrown, .ref mq_tape, .int m_taped, .ref obY, .ref obA, .ref obB, .int m_has, .int m_place, .ref mq_kept, .ref mq_sizes, .ref mq_asked, .ref mq_pairs, .int m_many])), (mq_tape, .inl (cB, 4096, .inl m_tape))] sz)) 0 0 (va_A [(obM, .inr (1, [.int m_thrown, .ref mq_tape, .int m_taped, .ref obY, .ref obA, .ref obB, .int m_has, .int m_place, .ref mq_kept, .ref mq_sizes, .ref mq_asked, .ref mq_pairs, .int m_many])), (mq_tape, .inl (cB, 4096, .inl m_tape))] sz) := by
  refine Met.ofW (cc := cX10_feed) (maxL := 6) (ret := (some .int)) (by decide) rfl ?_
  intro p e s m args below meth c s₁ B hml hv
  obtain ⟨rfl, hsz, hP, hK, hD0, hz0⟩ := hv
  have hx := B.exec
  have hb := B.bytes
  have hr := B.returns
  have hts := atoms_spec (ws := wsX10_feed) B.pre
  have hown : s.vm.findClass RX10 = some m.cls := findClass_of_methodNamed B.named
  have hlocks := B.notSynchronized
  subst hsz
  have hD := hD0.self (sz := s.heap.size)
  generalize hAe : va_A [(obM, .inr (1, [.int m_thrown, .ref mq_tape, .int m_taped, .ref obY, .ref obA, .ref obB, .int m_has, .int m_place, .ref mq_kept, .ref mq_sizes, .ref mq_asked, .ref mq_pairs, .int m_many])), (mq_tape, .inl (cB, 4096, .inl m_tape))] s.heap.size = A at hD hz0 ⊢
  have hA : ∀ q : Nat, s.heap.size ≤ q → A q := fun q h => by rw [← hAe]; exact Or.inr h
  have hS : va_S A s.heap s.heap [] := va_S.rf
  generalize hQ0 : MQ below (va_Qi (fun r' u' => r' = res.1 ∧ u' = res.2) (pcB (dC, dI) srCl [(cI, .int), (cB, .byte), (cJ, .long), (cZ, .boolean), (cQ, .object "SchemaReader$Schema")] (fun u : Int32 × (Nat → Int32) × Int32 => [(obM, .inr (1, [.int u.1, .ref mq_tape, .int u.2.2, .ref obY, .ref obA, .ref obB, .int m_has, .int m_place, .ref mq_kept, .ref mq_sizes, .ref mq_asked, .ref mq_pairs, .int m_many])), (mq_tape, .inl (cB, 4096, .inl u.2.1))]) A) A) [.ref obM, .int a0, .int a1, .int a2, .int a3, .int a4].toArray s 0 0 A = Q0
  have hl := lv_entry [.ref obM, .int a0, .int a1, .int a2, .int a3, .int a4] (n := 6) (Nat.le_of_ble_eq_true rfl)
  rw [lg_entry_eq]
  generalize (lg_sl [.ref obM, .int a0, .int a1, .int a2, .int a3, .int a4] ++ List.replicate (6 - (lg_sl [.ref obM, .int a0, .int a1, .int a2, .int a3, .int a4]).length) Slot.unset).toArray = ls at hl ⊢
  have hl : lv_has ls 6 [(0, .ref obM), (1, .int a0), (2, .int a1), (3, .int a2), (4, .int a3), (5, .int a4)] := hl
  unfold m_X10_feed at hm
  refine lv_aload_n hx hb dX10_feed_0 rfl (lv_at hl 0 rfl) ?_
  refine lv_aload_n hx hb dX10_feed_1 rfl (lv_at hl 0 rfl) ?_
  refine va_get (D := (dC, dI)) (ci := 1) (v := .int m_taped) (C := RX10) (T := TX10) (N := 13) hx hb hts (inX10 _) hown hK hP 0 rfl rfl 2 (by decide) (hts _ (List.mem_cons_of_mem _ wf10_48)) (fun _ h9 => h9) rfl dX10_feed_2 ?_
  refine lv_bipush (v := 20) hx hb dX10_feed_5 (by decide) ?_
  refine lv_iadd hx hb dX10_feed_7 ?_
  refine lv_sipush (v := 4096) hx hb dX10_feed_8 (by decide) ?_
  have j19 : ∀ (m_thrown : Int32) (m_tape : Nat → Int32) (m_taped : Int32) (x1 : Int32) (x2 : Int32) (x3 : Int32) (x4 : Int32) (x5 : Int32) (y0 : Int32) (H : Heap) (locs : List Loc) (ls : Array Slot), va_P (dC, dI) srCl [(obM, .inr (1, [.int m_thrown, .ref mq_tape, .int m_taped, .ref obY, .ref obA, .ref obB, .int m_has, .int m_place, .ref mq_kept, .ref mq_sizes, .ref mq_asked, .ref mq_pairs, .int m_many])), (mq_tape, .inl (cB, 4096, .inl m_tape))] H → va_D A [(obM, .inr (1, [.int m_thrown, .ref mq_tape, .int m_taped, .ref obY, .ref obA, .ref obB, .int m_has, .int m_place, .ref mq_kept, .ref mq_sizes, .ref mq_asked, .ref mq_pairs, .int m_many])), (mq_tape, .inl (cB, 4096, .inl m_tape))] → va_S A s.heap H locs → lv_has ls 6 [(0, .ref obM), (1, .int x1), (2, .int x2), (3, .int x3), (4, .int x4), (5, .int x5)] → m_X10_feed_19 m_thrown m_tape m_taped x1 x2 x3 x4 x5 y0 = some res → W p l e (headSpec wsX10_feed (rmX10_feed 0 0)).room s m [.ref obM, .int a0, .int a1, .int a2, .int a3, .int a4].toArray below meth c H locs 0 0 Q0 (F0 m 19 ls [.int y0, .ref obM]) := by
    intro m_thrown m_tape m_taped x1 x2 x3 x4 x5 y0 H locs ls hP hD hS hl hm
    unfold m_X10_feed_19 at hm
    refine lv_iconst (v := 0) hx hb dX10_feed_19 (by decide) ?_
    obtain ⟨⟨r1, m_thrown_1⟩, hz1, hm⟩ := mr_bind hm
    try dsimp only at hm
    refine mr_wVi (As := [.int y0, .int 0]) (rest := []) (sr_okZ adK adV) ⟨hx, hb, hml, hown, hts⟩ (kX10_refused l htr dC dI adK adV cI cB cJ cZ cQ obM mq_tape obY obA obB mq_kept mq_sizes mq_asked mq_pairs m_thrown m_taped m_has m_place m_many _ y0 0 _ hz1) (cwV 2 hts (g10_51 _) rfl rfl rfl (by decide +kernel) ⟨(by show 0 + 1 ≤ 1; omega), (by show 8 + (3 + 11) + (0) ≤ 22; omega)⟩) hS hA hP hD hK hz0 (wr := [(mq_tape, .inl (cB, 4096, .inl m_tape))]) (w1 := [(obM, .inr (1, [.int m_thrown_1, .ref mq_tape, .int m_taped, .ref obY, .ref obA, .ref obB, .int m_has, .int m_place, .ref mq_kept, .ref mq_sizes, .ref mq_asked, .ref mq_pairs, .int m_many])), (mq_tape, .inl (cB, 4096, .inl m_tape))]) [0] [1] [1, 0] rfl rfl rfl rfl rfl (by decide) rfl rfl rfl (va_recv hK hP (ci := 1) (q0 := 0) rfl rfl) rfl rfl hl.1 (Nat.le_of_ble_eq_true rfl) dX10_feed_20 ⟨Nat.zero_le _, Nat.zero_le _⟩ (fun H locs hP hD hS => ?_)
    refine lv_if_eq (tgt := 28) hx hb dX10_feed_23 (by decide) (fun c2 => ?_) (fun c2 => ?_)
    · have hm := mr_if c2 hm
      refine lv_aload_n hx hb dX10_feed_28 rfl (lv_at hl 0 rfl) ?_
      refine lv_iload_n hx hb dX10_feed_29 rfl (lv_at hl 1 rfl) ?_
      obtain ⟨⟨m_tape_3, m_taped_3⟩, hz3, hm⟩ := mr_bind hm
      try dsimp only at hm
      refine mr_wVv (As := [.int x1]) (rest := []) (sr_okZ adK adV) ⟨hx, hb, hml, hown, hts⟩ (kX10_addInt l htr dC dI adK adV cI cB cJ cZ cQ obM mq_tape obY obA obB mq_kept mq_sizes mq_asked mq_pairs m_thrown_1 m_taped m_has m_place m_many m_tape _ x1 _ hz3) (cwV 1 hts (g10_55 _) rfl rfl rfl (by decide +kernel) ⟨(by show 0 + 1 ≤ 1; omega), (by show 8 + (3 + 11) + (0) ≤ 22; omega)⟩) hS hA hP hD hK hz0 (wr := []) (w1 := [(obM, .inr (1, [.int m_thrown_1, .ref mq_tape, .int m_taped_3, .ref obY, .ref obA, .ref obB, .int m_has, .int m_place, .ref mq_kept, .ref mq_sizes, .ref mq_asked, .ref mq_pairs, .int m_many])), (mq_tape, .inl (cB, 4096, .inl m_tape_3))]) [0, 1] [] [0, 1] rfl rfl rfl rfl rfl (by decide) rfl rfl rfl (va_recv hK hP (ci := 1) (q0 := 0) rfl rfl) rfl rfl hl.1 (Nat.le_of_ble_eq_true rfl) dX10_feed_30 ⟨Nat.zero_le _, Nat.zero_le _⟩ (fun H locs hP hD hS => ?_)
      refine lv_aload_n hx hb dX10_feed_33 rfl (lv_at hl 0 rfl) ?_
      refine lv_iload_n hx hb dX10_feed_34 rfl (lv_at hl 2 rfl) ?_
      obtain ⟨⟨m_tape_4, m_taped_4⟩, hz4, hm⟩ := mr_bind hm
      try dsimp only at hm
      refine mr_wVv (As := [.int x2]) (rest := []) (sr_okZ adK adV) ⟨hx, hb, hml, hown, hts⟩ (kX10_addInt l htr dC dI adK adV cI cB cJ cZ cQ obM mq_tape obY obA obB mq_kept mq_sizes mq_asked mq_pairs m_thrown_1 m_taped_3 m_has m_place m_many m_tape_3 _ x2 _ hz4) (cwV 1 hts (g10_55 _) rfl rfl rfl (by decide +kernel) ⟨(by show 0 + 1 ≤ 1; omega), (by show 8 + (3 + 11) + (0) ≤ 22; omega)⟩) hS hA hP hD hK hz0 (wr := []) (w1 := [(obM, .inr (1, [.int m_thrown_1, .ref mq_tape, .int m_taped_4, .ref obY, .ref obA, .ref obB, .int m_has, .int m_place, .ref mq_kept, .ref mq_sizes, .ref mq_asked, .ref mq_pairs, .int m_many])), (mq_tape, .inl (cB, 4096, .inl m_tape_4))]) [0, 1] [] [0, 1] rfl rfl rfl rfl rfl (by decide) rfl rfl rfl (va_recv hK hP (ci := 1) (q0 := 0) rfl rfl) rfl rfl hl.1 (Nat.le_of_ble_eq_true rfl) dX10_feed_35 ⟨Nat.zero_le _, Nat.zero_le _⟩ (fun H locs hP hD hS => ?_)
      refine lv_aload_n hx hb dX10_feed_38 rfl (lv_at hl 0 rfl) ?_
      refine lv_iload_n hx hb dX10_feed_39 rfl (lv_at hl 3 rfl) ?_
      obtain ⟨⟨m_tape_5, m_taped_5⟩, hz5, hm⟩ := mr_bind hm
      try dsimp only at hm
      refine mr_wVv (As := [.int x3]) (rest := []) (sr_okZ adK adV) ⟨hx, hb, hml, hown, hts⟩ (kX10_addInt l htr dC dI adK adV cI cB cJ cZ cQ obM mq_tape obY obA obB mq_kept mq_sizes mq_asked mq_pairs m_thrown_1 m_taped_4 m_has m_place m_many m_tape_4 _ x3 _ hz5) (cwV 1 hts (g10_55 _) rfl rfl rfl (by decide +kernel) ⟨(by show 0 + 1 ≤ 1; omega), (by show 8 + (3 + 11) + (0) ≤ 22; omega)⟩) hS hA hP hD hK hz0 (wr := []) (w1 := [(obM, .inr (1, [.int m_thrown_1, .ref mq_tape, .int m_taped_5, .ref obY, .ref obA, .ref obB, .int m_has, .int m_place, .ref mq_kept, .ref mq_sizes, .ref mq_asked, .ref mq_pairs, .int m_many])), (mq_tape, .inl (cB, 4096, .inl m_tape_5))]) [0, 1] [] [0, 1] rfl rfl rfl rfl rfl (by decide) rfl rfl rfl (va_recv hK hP (ci := 1) (q0 := 0) rfl rfl) rfl rfl hl.1 (Nat.le_of_ble_eq_true rfl) dX10_feed_40 ⟨Nat.zero_le _, Nat.zero_le _⟩ (fun H locs hP hD hS => ?_)
      refine lv_aload_n hx hb dX10_feed_43 rfl (lv_at hl 0 rfl) ?_
      refine lv_iload hx hb dX10_feed_44 (lv_at hl 4 rfl) ?_
      obtain ⟨⟨m_tape_6, m_taped_6⟩, hz6, hm⟩ := mr_bind hm
      try dsimp only at hm
      refine mr_wVv (As := [.int x4]) (rest := []) (sr_okZ adK adV) ⟨hx, hb, hml, hown, hts⟩ (kX10_addInt l htr dC dI adK adV cI cB cJ cZ cQ obM mq_tape obY obA obB mq_kept mq_sizes mq_asked mq_pairs m_thrown_1 m_taped_5 m_has m_place m_many m_tape_5 _ x4 _ hz6) (cwV 1 hts (g10_55 _) rfl rfl rfl (by decide +kernel) ⟨(by show 0 + 1 ≤ 1; omega), (by show 8 + (3 + 11) + (0) ≤ 22; omega)⟩) hS hA hP hD hK hz0 (wr := []) (w1 := [(obM, .inr (1, [.int m_thrown_1, .ref mq_tape, .int m_taped_6, .ref obY, .ref obA, .ref obB, .int m_has, .int m_place, .ref mq_kept, .ref mq_sizes, .ref mq_asked, .ref mq_pairs, .int m_many])), (mq_tape, .inl (cB, 4096, .inl m_tape_6))]) [0, 1] [] [0, 1] rfl rfl rfl rfl rfl (by decide) rfl rfl rfl (va_recv hK hP (ci := 1) (q0 := 0) rfl rfl) rfl rfl hl.1 (Nat.le_of_ble_eq_true rfl) dX10_feed_46 ⟨Nat.zero_le _, Nat.zero_le _⟩ (fun H locs hP hD hS => ?_)
      refine lv_aload_n hx hb dX10_feed_49 rfl (lv_at hl 0 rfl) ?_
      refine lv_iload hx hb dX10_feed_50 (lv_at hl 5 rfl) ?_
      obtain ⟨⟨m_tape_7, m_taped_7⟩, hz7, hm⟩ := mr_bind hm
      try dsimp only at hm
      refine mr_wVv (As := [.int x5]) (rest := []) (sr_okZ adK adV) ⟨hx, hb, hml, hown, hts⟩ (kX10_addInt l htr dC dI adK adV cI cB cJ cZ cQ obM mq_tape obY obA obB mq_kept mq_sizes mq_asked mq_pairs m_thrown_1 m_taped_6 m_has m_place m_many m_tape_6 _ x5 _ hz7) (cwV 1 hts (g10_55 _) rfl rfl rfl (by decide +kernel) ⟨(by show 0 + 1 ≤ 1; omega), (by show 8 + (3 + 11) + (0) ≤ 22; omega)⟩) hS hA hP hD hK hz0 (wr := []) (w1 := [(obM, .inr (1, [.int m_thrown_1, .ref mq_tape, .int m_taped_7, .ref obY, .ref obA, .ref obB, .int m_has, .int m_place, .ref mq_kept, .ref mq_sizes, .ref mq_asked, .ref mq_pairs, .int m_many])), (mq_tape, .inl (cB, 4096, .inl m_tape_7))]) [0, 1] [] [0, 1] rfl rfl rfl rfl rfl (by decide) rfl rfl rfl (va_recv hK hP (ci := 1) (q0 := 0) rfl rfl) rfl rfl hl.1 (Nat.le_of_ble_eq_true rfl) dX10_feed_52 ⟨Nat.zero_le _, Nat.zero_le _⟩ (fun H locs hP hD hS => ?_)
      refine lv_aload_n hx hb dX10_feed_55 rfl (lv_at hl 0 rfl) ?_
      refine va_get (D := (dC, dI)) (ci := 1) (v := .int m_taped_7) (C := RX10) (T := TX10) (N := 13) hx hb hts (inX10 _) hown hK hP 0 rfl rfl 2 (by decide) (hts _ (List.mem_cons_of_mem _ wf10_48)) (fun _ h9 => h9) rfl dX10_feed_56 ?_
      obtain rfl := Option.some.inj hm
      subst hQ0
      exact W.iret (v := m_taped_7) hx hb hr (fun t ht hW => ⟨⟨m_taped_7, (m_thrown_1, m_tape_7, m_taped_7), rfl, ⟨rfl, rfl⟩, by rw [ht]; exact hP, va_K.moved hW.alike hK, hD⟩, hS.F ht⟩) hS.2.2 dX10_feed_59
    · have hm := mr_un c2 hm
      refine lv_iconst (v := 0) hx hb dX10_feed_26 (by decide) ?_
      obtain rfl := Option.some.inj hm
      subst hQ0
      exact W.iret (v := 0) hx hb hr (fun t ht hW => ⟨⟨0, (m_thrown_1, m_tape, m_taped), rfl, ⟨rfl, rfl⟩, by rw [ht]; exact hP, va_K.moved hW.alike hK, hD⟩, hS.F ht⟩) hS.2.2 dX10_feed_27
  refine lv_icmp_le (tgt := 18) hx hb dX10_feed_11 (by decide) (fun c8 => ?_) (fun c8 => ?_)
  · have hm := mr_if c8 hm
    refine lv_iconst (v := 0) hx hb dX10_feed_18 (by decide) ?_
    exact j19 m_thrown m_tape m_taped a0 a1 a2 a3 a4 0 _ _ ls hP hD hS (lv_sub hl [0, 1, 2, 3, 4, 5] rfl) hm
  · have hm := mr_un c8 hm
    refine lv_iconst (v := 1) hx hb dX10_feed_14 (by decide) ?_
    refine lv_goto (tgt := 19) hx hb dX10_feed_15 (by decide) ?_
    exact j19 m_thrown m_tape m_taped a0 a1 a2 a3 a4 1 _ _ ls hP hD hS (lv_sub hl [0, 1, 2, 3, 4, 5] rfl) hm
set_option maxHeartbeats 4000000 in
set_option maxRecDepth 100000 in
theorem kX10_end (l : Launch) (htr : l.stackTraces = false) (dC : Nat → ClassId) (dI : Nat → Nat → Nat) (adK adV : Nat → Nat) (cI cB cJ cZ cQ : ClassId) (obM mq_tape obY obA obB mq_kept mq_sizes mq_asked mq_pairs : Nat) (m_thrown : Int32) (m_taped : Int32) (m_has : Int32) (m_place : Int32) (m_many : Int32) (sz : Nat) (a0 : Int32) (res : Int32 × Int32) (hm : m_X10_end m_thrown m_taped a0 = some res) : Met l yX10_end wsX10_end (rmX10_end 0 0) (pcW (sr_Z adK adV) (dC, dI) srCl [(cI, .int), (cB, .byte), (cJ, .long), (cZ, .boolean), (cQ, .object "SchemaReader$Schema")] [.ref obM, .int a0] [(obM, .inr (1, [.int m_thrown, .ref mq_tape, .int m_taped, .ref obY, .ref obA, .ref obB, .int m_has, .int m_place, .ref mq_kept, .ref mq_sizes, .ref mq_asked, .ref mq_pairs, .int m_many]))] sz) (va_Qv (fun u' => u' = res) (pcB (dC, dI) srCl [(cI, .int), (cB, .byte), (cJ, .long), (cZ, .boolean), (cQ, .object "SchemaReader$Schema")] (fun u : Int32 × Int32 => [(obM, .inr (1, [.int u.1, .ref mq_tape, .int u.2, .ref obY, .ref obA, .ref obB, .int m_has, .int m_place, .ref mq_kept, .ref mq_sizes, .ref mq_asked, .ref mq_pairs, .int m_many]))]) (va_A [(obM, .inr (1, [.int m_thrown, .ref mq_tape, .int m_taped, .ref obY, .ref obA, .ref obB, .int m_has, .int m_place, .ref mq_kept, .ref mq_sizes, .ref mq_asked, .ref mq_pairs, .int m_many]))] sz)) (va_A [(obM, .inr (1, [.int m_thrown, .ref mq_tape, .int m_taped, .ref obY, .ref obA, .ref obB, .int m_has, .int m_place, .ref mq_kept, .ref mq_sizes, .ref mq_asked, .ref mq_pairs, .int m_many]))] sz)) 0 0 (va_A [(obM, .inr (1, [.int m_thrown, .ref mq_tape, .int m_taped, .ref obY, .ref obA, .ref obB, .int m_has, .int m_place, .ref mq_kept, .ref mq_sizes, .ref mq_asked, .ref mq_pairs, .int m_many]))] sz) := by
  refine Met.ofW (cc := cX10_end) (maxL := 2) (ret := none) (by decide) rfl ?_
  intro p e s m args below meth c s₁ B hml hv
  obtain ⟨rfl, hsz, hP, hK, hD0, hz0⟩ := hv
  have hx := B.exec
  have hb := B.bytes
  have hr := B.returns
  have hts := atoms_spec (ws := wsX10_end) B.pre
  have hown : s.vm.findClass RX10 = some m.cls := findClass_of_methodNamed B.named
  have hlocks := B.notSynchronized
  subst hsz
  have hD := hD0.self (sz := s.heap.size)
  generalize hAe : va_A [(obM, .inr (1, [.int m_thrown, .ref mq_tape, .int m_taped, .ref obY, .ref obA, .ref obB, .int m_has, .int m_place, .ref mq_kept, .ref mq_sizes, .ref mq_asked, .ref mq_pairs, .int m_many]))] s.heap.size = A at hD hz0 ⊢
  have hA : ∀ q : Nat, s.heap.size ≤ q → A q := fun q h => by rw [← hAe]; exact Or.inr h
  have hS : va_S A s.heap s.heap [] := va_S.rf
  generalize hQ0 : MQ below (va_Qv (fun u' => u' = res) (pcB (dC, dI) srCl [(cI, .int), (cB, .byte), (cJ, .long), (cZ, .boolean), (cQ, .object "SchemaReader$Schema")] (fun u : Int32 × Int32 => [(obM, .inr (1, [.int u.1, .ref mq_tape, .int u.2, .ref obY, .ref obA, .ref obB, .int m_has, .int m_place, .ref mq_kept, .ref mq_sizes, .ref mq_asked, .ref mq_pairs, .int m_many]))]) A) A) [.ref obM, .int a0].toArray s 0 0 A = Q0
  have hl := lv_entry [.ref obM, .int a0] (n := 2) (Nat.le_of_ble_eq_true rfl)
  rw [lg_entry_eq]
  generalize (lg_sl [.ref obM, .int a0] ++ List.replicate (2 - (lg_sl [.ref obM, .int a0]).length) Slot.unset).toArray = ls at hl ⊢
  have hl : lv_has ls 2 [(0, .ref obM), (1, .int a0)] := hl
  unfold m_X10_end at hm
  refine lv_aload_n hx hb dX10_end_0 rfl (lv_at hl 0 rfl) ?_
  refine lv_iload_n hx hb dX10_end_1 rfl (lv_at hl 1 rfl) ?_
  refine lv_iconst (v := 0) hx hb dX10_end_2 (by decide) ?_
  refine lv_aload_n hx hb dX10_end_3 rfl (lv_at hl 0 rfl) ?_
  refine va_get (D := (dC, dI)) (ci := 1) (v := .int m_taped) (C := RX10) (T := TX10) (N := 13) hx hb hts (inX10 _) hown hK hP 0 rfl rfl 2 (by decide) (hts _ (List.mem_cons_of_mem _ wf10_48)) (fun _ h9 => h9) rfl dX10_end_4 ?_
  obtain ⟨r1, hz1, hm⟩ := mr_bind hm
  refine mr_pS (As := [.int a0, .int 0, .int m_taped]) (rest := [.ref obM]) (sr_okZ adK adV) ⟨hx, hb, hml, hown, hts⟩ (kX10_within l htr dC dI adK adV cI cB cJ cZ cQ  a0 0 m_taped r1 hz1) (va_cwS 3 hts (g10_59 _) rfl rfl rfl (by decide +kernel) ⟨(by show 0 + 1 ≤ 1; omega), (by show 8 + (3 + 11) + (0) ≤ 22; omega)⟩) hS hP hK hz0 [] rfl rfl rfl hl.1 (Nat.le_of_ble_eq_true rfl) dX10_end_7 ⟨Nat.zero_le _, Nat.zero_le _⟩ ?_
  have j18 : ∀ (m_thrown : Int32) (m_taped : Int32) (x1 : Int32) (y0 : Int32) (H : Heap) (locs : List Loc) (ls : Array Slot), va_P (dC, dI) srCl [(obM, .inr (1, [.int m_thrown, .ref mq_tape, .int m_taped, .ref obY, .ref obA, .ref obB, .int m_has, .int m_place, .ref mq_kept, .ref mq_sizes, .ref mq_asked, .ref mq_pairs, .int m_many]))] H → va_D A [(obM, .inr (1, [.int m_thrown, .ref mq_tape, .int m_taped, .ref obY, .ref obA, .ref obB, .int m_has, .int m_place, .ref mq_kept, .ref mq_sizes, .ref mq_asked, .ref mq_pairs, .int m_many]))] → va_S A s.heap H locs → lv_has ls 2 [(0, .ref obM), (1, .int x1)] → m_X10_end_18 m_thrown m_taped x1 y0 = some res → W p l e (headSpec wsX10_end (rmX10_end 0 0)).room s m [.ref obM, .int a0].toArray below meth c H locs 0 0 Q0 (F0 m 18 ls [.int y0, .ref obM]) := by
    intro m_thrown m_taped x1 y0 H locs ls hP hD hS hl hm
    unfold m_X10_end_18 at hm
    refine lv_iconst (v := 0) hx hb dX10_end_18 (by decide) ?_
    obtain ⟨⟨r2, m_thrown_2⟩, hz2, hm⟩ := mr_bind hm
    try dsimp only at hm
    refine mr_wVi (As := [.int y0, .int 0]) (rest := []) (sr_okZ adK adV) ⟨hx, hb, hml, hown, hts⟩ (kX10_refused l htr dC dI adK adV cI cB cJ cZ cQ obM mq_tape obY obA obB mq_kept mq_sizes mq_asked mq_pairs m_thrown m_taped m_has m_place m_many _ y0 0 _ hz2) (cwV 2 hts (g10_51 _) rfl rfl rfl (by decide +kernel) ⟨(by show 0 + 1 ≤ 1; omega), (by show 8 + (3 + 11) + (0) ≤ 22; omega)⟩) hS hA hP hD hK hz0 (wr := []) (w1 := [(obM, .inr (1, [.int m_thrown_2, .ref mq_tape, .int m_taped, .ref obY, .ref obA, .ref obB, .int m_has, .int m_place, .ref mq_kept, .ref mq_sizes, .ref mq_asked, .ref mq_pairs, .int m_many]))]) [0] [] [0] rfl rfl rfl rfl rfl (by decide) rfl rfl rfl (va_recv hK hP (ci := 1) (q0 := 0) rfl rfl) rfl rfl hl.1 (Nat.le_of_ble_eq_true rfl) dX10_end_19 ⟨Nat.zero_le _, Nat.zero_le _⟩ (fun H locs hP hD hS => ?_)
    refine lv_if_ne (tgt := 30) hx hb dX10_end_22 (by decide) (fun c3 => ?_) (fun c3 => ?_)
    · have hm := mr_un c3 hm
      obtain rfl := Option.some.inj hm
      subst hQ0
      exact W.vret hx hb hr (fun t ht hW => ⟨⟨(m_thrown_2, m_taped), rfl, rfl, by rw [ht]; exact hP, va_K.moved hW.alike hK, hD⟩, hS.F ht⟩) hS.2.2 dX10_end_30
    · have hm := mr_if c3 hm
      refine lv_aload_n hx hb dX10_end_25 rfl (lv_at hl 0 rfl) ?_
      refine lv_iload_n hx hb dX10_end_26 rfl (lv_at hl 1 rfl) ?_
      refine va_put (D := (dC, dI)) (ci := 1) (v := .int x1) (ty := .int) (C := RX10) (T := TX10) (N := 13) hx hb hts (inX10 _) tyX10 tyX10_ok nmX10 hown hK hP hD hS 0 rfl rfl 2 (by decide) (hts _ (List.mem_cons_of_mem _ wf10_48)) (fun _ h9 => h9) rfl (by decide +kernel) rfl rfl (Nat.le_of_ble_eq_true rfl) dX10_end_27 (fun H locs hP hD hS => ?_)
      have hP : va_P (dC, dI) srCl [(obM, .inr (1, [.int m_thrown_2, .ref mq_tape, .int x1, .ref obY, .ref obA, .ref obB, .int m_has, .int m_place, .ref mq_kept, .ref mq_sizes, .ref mq_asked, .ref mq_pairs, .int m_many]))] H := hP
      have hD : va_D A [(obM, .inr (1, [.int m_thrown_2, .ref mq_tape, .int x1, .ref obY, .ref obA, .ref obB, .int m_has, .int m_place, .ref mq_kept, .ref mq_sizes, .ref mq_asked, .ref mq_pairs, .int m_many]))] := hD
      obtain rfl := Option.some.inj hm
      subst hQ0
      exact W.vret hx hb hr (fun t ht hW => ⟨⟨(m_thrown_2, x1), rfl, rfl, by rw [ht]; exact hP, va_K.moved hW.alike hK, hD⟩, hS.F ht⟩) hS.2.2 dX10_end_30
  refine lv_if_ne (tgt := 17) hx hb dX10_end_10 (by decide) (fun c4 => ?_) (fun c4 => ?_)
  · have hm := mr_un c4 hm
    refine lv_iconst (v := 0) hx hb dX10_end_17 (by decide) ?_
    exact j18 m_thrown m_taped a0 0 _ _ ls hP hD hS (lv_sub hl [0, 1] rfl) hm
  · have hm := mr_if c4 hm
    refine lv_iconst (v := 1) hx hb dX10_end_13 (by decide) ?_
    refine lv_goto (tgt := 18) hx hb dX10_end_14 (by decide) ?_
    exact j18 m_thrown m_taped a0 1 _ _ ls hP hD hS (lv_sub hl [0, 1] rfl) hm
set_option maxHeartbeats 4000000 in
set_option maxRecDepth 100000 in
theorem kX10_isPlace (l : Launch) (htr : l.stackTraces = false) (dC : Nat → ClassId) (dI : Nat → Nat → Nat) (adK adV : Nat → Nat) (cI cB cJ cZ cQ : ClassId) (a0 : Int32) (res : Int32) (hm : m_X10_isPlace a0 = some res) : Met l yX10_isPlace wsX10_isPlace (rmX10_isPlace 0 0) (pcR (sr_Z adK adV) (dC, dI) srCl [(cI, .int), (cB, .byte), (cJ, .long), (cZ, .boolean), (cQ, .object "SchemaReader$Schema")] [.int a0] []) (k2_QcV (.int res)) 0 0 (fun _ => False) := by
  refine Met.ofW (cc := cX10_isPlace) (maxL := 1) (ret := (some .boolean)) (by decide) rfl ?_
  intro p e s m args below meth c s₁ B hml hv
  obtain ⟨rfl, hP, hK, hz0⟩ := hv
  have hx := B.exec
  have hb := B.bytes
  have hr := B.returns
  have hts := atoms_spec (ws := wsX10_isPlace) B.pre
  have hown : s.vm.findClass RX10 = some m.cls := findClass_of_methodNamed B.named
  have hlocks := B.notSynchronized
  have hS : va_S (fun _ => False) s.heap s.heap [] := va_S.rf
  generalize hQ0 : MQ below (k2_QcV (.int res)) [.int a0].toArray s 0 0 (fun _ => False) = Q0
  have hl := lv_entry [.int a0] (n := 1) (Nat.le_of_ble_eq_true rfl)
  rw [lg_entry_eq]
  generalize (lg_sl [.int a0] ++ List.replicate (1 - (lg_sl [.int a0]).length) Slot.unset).toArray = ls at hl ⊢
  have hl : lv_has ls 1 [(0, .int a0)] := hl
  unfold m_X10_isPlace at hm
  refine lv_iload_n hx hb dX10_isPlace_0 rfl (lv_at hl 0 rfl) ?_
  refine lv_iconst (v := 0) hx hb dX10_isPlace_1 (by decide) ?_
  refine lv_bipush (v := 7) hx hb dX10_isPlace_2 (by decide) ?_
  obtain ⟨r1, hz1, hm⟩ := mr_bind hm
  refine mr_pS (As := [.int a0, .int 0, .int 7]) (rest := []) (sr_okZ adK adV) ⟨hx, hb, hml, hown, hts⟩ (kX10_within l htr dC dI adK adV cI cB cJ cZ cQ  a0 0 7 r1 hz1) (va_cwS 3 hts (g10_59 _) rfl rfl rfl (by decide +kernel) ⟨(by show 0 + 1 ≤ 1; omega), (by show 8 + (3 + 11) + (0) ≤ 22; omega)⟩) hS hP hK hz0 [] rfl rfl rfl hl.1 (Nat.le_of_ble_eq_true rfl) dX10_isPlace_4 ⟨Nat.zero_le _, Nat.zero_le _⟩ ?_
  obtain ⟨h2, hm⟩ := mr_bz hm
  obtain rfl := Option.some.inj hm
  subst hQ0
  exact W.zret (v := r1) hx hb hr h2 (fun t ht hW => ⟨rfl, ht⟩) (fun q h => by cases h) dX10_isPlace_7
set_option maxHeartbeats 4000000 in
set_option maxRecDepth 100000 in
theorem kX10_place (l : Launch) (htr : l.stackTraces = false) (dC : Nat → ClassId) (dI : Nat → Nat → Nat) (adK adV : Nat → Nat) (cI cB cJ cZ cQ : ClassId) (obM mq_tape obY obA obB mq_kept mq_sizes mq_asked mq_pairs : Nat) (m_thrown : Int32) (m_taped : Int32) (m_has : Int32) (m_place : Int32) (m_many : Int32) (sz : Nat) (res : Int32 × Int32) (hm : m_X10_place m_thrown m_place = some res) : Met l yX10_place wsX10_place (rmX10_place 0 0) (pcW (sr_Z adK adV) (dC, dI) srCl [(cI, .int), (cB, .byte), (cJ, .long), (cZ, .boolean), (cQ, .object "SchemaReader$Schema")] [.ref obM] [(obM, .inr (1, [.int m_thrown, .ref mq_tape, .int m_taped, .ref obY, .ref obA, .ref obB, .int m_has, .int m_place, .ref mq_kept, .ref mq_sizes, .ref mq_asked, .ref mq_pairs, .int m_many]))] sz) (va_Qi (fun r' u' => r' = res.1 ∧ u' = res.2) (pcB (dC, dI) srCl [(cI, .int), (cB, .byte), (cJ, .long), (cZ, .boolean), (cQ, .object "SchemaReader$Schema")] (fun u : Int32 => [(obM, .inr (1, [.int u, .ref mq_tape, .int m_taped, .ref obY, .ref obA, .ref obB, .int m_has, .int m_place, .ref mq_kept, .ref mq_sizes, .ref mq_asked, .ref mq_pairs, .int m_many]))]) (va_A [(obM, .inr (1, [.int m_thrown, .ref mq_tape, .int m_taped, .ref obY, .ref obA, .ref obB, .int m_has, .int m_place, .ref mq_kept, .ref mq_sizes, .ref mq_asked, .ref mq_pairs, .int m_many]))] sz)) (va_A [(obM, .inr (1, [.int m_thrown, .ref mq_tape, .int m_taped, .ref obY, .ref obA, .ref obB, .int m_has, .int m_place, .ref mq_kept, .ref mq_sizes, .ref mq_asked, .ref mq_pairs, .int m_many]))] sz)) 0 0 (va_A [(obM, .inr (1, [.int m_thrown, .ref mq_tape, .int m_taped, .ref obY, .ref obA, .ref obB, .int m_has, .int m_place, .ref mq_kept, .ref mq_sizes, .ref mq_asked, .ref mq_pairs, .int m_many]))] sz) := by
  refine Met.ofW (cc := cX10_place) (maxL := 1) (ret := (some .int)) (by decide) rfl ?_
  intro p e s m args below meth c s₁ B hml hv
  obtain ⟨rfl, hsz, hP, hK, hD0, hz0⟩ := hv
  have hx := B.exec
  have hb := B.bytes
  have hr := B.returns
  have hts := atoms_spec (ws := wsX10_place) B.pre
  have hown : s.vm.findClass RX10 = some m.cls := findClass_of_methodNamed B.named
  have hlocks := B.notSynchronized
  subst hsz
  have hD := hD0.self (sz := s.heap.size)
  generalize hAe : va_A [(obM, .inr (1, [.int m_thrown, .ref mq_tape, .int m_taped, .ref obY, .ref obA, .ref obB, .int m_has, .int m_place, .ref mq_kept, .ref mq_sizes, .ref mq_asked, .ref mq_pairs, .int m_many]))] s.heap.size = A at hD hz0 ⊢
  have hA : ∀ q : Nat, s.heap.size ≤ q → A q := fun q h => by rw [← hAe]; exact Or.inr h
  have hS : va_S A s.heap s.heap [] := va_S.rf
  generalize hQ0 : MQ below (va_Qi (fun r' u' => r' = res.1 ∧ u' = res.2) (pcB (dC, dI) srCl [(cI, .int), (cB, .byte), (cJ, .long), (cZ, .boolean), (cQ, .object "SchemaReader$Schema")] (fun u : Int32 => [(obM, .inr (1, [.int u, .ref mq_tape, .int m_taped, .ref obY, .ref obA, .ref obB, .int m_has, .int m_place, .ref mq_kept, .ref mq_sizes, .ref mq_asked, .ref mq_pairs, .int m_many]))]) A) A) [.ref obM].toArray s 0 0 A = Q0
  have hl := lv_entry [.ref obM] (n := 1) (Nat.le_of_ble_eq_true rfl)
  rw [lg_entry_eq]
  generalize (lg_sl [.ref obM] ++ List.replicate (1 - (lg_sl [.ref obM]).length) Slot.unset).toArray = ls at hl ⊢
  have hl : lv_has ls 1 [(0, .ref obM)] := hl
  unfold m_X10_place at hm
  refine lv_aload_n hx hb dX10_place_0 rfl (lv_at hl 0 rfl) ?_
  refine lv_iconst (v := 0) hx hb dX10_place_1 (by decide) ?_
  refine va_put (D := (dC, dI)) (ci := 1) (v := .int 0) (ty := .int) (C := RX10) (T := TX10) (N := 13) hx hb hts (inX10 _) tyX10 tyX10_ok nmX10 hown hK hP hD hS 0 rfl rfl 0 (by decide) (hts _ (List.mem_cons_of_mem _ wf10_45)) (fun _ h9 => h9) rfl (by decide +kernel) rfl rfl (Nat.le_of_ble_eq_true rfl) dX10_place_2 (fun H locs hP hD hS => ?_)
  have hP : va_P (dC, dI) srCl [(obM, .inr (1, [.int 0, .ref mq_tape, .int m_taped, .ref obY, .ref obA, .ref obB, .int m_has, .int m_place, .ref mq_kept, .ref mq_sizes, .ref mq_asked, .ref mq_pairs, .int m_many]))] H := hP
  have hD : va_D A [(obM, .inr (1, [.int 0, .ref mq_tape, .int m_taped, .ref obY, .ref obA, .ref obB, .int m_has, .int m_place, .ref mq_kept, .ref mq_sizes, .ref mq_asked, .ref mq_pairs, .int m_many]))] := hD
  refine lv_aload_n hx hb dX10_place_5 rfl (lv_at hl 0 rfl) ?_
  refine va_get (D := (dC, dI)) (ci := 1) (v := .int m_place) (C := RX10) (T := TX10) (N := 13) hx hb hts (inX10 _) hown hK hP 0 rfl rfl 7 (by decide) (hts _ (List.mem_cons_of_mem _ wf10_26)) (fun _ h9 => h9) rfl dX10_place_6 ?_
  obtain rfl := Option.some.inj hm
  subst hQ0
  exact W.iret (v := m_place) hx hb hr (fun t ht hW => ⟨⟨m_place, 0, rfl, ⟨rfl, rfl⟩, by rw [ht]; exact hP, va_K.moved hW.alike hK, hD⟩, hS.F ht⟩) hS.2.2 dX10_place_9
set_option maxHeartbeats 4000000 in
set_option maxRecDepth 100000 in
theorem kX10_size (l : Launch) (htr : l.stackTraces = false) (dC : Nat → ClassId) (dI : Nat → Nat → Nat) (adK adV : Nat → Nat) (cI cB cJ cZ cQ : ClassId) (obM mq_tape obY obA obB mq_kept mq_sizes mq_asked mq_pairs yq_bytes yq_kinds yq_firsts yq_numbers yq_sizes yq_inner yq_nexts yq_letters yq_sorts yq_names yq_wide yq_kids yq_many yq_fallback yq_kidShape yq_kidName yq_kidDefault yq_kidNext yq_finished yq_plain yq_told : Nat) (m_thrown : Int32) (m_taped : Int32) (m_has : Int32) (m_place : Int32) (m_many : Int32) (y_length : Int32) (y_at : Int32) (y_deep : Int32) (y_fault : Int32) (y_place : Int32) (y_end : Int32) (y_nodes : Int32) (y_lettered : Int32) (y_shapes : Int32) (y_looked : Int32) (y_kidCount : Int32) (y_done : Int32) (y_root : Int32) (y_plainSize : Int32) (sz : Nat) (res : Int32 × Int32) (hm : m_X10_size m_thrown m_has y_plainSize = some res) : Met l yX10_size wsX10_size (rmX10_size 0 0) (pcW (sr_Z adK adV) (dC, dI) srCl [(cI, .int), (cB, .byte), (cJ, .long), (cZ, .boolean), (cQ, .object "SchemaReader$Schema")] [.ref obM] [(obM, .inr (1, [.int m_thrown, .ref mq_tape, .int m_taped, .ref obY, .ref obA, .ref obB, .int m_has, .int m_place, .ref mq_kept, .ref mq_sizes, .ref mq_asked, .ref mq_pairs, .int m_many])), (obY, .inr (0, [.ref yq_bytes, .int y_length, .int y_at, .int y_deep, .int y_fault, .int y_place, .int y_end, .int y_nodes, .ref yq_kinds, .ref yq_firsts, .ref yq_numbers, .ref yq_sizes, .ref yq_inner, .ref yq_nexts, .ref yq_letters, .int y_lettered, .int y_shapes, .int y_looked, .ref yq_sorts, .ref yq_names, .ref yq_wide, .ref yq_kids, .ref yq_many, .ref yq_fallback, .int y_kidCount, .ref yq_kidShape, .ref yq_kidName, .ref yq_kidDefault, .ref yq_kidNext, .int y_done, .ref yq_finished, .int y_root, .ref yq_plain, .int y_plainSize, .ref yq_told]))] sz) (va_Qi (fun r' u' => r' = res.1 ∧ u' = res.2) (pcB (dC, dI) srCl [(cI, .int), (cB, .byte), (cJ, .long), (cZ, .boolean), (cQ, .object "SchemaReader$Schema")] (fun u : Int32 => [(obM, .inr (1, [.int u, .ref mq_tape, .int m_taped, .ref obY, .ref obA, .ref obB, .int m_has, .int m_place, .ref mq_kept, .ref mq_sizes, .ref mq_asked, .ref mq_pairs, .int m_many])), (obY, .inr (0, [.ref yq_bytes, .int y_length, .int y_at, .int y_deep, .int y_fault, .int y_place, .int y_end, .int y_nodes, .ref yq_kinds, .ref yq_firsts, .ref yq_numbers, .ref yq_sizes, .ref yq_inner, .ref yq_nexts, .ref yq_letters, .int y_lettered, .int y_shapes, .int y_looked, .ref yq_sorts, .ref yq_names, .ref yq_wide, .ref yq_kids, .ref yq_many, .ref yq_fallback, .int y_kidCount, .ref yq_kidShape, .ref yq_kidName, .ref yq_kidDefault, .ref yq_kidNext, .int y_done, .ref yq_finished, .int y_root, .ref yq_plain, .int y_plainSize, .ref yq_told]))]) (va_A [(obM, .inr (1, [.int m_thrown, .ref mq_tape, .int m_taped, .ref obY, .ref obA, .ref obB, .int m_has, .int m_place, .ref mq_kept, .ref mq_sizes, .ref mq_asked, .ref mq_pairs, .int m_many])), (obY, .inr (0, [.ref yq_bytes, .int y_length, .int y_at, .int y_deep, .int y_fault, .int y_place, .int y_end, .int y_nodes, .ref yq_kinds, .ref yq_firsts, .ref yq_numbers, .ref yq_sizes, .ref yq_inner, .ref yq_nexts, .ref yq_letters, .int y_lettered, .int y_shapes, .int y_looked, .ref yq_sorts, .ref yq_names, .ref yq_wide, .ref yq_kids, .ref yq_many, .ref yq_fallback, .int y_kidCount, .ref yq_kidShape, .ref yq_kidName, .ref yq_kidDefault, .ref yq_kidNext, .int y_done, .ref yq_finished, .int y_root, .ref yq_plain, .int y_plainSize, .ref yq_told]))] sz)) (va_A [(obM, .inr (1, [.int m_thrown, .ref mq_tape, .int m_taped, .ref obY, .ref obA, .ref obB, .int m_has, .int m_place, .ref mq_kept, .ref mq_sizes, .ref mq_asked, .ref mq_pairs, .int m_many])), (obY, .inr (0, [.ref yq_bytes, .int y_length, .int y_at, .int y_deep, .int y_fault, .int y_place, .int y_end, .int y_nodes, .ref yq_kinds, .ref yq_firsts, .ref yq_numbers, .ref yq_sizes, .ref yq_inner, .ref yq_nexts, .ref yq_letters, .int y_lettered, .int y_shapes, .int y_looked, .ref yq_sorts, .ref yq_names, .ref yq_wide, .ref yq_kids, .ref yq_many, .ref yq_fallback, .int y_kidCount, .ref yq_kidShape, .ref yq_kidName, .ref yq_kidDefault, .ref yq_kidNext, .int y_done, .ref yq_finished, .int y_root, .ref yq_plain, .int y_plainSize, .ref yq_told]))] sz)) 0 0 (va_A [(obM, .inr (1, [.int m_thrown, .ref mq_tape, .int m_taped, .ref obY, .ref obA, .ref obB, .int m_has, .int m_place, .ref mq_kept, .ref mq_sizes, .ref mq_asked, .ref mq_pairs, .int m_many])), (obY, .inr (0, [.ref yq_bytes, .int y_length, .int y_at, .int y_deep, .int y_fault, .int y_place, .int y_end, .int y_nodes, .ref yq_kinds, .ref yq_firsts, .ref yq_numbers, .ref yq_sizes, .ref yq_inner, .ref yq_nexts, .ref yq_letters, .int y_lettered, .int y_shapes, .int y_looked, .ref yq_sorts, .ref yq_names, .ref yq_wide, .ref yq_kids, .ref yq_many, .ref yq_fallback, .int y_kidCount, .ref yq_kidShape, .ref yq_kidName, .ref yq_kidDefault, .ref yq_kidNext, .int y_done, .ref yq_finished, .int y_root, .ref yq_plain, .int y_plainSize, .ref yq_told]))] sz) := by
  refine Met.ofW (cc := cX10_size) (maxL := 1) (ret := (some .int)) (by decide) rfl ?_
  intro p e s m args below meth c s₁ B hml hv
  obtain ⟨rfl, hsz, hP, hK, hD0, hz0⟩ := hv
  have hx := B.exec
  have hb := B.bytes
  have hr := B.returns
  have hts := atoms_spec (ws := wsX10_size) B.pre
  have hown : s.vm.findClass RX10 = some m.cls := findClass_of_methodNamed B.named
  have hlocks := B.notSynchronized
  subst hsz
  have hD := hD0.self (sz := s.heap.size)
  generalize hAe : va_A [(obM, .inr (1, [.int m_thrown, .ref mq_tape, .int m_taped, .ref obY, .ref obA, .ref obB, .int m_has, .int m_place, .ref mq_kept, .ref mq_sizes, .ref mq_asked, .ref mq_pairs, .int m_many])), (obY, .inr (0, [.ref yq_bytes, .int y_length, .int y_at, .int y_deep, .int y_fault, .int y_place, .int y_end, .int y_nodes, .ref yq_kinds, .ref yq_firsts, .ref yq_numbers, .ref yq_sizes, .ref yq_inner, .ref yq_nexts, .ref yq_letters, .int y_lettered, .int y_shapes, .int y_looked, .ref yq_sorts, .ref yq_names, .ref yq_wide, .ref yq_kids, .ref yq_many, .ref yq_fallback, .int y_kidCount, .ref yq_kidShape, .ref yq_kidName, .ref yq_kidDefault, .ref yq_kidNext, .int y_done, .ref yq_finished, .int y_root, .ref yq_plain, .int y_plainSize, .ref yq_told]))] s.heap.size = A at hD hz0 ⊢
  have hA : ∀ q : Nat, s.heap.size ≤ q → A q := fun q h => by rw [← hAe]; exact Or.inr h
  have hS : va_S A s.heap s.heap [] := va_S.rf
  generalize hQ0 : MQ below (va_Qi (fun r' u' => r' = res.1 ∧ u' = res.2) (pcB (dC, dI) srCl [(cI, .int), (cB, .byte), (cJ, .long), (cZ, .boolean), (cQ, .object "SchemaReader$Schema")] (fun u : Int32 => [(obM, .inr (1, [.int u, .ref mq_tape, .int m_taped, .ref obY, .ref obA, .ref obB, .int m_has, .int m_place, .ref mq_kept, .ref mq_sizes, .ref mq_asked, .ref mq_pairs, .int m_many])), (obY, .inr (0, [.ref yq_bytes, .int y_length, .int y_at, .int y_deep, .int y_fault, .int y_place, .int y_end, .int y_nodes, .ref yq_kinds, .ref yq_firsts, .ref yq_numbers, .ref yq_sizes, .ref yq_inner, .ref yq_nexts, .ref yq_letters, .int y_lettered, .int y_shapes, .int y_looked, .ref yq_sorts, .ref yq_names, .ref yq_wide, .ref yq_kids, .ref yq_many, .ref yq_fallback, .int y_kidCount, .ref yq_kidShape, .ref yq_kidName, .ref yq_kidDefault, .ref yq_kidNext, .int y_done, .ref yq_finished, .int y_root, .ref yq_plain, .int y_plainSize, .ref yq_told]))]) A) A) [.ref obM].toArray s 0 0 A = Q0
  have hl := lv_entry [.ref obM] (n := 1) (Nat.le_of_ble_eq_true rfl)
  rw [lg_entry_eq]
  generalize (lg_sl [.ref obM] ++ List.replicate (1 - (lg_sl [.ref obM]).length) Slot.unset).toArray = ls at hl ⊢
  have hl : lv_has ls 1 [(0, .ref obM)] := hl
  unfold m_X10_size at hm
  refine lv_aload_n hx hb dX10_size_0 rfl (lv_at hl 0 rfl) ?_
  refine lv_iconst (v := 0) hx hb dX10_size_1 (by decide) ?_
  refine va_put (D := (dC, dI)) (ci := 1) (v := .int 0) (ty := .int) (C := RX10) (T := TX10) (N := 13) hx hb hts (inX10 _) tyX10 tyX10_ok nmX10 hown hK hP hD hS 0 rfl rfl 0 (by decide) (hts _ (List.mem_cons_of_mem _ wf10_45)) (fun _ h9 => h9) rfl (by decide +kernel) rfl rfl (Nat.le_of_ble_eq_true rfl) dX10_size_2 (fun H locs hP hD hS => ?_)
  have hP : va_P (dC, dI) srCl [(obM, .inr (1, [.int 0, .ref mq_tape, .int m_taped, .ref obY, .ref obA, .ref obB, .int m_has, .int m_place, .ref mq_kept, .ref mq_sizes, .ref mq_asked, .ref mq_pairs, .int m_many])), (obY, .inr (0, [.ref yq_bytes, .int y_length, .int y_at, .int y_deep, .int y_fault, .int y_place, .int y_end, .int y_nodes, .ref yq_kinds, .ref yq_firsts, .ref yq_numbers, .ref yq_sizes, .ref yq_inner, .ref yq_nexts, .ref yq_letters, .int y_lettered, .int y_shapes, .int y_looked, .ref yq_sorts, .ref yq_names, .ref yq_wide, .ref yq_kids, .ref yq_many, .ref yq_fallback, .int y_kidCount, .ref yq_kidShape, .ref yq_kidName, .ref yq_kidDefault, .ref yq_kidNext, .int y_done, .ref yq_finished, .int y_root, .ref yq_plain, .int y_plainSize, .ref yq_told]))] H := hP
  have hD : va_D A [(obM, .inr (1, [.int 0, .ref mq_tape, .int m_taped, .ref obY, .ref obA, .ref obB, .int m_has, .int m_place, .ref mq_kept, .ref mq_sizes, .ref mq_asked, .ref mq_pairs, .int m_many])), (obY, .inr (0, [.ref yq_bytes, .int y_length, .int y_at, .int y_deep, .int y_fault, .int y_place, .int y_end, .int y_nodes, .ref yq_kinds, .ref yq_firsts, .ref yq_numbers, .ref yq_sizes, .ref yq_inner, .ref yq_nexts, .ref yq_letters, .int y_lettered, .int y_shapes, .int y_looked, .ref yq_sorts, .ref yq_names, .ref yq_wide, .ref yq_kids, .ref yq_many, .ref yq_fallback, .int y_kidCount, .ref yq_kidShape, .ref yq_kidName, .ref yq_kidDefault, .ref yq_kidNext, .int y_done, .ref yq_finished, .int y_root, .ref yq_plain, .int y_plainSize, .ref yq_told]))] := hD
  refine lv_aload_n hx hb dX10_size_5 rfl (lv_at hl 0 rfl) ?_
  refine va_get (D := (dC, dI)) (ci := 1) (v := .int m_has) (C := RX10) (T := TX10) (N := 13) hx hb hts (inX10 _) hown hK hP 0 rfl rfl 6 (by decide) (hts _ (List.mem_cons_of_mem _ wf10_67)) (fun _ h9 => h9) rfl dX10_size_6 ?_
  refine lv_if_eq (tgt := 22) hx hb dX10_size_9 (by decide) (fun c1 => ?_) (fun c1 => ?_)
  · have hm := mr_if c1 hm
    refine lv_iconst (v := 0) hx hb dX10_size_22 (by decide) ?_
    obtain rfl := Option.some.inj hm
    subst hQ0
    exact W.iret (v := 0) hx hb hr (fun t ht hW => ⟨⟨0, 0, rfl, ⟨rfl, rfl⟩, by rw [ht]; exact hP, va_K.moved hW.alike hK, hD⟩, hS.F ht⟩) hS.2.2 dX10_size_23
  · have hm := mr_un c1 hm
    refine lv_aload_n hx hb dX10_size_12 rfl (lv_at hl 0 rfl) ?_
    refine va_get (D := (dC, dI)) (ci := 1) (v := .ref obY) (C := RX10) (T := TX10) (N := 13) hx hb hts (inX10 _) hown hK hP 0 rfl rfl 3 (by decide) (hts _ (List.mem_cons_of_mem _ wf10_16)) (fun _ h9 => h9) rfl dX10_size_13 ?_
    refine va_getN (D := (dC, dI)) (ci := 0) (v := .int y_plainSize) (C := RX9) (T := TX9) (N := 35) hx hb hts (inX9 _) hown hK hP 1 rfl rfl 33 (by decide) (va_Nw.use rfl (hz0.2.2.2.2.2.2.1 _ wf10_72)) (fun _ h9 => h9) rfl dX10_size_16 ?_
    refine lv_goto (tgt := 23) hx hb dX10_size_19 (by decide) ?_
    obtain rfl := Option.some.inj hm
    subst hQ0
    exact W.iret (v := y_plainSize) hx hb hr (fun t ht hW => ⟨⟨y_plainSize, 0, rfl, ⟨rfl, rfl⟩, by rw [ht]; exact hP, va_K.moved hW.alike hK, hD⟩, hS.F ht⟩) hS.2.2 dX10_size_23
set_option maxHeartbeats 4000000 in
set_option maxRecDepth 100000 in
theorem kX10_letter (l : Launch) (htr : l.stackTraces = false) (dC : Nat → ClassId) (dI : Nat → Nat → Nat) (adK adV : Nat → Nat) (cI cB cJ cZ cQ : ClassId) (obM mq_tape obY obA obB mq_kept mq_sizes mq_asked mq_pairs yq_bytes yq_kinds yq_firsts yq_numbers yq_sizes yq_inner yq_nexts yq_letters yq_sorts yq_names yq_wide yq_kids yq_many yq_fallback yq_kidShape yq_kidName yq_kidDefault yq_kidNext yq_finished yq_plain yq_told : Nat) (m_thrown : Int32) (m_taped : Int32) (m_has : Int32) (m_place : Int32) (m_many : Int32) (y_length : Int32) (y_at : Int32) (y_deep : Int32) (y_fault : Int32) (y_place : Int32) (y_end : Int32) (y_nodes : Int32) (y_lettered : Int32) (y_shapes : Int32) (y_looked : Int32) (y_kidCount : Int32) (y_done : Int32) (y_root : Int32) (y_plainSize : Int32) (y_plain : Nat → Int32) (sz : Nat) (a0 : Int32) (res : Int32 × Int32) (hm : m_X10_letter m_thrown m_has y_plain y_plainSize a0 = some res) : Met l yX10_letter wsX10_letter (rmX10_letter 0 0) (pcW (sr_Z adK adV) (dC, dI) srCl [(cI, .int), (cB, .byte), (cJ, .long), (cZ, .boolean), (cQ, .object "SchemaReader$Schema")] [.ref obM, .int a0] [(obM, .inr (1, [.int m_thrown, .ref mq_tape, .int m_taped, .ref obY, .ref obA, .ref obB, .int m_has, .int m_place, .ref mq_kept, .ref mq_sizes, .ref mq_asked, .ref mq_pairs, .int m_many])), (obY, .inr (0, [.ref yq_bytes, .int y_length, .int y_at, .int y_deep, .int y_fault, .int y_place, .int y_end, .int y_nodes, .ref yq_kinds, .ref yq_firsts, .ref yq_numbers, .ref yq_sizes, .ref yq_inner, .ref yq_nexts, .ref yq_letters, .int y_lettered, .int y_shapes, .int y_looked, .ref yq_sorts, .ref yq_names, .ref yq_wide, .ref yq_kids, .ref yq_many, .ref yq_fallback, .int y_kidCount, .ref yq_kidShape, .ref yq_kidName, .ref yq_kidDefault, .ref yq_kidNext, .int y_done, .ref yq_finished, .int y_root, .ref yq_plain, .int y_plainSize, .ref yq_told])), (yq_plain, .inl (cB, 4200, .inl y_plain))] sz) (va_Qi (fun r' u' => r' = res.1 ∧ u' = res.2) (pcB (dC, dI) srCl [(cI, .int), (cB, .byte), (cJ, .long), (cZ, .boolean), (cQ, .object "SchemaReader$Schema")] (fun u : Int32 => [(obM, .inr (1, [.int u, .ref mq_tape, .int m_taped, .ref obY, .ref obA, .ref obB, .int m_has, .int m_place, .ref mq_kept, .ref mq_sizes, .ref mq_asked, .ref mq_pairs, .int m_many])), (obY, .inr (0, [.ref yq_bytes, .int y_length, .int y_at, .int y_deep, .int y_fault, .int y_place, .int y_end, .int y_nodes, .ref yq_kinds, .ref yq_firsts, .ref yq_numbers, .ref yq_sizes, .ref yq_inner, .ref yq_nexts, .ref yq_letters, .int y_lettered, .int y_shapes, .int y_looked, .ref yq_sorts, .ref yq_names, .ref yq_wide, .ref yq_kids, .ref yq_many, .ref yq_fallback, .int y_kidCount, .ref yq_kidShape, .ref yq_kidName, .ref yq_kidDefault, .ref yq_kidNext, .int y_done, .ref yq_finished, .int y_root, .ref yq_plain, .int y_plainSize, .ref yq_told])), (yq_plain, .inl (cB, 4200, .inl y_plain))]) (va_A [(obM, .inr (1, [.int m_thrown, .ref mq_tape, .int m_taped, .ref obY, .ref obA, .ref obB, .int m_has, .int m_place, .ref mq_kept, .ref mq_sizes, .ref mq_asked, .ref mq_pairs, .int m_many])), (obY, .inr (0, [.ref yq_bytes, .int y_length, .int y_at, .int y_deep, .int y_fault, .int y_place, .int y_end, .int y_nodes, .ref yq_kinds, .ref yq_firsts, .ref yq_numbers, .ref yq_sizes, .ref yq_inner, .ref yq_nexts, .ref yq_letters, .int y_lettered, .int y_shapes, .int y_looked, .ref yq_sorts, .ref yq_names, .ref yq_wide, .ref yq_kids, .ref yq_many, .ref yq_fallback, .int y_kidCount, .ref yq_kidShape, .ref yq_kidName, .ref yq_kidDefault, .ref yq_kidNext, .int y_done, .ref yq_finished, .int y_root, .ref yq_plain, .int y_plainSize, .ref yq_told])), (yq_plain, .inl (cB, 4200, .inl y_plain))] sz)) (va_A [(obM, .inr (1, [.int m_thrown, .ref mq_tape, .int m_taped, .ref obY, .ref obA, .ref obB, .int m_has, .int m_place, .ref mq_kept, .ref mq_sizes, .ref mq_asked, .ref mq_pairs, .int m_many])), (obY, .inr (0, [.ref yq_bytes, .int y_length, .int y_at, .int y_deep, .int y_fault, .int y_place, .int y_end, .int y_nodes, .ref yq_kinds, .ref yq_firsts, .ref yq_numbers, .ref yq_sizes, .ref yq_inner, .ref yq_nexts, .ref yq_letters, .int y_lettered, .int y_shapes, .int y_looked, .ref yq_sorts, .ref yq_names, .ref yq_wide, .ref yq_kids, .ref yq_many, .ref yq_fallback, .int y_kidCount, .ref yq_kidShape, .ref yq_kidName, .ref yq_kidDefault, .ref yq_kidNext, .int y_done, .ref yq_finished, .int y_root, .ref yq_plain, .int y_plainSize, .ref yq_told])), (yq_plain, .inl (cB, 4200, .inl y_plain))] sz)) 0 0 (va_A [(obM, .inr (1, [.int m_thrown, .ref mq_tape, .int m_taped, .ref obY, .ref obA, .ref obB, .int m_has, .int m_place, .ref mq_kept, .ref mq_sizes, .ref mq_asked, .ref mq_pairs, .int m_many])), (obY, .inr (0, [.ref yq_bytes, .int y_length, .int y_at, .int y_deep, .int y_fault, .int y_place, .int y_end, .int y_nodes, .ref yq_kinds, .ref yq_firsts, .ref yq_numbers, .ref yq_sizes, .ref yq_inner, .ref yq_nexts, .ref yq_letters, .int y_lettered, .int y_shapes, .int y_looked, .ref yq_sorts, .ref yq_names, .ref yq_wide, .ref yq_kids, .ref yq_many, .ref yq_fallback, .int y_kidCount, .ref yq_kidShape, .ref yq_kidName, .ref yq_kidDefault, .ref yq_kidNext, .int y_done, .ref yq_finished, .int y_root, .ref yq_plain, .int y_plainSize, .ref yq_told])), (yq_plain, .inl (cB, 4200, .inl y_plain))] sz) := by
  refine Met.ofW (cc := cX10_letter) (maxL := 2) (ret := (some .int)) (by decide) rfl ?_
  intro p e s m args below meth c s₁ B hml hv
  obtain ⟨rfl, hsz, hP, hK, hD0, hz0⟩ := hv
  have hx := B.exec
  have hb := B.bytes
  have hr := B.returns
  have hts := atoms_spec (ws := wsX10_letter) B.pre
  have hown : s.vm.findClass RX10 = some m.cls := findClass_of_methodNamed B.named
  have hlocks := B.notSynchronized
  subst hsz
  have hD := hD0.self (sz := s.heap.size)
  generalize hAe : va_A [(obM, .inr (1, [.int m_thrown, .ref mq_tape, .int m_taped, .ref obY, .ref obA, .ref obB, .int m_has, .int m_place, .ref mq_kept, .ref mq_sizes, .ref mq_asked, .ref mq_pairs, .int m_many])), (obY, .inr (0, [.ref yq_bytes, .int y_length, .int y_at, .int y_deep, .int y_fault, .int y_place, .int y_end, .int y_nodes, .ref yq_kinds, .ref yq_firsts, .ref yq_numbers, .ref yq_sizes, .ref yq_inner, .ref yq_nexts, .ref yq_letters, .int y_lettered, .int y_shapes, .int y_looked, .ref yq_sorts, .ref yq_names, .ref yq_wide, .ref yq_kids, .ref yq_many, .ref yq_fallback, .int y_kidCount, .ref yq_kidShape, .ref yq_kidName, .ref yq_kidDefault, .ref yq_kidNext, .int y_done, .ref yq_finished, .int y_root, .ref yq_plain, .int y_plainSize, .ref yq_told])), (yq_plain, .inl (cB, 4200, .inl y_plain))] s.heap.size = A at hD hz0 ⊢
  have hA : ∀ q : Nat, s.heap.size ≤ q → A q := fun q h => by rw [← hAe]; exact Or.inr h
  have hS : va_S A s.heap s.heap [] := va_S.rf
  generalize hQ0 : MQ below (va_Qi (fun r' u' => r' = res.1 ∧ u' = res.2) (pcB (dC, dI) srCl [(cI, .int), (cB, .byte), (cJ, .long), (cZ, .boolean), (cQ, .object "SchemaReader$Schema")] (fun u : Int32 => [(obM, .inr (1, [.int u, .ref mq_tape, .int m_taped, .ref obY, .ref obA, .ref obB, .int m_has, .int m_place, .ref mq_kept, .ref mq_sizes, .ref mq_asked, .ref mq_pairs, .int m_many])), (obY, .inr (0, [.ref yq_bytes, .int y_length, .int y_at, .int y_deep, .int y_fault, .int y_place, .int y_end, .int y_nodes, .ref yq_kinds, .ref yq_firsts, .ref yq_numbers, .ref yq_sizes, .ref yq_inner, .ref yq_nexts, .ref yq_letters, .int y_lettered, .int y_shapes, .int y_looked, .ref yq_sorts, .ref yq_names, .ref yq_wide, .ref yq_kids, .ref yq_many, .ref yq_fallback, .int y_kidCount, .ref yq_kidShape, .ref yq_kidName, .ref yq_kidDefault, .ref yq_kidNext, .int y_done, .ref yq_finished, .int y_root, .ref yq_plain, .int y_plainSize, .ref yq_told])), (yq_plain, .inl (cB, 4200, .inl y_plain))]) A) A) [.ref obM, .int a0].toArray s 0 0 A = Q0
  have hl := lv_entry [.ref obM, .int a0] (n := 2) (Nat.le_of_ble_eq_true rfl)
  rw [lg_entry_eq]
  generalize (lg_sl [.ref obM, .int a0] ++ List.replicate (2 - (lg_sl [.ref obM, .int a0]).length) Slot.unset).toArray = ls at hl ⊢
  have hl : lv_has ls 2 [(0, .ref obM), (1, .int a0)] := hl
  unfold m_X10_letter at hm
  refine lv_aload_n hx hb dX10_letter_0 rfl (lv_at hl 0 rfl) ?_
  refine lv_aload_n hx hb dX10_letter_1 rfl (lv_at hl 0 rfl) ?_
  refine va_get (D := (dC, dI)) (ci := 1) (v := .int m_has) (C := RX10) (T := TX10) (N := 13) hx hb hts (inX10 _) hown hK hP 0 rfl rfl 6 (by decide) (hts _ (List.mem_cons_of_mem _ wf10_67)) (fun _ h9 => h9) rfl dX10_letter_2 ?_
  have j30 : ∀ (m_thrown : Int32) (x1 : Int32) (y0 : Int32) (H : Heap) (locs : List Loc) (ls : Array Slot), va_P (dC, dI) srCl [(obM, .inr (1, [.int m_thrown, .ref mq_tape, .int m_taped, .ref obY, .ref obA, .ref obB, .int m_has, .int m_place, .ref mq_kept, .ref mq_sizes, .ref mq_asked, .ref mq_pairs, .int m_many])), (obY, .inr (0, [.ref yq_bytes, .int y_length, .int y_at, .int y_deep, .int y_fault, .int y_place, .int y_end, .int y_nodes, .ref yq_kinds, .ref yq_firsts, .ref yq_numbers, .ref yq_sizes, .ref yq_inner, .ref yq_nexts, .ref yq_letters, .int y_lettered, .int y_shapes, .int y_looked, .ref yq_sorts, .ref yq_names, .ref yq_wide, .ref yq_kids, .ref yq_many, .ref yq_fallback, .int y_kidCount, .ref yq_kidShape, .ref yq_kidName, .ref yq_kidDefault, .ref yq_kidNext, .int y_done, .ref yq_finished, .int y_root, .ref yq_plain, .int y_plainSize, .ref yq_told])), (yq_plain, .inl (cB, 4200, .inl y_plain))] H → va_D A [(obM, .inr (1, [.int m_thrown, .ref mq_tape, .int m_taped, .ref obY, .ref obA, .ref obB, .int m_has, .int m_place, .ref mq_kept, .ref mq_sizes, .ref mq_asked, .ref mq_pairs, .int m_many])), (obY, .inr (0, [.ref yq_bytes, .int y_length, .int y_at, .int y_deep, .int y_fault, .int y_place, .int y_end, .int y_nodes, .ref yq_kinds, .ref yq_firsts, .ref yq_numbers, .ref yq_sizes, .ref yq_inner, .ref yq_nexts, .ref yq_letters, .int y_lettered, .int y_shapes, .int y_looked, .ref yq_sorts, .ref yq_names, .ref yq_wide, .ref yq_kids, .ref yq_many, .ref yq_fallback, .int y_kidCount, .ref yq_kidShape, .ref yq_kidName, .ref yq_kidDefault, .ref yq_kidNext, .int y_done, .ref yq_finished, .int y_root, .ref yq_plain, .int y_plainSize, .ref yq_told])), (yq_plain, .inl (cB, 4200, .inl y_plain))] → va_S A s.heap H locs → lv_has ls 2 [(0, .ref obM), (1, .int x1)] → m_X10_letter_30 m_has y_plain y_plainSize m_thrown x1 y0 = some res → W p l e (headSpec wsX10_letter (rmX10_letter 0 0)).room s m [.ref obM, .int a0].toArray below meth c H locs 0 0 Q0 (F0 m 30 ls [.int y0, .ref obM]) := by
    intro m_thrown x1 y0 H locs ls hP hD hS hl hm
    unfold m_X10_letter_30 at hm
    refine lv_iconst (v := 0) hx hb dX10_letter_30 (by decide) ?_
    obtain ⟨⟨r1, m_thrown_1⟩, hz1, hm⟩ := mr_bind hm
    try dsimp only at hm
    refine mr_wVi (As := [.int y0, .int 0]) (rest := []) (sr_okZ adK adV) ⟨hx, hb, hml, hown, hts⟩ (kX10_refused l htr dC dI adK adV cI cB cJ cZ cQ obM mq_tape obY obA obB mq_kept mq_sizes mq_asked mq_pairs m_thrown m_taped m_has m_place m_many _ y0 0 _ hz1) (cwV 2 hts (g10_51 _) rfl rfl rfl (by decide +kernel) ⟨(by show 0 + 1 ≤ 1; omega), (by show 8 + (3 + 11) + (0) ≤ 22; omega)⟩) hS hA hP hD hK hz0 (wr := [(obY, .inr (0, [.ref yq_bytes, .int y_length, .int y_at, .int y_deep, .int y_fault, .int y_place, .int y_end, .int y_nodes, .ref yq_kinds, .ref yq_firsts, .ref yq_numbers, .ref yq_sizes, .ref yq_inner, .ref yq_nexts, .ref yq_letters, .int y_lettered, .int y_shapes, .int y_looked, .ref yq_sorts, .ref yq_names, .ref yq_wide, .ref yq_kids, .ref yq_many, .ref yq_fallback, .int y_kidCount, .ref yq_kidShape, .ref yq_kidName, .ref yq_kidDefault, .ref yq_kidNext, .int y_done, .ref yq_finished, .int y_root, .ref yq_plain, .int y_plainSize, .ref yq_told])), (yq_plain, .inl (cB, 4200, .inl y_plain))]) (w1 := [(obM, .inr (1, [.int m_thrown_1, .ref mq_tape, .int m_taped, .ref obY, .ref obA, .ref obB, .int m_has, .int m_place, .ref mq_kept, .ref mq_sizes, .ref mq_asked, .ref mq_pairs, .int m_many])), (obY, .inr (0, [.ref yq_bytes, .int y_length, .int y_at, .int y_deep, .int y_fault, .int y_place, .int y_end, .int y_nodes, .ref yq_kinds, .ref yq_firsts, .ref yq_numbers, .ref yq_sizes, .ref yq_inner, .ref yq_nexts, .ref yq_letters, .int y_lettered, .int y_shapes, .int y_looked, .ref yq_sorts, .ref yq_names, .ref yq_wide, .ref yq_kids, .ref yq_many, .ref yq_fallback, .int y_kidCount, .ref yq_kidShape, .ref yq_kidName, .ref yq_kidDefault, .ref yq_kidNext, .int y_done, .ref yq_finished, .int y_root, .ref yq_plain, .int y_plainSize, .ref yq_told])), (yq_plain, .inl (cB, 4200, .inl y_plain))]) [0] [1, 2] [2, 0, 1] rfl rfl rfl rfl rfl (by decide) rfl rfl rfl (va_recv hK hP (ci := 1) (q0 := 0) rfl rfl) rfl rfl hl.1 (Nat.le_of_ble_eq_true rfl) dX10_letter_31 ⟨Nat.zero_le _, Nat.zero_le _⟩ (fun H locs hP hD hS => ?_)
    refine lv_if_eq (tgt := 41) hx hb dX10_letter_34 (by decide) (fun c2 => ?_) (fun c2 => ?_)
    · have hm := mr_if c2 hm
      refine lv_aload_n hx hb dX10_letter_41 rfl (lv_at hl 0 rfl) ?_
      refine va_get (D := (dC, dI)) (ci := 1) (v := .ref obY) (C := RX10) (T := TX10) (N := 13) hx hb hts (inX10 _) hown hK hP 0 rfl rfl 3 (by decide) (hts _ (List.mem_cons_of_mem _ wf10_16)) (fun _ h9 => h9) rfl dX10_letter_42 ?_
      refine va_getN (D := (dC, dI)) (ci := 0) (v := .ref yq_plain) (C := RX9) (T := TX9) (N := 35) hx hb hts (inX9 _) hown hK hP 1 rfl rfl 32 (by decide) (va_Nw.use rfl (hz0.2.2.2.2.2.2.1 _ wf10_75)) (fun _ h9 => h9) rfl dX10_letter_45 ?_
      refine lv_iload_n hx hb dX10_letter_48 rfl (lv_at hl 1 rfl) ?_
      obtain ⟨h3, hm⟩ := mr_bd hm
      refine va_bald hx hb hK hP 2 1 rfl rfl h3 dX10_letter_49 ?_
      refine lv_sipush (v := 255) hx hb dX10_letter_50 (by decide) ?_
      refine lv_iand hx hb dX10_letter_53 ?_
      obtain rfl := Option.some.inj hm
      subst hQ0
      exact W.iret (v := ((y_plain (x1 : Int32).toNatClampNeg) &&& 255)) hx hb hr (fun t ht hW => ⟨⟨((y_plain (x1 : Int32).toNatClampNeg) &&& 255), m_thrown_1, rfl, ⟨rfl, rfl⟩, by rw [ht]; exact hP, va_K.moved hW.alike hK, hD⟩, hS.F ht⟩) hS.2.2 dX10_letter_54
    · have hm := mr_un c2 hm
      refine lv_iconst (v := 0) hx hb dX10_letter_37 (by decide) ?_
      refine lv_goto (tgt := 54) hx hb dX10_letter_38 (by decide) ?_
      obtain rfl := Option.some.inj hm
      subst hQ0
      exact W.iret (v := 0) hx hb hr (fun t ht hW => ⟨⟨0, m_thrown_1, rfl, ⟨rfl, rfl⟩, by rw [ht]; exact hP, va_K.moved hW.alike hK, hD⟩, hS.F ht⟩) hS.2.2 dX10_letter_54
  have j25 : ∀ (m_thrown : Int32) (x1 : Int32) (H : Heap) (locs : List Loc) (ls : Array Slot), va_P (dC, dI) srCl [(obM, .inr (1, [.int m_thrown, .ref mq_tape, .int m_taped, .ref obY, .ref obA, .ref obB, .int m_has, .int m_place, .ref mq_kept, .ref mq_sizes, .ref mq_asked, .ref mq_pairs, .int m_many])), (obY, .inr (0, [.ref yq_bytes, .int y_length, .int y_at, .int y_deep, .int y_fault, .int y_place, .int y_end, .int y_nodes, .ref yq_kinds, .ref yq_firsts, .ref yq_numbers, .ref yq_sizes, .ref yq_inner, .ref yq_nexts, .ref yq_letters, .int y_lettered, .int y_shapes, .int y_looked, .ref yq_sorts, .ref yq_names, .ref yq_wide, .ref yq_kids, .ref yq_many, .ref yq_fallback, .int y_kidCount, .ref yq_kidShape, .ref yq_kidName, .ref yq_kidDefault, .ref yq_kidNext, .int y_done, .ref yq_finished, .int y_root, .ref yq_plain, .int y_plainSize, .ref yq_told])), (yq_plain, .inl (cB, 4200, .inl y_plain))] H → va_D A [(obM, .inr (1, [.int m_thrown, .ref mq_tape, .int m_taped, .ref obY, .ref obA, .ref obB, .int m_has, .int m_place, .ref mq_kept, .ref mq_sizes, .ref mq_asked, .ref mq_pairs, .int m_many])), (obY, .inr (0, [.ref yq_bytes, .int y_length, .int y_at, .int y_deep, .int y_fault, .int y_place, .int y_end, .int y_nodes, .ref yq_kinds, .ref yq_firsts, .ref yq_numbers, .ref yq_sizes, .ref yq_inner, .ref yq_nexts, .ref yq_letters, .int y_lettered, .int y_shapes, .int y_looked, .ref yq_sorts, .ref yq_names, .ref yq_wide, .ref yq_kids, .ref yq_many, .ref yq_fallback, .int y_kidCount, .ref yq_kidShape, .ref yq_kidName, .ref yq_kidDefault, .ref yq_kidNext, .int y_done, .ref yq_finished, .int y_root, .ref yq_plain, .int y_plainSize, .ref yq_told])), (yq_plain, .inl (cB, 4200, .inl y_plain))] → va_S A s.heap H locs → lv_has ls 2 [(0, .ref obM), (1, .int x1)] → m_X10_letter_25 m_has y_plain y_plainSize m_thrown x1 = some res → W p l e (headSpec wsX10_letter (rmX10_letter 0 0)).room s m [.ref obM, .int a0].toArray below meth c H locs 0 0 Q0 (F0 m 25 ls [.ref obM]) := by
    intro m_thrown x1 H locs ls hP hD hS hl hm
    unfold m_X10_letter_25 at hm
    refine lv_iconst (v := 1) hx hb dX10_letter_25 (by decide) ?_
    refine lv_goto (tgt := 30) hx hb dX10_letter_26 (by decide) ?_
    exact j30 m_thrown x1 1 _ _ ls hP hD hS (lv_sub hl [0, 1] rfl) hm
  refine lv_if_eq (tgt := 25) hx hb dX10_letter_5 (by decide) (fun c4 => ?_) (fun c4 => ?_)
  · have hm := mr_if c4 hm
    exact j25 m_thrown a0 _ _ ls hP hD hS (lv_sub hl [0, 1] rfl) hm
  · have hm := mr_un c4 hm
    refine lv_iload_n hx hb dX10_letter_8 rfl (lv_at hl 1 rfl) ?_
    refine lv_iconst (v := 0) hx hb dX10_letter_9 (by decide) ?_
    refine lv_aload_n hx hb dX10_letter_10 rfl (lv_at hl 0 rfl) ?_
    refine va_get (D := (dC, dI)) (ci := 1) (v := .ref obY) (C := RX10) (T := TX10) (N := 13) hx hb hts (inX10 _) hown hK hP 0 rfl rfl 3 (by decide) (hts _ (List.mem_cons_of_mem _ wf10_16)) (fun _ h9 => h9) rfl dX10_letter_11 ?_
    refine va_getN (D := (dC, dI)) (ci := 0) (v := .int y_plainSize) (C := RX9) (T := TX9) (N := 35) hx hb hts (inX9 _) hown hK hP 1 rfl rfl 33 (by decide) (va_Nw.use rfl (hz0.2.2.2.2.2.2.1 _ wf10_72)) (fun _ h9 => h9) rfl dX10_letter_14 ?_
    refine lv_iconst (v := 1) hx hb dX10_letter_17 (by decide) ?_
    refine lv_isub hx hb dX10_letter_18 ?_
    obtain ⟨r5, hz5, hm⟩ := mr_bind hm
    refine mr_pS (As := [.int a0, .int 0, .int (y_plainSize - 1)]) (rest := [.ref obM]) (sr_okZ adK adV) ⟨hx, hb, hml, hown, hts⟩ (kX10_within l htr dC dI adK adV cI cB cJ cZ cQ  a0 0 (y_plainSize - 1) r5 hz5) (va_cwS 3 hts (g10_59 _) rfl rfl rfl (by decide +kernel) ⟨(by show 0 + 1 ≤ 1; omega), (by show 8 + (3 + 11) + (0) ≤ 22; omega)⟩) hS hP hK hz0 [] rfl rfl rfl hl.1 (Nat.le_of_ble_eq_true rfl) dX10_letter_19 ⟨Nat.zero_le _, Nat.zero_le _⟩ ?_
    refine lv_if_ne (tgt := 29) hx hb dX10_letter_22 (by decide) (fun c6 => ?_) (fun c6 => ?_)
    · have hm := mr_un c6 hm
      refine lv_iconst (v := 0) hx hb dX10_letter_29 (by decide) ?_
      exact j30 m_thrown a0 0 _ _ ls hP hD hS (lv_sub hl [0, 1] rfl) hm
    · have hm := mr_if c6 hm
      exact j25 m_thrown a0 _ _ ls hP hD hS (lv_sub hl [0, 1] rfl) hm
set_option maxHeartbeats 4000000 in
set_option maxRecDepth 100000 in
theorem kX10_print (l : Launch) (htr : l.stackTraces = false) (dC : Nat → ClassId) (dI : Nat → Nat → Nat) (adK adV : Nat → Nat) (cI cB cJ cZ cQ : ClassId) (obM mq_tape obY obA obB mq_kept mq_sizes mq_asked mq_pairs yq_bytes yq_kinds yq_firsts yq_numbers yq_sizes yq_inner yq_nexts yq_letters yq_sorts yq_names yq_wide yq_kids yq_many yq_fallback yq_kidShape yq_kidName yq_kidDefault yq_kidNext yq_finished yq_plain yq_told : Nat) (m_thrown : Int32) (m_taped : Int32) (m_has : Int32) (m_place : Int32) (m_many : Int32) (y_length : Int32) (y_at : Int32) (y_deep : Int32) (y_fault : Int32) (y_place : Int32) (y_end : Int32) (y_nodes : Int32) (y_lettered : Int32) (y_shapes : Int32) (y_looked : Int32) (y_kidCount : Int32) (y_done : Int32) (y_root : Int32) (y_plainSize : Int32) (y_plain : Nat → Int32) (sz : Nat) (res : Int64 × Int32) (hm : m_X10_print m_thrown m_has y_plain y_plainSize = some res) : Met l yX10_print wsX10_print (rmX10_print 0 0) (pcW (sr_Z adK adV) (dC, dI) srCl [(cI, .int), (cB, .byte), (cJ, .long), (cZ, .boolean), (cQ, .object "SchemaReader$Schema")] [.ref obM] [(obM, .inr (1, [.int m_thrown, .ref mq_tape, .int m_taped, .ref obY, .ref obA, .ref obB, .int m_has, .int m_place, .ref mq_kept, .ref mq_sizes, .ref mq_asked, .ref mq_pairs, .int m_many])), (obY, .inr (0, [.ref yq_bytes, .int y_length, .int y_at, .int y_deep, .int y_fault, .int y_place, .int y_end, .int y_nodes, .ref yq_kinds, .ref yq_firsts, .ref yq_numbers, .ref yq_sizes, .ref yq_inner, .ref yq_nexts, .ref yq_letters, .int y_lettered, .int y_shapes, .int y_looked, .ref yq_sorts, .ref yq_names, .ref yq_wide, .ref yq_kids, .ref yq_many, .ref yq_fallback, .int y_kidCount, .ref yq_kidShape, .ref yq_kidName, .ref yq_kidDefault, .ref yq_kidNext, .int y_done, .ref yq_finished, .int y_root, .ref yq_plain, .int y_plainSize, .ref yq_told])), (yq_plain, .inl (cB, 4200, .inl y_plain))] sz) (va_Ql (fun r' u' => r' = res.1 ∧ u' = res.2) (pcB (dC, dI) srCl [(cI, .int), (cB, .byte), (cJ, .long), (cZ, .boolean), (cQ, .object "SchemaReader$Schema")] (fun u : Int32 => [(obM, .inr (1, [.int u, .ref mq_tape, .int m_taped, .ref obY, .ref obA, .ref obB, .int m_has, .int m_place, .ref mq_kept, .ref mq_sizes, .ref mq_asked, .ref mq_pairs, .int m_many])), (obY, .inr (0, [.ref yq_bytes, .int y_length, .int y_at, .int y_deep, .int y_fault, .int y_place, .int y_end, .int y_nodes, .ref yq_kinds, .ref yq_firsts, .ref yq_numbers, .ref yq_sizes, .ref yq_inner, .ref yq_nexts, .ref yq_letters, .int y_lettered, .int y_shapes, .int y_looked, .ref yq_sorts, .ref yq_names, .ref yq_wide, .ref yq_kids, .ref yq_many, .ref yq_fallback, .int y_kidCount, .ref yq_kidShape, .ref yq_kidName, .ref yq_kidDefault, .ref yq_kidNext, .int y_done, .ref yq_finished, .int y_root, .ref yq_plain, .int y_plainSize, .ref yq_told])), (yq_plain, .inl (cB, 4200, .inl y_plain))]) (va_A [(obM, .inr (1, [.int m_thrown, .ref mq_tape, .int m_taped, .ref obY, .ref obA, .ref obB, .int m_has, .int m_place, .ref mq_kept, .ref mq_sizes, .ref mq_asked, .ref mq_pairs, .int m_many])), (obY, .inr (0, [.ref yq_bytes, .int y_length, .int y_at, .int y_deep, .int y_fault, .int y_place, .int y_end, .int y_nodes, .ref yq_kinds, .ref yq_firsts, .ref yq_numbers, .ref yq_sizes, .ref yq_inner, .ref yq_nexts, .ref yq_letters, .int y_lettered, .int y_shapes, .int y_looked, .ref yq_sorts, .ref yq_names, .ref yq_wide, .ref yq_kids, .ref yq_many, .ref yq_fallback, .int y_kidCount, .ref yq_kidShape, .ref yq_kidName, .ref yq_kidDefault, .ref yq_kidNext, .int y_done, .ref yq_finished, .int y_root, .ref yq_plain, .int y_plainSize, .ref yq_told])), (yq_plain, .inl (cB, 4200, .inl y_plain))] sz)) (va_A [(obM, .inr (1, [.int m_thrown, .ref mq_tape, .int m_taped, .ref obY, .ref obA, .ref obB, .int m_has, .int m_place, .ref mq_kept, .ref mq_sizes, .ref mq_asked, .ref mq_pairs, .int m_many])), (obY, .inr (0, [.ref yq_bytes, .int y_length, .int y_at, .int y_deep, .int y_fault, .int y_place, .int y_end, .int y_nodes, .ref yq_kinds, .ref yq_firsts, .ref yq_numbers, .ref yq_sizes, .ref yq_inner, .ref yq_nexts, .ref yq_letters, .int y_lettered, .int y_shapes, .int y_looked, .ref yq_sorts, .ref yq_names, .ref yq_wide, .ref yq_kids, .ref yq_many, .ref yq_fallback, .int y_kidCount, .ref yq_kidShape, .ref yq_kidName, .ref yq_kidDefault, .ref yq_kidNext, .int y_done, .ref yq_finished, .int y_root, .ref yq_plain, .int y_plainSize, .ref yq_told])), (yq_plain, .inl (cB, 4200, .inl y_plain))] sz)) 0 0 (va_A [(obM, .inr (1, [.int m_thrown, .ref mq_tape, .int m_taped, .ref obY, .ref obA, .ref obB, .int m_has, .int m_place, .ref mq_kept, .ref mq_sizes, .ref mq_asked, .ref mq_pairs, .int m_many])), (obY, .inr (0, [.ref yq_bytes, .int y_length, .int y_at, .int y_deep, .int y_fault, .int y_place, .int y_end, .int y_nodes, .ref yq_kinds, .ref yq_firsts, .ref yq_numbers, .ref yq_sizes, .ref yq_inner, .ref yq_nexts, .ref yq_letters, .int y_lettered, .int y_shapes, .int y_looked, .ref yq_sorts, .ref yq_names, .ref yq_wide, .ref yq_kids, .ref yq_many, .ref yq_fallback, .int y_kidCount, .ref yq_kidShape, .ref yq_kidName, .ref yq_kidDefault, .ref yq_kidNext, .int y_done, .ref yq_finished, .int y_root, .ref yq_plain, .int y_plainSize, .ref yq_told])), (yq_plain, .inl (cB, 4200, .inl y_plain))] sz) := by
  refine Met.ofW (cc := cX10_print) (maxL := 1) (ret := (some .long)) (by decide) rfl ?_
  intro p e s m args below meth c s₁ B hml hv
  obtain ⟨rfl, hsz, hP, hK, hD0, hz0⟩ := hv
  have hx := B.exec
  have hb := B.bytes
  have hr := B.returns
  have hts := atoms_spec (ws := wsX10_print) B.pre
  have hown : s.vm.findClass RX10 = some m.cls := findClass_of_methodNamed B.named
  have hlocks := B.notSynchronized
  subst hsz
  have hD := hD0.self (sz := s.heap.size)
  generalize hAe : va_A [(obM, .inr (1, [.int m_thrown, .ref mq_tape, .int m_taped, .ref obY, .ref obA, .ref obB, .int m_has, .int m_place, .ref mq_kept, .ref mq_sizes, .ref mq_asked, .ref mq_pairs, .int m_many])), (obY, .inr (0, [.ref yq_bytes, .int y_length, .int y_at, .int y_deep, .int y_fault, .int y_place, .int y_end, .int y_nodes, .ref yq_kinds, .ref yq_firsts, .ref yq_numbers, .ref yq_sizes, .ref yq_inner, .ref yq_nexts, .ref yq_letters, .int y_lettered, .int y_shapes, .int y_looked, .ref yq_sorts, .ref yq_names, .ref yq_wide, .ref yq_kids, .ref yq_many, .ref yq_fallback, .int y_kidCount, .ref yq_kidShape, .ref yq_kidName, .ref yq_kidDefault, .ref yq_kidNext, .int y_done, .ref yq_finished, .int y_root, .ref yq_plain, .int y_plainSize, .ref yq_told])), (yq_plain, .inl (cB, 4200, .inl y_plain))] s.heap.size = A at hD hz0 ⊢
  have hA : ∀ q : Nat, s.heap.size ≤ q → A q := fun q h => by rw [← hAe]; exact Or.inr h
  have hS : va_S A s.heap s.heap [] := va_S.rf
  generalize hQ0 : MQ below (va_Ql (fun r' u' => r' = res.1 ∧ u' = res.2) (pcB (dC, dI) srCl [(cI, .int), (cB, .byte), (cJ, .long), (cZ, .boolean), (cQ, .object "SchemaReader$Schema")] (fun u : Int32 => [(obM, .inr (1, [.int u, .ref mq_tape, .int m_taped, .ref obY, .ref obA, .ref obB, .int m_has, .int m_place, .ref mq_kept, .ref mq_sizes, .ref mq_asked, .ref mq_pairs, .int m_many])), (obY, .inr (0, [.ref yq_bytes, .int y_length, .int y_at, .int y_deep, .int y_fault, .int y_place, .int y_end, .int y_nodes, .ref yq_kinds, .ref yq_firsts, .ref yq_numbers, .ref yq_sizes, .ref yq_inner, .ref yq_nexts, .ref yq_letters, .int y_lettered, .int y_shapes, .int y_looked, .ref yq_sorts, .ref yq_names, .ref yq_wide, .ref yq_kids, .ref yq_many, .ref yq_fallback, .int y_kidCount, .ref yq_kidShape, .ref yq_kidName, .ref yq_kidDefault, .ref yq_kidNext, .int y_done, .ref yq_finished, .int y_root, .ref yq_plain, .int y_plainSize, .ref yq_told])), (yq_plain, .inl (cB, 4200, .inl y_plain))]) A) A) [.ref obM].toArray s 0 0 A = Q0
  have hl := lv_entry [.ref obM] (n := 1) (Nat.le_of_ble_eq_true rfl)
  rw [lg_entry_eq]
  generalize (lg_sl [.ref obM] ++ List.replicate (1 - (lg_sl [.ref obM]).length) Slot.unset).toArray = ls at hl ⊢
  have hl : lv_has ls 1 [(0, .ref obM)] := hl
  unfold m_X10_print at hm
  refine lv_aload_n hx hb dX10_print_0 rfl (lv_at hl 0 rfl) ?_
  refine lv_iconst (v := 0) hx hb dX10_print_1 (by decide) ?_
  refine va_put (D := (dC, dI)) (ci := 1) (v := .int 0) (ty := .int) (C := RX10) (T := TX10) (N := 13) hx hb hts (inX10 _) tyX10 tyX10_ok nmX10 hown hK hP hD hS 0 rfl rfl 0 (by decide) (hts _ (List.mem_cons_of_mem _ wf10_45)) (fun _ h9 => h9) rfl (by decide +kernel) rfl rfl (Nat.le_of_ble_eq_true rfl) dX10_print_2 (fun H locs hP hD hS => ?_)
  have hP : va_P (dC, dI) srCl [(obM, .inr (1, [.int 0, .ref mq_tape, .int m_taped, .ref obY, .ref obA, .ref obB, .int m_has, .int m_place, .ref mq_kept, .ref mq_sizes, .ref mq_asked, .ref mq_pairs, .int m_many])), (obY, .inr (0, [.ref yq_bytes, .int y_length, .int y_at, .int y_deep, .int y_fault, .int y_place, .int y_end, .int y_nodes, .ref yq_kinds, .ref yq_firsts, .ref yq_numbers, .ref yq_sizes, .ref yq_inner, .ref yq_nexts, .ref yq_letters, .int y_lettered, .int y_shapes, .int y_looked, .ref yq_sorts, .ref yq_names, .ref yq_wide, .ref yq_kids, .ref yq_many, .ref yq_fallback, .int y_kidCount, .ref yq_kidShape, .ref yq_kidName, .ref yq_kidDefault, .ref yq_kidNext, .int y_done, .ref yq_finished, .int y_root, .ref yq_plain, .int y_plainSize, .ref yq_told])), (yq_plain, .inl (cB, 4200, .inl y_plain))] H := hP
  have hD : va_D A [(obM, .inr (1, [.int 0, .ref mq_tape, .int m_taped, .ref obY, .ref obA, .ref obB, .int m_has, .int m_place, .ref mq_kept, .ref mq_sizes, .ref mq_asked, .ref mq_pairs, .int m_many])), (obY, .inr (0, [.ref yq_bytes, .int y_length, .int y_at, .int y_deep, .int y_fault, .int y_place, .int y_end, .int y_nodes, .ref yq_kinds, .ref yq_firsts, .ref yq_numbers, .ref yq_sizes, .ref yq_inner, .ref yq_nexts, .ref yq_letters, .int y_lettered, .int y_shapes, .int y_looked, .ref yq_sorts, .ref yq_names, .ref yq_wide, .ref yq_kids, .ref yq_many, .ref yq_fallback, .int y_kidCount, .ref yq_kidShape, .ref yq_kidName, .ref yq_kidDefault, .ref yq_kidNext, .int y_done, .ref yq_finished, .int y_root, .ref yq_plain, .int y_plainSize, .ref yq_told])), (yq_plain, .inl (cB, 4200, .inl y_plain))] := hD
  refine lv_aload_n hx hb dX10_print_5 rfl (lv_at hl 0 rfl) ?_
  refine va_get (D := (dC, dI)) (ci := 1) (v := .int m_has) (C := RX10) (T := TX10) (N := 13) hx hb hts (inX10 _) hown hK hP 0 rfl rfl 6 (by decide) (hts _ (List.mem_cons_of_mem _ wf10_67)) (fun _ h9 => h9) rfl dX10_print_6 ?_
  refine lv_if_eq (tgt := 22) hx hb dX10_print_9 (by decide) (fun c1 => ?_) (fun c1 => ?_)
  · have hm := mr_if c1 hm
    refine lv_lconst (v := 0) hx hb dX10_print_22 (by decide) ?_
    obtain rfl := Option.some.inj hm
    subst hQ0
    exact W.lret (v := 0) hx hb hr (fun t ht hW => ⟨⟨0, 0, rfl, ⟨rfl, rfl⟩, by rw [ht]; exact hP, va_K.moved hW.alike hK, hD⟩, hS.F ht⟩) hS.2.2 dX10_print_23
  · have hm := mr_un c1 hm
    refine lv_aload_n hx hb dX10_print_12 rfl (lv_at hl 0 rfl) ?_
    refine va_get (D := (dC, dI)) (ci := 1) (v := .ref obY) (C := RX10) (T := TX10) (N := 13) hx hb hts (inX10 _) hown hK hP 0 rfl rfl 3 (by decide) (hts _ (List.mem_cons_of_mem _ wf10_16)) (fun _ h9 => h9) rfl dX10_print_13 ?_
    obtain ⟨r2, hz2, hm⟩ := mr_bind hm
    refine mr_pV (As := []) (rest := []) (sr_okZ adK adV) ⟨hx, hb, hml, hown, hts⟩ (kX9_print l htr dC dI adK adV cI cB cJ cZ cQ obY yq_bytes yq_kinds yq_firsts yq_numbers yq_sizes yq_inner yq_nexts yq_letters yq_sorts yq_names yq_wide yq_kids yq_many yq_fallback yq_kidShape yq_kidName yq_kidDefault yq_kidNext yq_finished yq_plain yq_told y_length y_at y_deep y_fault y_place y_end y_nodes y_lettered y_shapes y_looked y_kidCount y_done y_root y_plainSize y_plain r2 hz2) (cwV 0 hts (g10_78 _) rfl rfl rfl (by decide +kernel) ⟨(by show 0 + 1 ≤ 1; omega), (by show 8 + (7 + 11) + (0) ≤ 26; omega)⟩) hS hP hK hz0 [1, 2] rfl (va_recv hK hP (ci := 0) (q0 := 1) rfl rfl) rfl rfl hl.1 (Nat.le_of_ble_eq_true rfl) dX10_print_16 ⟨Nat.zero_le _, Nat.zero_le _⟩ ?_
    refine lv_goto (tgt := 23) hx hb dX10_print_19 (by decide) ?_
    obtain rfl := Option.some.inj hm
    subst hQ0
    exact W.lret (v := r2) hx hb hr (fun t ht hW => ⟨⟨r2, 0, rfl, ⟨rfl, rfl⟩, by rw [ht]; exact hP, va_K.moved hW.alike hK, hD⟩, hS.F ht⟩) hS.2.2 dX10_print_23
set_option maxHeartbeats 4000000 in
set_option maxRecDepth 100000 in
theorem kX10_keep (l : Launch) (htr : l.stackTraces = false) (dC : Nat → ClassId) (dI : Nat → Nat → Nat) (adK adV : Nat → Nat) (cI cB cJ cZ cQ : ClassId) (obM mq_tape obY obA obB mq_kept mq_sizes mq_asked mq_pairs yq_bytes yq_kinds yq_firsts yq_numbers yq_sizes yq_inner yq_nexts yq_letters yq_sorts yq_names yq_wide yq_kids yq_many yq_fallback yq_kidShape yq_kidName yq_kidDefault yq_kidNext yq_finished yq_plain yq_told : Nat) (m_thrown : Int32) (m_taped : Int32) (m_has : Int32) (m_place : Int32) (m_many : Int32) (y_length : Int32) (y_at : Int32) (y_deep : Int32) (y_fault : Int32) (y_place : Int32) (y_end : Int32) (y_nodes : Int32) (y_lettered : Int32) (y_shapes : Int32) (y_looked : Int32) (y_kidCount : Int32) (y_done : Int32) (y_root : Int32) (y_plainSize : Int32) (m_kept : Nat → Int32) (m_sizes : Nat → Int32) (y_bytes : Nat → Int32) (sz : Nat) (a0 : Int32) (res : Int32 × Int32 × Int32 × (Nat → Int32) × (Nat → Int32)) (hm : m_X10_keep m_thrown m_has m_kept m_sizes y_bytes y_length a0 = some res) : Met l yX10_keep wsX10_keep (rmX10_keep 0 0) (pcW (sr_Z adK adV) (dC, dI) srCl [(cI, .int), (cB, .byte), (cJ, .long), (cZ, .boolean), (cQ, .object "SchemaReader$Schema")] [.ref obM, .int a0] [(obM, .inr (1, [.int m_thrown, .ref mq_tape, .int m_taped, .ref obY, .ref obA, .ref obB, .int m_has, .int m_place, .ref mq_kept, .ref mq_sizes, .ref mq_asked, .ref mq_pairs, .int m_many])), (mq_kept, .inl (cB, 32768, .inl m_kept)), (mq_sizes, .inl (cI, 8, .inl m_sizes)), (obY, .inr (0, [.ref yq_bytes, .int y_length, .int y_at, .int y_deep, .int y_fault, .int y_place, .int y_end, .int y_nodes, .ref yq_kinds, .ref yq_firsts, .ref yq_numbers, .ref yq_sizes, .ref yq_inner, .ref yq_nexts, .ref yq_letters, .int y_lettered, .int y_shapes, .int y_looked, .ref yq_sorts, .ref yq_names, .ref yq_wide, .ref yq_kids, .ref yq_many, .ref yq_fallback, .int y_kidCount, .ref yq_kidShape, .ref yq_kidName, .ref yq_kidDefault, .ref yq_kidNext, .int y_done, .ref yq_finished, .int y_root, .ref yq_plain, .int y_plainSize, .ref yq_told])), (yq_bytes, .inl (cB, 4096, .inl y_bytes))] sz) (va_Qi (fun r' u' => r' = res.1 ∧ u' = res.2) (pcB (dC, dI) srCl [(cI, .int), (cB, .byte), (cJ, .long), (cZ, .boolean), (cQ, .object "SchemaReader$Schema")] (fun u : Int32 × Int32 × (Nat → Int32) × (Nat → Int32) => [(obM, .inr (1, [.int u.1, .ref mq_tape, .int m_taped, .ref obY, .ref obA, .ref obB, .int u.2.1, .int m_place, .ref mq_kept, .ref mq_sizes, .ref mq_asked, .ref mq_pairs, .int m_many])), (mq_kept, .inl (cB, 32768, .inl u.2.2.1)), (mq_sizes, .inl (cI, 8, .inl u.2.2.2)), (obY, .inr (0, [.ref yq_bytes, .int y_length, .int y_at, .int y_deep, .int y_fault, .int y_place, .int y_end, .int y_nodes, .ref yq_kinds, .ref yq_firsts, .ref yq_numbers, .ref yq_sizes, .ref yq_inner, .ref yq_nexts, .ref yq_letters, .int y_lettered, .int y_shapes, .int y_looked, .ref yq_sorts, .ref yq_names, .ref yq_wide, .ref yq_kids, .ref yq_many, .ref yq_fallback, .int y_kidCount, .ref yq_kidShape, .ref yq_kidName, .ref yq_kidDefault, .ref yq_kidNext, .int y_done, .ref yq_finished, .int y_root, .ref yq_plain, .int y_plainSize, .ref yq_told])), (yq_bytes, .inl (cB, 4096, .inl y_bytes))]) (va_A [(obM, .inr (1, [.int m_thrown, .ref mq_tape, .int m_taped, .ref obY, .ref obA, .ref obB, .int m_has, .int m_place, .ref mq_kept, .ref mq_sizes, .ref mq_asked, .ref mq_pairs, .int m_many])), (mq_kept, .inl (cB, 32768, .inl m_kept)), (mq_sizes, .inl (cI, 8, .inl m_sizes)), (obY, .inr (0, [.ref yq_bytes, .int y_length, .int y_at, .int y_deep, .int y_fault, .int y_place, .int y_end, .int y_nodes, .ref yq_kinds, .ref yq_firsts, .ref yq_numbers, .ref yq_sizes, .ref yq_inner, .ref yq_nexts, .ref yq_letters, .int y_lettered, .int y_shapes, .int y_looked, .ref yq_sorts, .ref yq_names, .ref yq_wide, .ref yq_kids, .ref yq_many, .ref yq_fallback, .int y_kidCount, .ref yq_kidShape, .ref yq_kidName, .ref yq_kidDefault, .ref yq_kidNext, .int y_done, .ref yq_finished, .int y_root, .ref yq_plain, .int y_plainSize, .ref yq_told])), (yq_bytes, .inl (cB, 4096, .inl y_bytes))] sz)) (va_A [(obM, .inr (1, [.int m_thrown, .ref mq_tape, .int m_taped, .ref obY, .ref obA, .ref obB, .int m_has, .int m_place, .ref mq_kept, .ref mq_sizes, .ref mq_asked, .ref mq_pairs, .int m_many])), (mq_kept, .inl (cB, 32768, .inl m_kept)), (mq_sizes, .inl (cI, 8, .inl m_sizes)), (obY, .inr (0, [.ref yq_bytes, .int y_length, .int y_at, .int y_deep, .int y_fault, .int y_place, .int y_end, .int y_nodes, .ref yq_kinds, .ref yq_firsts, .ref yq_numbers, .ref yq_sizes, .ref yq_inner, .ref yq_nexts, .ref yq_letters, .int y_lettered, .int y_shapes, .int y_looked, .ref yq_sorts, .ref yq_names, .ref yq_wide, .ref yq_kids, .ref yq_many, .ref yq_fallback, .int y_kidCount, .ref yq_kidShape, .ref yq_kidName, .ref yq_kidDefault, .ref yq_kidNext, .int y_done, .ref yq_finished, .int y_root, .ref yq_plain, .int y_plainSize, .ref yq_told])), (yq_bytes, .inl (cB, 4096, .inl y_bytes))] sz)) 0 0 (va_A [(obM, .inr (1, [.int m_thrown, .ref mq_tape, .int m_taped, .ref obY, .ref obA, .ref obB, .int m_has, .int m_place, .ref mq_kept, .ref mq_sizes, .ref mq_asked, .ref mq_pairs, .int m_many])), (mq_kept, .inl (cB, 32768, .inl m_kept)), (mq_sizes, .inl (cI, 8, .inl m_sizes)), (obY, .inr (0, [.ref yq_bytes, .int y_length, .int y_at, .int y_deep, .int y_fault, .int y_place, .int y_end, .int y_nodes, .ref yq_kinds, .ref yq_firsts, .ref yq_numbers, .ref yq_sizes, .ref yq_inner, .ref yq_nexts, .ref yq_letters, .int y_lettered, .int y_shapes, .int y_looked, .ref yq_sorts, .ref yq_names, .ref yq_wide, .ref yq_kids, .ref yq_many, .ref yq_fallback, .int y_kidCount, .ref yq_kidShape, .ref yq_kidName, .ref yq_kidDefault, .ref yq_kidNext, .int y_done, .ref yq_finished, .int y_root, .ref yq_plain, .int y_plainSize, .ref yq_told])), (yq_bytes, .inl (cB, 4096, .inl y_bytes))] sz) := by
  refine Met.ofW (cc := cX10_keep) (maxL := 4) (ret := (some .int)) (by decide) rfl ?_
  intro p e s m args below meth c s₁ B hml hv
  obtain ⟨rfl, hsz, hP, hK, hD0, hz0⟩ := hv
  have hx := B.exec
  have hb := B.bytes
  have hr := B.returns
  have hts := atoms_spec (ws := wsX10_keep) B.pre
  have hown : s.vm.findClass RX10 = some m.cls := findClass_of_methodNamed B.named
  have hlocks := B.notSynchronized
  subst hsz
  have hD := hD0.self (sz := s.heap.size)
  generalize hAe : va_A [(obM, .inr (1, [.int m_thrown, .ref mq_tape, .int m_taped, .ref obY, .ref obA, .ref obB, .int m_has, .int m_place, .ref mq_kept, .ref mq_sizes, .ref mq_asked, .ref mq_pairs, .int m_many])), (mq_kept, .inl (cB, 32768, .inl m_kept)), (mq_sizes, .inl (cI, 8, .inl m_sizes)), (obY, .inr (0, [.ref yq_bytes, .int y_length, .int y_at, .int y_deep, .int y_fault, .int y_place, .int y_end, .int y_nodes, .ref yq_kinds, .ref yq_firsts, .ref yq_numbers, .ref yq_sizes, .ref yq_inner, .ref yq_nexts, .ref yq_letters, .int y_lettered, .int y_shapes, .int y_looked, .ref yq_sorts, .ref yq_names, .ref yq_wide, .ref yq_kids, .ref yq_many, .ref yq_fallback, .int y_kidCount, .ref yq_kidShape, .ref yq_kidName, .ref yq_kidDefault, .ref yq_kidNext, .int y_done, .ref yq_finished, .int y_root, .ref yq_plain, .int y_plainSize, .ref yq_told])), (yq_bytes, .inl (cB, 4096, .inl y_bytes))] s.heap.size = A at hD hz0 ⊢
  have hA : ∀ q : Nat, s.heap.size ≤ q → A q := fun q h => by rw [← hAe]; exact Or.inr h
  have hS : va_S A s.heap s.heap [] := va_S.rf
  generalize hQ0 : MQ below (va_Qi (fun r' u' => r' = res.1 ∧ u' = res.2) (pcB (dC, dI) srCl [(cI, .int), (cB, .byte), (cJ, .long), (cZ, .boolean), (cQ, .object "SchemaReader$Schema")] (fun u : Int32 × Int32 × (Nat → Int32) × (Nat → Int32) => [(obM, .inr (1, [.int u.1, .ref mq_tape, .int m_taped, .ref obY, .ref obA, .ref obB, .int u.2.1, .int m_place, .ref mq_kept, .ref mq_sizes, .ref mq_asked, .ref mq_pairs, .int m_many])), (mq_kept, .inl (cB, 32768, .inl u.2.2.1)), (mq_sizes, .inl (cI, 8, .inl u.2.2.2)), (obY, .inr (0, [.ref yq_bytes, .int y_length, .int y_at, .int y_deep, .int y_fault, .int y_place, .int y_end, .int y_nodes, .ref yq_kinds, .ref yq_firsts, .ref yq_numbers, .ref yq_sizes, .ref yq_inner, .ref yq_nexts, .ref yq_letters, .int y_lettered, .int y_shapes, .int y_looked, .ref yq_sorts, .ref yq_names, .ref yq_wide, .ref yq_kids, .ref yq_many, .ref yq_fallback, .int y_kidCount, .ref yq_kidShape, .ref yq_kidName, .ref yq_kidDefault, .ref yq_kidNext, .int y_done, .ref yq_finished, .int y_root, .ref yq_plain, .int y_plainSize, .ref yq_told])), (yq_bytes, .inl (cB, 4096, .inl y_bytes))]) A) A) [.ref obM, .int a0].toArray s 0 0 A = Q0
  have hl := lv_entry [.ref obM, .int a0] (n := 4) (Nat.le_of_ble_eq_true rfl)
  rw [lg_entry_eq]
  generalize (lg_sl [.ref obM, .int a0] ++ List.replicate (4 - (lg_sl [.ref obM, .int a0]).length) Slot.unset).toArray = ls at hl ⊢
  have hl : lv_has ls 4 [(0, .ref obM), (1, .int a0)] := hl
  unfold m_X10_keep at hm
  refine lv_aload_n hx hb dX10_keep_0 rfl (lv_at hl 0 rfl) ?_
  refine lv_iload_n hx hb dX10_keep_1 rfl (lv_at hl 1 rfl) ?_
  obtain ⟨r1, hz1, hm⟩ := mr_bind hm
  refine mr_pS (As := [.int a0]) (rest := [.ref obM]) (sr_okZ adK adV) ⟨hx, hb, hml, hown, hts⟩ (kX10_isPlace l htr dC dI adK adV cI cB cJ cZ cQ  a0 r1 hz1) (va_cwS 1 hts (g10_82 _) rfl rfl rfl (by decide +kernel) ⟨(by show 1 + 1 ≤ 2; omega), (by show 8 + (1 + 11) + (22) ≤ 42; omega)⟩) hS hP hK hz0 [] rfl rfl rfl hl.1 (Nat.le_of_ble_eq_true rfl) dX10_keep_2 ⟨Nat.zero_le _, Nat.zero_le _⟩ ?_
  have j13 : ∀ (m_thrown : Int32) (m_has : Int32) (m_kept : Nat → Int32) (m_sizes : Nat → Int32) (x1 : Int32) (y0 : Int32) (H : Heap) (locs : List Loc) (ls : Array Slot), va_P (dC, dI) srCl [(obM, .inr (1, [.int m_thrown, .ref mq_tape, .int m_taped, .ref obY, .ref obA, .ref obB, .int m_has, .int m_place, .ref mq_kept, .ref mq_sizes, .ref mq_asked, .ref mq_pairs, .int m_many])), (mq_kept, .inl (cB, 32768, .inl m_kept)), (mq_sizes, .inl (cI, 8, .inl m_sizes)), (obY, .inr (0, [.ref yq_bytes, .int y_length, .int y_at, .int y_deep, .int y_fault, .int y_place, .int y_end, .int y_nodes, .ref yq_kinds, .ref yq_firsts, .ref yq_numbers, .ref yq_sizes, .ref yq_inner, .ref yq_nexts, .ref yq_letters, .int y_lettered, .int y_shapes, .int y_looked, .ref yq_sorts, .ref yq_names, .ref yq_wide, .ref yq_kids, .ref yq_many, .ref yq_fallback, .int y_kidCount, .ref yq_kidShape, .ref yq_kidName, .ref yq_kidDefault, .ref yq_kidNext, .int y_done, .ref yq_finished, .int y_root, .ref yq_plain, .int y_plainSize, .ref yq_told])), (yq_bytes, .inl (cB, 4096, .inl y_bytes))] H → va_D A [(obM, .inr (1, [.int m_thrown, .ref mq_tape, .int m_taped, .ref obY, .ref obA, .ref obB, .int m_has, .int m_place, .ref mq_kept, .ref mq_sizes, .ref mq_asked, .ref mq_pairs, .int m_many])), (mq_kept, .inl (cB, 32768, .inl m_kept)), (mq_sizes, .inl (cI, 8, .inl m_sizes)), (obY, .inr (0, [.ref yq_bytes, .int y_length, .int y_at, .int y_deep, .int y_fault, .int y_place, .int y_end, .int y_nodes, .ref yq_kinds, .ref yq_firsts, .ref yq_numbers, .ref yq_sizes, .ref yq_inner, .ref yq_nexts, .ref yq_letters, .int y_lettered, .int y_shapes, .int y_looked, .ref yq_sorts, .ref yq_names, .ref yq_wide, .ref yq_kids, .ref yq_many, .ref yq_fallback, .int y_kidCount, .ref yq_kidShape, .ref yq_kidName, .ref yq_kidDefault, .ref yq_kidNext, .int y_done, .ref yq_finished, .int y_root, .ref yq_plain, .int y_plainSize, .ref yq_told])), (yq_bytes, .inl (cB, 4096, .inl y_bytes))] → va_S A s.heap H locs → lv_has ls 4 [(0, .ref obM), (1, .int x1)] → m_X10_keep_13 y_bytes y_length m_thrown m_has m_kept m_sizes x1 y0 = some res → W p l e (headSpec wsX10_keep (rmX10_keep 0 0)).room s m [.ref obM, .int a0].toArray below meth c H locs 0 0 Q0 (F0 m 13 ls [.int y0, .ref obM]) := by
    intro m_thrown m_has m_kept m_sizes x1 y0 H locs ls hP hD hS hl hm
    unfold m_X10_keep_13 at hm
    refine lv_aload_n hx hb dX10_keep_13 rfl (lv_at hl 0 rfl) ?_
    refine va_get (D := (dC, dI)) (ci := 1) (v := .int m_has) (C := RX10) (T := TX10) (N := 13) hx hb hts (inX10 _) hown hK hP 0 rfl rfl 6 (by decide) (hts _ (List.mem_cons_of_mem _ wf10_67)) (fun _ h9 => h9) rfl dX10_keep_14 ?_
    have j25 : ∀ (m_thrown : Int32) (m_has : Int32) (m_kept : Nat → Int32) (m_sizes : Nat → Int32) (x1 : Int32) (y0 : Int32) (y1 : Int32) (H : Heap) (locs : List Loc) (ls : Array Slot), va_P (dC, dI) srCl [(obM, .inr (1, [.int m_thrown, .ref mq_tape, .int m_taped, .ref obY, .ref obA, .ref obB, .int m_has, .int m_place, .ref mq_kept, .ref mq_sizes, .ref mq_asked, .ref mq_pairs, .int m_many])), (mq_kept, .inl (cB, 32768, .inl m_kept)), (mq_sizes, .inl (cI, 8, .inl m_sizes)), (obY, .inr (0, [.ref yq_bytes, .int y_length, .int y_at, .int y_deep, .int y_fault, .int y_place, .int y_end, .int y_nodes, .ref yq_kinds, .ref yq_firsts, .ref yq_numbers, .ref yq_sizes, .ref yq_inner, .ref yq_nexts, .ref yq_letters, .int y_lettered, .int y_shapes, .int y_looked, .ref yq_sorts, .ref yq_names, .ref yq_wide, .ref yq_kids, .ref yq_many, .ref yq_fallback, .int y_kidCount, .ref yq_kidShape, .ref yq_kidName, .ref yq_kidDefault, .ref yq_kidNext, .int y_done, .ref yq_finished, .int y_root, .ref yq_plain, .int y_plainSize, .ref yq_told])), (yq_bytes, .inl (cB, 4096, .inl y_bytes))] H → va_D A [(obM, .inr (1, [.int m_thrown, .ref mq_tape, .int m_taped, .ref obY, .ref obA, .ref obB, .int m_has, .int m_place, .ref mq_kept, .ref mq_sizes, .ref mq_asked, .ref mq_pairs, .int m_many])), (mq_kept, .inl (cB, 32768, .inl m_kept)), (mq_sizes, .inl (cI, 8, .inl m_sizes)), (obY, .inr (0, [.ref yq_bytes, .int y_length, .int y_at, .int y_deep, .int y_fault, .int y_place, .int y_end, .int y_nodes, .ref yq_kinds, .ref yq_firsts, .ref yq_numbers, .ref yq_sizes, .ref yq_inner, .ref yq_nexts, .ref yq_letters, .int y_lettered, .int y_shapes, .int y_looked, .ref yq_sorts, .ref yq_names, .ref yq_wide, .ref yq_kids, .ref yq_many, .ref yq_fallback, .int y_kidCount, .ref yq_kidShape, .ref yq_kidName, .ref yq_kidDefault, .ref yq_kidNext, .int y_done, .ref yq_finished, .int y_root, .ref yq_plain, .int y_plainSize, .ref yq_told])), (yq_bytes, .inl (cB, 4096, .inl y_bytes))] → va_S A s.heap H locs → lv_has ls 4 [(0, .ref obM), (1, .int x1)] → m_X10_keep_25 y_bytes y_length m_thrown m_has m_kept m_sizes x1 y0 y1 = some res → W p l e (headSpec wsX10_keep (rmX10_keep 0 0)).room s m [.ref obM, .int a0].toArray below meth c H locs 0 0 Q0 (F0 m 25 ls [.int y0, .int y1, .ref obM]) := by
      intro m_thrown m_has m_kept m_sizes x1 y0 y1 H locs ls hP hD hS hl hm
      unfold m_X10_keep_25 at hm
      obtain ⟨⟨r2, m_thrown_2⟩, hz2, hm⟩ := mr_bind hm
      try dsimp only at hm
      refine mr_wVi (As := [.int y1, .int y0]) (rest := []) (sr_okZ adK adV) ⟨hx, hb, hml, hown, hts⟩ (kX10_refused l htr dC dI adK adV cI cB cJ cZ cQ obM mq_tape obY obA obB mq_kept mq_sizes mq_asked mq_pairs m_thrown m_taped m_has m_place m_many _ y1 y0 _ hz2) (cwV 2 hts (g10_51 _) rfl rfl rfl (by decide +kernel) ⟨(by show 0 + 1 ≤ 2; omega), (by show 8 + (3 + 11) + (0) ≤ 42; omega)⟩) hS hA hP hD hK hz0 (wr := [(mq_kept, .inl (cB, 32768, .inl m_kept)), (mq_sizes, .inl (cI, 8, .inl m_sizes)), (obY, .inr (0, [.ref yq_bytes, .int y_length, .int y_at, .int y_deep, .int y_fault, .int y_place, .int y_end, .int y_nodes, .ref yq_kinds, .ref yq_firsts, .ref yq_numbers, .ref yq_sizes, .ref yq_inner, .ref yq_nexts, .ref yq_letters, .int y_lettered, .int y_shapes, .int y_looked, .ref yq_sorts, .ref yq_names, .ref yq_wide, .ref yq_kids, .ref yq_many, .ref yq_fallback, .int y_kidCount, .ref yq_kidShape, .ref yq_kidName, .ref yq_kidDefault, .ref yq_kidNext, .int y_done, .ref yq_finished, .int y_root, .ref yq_plain, .int y_plainSize, .ref yq_told])), (yq_bytes, .inl (cB, 4096, .inl y_bytes))]) (w1 := [(obM, .inr (1, [.int m_thrown_2, .ref mq_tape, .int m_taped, .ref obY, .ref obA, .ref obB, .int m_has, .int m_place, .ref mq_kept, .ref mq_sizes, .ref mq_asked, .ref mq_pairs, .int m_many])), (mq_kept, .inl (cB, 32768, .inl m_kept)), (mq_sizes, .inl (cI, 8, .inl m_sizes)), (obY, .inr (0, [.ref yq_bytes, .int y_length, .int y_at, .int y_deep, .int y_fault, .int y_place, .int y_end, .int y_nodes, .ref yq_kinds, .ref yq_firsts, .ref yq_numbers, .ref yq_sizes, .ref yq_inner, .ref yq_nexts, .ref yq_letters, .int y_lettered, .int y_shapes, .int y_looked, .ref yq_sorts, .ref yq_names, .ref yq_wide, .ref yq_kids, .ref yq_many, .ref yq_fallback, .int y_kidCount, .ref yq_kidShape, .ref yq_kidName, .ref yq_kidDefault, .ref yq_kidNext, .int y_done, .ref yq_finished, .int y_root, .ref yq_plain, .int y_plainSize, .ref yq_told])), (yq_bytes, .inl (cB, 4096, .inl y_bytes))]) [0] [1, 2, 3, 4] [4, 0, 1, 2, 3] rfl rfl rfl rfl rfl (by decide) rfl rfl rfl (va_recv hK hP (ci := 1) (q0 := 0) rfl rfl) rfl rfl hl.1 (Nat.le_of_ble_eq_true rfl) dX10_keep_25 ⟨Nat.zero_le _, Nat.zero_le _⟩ (fun H locs hP hD hS => ?_)
      refine lv_if_eq (tgt := 33) hx hb dX10_keep_28 (by decide) (fun c3 => ?_) (fun c3 => ?_)
      · have hm := mr_if c3 hm
        refine lv_aload_n hx hb dX10_keep_33 rfl (lv_at hl 0 rfl) ?_
        refine lv_iconst (v := 0) hx hb dX10_keep_34 (by decide) ?_
        refine va_put (D := (dC, dI)) (ci := 1) (v := .int 0) (ty := .boolean) (C := RX10) (T := TX10) (N := 13) hx hb hts (inX10 _) tyX10 tyX10_ok nmX10 hown hK hP hD hS 0 rfl rfl 6 (by decide) (hts _ (List.mem_cons_of_mem _ wf10_67)) (fun _ h9 => h9) rfl (by decide +kernel) rfl rfl (Nat.le_of_ble_eq_true rfl) dX10_keep_35 (fun H locs hP hD hS => ?_)
        have hP : va_P (dC, dI) srCl [(obM, .inr (1, [.int m_thrown_2, .ref mq_tape, .int m_taped, .ref obY, .ref obA, .ref obB, .int 0, .int m_place, .ref mq_kept, .ref mq_sizes, .ref mq_asked, .ref mq_pairs, .int m_many])), (mq_kept, .inl (cB, 32768, .inl m_kept)), (mq_sizes, .inl (cI, 8, .inl m_sizes)), (obY, .inr (0, [.ref yq_bytes, .int y_length, .int y_at, .int y_deep, .int y_fault, .int y_place, .int y_end, .int y_nodes, .ref yq_kinds, .ref yq_firsts, .ref yq_numbers, .ref yq_sizes, .ref yq_inner, .ref yq_nexts, .ref yq_letters, .int y_lettered, .int y_shapes, .int y_looked, .ref yq_sorts, .ref yq_names, .ref yq_wide, .ref yq_kids, .ref yq_many, .ref yq_fallback, .int y_kidCount, .ref yq_kidShape, .ref yq_kidName, .ref yq_kidDefault, .ref yq_kidNext, .int y_done, .ref yq_finished, .int y_root, .ref yq_plain, .int y_plainSize, .ref yq_told])), (yq_bytes, .inl (cB, 4096, .inl y_bytes))] H := hP
        have hD : va_D A [(obM, .inr (1, [.int m_thrown_2, .ref mq_tape, .int m_taped, .ref obY, .ref obA, .ref obB, .int 0, .int m_place, .ref mq_kept, .ref mq_sizes, .ref mq_asked, .ref mq_pairs, .int m_many])), (mq_kept, .inl (cB, 32768, .inl m_kept)), (mq_sizes, .inl (cI, 8, .inl m_sizes)), (obY, .inr (0, [.ref yq_bytes, .int y_length, .int y_at, .int y_deep, .int y_fault, .int y_place, .int y_end, .int y_nodes, .ref yq_kinds, .ref yq_firsts, .ref yq_numbers, .ref yq_sizes, .ref yq_inner, .ref yq_nexts, .ref yq_letters, .int y_lettered, .int y_shapes, .int y_looked, .ref yq_sorts, .ref yq_names, .ref yq_wide, .ref yq_kids, .ref yq_many, .ref yq_fallback, .int y_kidCount, .ref yq_kidShape, .ref yq_kidName, .ref yq_kidDefault, .ref yq_kidNext, .int y_done, .ref yq_finished, .int y_root, .ref yq_plain, .int y_plainSize, .ref yq_told])), (yq_bytes, .inl (cB, 4096, .inl y_bytes))] := hD
        refine lv_aload_n hx hb dX10_keep_38 rfl (lv_at hl 0 rfl) ?_
        refine va_get (D := (dC, dI)) (ci := 1) (v := .ref mq_sizes) (C := RX10) (T := TX10) (N := 13) hx hb hts (inX10 _) hown hK hP 0 rfl rfl 9 (by decide) (hts _ (List.mem_cons_of_mem _ wf10_34)) (fun _ h9 => h9) rfl dX10_keep_39 ?_
        refine lv_iload_n hx hb dX10_keep_42 rfl (lv_at hl 1 rfl) ?_
        refine lv_aload_n hx hb dX10_keep_43 rfl (lv_at hl 0 rfl) ?_
        refine va_get (D := (dC, dI)) (ci := 1) (v := .ref obY) (C := RX10) (T := TX10) (N := 13) hx hb hts (inX10 _) hown hK hP 0 rfl rfl 3 (by decide) (hts _ (List.mem_cons_of_mem _ wf10_16)) (fun _ h9 => h9) rfl dX10_keep_44 ?_
        refine va_getN (D := (dC, dI)) (ci := 0) (v := .int y_length) (C := RX9) (T := TX9) (N := 35) hx hb hts (inX9 _) hown hK hP 3 rfl rfl 1 (by decide) (va_Nw.use rfl (hz0.2.2.2.2.2.2.1 _ wf10_86)) (fun _ h9 => h9) rfl dX10_keep_47 ?_
        obtain ⟨h4, hm⟩ := mr_bd hm
        refine va_iast hx hb hK hP hD hS 2 0 rfl rfl h4 dX10_keep_50 (fun H locs hP hD hS => ?_)
        have hP : va_P (dC, dI) srCl [(obM, .inr (1, [.int m_thrown_2, .ref mq_tape, .int m_taped, .ref obY, .ref obA, .ref obB, .int 0, .int m_place, .ref mq_kept, .ref mq_sizes, .ref mq_asked, .ref mq_pairs, .int m_many])), (mq_kept, .inl (cB, 32768, .inl m_kept)), (mq_sizes, .inl (cI, 8, .inl (upd m_sizes (x1 : Int32).toNatClampNeg y_length))), (obY, .inr (0, [.ref yq_bytes, .int y_length, .int y_at, .int y_deep, .int y_fault, .int y_place, .int y_end, .int y_nodes, .ref yq_kinds, .ref yq_firsts, .ref yq_numbers, .ref yq_sizes, .ref yq_inner, .ref yq_nexts, .ref yq_letters, .int y_lettered, .int y_shapes, .int y_looked, .ref yq_sorts, .ref yq_names, .ref yq_wide, .ref yq_kids, .ref yq_many, .ref yq_fallback, .int y_kidCount, .ref yq_kidShape, .ref yq_kidName, .ref yq_kidDefault, .ref yq_kidNext, .int y_done, .ref yq_finished, .int y_root, .ref yq_plain, .int y_plainSize, .ref yq_told])), (yq_bytes, .inl (cB, 4096, .inl y_bytes))] H := hP
        have hD : va_D A [(obM, .inr (1, [.int m_thrown_2, .ref mq_tape, .int m_taped, .ref obY, .ref obA, .ref obB, .int 0, .int m_place, .ref mq_kept, .ref mq_sizes, .ref mq_asked, .ref mq_pairs, .int m_many])), (mq_kept, .inl (cB, 32768, .inl m_kept)), (mq_sizes, .inl (cI, 8, .inl (upd m_sizes (x1 : Int32).toNatClampNeg y_length))), (obY, .inr (0, [.ref yq_bytes, .int y_length, .int y_at, .int y_deep, .int y_fault, .int y_place, .int y_end, .int y_nodes, .ref yq_kinds, .ref yq_firsts, .ref yq_numbers, .ref yq_sizes, .ref yq_inner, .ref yq_nexts, .ref yq_letters, .int y_lettered, .int y_shapes, .int y_looked, .ref yq_sorts, .ref yq_names, .ref yq_wide, .ref yq_kids, .ref yq_many, .ref yq_fallback, .int y_kidCount, .ref yq_kidShape, .ref yq_kidName, .ref yq_kidDefault, .ref yq_kidNext, .int y_done, .ref yq_finished, .int y_root, .ref yq_plain, .int y_plainSize, .ref yq_told])), (yq_bytes, .inl (cB, 4096, .inl y_bytes))] := hD
        refine lv_iconst (v := 0) hx hb dX10_keep_51 (by decide) ?_
        have j53 : ∀ (n53 : Nat) (m_thrown : Int32) (m_has : Int32) (m_kept : Nat → Int32) (m_sizes : Nat → Int32) (x1 : Int32) (x2 : Int32) (H : Heap) (locs : List Loc) (ls : Array Slot), va_P (dC, dI) srCl [(obM, .inr (1, [.int m_thrown, .ref mq_tape, .int m_taped, .ref obY, .ref obA, .ref obB, .int m_has, .int m_place, .ref mq_kept, .ref mq_sizes, .ref mq_asked, .ref mq_pairs, .int m_many])), (mq_kept, .inl (cB, 32768, .inl m_kept)), (mq_sizes, .inl (cI, 8, .inl m_sizes)), (obY, .inr (0, [.ref yq_bytes, .int y_length, .int y_at, .int y_deep, .int y_fault, .int y_place, .int y_end, .int y_nodes, .ref yq_kinds, .ref yq_firsts, .ref yq_numbers, .ref yq_sizes, .ref yq_inner, .ref yq_nexts, .ref yq_letters, .int y_lettered, .int y_shapes, .int y_looked, .ref yq_sorts, .ref yq_names, .ref yq_wide, .ref yq_kids, .ref yq_many, .ref yq_fallback, .int y_kidCount, .ref yq_kidShape, .ref yq_kidName, .ref yq_kidDefault, .ref yq_kidNext, .int y_done, .ref yq_finished, .int y_root, .ref yq_plain, .int y_plainSize, .ref yq_told])), (yq_bytes, .inl (cB, 4096, .inl y_bytes))] H → va_D A [(obM, .inr (1, [.int m_thrown, .ref mq_tape, .int m_taped, .ref obY, .ref obA, .ref obB, .int m_has, .int m_place, .ref mq_kept, .ref mq_sizes, .ref mq_asked, .ref mq_pairs, .int m_many])), (mq_kept, .inl (cB, 32768, .inl m_kept)), (mq_sizes, .inl (cI, 8, .inl m_sizes)), (obY, .inr (0, [.ref yq_bytes, .int y_length, .int y_at, .int y_deep, .int y_fault, .int y_place, .int y_end, .int y_nodes, .ref yq_kinds, .ref yq_firsts, .ref yq_numbers, .ref yq_sizes, .ref yq_inner, .ref yq_nexts, .ref yq_letters, .int y_lettered, .int y_shapes, .int y_looked, .ref yq_sorts, .ref yq_names, .ref yq_wide, .ref yq_kids, .ref yq_many, .ref yq_fallback, .int y_kidCount, .ref yq_kidShape, .ref yq_kidName, .ref yq_kidDefault, .ref yq_kidNext, .int y_done, .ref yq_finished, .int y_root, .ref yq_plain, .int y_plainSize, .ref yq_told])), (yq_bytes, .inl (cB, 4096, .inl y_bytes))] → va_S A s.heap H locs → lv_has ls 4 [(0, .ref obM), (1, .int x1), (2, .int x2)] → m_X10_keep_53 y_bytes y_length n53 m_thrown m_has m_kept m_sizes x1 x2 = some res → W p l e (headSpec wsX10_keep (rmX10_keep 0 0)).room s m [.ref obM, .int a0].toArray below meth c H locs 0 0 Q0 (F0 m 53 ls []) := by
          intro n53
          induction n53 with
          | zero => intro m_thrown m_has m_kept m_sizes x1 x2 H locs ls hP hD hS hl hm; exact nomatch (show (none : Option _) = some res from hm)
          | succ n53 ih53 =>
            intro m_thrown m_has m_kept m_sizes x1 x2 H locs ls hP hD hS hl hm
            rw [m_X10_keep_53] at hm
            refine lv_iload_n hx hb dX10_keep_53 rfl (lv_at hl 2 rfl) ?_
            refine lv_aload_n hx hb dX10_keep_54 rfl (lv_at hl 0 rfl) ?_
            refine va_get (D := (dC, dI)) (ci := 1) (v := .ref obY) (C := RX10) (T := TX10) (N := 13) hx hb hts (inX10 _) hown hK hP 0 rfl rfl 3 (by decide) (hts _ (List.mem_cons_of_mem _ wf10_16)) (fun _ h9 => h9) rfl dX10_keep_55 ?_
            refine va_getN (D := (dC, dI)) (ci := 0) (v := .int y_length) (C := RX9) (T := TX9) (N := 35) hx hb hts (inX9 _) hown hK hP 3 rfl rfl 1 (by decide) (va_Nw.use rfl (hz0.2.2.2.2.2.2.1 _ wf10_86)) (fun _ h9 => h9) rfl dX10_keep_58 ?_
            refine lv_icmp_ge (tgt := 91) hx hb dX10_keep_61 (by decide) (fun c5 => ?_) (fun c5 => ?_)
            · have hm := mr_if c5 hm
              refine lv_iconst (v := 0) hx hb dX10_keep_91 (by decide) ?_
              refine lv_istore_n (lv' := [(2, .int 0), (0, .ref obM), (1, .int x1)]) hx hb dX10_keep_92 rfl hl (by decide) rfl (fun ls hl => ?_)
              refine lv_iconst (v := 0) hx hb dX10_keep_93 (by decide) ?_
              have j95 : ∀ (n95 : Nat) (m_thrown : Int32) (m_has : Int32) (m_kept : Nat → Int32) (m_sizes : Nat → Int32) (x2 : Int32) (x3 : Int32) (H : Heap) (locs : List Loc) (ls : Array Slot), va_P (dC, dI) srCl [(obM, .inr (1, [.int m_thrown, .ref mq_tape, .int m_taped, .ref obY, .ref obA, .ref obB, .int m_has, .int m_place, .ref mq_kept, .ref mq_sizes, .ref mq_asked, .ref mq_pairs, .int m_many])), (mq_kept, .inl (cB, 32768, .inl m_kept)), (mq_sizes, .inl (cI, 8, .inl m_sizes)), (obY, .inr (0, [.ref yq_bytes, .int y_length, .int y_at, .int y_deep, .int y_fault, .int y_place, .int y_end, .int y_nodes, .ref yq_kinds, .ref yq_firsts, .ref yq_numbers, .ref yq_sizes, .ref yq_inner, .ref yq_nexts, .ref yq_letters, .int y_lettered, .int y_shapes, .int y_looked, .ref yq_sorts, .ref yq_names, .ref yq_wide, .ref yq_kids, .ref yq_many, .ref yq_fallback, .int y_kidCount, .ref yq_kidShape, .ref yq_kidName, .ref yq_kidDefault, .ref yq_kidNext, .int y_done, .ref yq_finished, .int y_root, .ref yq_plain, .int y_plainSize, .ref yq_told])), (yq_bytes, .inl (cB, 4096, .inl y_bytes))] H → va_D A [(obM, .inr (1, [.int m_thrown, .ref mq_tape, .int m_taped, .ref obY, .ref obA, .ref obB, .int m_has, .int m_place, .ref mq_kept, .ref mq_sizes, .ref mq_asked, .ref mq_pairs, .int m_many])), (mq_kept, .inl (cB, 32768, .inl m_kept)), (mq_sizes, .inl (cI, 8, .inl m_sizes)), (obY, .inr (0, [.ref yq_bytes, .int y_length, .int y_at, .int y_deep, .int y_fault, .int y_place, .int y_end, .int y_nodes, .ref yq_kinds, .ref yq_firsts, .ref yq_numbers, .ref yq_sizes, .ref yq_inner, .ref yq_nexts, .ref yq_letters, .int y_lettered, .int y_shapes, .int y_looked, .ref yq_sorts, .ref yq_names, .ref yq_wide, .ref yq_kids, .ref yq_many, .ref yq_fallback, .int y_kidCount, .ref yq_kidShape, .ref yq_kidName, .ref yq_kidDefault, .ref yq_kidNext, .int y_done, .ref yq_finished, .int y_root, .ref yq_plain, .int y_plainSize, .ref yq_told])), (yq_bytes, .inl (cB, 4096, .inl y_bytes))] → va_S A s.heap H locs → lv_has ls 4 [(0, .ref obM), (2, .int x2), (3, .int x3)] → m_X10_keep_95 y_bytes y_length n95 m_thrown m_has m_kept m_sizes x2 x3 = some res → W p l e (headSpec wsX10_keep (rmX10_keep 0 0)).room s m [.ref obM, .int a0].toArray below meth c H locs 0 0 Q0 (F0 m 95 ls []) := by
                intro n95
                induction n95 with
                | zero => intro m_thrown m_has m_kept m_sizes x2 x3 H locs ls hP hD hS hl hm; exact nomatch (show (none : Option _) = some res from hm)
                | succ n95 ih95 =>
                  intro m_thrown m_has m_kept m_sizes x2 x3 H locs ls hP hD hS hl hm
                  rw [m_X10_keep_95] at hm
                  refine lv_iload_n hx hb dX10_keep_95 rfl (lv_at hl 2 rfl) ?_
                  refine lv_bipush (v := 8) hx hb dX10_keep_96 (by decide) ?_
                  refine lv_icmp_ge (tgt := 124) hx hb dX10_keep_98 (by decide) (fun c6 => ?_) (fun c6 => ?_)
                  · have hm := mr_if c6 hm
                    refine lv_iload_n hx hb dX10_keep_124 rfl (lv_at hl 1 rfl) ?_
                    obtain rfl := Option.some.inj hm
                    subst hQ0
                    exact W.iret (v := x2) hx hb hr (fun t ht hW => ⟨⟨x2, (m_thrown, m_has, m_kept, m_sizes), rfl, ⟨rfl, rfl⟩, by rw [ht]; exact hP, va_K.moved hW.alike hK, hD⟩, hS.F ht⟩) hS.2.2 dX10_keep_125
                  · have hm := mr_un c6 hm
                    refine lv_aload_n hx hb dX10_keep_101 rfl (lv_at hl 0 rfl) ?_
                    refine va_get (D := (dC, dI)) (ci := 1) (v := .ref mq_sizes) (C := RX10) (T := TX10) (N := 13) hx hb hts (inX10 _) hown hK hP 0 rfl rfl 9 (by decide) (hts _ (List.mem_cons_of_mem _ wf10_34)) (fun _ h9 => h9) rfl dX10_keep_102 ?_
                    refine lv_iload_n hx hb dX10_keep_105 rfl (lv_at hl 2 rfl) ?_
                    obtain ⟨h7, hm⟩ := mr_bd hm
                    refine va_iald hx hb hK hP 2 0 rfl rfl h7 dX10_keep_106 ?_
                    refine lv_if_lt (tgt := 116) hx hb dX10_keep_107 (by decide) (fun c8 => ?_) (fun c8 => ?_)
                    · have hm := mr_if c8 hm
                      refine lv_iload_n hx hb dX10_keep_116 rfl (lv_at hl 1 rfl) ?_
                      refine lv_istore_n (lv' := [(2, .int x2), (0, .ref obM), (3, .int x3)]) hx hb dX10_keep_117 rfl hl (by decide) rfl (fun ls hl => ?_)
                      refine lv_iinc (v := x3 + 1) (lv' := [(3, .int (x3 + 1)), (2, .int x2), (0, .ref obM)]) hx hb dX10_keep_118 hl (k := 2) rfl rfl (by decide) rfl (fun ls hl => ?_)
                      refine lv_goto (tgt := 95) hx hb dX10_keep_121 (by decide) ?_
                      exact ih95 m_thrown m_has m_kept m_sizes x2 (x3 + 1) _ _ ls hP hD hS (lv_sub hl [2, 1, 0] rfl) hm
                    · have hm := mr_un c8 hm
                      refine lv_iload_n hx hb dX10_keep_110 rfl (lv_at hl 1 rfl) ?_
                      refine lv_iconst (v := 1) hx hb dX10_keep_111 (by decide) ?_
                      refine lv_iadd hx hb dX10_keep_112 ?_
                      refine lv_goto (tgt := 117) hx hb dX10_keep_113 (by decide) ?_
                      refine lv_istore_n (lv' := [(2, .int (x2 + 1)), (0, .ref obM), (3, .int x3)]) hx hb dX10_keep_117 rfl hl (by decide) rfl (fun ls hl => ?_)
                      refine lv_iinc (v := x3 + 1) (lv' := [(3, .int (x3 + 1)), (2, .int (x2 + 1)), (0, .ref obM)]) hx hb dX10_keep_118 hl (k := 2) rfl rfl (by decide) rfl (fun ls hl => ?_)
                      refine lv_goto (tgt := 95) hx hb dX10_keep_121 (by decide) ?_
                      exact ih95 m_thrown m_has m_kept m_sizes (x2 + 1) (x3 + 1) _ _ ls hP hD hS (lv_sub hl [2, 1, 0] rfl) hm
              refine lv_istore_n (lv' := [(3, .int 0), (2, .int 0), (0, .ref obM), (1, .int x1)]) hx hb dX10_keep_94 rfl hl (by decide) rfl (fun ls hl => ?_)
              exact j95 sr_fuel m_thrown m_has m_kept m_sizes 0 0 _ _ ls hP hD hS (lv_sub hl [2, 1, 0] rfl) hm
            · have hm := mr_un c5 hm
              refine lv_aload_n hx hb dX10_keep_64 rfl (lv_at hl 0 rfl) ?_
              refine va_get (D := (dC, dI)) (ci := 1) (v := .ref mq_kept) (C := RX10) (T := TX10) (N := 13) hx hb hts (inX10 _) hown hK hP 0 rfl rfl 8 (by decide) (hts _ (List.mem_cons_of_mem _ wf10_31)) (fun _ h9 => h9) rfl dX10_keep_65 ?_
              refine lv_sipush (v := 4096) hx hb dX10_keep_68 (by decide) ?_
              refine lv_iload_n hx hb dX10_keep_71 rfl (lv_at hl 1 rfl) ?_
              refine lv_imul hx hb dX10_keep_72 ?_
              refine lv_iload_n hx hb dX10_keep_73 rfl (lv_at hl 2 rfl) ?_
              refine lv_iadd hx hb dX10_keep_74 ?_
              refine lv_aload_n hx hb dX10_keep_75 rfl (lv_at hl 0 rfl) ?_
              refine va_get (D := (dC, dI)) (ci := 1) (v := .ref obY) (C := RX10) (T := TX10) (N := 13) hx hb hts (inX10 _) hown hK hP 0 rfl rfl 3 (by decide) (hts _ (List.mem_cons_of_mem _ wf10_16)) (fun _ h9 => h9) rfl dX10_keep_76 ?_
              refine va_getN (D := (dC, dI)) (ci := 0) (v := .ref yq_bytes) (C := RX9) (T := TX9) (N := 35) hx hb hts (inX9 _) hown hK hP 3 rfl rfl 0 (by decide) (va_Nw.use rfl (hz0.2.2.2.2.2.2.1 _ wf10_89)) (fun _ h9 => h9) rfl dX10_keep_79 ?_
              refine lv_iload_n hx hb dX10_keep_82 rfl (lv_at hl 2 rfl) ?_
              obtain ⟨h9, hm⟩ := mr_bd hm
              refine va_bald hx hb hK hP 4 1 rfl rfl h9 dX10_keep_83 ?_
              obtain ⟨h10, hm⟩ := mr_bd hm
              refine va_bast hx hb hK hP hD hS 1 1 rfl rfl h10 dX10_keep_84 (fun H locs hP hD hS => ?_)
              have hP : va_P (dC, dI) srCl [(obM, .inr (1, [.int m_thrown, .ref mq_tape, .int m_taped, .ref obY, .ref obA, .ref obB, .int m_has, .int m_place, .ref mq_kept, .ref mq_sizes, .ref mq_asked, .ref mq_pairs, .int m_many])), (mq_kept, .inl (cB, 32768, .inl (upd m_kept (((4096 * x1) + x2) : Int32).toNatClampNeg (vp_nar .byte (y_bytes (x2 : Int32).toNatClampNeg))))), (mq_sizes, .inl (cI, 8, .inl m_sizes)), (obY, .inr (0, [.ref yq_bytes, .int y_length, .int y_at, .int y_deep, .int y_fault, .int y_place, .int y_end, .int y_nodes, .ref yq_kinds, .ref yq_firsts, .ref yq_numbers, .ref yq_sizes, .ref yq_inner, .ref yq_nexts, .ref yq_letters, .int y_lettered, .int y_shapes, .int y_looked, .ref yq_sorts, .ref yq_names, .ref yq_wide, .ref yq_kids, .ref yq_many, .ref yq_fallback, .int y_kidCount, .ref yq_kidShape, .ref yq_kidName, .ref yq_kidDefault, .ref yq_kidNext, .int y_done, .ref yq_finished, .int y_root, .ref yq_plain, .int y_plainSize, .ref yq_told])), (yq_bytes, .inl (cB, 4096, .inl y_bytes))] H := hP
              have hD : va_D A [(obM, .inr (1, [.int m_thrown, .ref mq_tape, .int m_taped, .ref obY, .ref obA, .ref obB, .int m_has, .int m_place, .ref mq_kept, .ref mq_sizes, .ref mq_asked, .ref mq_pairs, .int m_many])), (mq_kept, .inl (cB, 32768, .inl (upd m_kept (((4096 * x1) + x2) : Int32).toNatClampNeg (vp_nar .byte (y_bytes (x2 : Int32).toNatClampNeg))))), (mq_sizes, .inl (cI, 8, .inl m_sizes)), (obY, .inr (0, [.ref yq_bytes, .int y_length, .int y_at, .int y_deep, .int y_fault, .int y_place, .int y_end, .int y_nodes, .ref yq_kinds, .ref yq_firsts, .ref yq_numbers, .ref yq_sizes, .ref yq_inner, .ref yq_nexts, .ref yq_letters, .int y_lettered, .int y_shapes, .int y_looked, .ref yq_sorts, .ref yq_names, .ref yq_wide, .ref yq_kids, .ref yq_many, .ref yq_fallback, .int y_kidCount, .ref yq_kidShape, .ref yq_kidName, .ref yq_kidDefault, .ref yq_kidNext, .int y_done, .ref yq_finished, .int y_root, .ref yq_plain, .int y_plainSize, .ref yq_told])), (yq_bytes, .inl (cB, 4096, .inl y_bytes))] := hD
              refine lv_iinc (v := x2 + 1) (lv' := [(2, .int (x2 + 1)), (0, .ref obM), (1, .int x1)]) hx hb dX10_keep_85 hl (k := 2) rfl rfl (by decide) rfl (fun ls hl => ?_)
              refine lv_goto (tgt := 53) hx hb dX10_keep_88 (by decide) ?_
              exact ih53 m_thrown m_has (upd m_kept (((4096 * x1) + x2) : Int32).toNatClampNeg (vp_nar .byte (y_bytes (x2 : Int32).toNatClampNeg))) m_sizes x1 (x2 + 1) _ _ ls hP hD hS (lv_sub hl [1, 2, 0] rfl) hm
        refine lv_istore_n (lv' := [(2, .int 0), (0, .ref obM), (1, .int x1)]) hx hb dX10_keep_52 rfl hl (by decide) rfl (fun ls hl => ?_)
        exact j53 sr_fuel m_thrown_2 0 m_kept (upd m_sizes (x1 : Int32).toNatClampNeg y_length) x1 0 _ _ ls hP hD hS (lv_sub hl [1, 2, 0] rfl) hm
      · have hm := mr_un c3 hm
        refine lv_iconst (v := 0) hx hb dX10_keep_31 (by decide) ?_
        obtain rfl := Option.some.inj hm
        subst hQ0
        exact W.iret (v := 0) hx hb hr (fun t ht hW => ⟨⟨0, (m_thrown_2, m_has, m_kept, m_sizes), rfl, ⟨rfl, rfl⟩, by rw [ht]; exact hP, va_K.moved hW.alike hK, hD⟩, hS.F ht⟩) hS.2.2 dX10_keep_32
    refine lv_if_ne (tgt := 24) hx hb dX10_keep_17 (by decide) (fun c11 => ?_) (fun c11 => ?_)
    · have hm := mr_un c11 hm
      refine lv_iconst (v := 0) hx hb dX10_keep_24 (by decide) ?_
      exact j25 m_thrown m_has m_kept m_sizes x1 0 y0 _ _ ls hP hD hS (lv_sub hl [0, 1] rfl) hm
    · have hm := mr_if c11 hm
      refine lv_iconst (v := 1) hx hb dX10_keep_20 (by decide) ?_
      refine lv_goto (tgt := 25) hx hb dX10_keep_21 (by decide) ?_
      exact j25 m_thrown m_has m_kept m_sizes x1 1 y0 _ _ ls hP hD hS (lv_sub hl [0, 1] rfl) hm
  refine lv_if_ne (tgt := 12) hx hb dX10_keep_5 (by decide) (fun c12 => ?_) (fun c12 => ?_)
  · have hm := mr_un c12 hm
    refine lv_iconst (v := 0) hx hb dX10_keep_12 (by decide) ?_
    exact j13 m_thrown m_has m_kept m_sizes a0 0 _ _ ls hP hD hS (lv_sub hl [0, 1] rfl) hm
  · have hm := mr_if c12 hm
    refine lv_iconst (v := 1) hx hb dX10_keep_8 (by decide) ?_
    refine lv_goto (tgt := 13) hx hb dX10_keep_9 (by decide) ?_
    exact j13 m_thrown m_has m_kept m_sizes a0 1 _ _ ls hP hD hS (lv_sub hl [0, 1] rfl) hm
set_option maxHeartbeats 4000000 in
set_option maxRecDepth 100000 in
theorem kX10_sixOf (l : Launch) (htr : l.stackTraces = false) (dC : Nat → ClassId) (dI : Nat → Nat → Nat) (adK adV : Nat → Nat) (cI cB cJ cZ cQ : ClassId) (a0 : Int32) (res : Int32) (hm : m_X10_sixOf a0 = some res) : Met l yX10_sixOf wsX10_sixOf (rmX10_sixOf 0 0) (pcR (sr_Z adK adV) (dC, dI) srCl [(cI, .int), (cB, .byte), (cJ, .long), (cZ, .boolean), (cQ, .object "SchemaReader$Schema")] [.int a0] []) (k2_QcV (.int res)) 0 0 (fun _ => False) := by
  refine Met.ofW (cc := cX10_sixOf) (maxL := 1) (ret := (some .boolean)) (by decide) rfl ?_
  intro p e s m args below meth c s₁ B hml hv
  obtain ⟨rfl, hP, hK, hz0⟩ := hv
  have hx := B.exec
  have hb := B.bytes
  have hr := B.returns
  have hts := atoms_spec (ws := wsX10_sixOf) B.pre
  have hown : s.vm.findClass RX10 = some m.cls := findClass_of_methodNamed B.named
  have hlocks := B.notSynchronized
  have hS : va_S (fun _ => False) s.heap s.heap [] := va_S.rf
  generalize hQ0 : MQ below (k2_QcV (.int res)) [.int a0].toArray s 0 0 (fun _ => False) = Q0
  have hl := lv_entry [.int a0] (n := 1) (Nat.le_of_ble_eq_true rfl)
  rw [lg_entry_eq]
  generalize (lg_sl [.int a0] ++ List.replicate (1 - (lg_sl [.int a0]).length) Slot.unset).toArray = ls at hl ⊢
  have hl : lv_has ls 1 [(0, .int a0)] := hl
  unfold m_X10_sixOf at hm
  refine lv_iload_n hx hb dX10_sixOf_0 rfl (lv_at hl 0 rfl) ?_
  refine lv_bipush (v := 6) hx hb dX10_sixOf_1 (by decide) ?_
  refine lv_icmp_ge (tgt := 10) hx hb dX10_sixOf_3 (by decide) (fun c1 => ?_) (fun c1 => ?_)
  · have hm := mr_if c1 hm
    refine lv_iconst (v := 0) hx hb dX10_sixOf_10 (by decide) ?_
    obtain rfl := Option.some.inj hm
    subst hQ0
    exact W.zret (v := 0) hx hb hr rfl (fun t ht hW => ⟨rfl, ht⟩) (fun q h => by cases h) dX10_sixOf_11
  · have hm := mr_un c1 hm
    refine lv_iconst (v := 1) hx hb dX10_sixOf_6 (by decide) ?_
    refine lv_goto (tgt := 11) hx hb dX10_sixOf_7 (by decide) ?_
    obtain rfl := Option.some.inj hm
    subst hQ0
    exact W.zret (v := 1) hx hb hr rfl (fun t ht hW => ⟨rfl, ht⟩) (fun q h => by cases h) dX10_sixOf_11
set_option maxHeartbeats 4000000 in
set_option maxRecDepth 100000 in
theorem kX10_matchesSix (l : Launch) (htr : l.stackTraces = false) (dC : Nat → ClassId) (dI : Nat → Nat → Nat) (adK adV : Nat → Nat) (cI cB cJ cZ cQ : ClassId) (a0 : Int32) (a1 : Int32) (res : Int32) (hm : m_X10_matchesSix a0 a1 = some res) : Met l yX10_matchesSix wsX10_matchesSix (rmX10_matchesSix 0 0) (pcR (sr_Z adK adV) (dC, dI) srCl [(cI, .int), (cB, .byte), (cJ, .long), (cZ, .boolean), (cQ, .object "SchemaReader$Schema")] [.int a0, .int a1] []) (k2_QcV (.int res)) 0 0 (fun _ => False) := by
  refine Met.ofW (cc := cX10_matchesSix) (maxL := 2) (ret := (some .boolean)) (by decide) rfl ?_
  intro p e s m args below meth c s₁ B hml hv
  obtain ⟨rfl, hP, hK, hz0⟩ := hv
  have hx := B.exec
  have hb := B.bytes
  have hr := B.returns
  have hts := atoms_spec (ws := wsX10_matchesSix) B.pre
  have hown : s.vm.findClass RX10 = some m.cls := findClass_of_methodNamed B.named
  have hlocks := B.notSynchronized
  have hS : va_S (fun _ => False) s.heap s.heap [] := va_S.rf
  generalize hQ0 : MQ below (k2_QcV (.int res)) [.int a0, .int a1].toArray s 0 0 (fun _ => False) = Q0
  have hl := lv_entry [.int a0, .int a1] (n := 2) (Nat.le_of_ble_eq_true rfl)
  rw [lg_entry_eq]
  generalize (lg_sl [.int a0, .int a1] ++ List.replicate (2 - (lg_sl [.int a0, .int a1]).length) Slot.unset).toArray = ls at hl ⊢
  have hl : lv_has ls 2 [(0, .int a0), (1, .int a1)] := hl
  unfold m_X10_matchesSix at hm
  refine lv_iload_n hx hb dX10_matchesSix_0 rfl (lv_at hl 0 rfl) ?_
  refine lv_iload_n hx hb dX10_matchesSix_1 rfl (lv_at hl 1 rfl) ?_
  refine lv_icmp_eq (tgt := 35) hx hb dX10_matchesSix_2 (by decide) (fun c1 => ?_) (fun c1 => ?_)
  · have hm := mr_if c1 hm
    refine lv_iconst (v := 1) hx hb dX10_matchesSix_35 (by decide) ?_
    refine lv_goto (tgt := 40) hx hb dX10_matchesSix_36 (by decide) ?_
    obtain rfl := Option.some.inj hm
    subst hQ0
    exact W.zret (v := 1) hx hb hr rfl (fun t ht hW => ⟨rfl, ht⟩) (fun q h => by cases h) dX10_matchesSix_40
  · have hm := mr_un c1 hm
    refine lv_iload_n hx hb dX10_matchesSix_5 rfl (lv_at hl 0 rfl) ?_
    refine lv_iconst (v := 2) hx hb dX10_matchesSix_6 (by decide) ?_
    have j15 : ∀ (x0 : Int32) (x1 : Int32) (ls : Array Slot), lv_has ls 2 [(0, .int x0), (1, .int x1)] → m_X10_matchesSix_15 x0 x1 = some res → W p l e (headSpec wsX10_matchesSix (rmX10_matchesSix 0 0)).room s m [.int a0, .int a1].toArray below meth c s.heap [] 0 0 Q0 (F0 m 15 ls []) := by
      intro x0 x1 ls hl hm
      unfold m_X10_matchesSix_15 at hm
      refine lv_iload_n hx hb dX10_matchesSix_15 rfl (lv_at hl 0 rfl) ?_
      refine lv_iconst (v := 4) hx hb dX10_matchesSix_16 (by decide) ?_
      refine lv_icmp_eq (tgt := 25) hx hb dX10_matchesSix_17 (by decide) (fun c2 => ?_) (fun c2 => ?_)
      · have hm := mr_if c2 hm
        refine lv_iload_n hx hb dX10_matchesSix_25 rfl (lv_at hl 1 rfl) ?_
        refine lv_iconst (v := 4) hx hb dX10_matchesSix_26 (by decide) ?_
        refine lv_icmp_eq (tgt := 35) hx hb dX10_matchesSix_27 (by decide) (fun c3 => ?_) (fun c3 => ?_)
        · have hm := mr_if c3 hm
          refine lv_iconst (v := 1) hx hb dX10_matchesSix_35 (by decide) ?_
          refine lv_goto (tgt := 40) hx hb dX10_matchesSix_36 (by decide) ?_
          obtain rfl := Option.some.inj hm
          subst hQ0
          exact W.zret (v := 1) hx hb hr rfl (fun t ht hW => ⟨rfl, ht⟩) (fun q h => by cases h) dX10_matchesSix_40
        · have hm := mr_un c3 hm
          refine lv_iload_n hx hb dX10_matchesSix_30 rfl (lv_at hl 1 rfl) ?_
          refine lv_iconst (v := 5) hx hb dX10_matchesSix_31 (by decide) ?_
          refine lv_icmp_ne (tgt := 39) hx hb dX10_matchesSix_32 (by decide) (fun c4 => ?_) (fun c4 => ?_)
          · have hm := mr_un c4 hm
            refine lv_iconst (v := 0) hx hb dX10_matchesSix_39 (by decide) ?_
            obtain rfl := Option.some.inj hm
            subst hQ0
            exact W.zret (v := 0) hx hb hr rfl (fun t ht hW => ⟨rfl, ht⟩) (fun q h => by cases h) dX10_matchesSix_40
          · have hm := mr_if c4 hm
            refine lv_iconst (v := 1) hx hb dX10_matchesSix_35 (by decide) ?_
            refine lv_goto (tgt := 40) hx hb dX10_matchesSix_36 (by decide) ?_
            obtain rfl := Option.some.inj hm
            subst hQ0
            exact W.zret (v := 1) hx hb hr rfl (fun t ht hW => ⟨rfl, ht⟩) (fun q h => by cases h) dX10_matchesSix_40
      · have hm := mr_un c2 hm
        refine lv_iload_n hx hb dX10_matchesSix_20 rfl (lv_at hl 0 rfl) ?_
        refine lv_iconst (v := 5) hx hb dX10_matchesSix_21 (by decide) ?_
        refine lv_icmp_ne (tgt := 39) hx hb dX10_matchesSix_22 (by decide) (fun c5 => ?_) (fun c5 => ?_)
        · have hm := mr_un c5 hm
          refine lv_iconst (v := 0) hx hb dX10_matchesSix_39 (by decide) ?_
          obtain rfl := Option.some.inj hm
          subst hQ0
          exact W.zret (v := 0) hx hb hr rfl (fun t ht hW => ⟨rfl, ht⟩) (fun q h => by cases h) dX10_matchesSix_40
        · have hm := mr_if c5 hm
          refine lv_iload_n hx hb dX10_matchesSix_25 rfl (lv_at hl 1 rfl) ?_
          refine lv_iconst (v := 4) hx hb dX10_matchesSix_26 (by decide) ?_
          refine lv_icmp_eq (tgt := 35) hx hb dX10_matchesSix_27 (by decide) (fun c6 => ?_) (fun c6 => ?_)
          · have hm := mr_if c6 hm
            refine lv_iconst (v := 1) hx hb dX10_matchesSix_35 (by decide) ?_
            refine lv_goto (tgt := 40) hx hb dX10_matchesSix_36 (by decide) ?_
            obtain rfl := Option.some.inj hm
            subst hQ0
            exact W.zret (v := 1) hx hb hr rfl (fun t ht hW => ⟨rfl, ht⟩) (fun q h => by cases h) dX10_matchesSix_40
          · have hm := mr_un c6 hm
            refine lv_iload_n hx hb dX10_matchesSix_30 rfl (lv_at hl 1 rfl) ?_
            refine lv_iconst (v := 5) hx hb dX10_matchesSix_31 (by decide) ?_
            refine lv_icmp_ne (tgt := 39) hx hb dX10_matchesSix_32 (by decide) (fun c7 => ?_) (fun c7 => ?_)
            · have hm := mr_un c7 hm
              refine lv_iconst (v := 0) hx hb dX10_matchesSix_39 (by decide) ?_
              obtain rfl := Option.some.inj hm
              subst hQ0
              exact W.zret (v := 0) hx hb hr rfl (fun t ht hW => ⟨rfl, ht⟩) (fun q h => by cases h) dX10_matchesSix_40
            · have hm := mr_if c7 hm
              refine lv_iconst (v := 1) hx hb dX10_matchesSix_35 (by decide) ?_
              refine lv_goto (tgt := 40) hx hb dX10_matchesSix_36 (by decide) ?_
              obtain rfl := Option.some.inj hm
              subst hQ0
              exact W.zret (v := 1) hx hb hr rfl (fun t ht hW => ⟨rfl, ht⟩) (fun q h => by cases h) dX10_matchesSix_40
    refine lv_icmp_ne (tgt := 15) hx hb dX10_matchesSix_7 (by decide) (fun c8 => ?_) (fun c8 => ?_)
    · have hm := mr_un c8 hm
      exact j15 a0 a1 ls (lv_sub hl [0, 1] rfl) hm
    · have hm := mr_if c8 hm
      refine lv_iload_n hx hb dX10_matchesSix_10 rfl (lv_at hl 1 rfl) ?_
      refine lv_iconst (v := 3) hx hb dX10_matchesSix_11 (by decide) ?_
      refine lv_icmp_eq (tgt := 35) hx hb dX10_matchesSix_12 (by decide) (fun c9 => ?_) (fun c9 => ?_)
      · have hm := mr_if c9 hm
        refine lv_iconst (v := 1) hx hb dX10_matchesSix_35 (by decide) ?_
        refine lv_goto (tgt := 40) hx hb dX10_matchesSix_36 (by decide) ?_
        obtain rfl := Option.some.inj hm
        subst hQ0
        exact W.zret (v := 1) hx hb hr rfl (fun t ht hW => ⟨rfl, ht⟩) (fun q h => by cases h) dX10_matchesSix_40
      · have hm := mr_un c9 hm
        exact j15 a0 a1 ls (lv_sub hl [0, 1] rfl) hm
set_option maxHeartbeats 4000000 in
set_option maxRecDepth 100000 in
theorem kX10_fieldLike (l : Launch) (htr : l.stackTraces = false) (dC : Nat → ClassId) (dI : Nat → Nat → Nat) (adK adV : Nat → Nat) (cI cB cJ cZ cQ : ClassId) (obA aq_bytes aq_kinds aq_firsts aq_numbers aq_sizes aq_inner aq_nexts aq_letters aq_sorts aq_names aq_wide aq_kids aq_many aq_fallback aq_kidShape aq_kidName aq_kidDefault aq_kidNext aq_finished aq_plain aq_told obB bq_bytes bq_kinds bq_firsts bq_numbers bq_sizes bq_inner bq_nexts bq_letters bq_sorts bq_names bq_wide bq_kids bq_many bq_fallback bq_kidShape bq_kidName bq_kidDefault bq_kidNext bq_finished bq_plain bq_told : Nat) (a_length : Int32) (a_at : Int32) (a_deep : Int32) (a_fault : Int32) (a_place : Int32) (a_end : Int32) (a_nodes : Int32) (a_lettered : Int32) (a_shapes : Int32) (a_looked : Int32) (a_kidCount : Int32) (a_done : Int32) (a_root : Int32) (a_plainSize : Int32) (b_length : Int32) (b_at : Int32) (b_deep : Int32) (b_fault : Int32) (b_place : Int32) (b_end : Int32) (b_nodes : Int32) (b_lettered : Int32) (b_shapes : Int32) (b_looked : Int32) (b_kidCount : Int32) (b_done : Int32) (b_root : Int32) (b_plainSize : Int32) (a_numbers : Nat → Int64) (a_sizes : Nat → Int32) (a_letters : Nat → Int32) (a_kids : Nat → Int32) (a_kidName : Nat → Int32) (a_kidNext : Nat → Int32) (b_numbers : Nat → Int64) (b_sizes : Nat → Int32) (b_letters : Nat → Int32) (b_kidName : Nat → Int32) (a1 : Int32) (a3 : Int32) (res : Int32) (hm : m_X10_fieldLike a_numbers a_sizes a_letters a_kids a_kidName a_kidNext b_numbers b_sizes b_letters b_kidName a1 a3 = some res) : Met l yX10_fieldLike wsX10_fieldLike (rmX10_fieldLike 0 0) (pcR (sr_Z adK adV) (dC, dI) srCl [(cI, .int), (cB, .byte), (cJ, .long), (cZ, .boolean), (cQ, .object "SchemaReader$Schema")] [.ref obA, .int a1, .ref obB, .int a3] [(obA, .inr (0, [.ref aq_bytes, .int a_length, .int a_at, .int a_deep, .int a_fault, .int a_place, .int a_end, .int a_nodes, .ref aq_kinds, .ref aq_firsts, .ref aq_numbers, .ref aq_sizes, .ref aq_inner, .ref aq_nexts, .ref aq_letters, .int a_lettered, .int a_shapes, .int a_looked, .ref aq_sorts, .ref aq_names, .ref aq_wide, .ref aq_kids, .ref aq_many, .ref aq_fallback, .int a_kidCount, .ref aq_kidShape, .ref aq_kidName, .ref aq_kidDefault, .ref aq_kidNext, .int a_done, .ref aq_finished, .int a_root, .ref aq_plain, .int a_plainSize, .ref aq_told])), (aq_numbers, .inl (cJ, 4200, .inr (.inl a_numbers))), (aq_sizes, .inl (cI, 4200, .inl a_sizes)), (aq_letters, .inl (cB, 4200, .inl a_letters)), (aq_kids, .inl (cI, 140, .inl a_kids)), (aq_kidName, .inl (cI, 2200, .inl a_kidName)), (aq_kidNext, .inl (cI, 2200, .inl a_kidNext)), (obB, .inr (0, [.ref bq_bytes, .int b_length, .int b_at, .int b_deep, .int b_fault, .int b_place, .int b_end, .int b_nodes, .ref bq_kinds, .ref bq_firsts, .ref bq_numbers, .ref bq_sizes, .ref bq_inner, .ref bq_nexts, .ref bq_letters, .int b_lettered, .int b_shapes, .int b_looked, .ref bq_sorts, .ref bq_names, .ref bq_wide, .ref bq_kids, .ref bq_many, .ref bq_fallback, .int b_kidCount, .ref bq_kidShape, .ref bq_kidName, .ref bq_kidDefault, .ref bq_kidNext, .int b_done, .ref bq_finished, .int b_root, .ref bq_plain, .int b_plainSize, .ref bq_told])), (bq_numbers, .inl (cJ, 4200, .inr (.inl b_numbers))), (bq_sizes, .inl (cI, 4200, .inl b_sizes)), (bq_letters, .inl (cB, 4200, .inl b_letters)), (bq_kidName, .inl (cI, 2200, .inl b_kidName))]) (k2_QcV (.int res)) 0 0 (fun _ => False) := by
  refine Met.ofW (cc := cX10_fieldLike) (maxL := 5) (ret := (some .int)) (by decide) rfl ?_
  intro p e s m args below meth c s₁ B hml hv
  obtain ⟨rfl, hP, hK, hz0⟩ := hv
  have hx := B.exec
  have hb := B.bytes
  have hr := B.returns
  have hts := atoms_spec (ws := wsX10_fieldLike) B.pre
  have hown : s.vm.findClass RX10 = some m.cls := findClass_of_methodNamed B.named
  have hlocks := B.notSynchronized
  have hS : va_S (fun _ => False) s.heap s.heap [] := va_S.rf
  generalize hQ0 : MQ below (k2_QcV (.int res)) [.ref obA, .int a1, .ref obB, .int a3].toArray s 0 0 (fun _ => False) = Q0
  have hl := lv_entry [.ref obA, .int a1, .ref obB, .int a3] (n := 5) (Nat.le_of_ble_eq_true rfl)
  rw [lg_entry_eq]
  generalize (lg_sl [.ref obA, .int a1, .ref obB, .int a3] ++ List.replicate (5 - (lg_sl [.ref obA, .int a1, .ref obB, .int a3]).length) Slot.unset).toArray = ls at hl ⊢
  have hl : lv_has ls 5 [(0, .ref obA), (1, .int a1), (2, .ref obB), (3, .int a3)] := hl
  unfold m_X10_fieldLike at hm
  refine lv_aload_n hx hb dX10_fieldLike_0 rfl (lv_at hl 0 rfl) ?_
  refine va_getN (D := (dC, dI)) (ci := 0) (v := .ref aq_kids) (C := RX9) (T := TX9) (N := 35) hx hb hts (inX9 _) hown hK hP 0 rfl rfl 21 (by decide) (va_Nw.use rfl (hz0.2.2.2.2.2.2.1 _ wf10_105)) (fun _ h9 => h9) rfl dX10_fieldLike_1 ?_
  refine lv_iload_n hx hb dX10_fieldLike_4 rfl (lv_at hl 1 rfl) ?_
  obtain ⟨h1, hm⟩ := mr_bd hm
  refine va_iald hx hb hK hP 4 0 rfl rfl h1 dX10_fieldLike_5 ?_
  have j8 : ∀ (n8 : Nat) (x3 : Int32) (x4 : Int32) (ls : Array Slot), lv_has ls 5 [(0, .ref obA), (2, .ref obB), (3, .int x3), (4, .int x4)] → m_X10_fieldLike_8 a_numbers a_sizes a_letters a_kids a_kidName a_kidNext b_numbers b_sizes b_letters b_kidName n8 x3 x4 = some res → W p l e (headSpec wsX10_fieldLike (rmX10_fieldLike 0 0)).room s m [.ref obA, .int a1, .ref obB, .int a3].toArray below meth c s.heap [] 0 0 Q0 (F0 m 8 ls []) := by
    intro n8
    induction n8 with
    | zero => intro x3 x4 ls hl hm; exact nomatch (show (none : Option _) = some res from hm)
    | succ n8 ih8 =>
      intro x3 x4 ls hl hm
      rw [m_X10_fieldLike_8] at hm
      refine lv_iload hx hb dX10_fieldLike_8 (lv_at hl 3 rfl) ?_
      refine lv_if_lt (tgt := 49) hx hb dX10_fieldLike_10 (by decide) (fun c2 => ?_) (fun c2 => ?_)
      · have hm := mr_if c2 hm
        refine lv_iconst (v := -1) hx hb dX10_fieldLike_49 (by decide) ?_
        obtain rfl := Option.some.inj hm
        subst hQ0
        exact W.iret (v := (-1)) hx hb hr (fun t ht hW => ⟨rfl, ht⟩) (fun q h => by cases h) dX10_fieldLike_50
      · have hm := mr_un c2 hm
        refine lv_aload_n hx hb dX10_fieldLike_13 rfl (lv_at hl 0 rfl) ?_
        refine lv_aload_n hx hb dX10_fieldLike_14 rfl (lv_at hl 0 rfl) ?_
        refine va_getN (D := (dC, dI)) (ci := 0) (v := .ref aq_kidName) (C := RX9) (T := TX9) (N := 35) hx hb hts (inX9 _) hown hK hP 0 rfl rfl 26 (by decide) (va_Nw.use rfl (hz0.2.2.2.2.2.2.1 _ wf10_142)) (fun _ h9 => h9) rfl dX10_fieldLike_15 ?_
        refine lv_iload hx hb dX10_fieldLike_18 (lv_at hl 3 rfl) ?_
        obtain ⟨h3, hm⟩ := mr_bd hm
        refine va_iald hx hb hK hP 5 0 rfl rfl h3 dX10_fieldLike_20 ?_
        refine lv_aload_n hx hb dX10_fieldLike_21 rfl (lv_at hl 1 rfl) ?_
        refine lv_aload_n hx hb dX10_fieldLike_22 rfl (lv_at hl 1 rfl) ?_
        refine va_getN (D := (dC, dI)) (ci := 0) (v := .ref bq_kidName) (C := RX9) (T := TX9) (N := 35) hx hb hts (inX9 _) hown hK hP 7 rfl rfl 26 (by decide) (va_Nw.use rfl (hz0.2.2.2.2.2.2.1 _ wf10_142)) (fun _ h9 => h9) rfl dX10_fieldLike_23 ?_
        refine lv_iload_n hx hb dX10_fieldLike_26 rfl (lv_at hl 2 rfl) ?_
        obtain ⟨h4, hm⟩ := mr_bd hm
        refine va_iald hx hb hK hP 11 0 rfl rfl h4 dX10_fieldLike_27 ?_
        obtain ⟨r5, hz5, hm⟩ := mr_bind hm
        refine mr_pVN (As := [.int (a_kidName (x4 : Int32).toNatClampNeg), .ref obB, .int (b_kidName (x3 : Int32).toNatClampNeg)]) (rest := []) (sr_okZ adK adV) ⟨hx, hb, hml, hown, hts⟩ (kX9_same l htr dC dI adK adV cI cB cJ cZ cQ obA aq_bytes aq_kinds aq_firsts aq_numbers aq_sizes aq_inner aq_nexts aq_letters aq_sorts aq_names aq_wide aq_kids aq_many aq_fallback aq_kidShape aq_kidName aq_kidDefault aq_kidNext aq_finished aq_plain aq_told obB bq_bytes bq_kinds bq_firsts bq_numbers bq_sizes bq_inner bq_nexts bq_letters bq_sorts bq_names bq_wide bq_kids bq_many bq_fallback bq_kidShape bq_kidName bq_kidDefault bq_kidNext bq_finished bq_plain bq_told a_length a_at a_deep a_fault a_place a_end a_nodes a_lettered a_shapes a_looked a_kidCount a_done a_root a_plainSize b_length b_at b_deep b_fault b_place b_end b_nodes b_lettered b_shapes b_looked b_kidCount b_done b_root b_plainSize a_numbers a_sizes a_letters b_numbers b_sizes b_letters (a_kidName (x4 : Int32).toNatClampNeg) (b_kidName (x3 : Int32).toNatClampNeg) r5 hz5) (sr_cnV 3 hts rfl gn10_115.1 (hz0.2.2.2.2.2.2.1 _ gn10_115.2) rfl rfl (by decide +kernel) ⟨(by show 0 + 1 ≤ 1; omega), (by show 8 + (5 + 11) + (0) ≤ 24; omega)⟩) hS hP hK hz0 [0, 1, 2, 3, 7, 8, 9, 10] rfl (va_recv hK hP (ci := 0) (q0 := 0) rfl rfl) rfl rfl hl.1 (Nat.le_of_ble_eq_true rfl) dX10_fieldLike_28 ⟨Nat.zero_le _, Nat.zero_le _⟩ ?_
        refine lv_if_eq (tgt := 37) hx hb dX10_fieldLike_31 (by decide) (fun c6 => ?_) (fun c6 => ?_)
        · have hm := mr_if c6 hm
          refine lv_aload_n hx hb dX10_fieldLike_37 rfl (lv_at hl 0 rfl) ?_
          refine va_getN (D := (dC, dI)) (ci := 0) (v := .ref aq_kidNext) (C := RX9) (T := TX9) (N := 35) hx hb hts (inX9 _) hown hK hP 0 rfl rfl 28 (by decide) (va_Nw.use rfl (hz0.2.2.2.2.2.2.1 _ wf10_122)) (fun _ h9 => h9) rfl dX10_fieldLike_38 ?_
          refine lv_iload hx hb dX10_fieldLike_41 (lv_at hl 3 rfl) ?_
          obtain ⟨h7, hm⟩ := mr_bd hm
          refine va_iald hx hb hK hP 6 0 rfl rfl h7 dX10_fieldLike_43 ?_
          refine lv_istore (lv' := [(4, .int (a_kidNext (x4 : Int32).toNatClampNeg)), (0, .ref obA), (2, .ref obB), (3, .int x3)]) hx hb dX10_fieldLike_44 hl (by decide) rfl (fun ls hl => ?_)
          refine lv_goto (tgt := 8) hx hb dX10_fieldLike_46 (by decide) ?_
          exact ih8 x3 (a_kidNext (x4 : Int32).toNatClampNeg) ls (lv_sub hl [1, 2, 3, 0] rfl) hm
        · have hm := mr_un c6 hm
          refine lv_iload hx hb dX10_fieldLike_34 (lv_at hl 3 rfl) ?_
          obtain rfl := Option.some.inj hm
          subst hQ0
          exact W.iret (v := x4) hx hb hr (fun t ht hW => ⟨rfl, ht⟩) (fun q h => by cases h) dX10_fieldLike_36
  refine lv_istore (lv' := [(4, .int (a_kids (a1 : Int32).toNatClampNeg)), (0, .ref obA), (1, .int a1), (2, .ref obB), (3, .int a3)]) hx hb dX10_fieldLike_6 hl (by decide) rfl (fun ls hl => ?_)
  exact j8 sr_fuel a3 (a_kids (a1 : Int32).toNatClampNeg) ls (lv_sub hl [1, 3, 4, 0] rfl) hm
