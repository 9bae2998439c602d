set_option maxHeartbeats 4000000 in
set_option maxRecDepth 100000 in
theorem kX11_clear (l : Launch) (htr : l.stackTraces = false) (dC : Nat → ClassId) (dI : Nat → Nat → Nat) (adK adV : Nat → Nat) (cI cB cJ cZ cQ : ClassId) (obC cq_firsts cq_seconds : Nat) (c_count : Int32) (sz : Nat) (res : Int32) (hm : m_X11_clear c_count = some res) : Met l yX11_clear wsX11_clear (rmX11_clear 0 0) (pcW (sr_Z adK adV) (dC, dI) srCl [(cI, .int), (cB, .byte), (cJ, .long), (cZ, .boolean), (cQ, .object "SchemaReader$Schema")] [.ref obC] [(obC, .inr (3, [.ref cq_firsts, .ref cq_seconds, .int c_count]))] sz) (va_Qv (fun u' => u' = res) (pcB (dC, dI) srCl [(cI, .int), (cB, .byte), (cJ, .long), (cZ, .boolean), (cQ, .object "SchemaReader$Schema")] (fun u : Int32 => [(obC, .inr (3, [.ref cq_firsts, .ref cq_seconds, .int u]))]) (va_A [(obC, .inr (3, [.ref cq_firsts, .ref cq_seconds, .int c_count]))] sz)) (va_A [(obC, .inr (3, [.ref cq_firsts, .ref cq_seconds, .int c_count]))] sz)) 0 0 (va_A [(obC, .inr (3, [.ref cq_firsts, .ref cq_seconds, .int c_count]))] sz) := by
  refine Met.ofW (cc := cX11_clear) (maxL := 1) (ret := none) (by decide) rfl ?_
  intro p e s m args below meth c s₁ B hml hv
  obtain ⟨rfl, hsz, hP, hK, hD0, hz0⟩ := hv
  have hx := B.exec
  have hb := B.bytes
  have hr := B.returns
  have hts := atoms_spec (ws := wsX11_clear) B.pre
  have hown : s.vm.findClass RX11 = some m.cls := findClass_of_methodNamed B.named
  have hlocks := B.notSynchronized
  subst hsz
  have hD := hD0.self (sz := s.heap.size)
  generalize hAe : va_A [(obC, .inr (3, [.ref cq_firsts, .ref cq_seconds, .int c_count]))] s.heap.size = A at hD hz0 ⊢
  have hA : ∀ q : Nat, s.heap.size ≤ q → A q := fun q h => by rw [← hAe]; exact Or.inr h
  have hS : va_S A s.heap s.heap [] := va_S.rf
  generalize hQ0 : MQ below (va_Qv (fun u' => u' = res) (pcB (dC, dI) srCl [(cI, .int), (cB, .byte), (cJ, .long), (cZ, .boolean), (cQ, .object "SchemaReader$Schema")] (fun u : Int32 => [(obC, .inr (3, [.ref cq_firsts, .ref cq_seconds, .int u]))]) A) A) [.ref obC].toArray s 0 0 A = Q0
  have hl := lv_entry [.ref obC] (n := 1) (Nat.le_of_ble_eq_true rfl)
  rw [lg_entry_eq]
  generalize (lg_sl [.ref obC] ++ List.replicate (1 - (lg_sl [.ref obC]).length) Slot.unset).toArray = ls at hl ⊢
  have hl : lv_has ls 1 [(0, .ref obC)] := hl
  unfold m_X11_clear at hm
  refine lv_aload_n hx hb dX11_clear_0 rfl (lv_at hl 0 rfl) ?_
  refine lv_iconst (v := 0) hx hb dX11_clear_1 (by decide) ?_
  refine va_put (D := (dC, dI)) (ci := 3) (v := .int 0) (ty := .int) (C := RX11) (T := TX11) (N := 3) hx hb hts (inX11 _) tyX11 tyX11_ok nmX11 hown hK hP hD hS 0 rfl rfl 2 (by decide) (hts _ (List.mem_cons_of_mem _ wf11_18)) (fun _ h9 => h9) rfl (by decide +kernel) rfl rfl (Nat.le_of_ble_eq_true rfl) dX11_clear_2 (fun H locs hP hD hS => ?_)
  have hP : va_P (dC, dI) srCl [(obC, .inr (3, [.ref cq_firsts, .ref cq_seconds, .int 0]))] H := hP
  have hD : va_D A [(obC, .inr (3, [.ref cq_firsts, .ref cq_seconds, .int 0]))] := hD
  obtain rfl := Option.some.inj hm
  subst hQ0
  exact W.vret hx hb hr (fun t ht hW => ⟨⟨0, rfl, rfl, by rw [ht]; exact hP, va_K.moved hW.alike hK, hD⟩, hS.F ht⟩) hS.2.2 dX11_clear_5
set_option maxHeartbeats 4000000 in
set_option maxRecDepth 100000 in
theorem kX11_count (l : Launch) (htr : l.stackTraces = false) (dC : Nat → ClassId) (dI : Nat → Nat → Nat) (adK adV : Nat → Nat) (cI cB cJ cZ cQ : ClassId) (obC cq_firsts cq_seconds : Nat) (c_count : Int32) (res : Int32) (hm : m_X11_count c_count = some res) : Met l yX11_count wsX11_count (rmX11_count 0 0) (pcR (sr_Z adK adV) (dC, dI) srCl [(cI, .int), (cB, .byte), (cJ, .long), (cZ, .boolean), (cQ, .object "SchemaReader$Schema")] [.ref obC] [(obC, .inr (3, [.ref cq_firsts, .ref cq_seconds, .int c_count]))]) (k2_QcV (.int res)) 0 0 (fun _ => False) := by
  refine Met.ofW (cc := cX11_count) (maxL := 1) (ret := (some .int)) (by decide) rfl ?_
  intro p e s m args below meth c s₁ B hml hv
  obtain ⟨rfl, hP, hK, hz0⟩ := hv
  have hx := B.exec
  have hb := B.bytes
  have hr := B.returns
  have hts := atoms_spec (ws := wsX11_count) B.pre
  have hown : s.vm.findClass RX11 = some m.cls := findClass_of_methodNamed B.named
  have hlocks := B.notSynchronized
  have hS : va_S (fun _ => False) s.heap s.heap [] := va_S.rf
  generalize hQ0 : MQ below (k2_QcV (.int res)) [.ref obC].toArray s 0 0 (fun _ => False) = Q0
  have hl := lv_entry [.ref obC] (n := 1) (Nat.le_of_ble_eq_true rfl)
  rw [lg_entry_eq]
  generalize (lg_sl [.ref obC] ++ List.replicate (1 - (lg_sl [.ref obC]).length) Slot.unset).toArray = ls at hl ⊢
  have hl : lv_has ls 1 [(0, .ref obC)] := hl
  unfold m_X11_count at hm
  refine lv_aload_n hx hb dX11_count_0 rfl (lv_at hl 0 rfl) ?_
  refine va_get (D := (dC, dI)) (ci := 3) (v := .int c_count) (C := RX11) (T := TX11) (N := 3) hx hb hts (inX11 _) hown hK hP 0 rfl rfl 2 (by decide) (hts _ (List.mem_cons_of_mem _ wf11_18)) (fun _ h9 => h9) rfl dX11_count_1 ?_
  obtain rfl := Option.some.inj hm
  subst hQ0
  exact W.iret (v := c_count) hx hb hr (fun t ht hW => ⟨rfl, ht⟩) (fun q h => by cases h) dX11_count_4
set_option maxHeartbeats 4000000 in
set_option maxRecDepth 100000 in
theorem kX11_first (l : Launch) (htr : l.stackTraces = false) (dC : Nat → ClassId) (dI : Nat → Nat → Nat) (adK adV : Nat → Nat) (cI cB cJ cZ cQ : ClassId) (obC cq_firsts cq_seconds : Nat) (c_count : Int32) (c_firsts : Nat → Int32) (a0 : Int32) (res : Int32) (hm : m_X11_first c_firsts a0 = some res) : Met l yX11_first wsX11_first (rmX11_first 0 0) (pcR (sr_Z adK adV) (dC, dI) srCl [(cI, .int), (cB, .byte), (cJ, .long), (cZ, .boolean), (cQ, .object "SchemaReader$Schema")] [.ref obC, .int a0] [(obC, .inr (3, [.ref cq_firsts, .ref cq_seconds, .int c_count])), (cq_firsts, .inl (cI, 128, .inl c_firsts))]) (k2_QcV (.int res)) 0 0 (fun _ => False) := by
  refine Met.ofW (cc := cX11_first) (maxL := 2) (ret := (some .int)) (by decide) rfl ?_
  intro p e s m args below meth c s₁ B hml hv
  obtain ⟨rfl, hP, hK, hz0⟩ := hv
  have hx := B.exec
  have hb := B.bytes
  have hr := B.returns
  have hts := atoms_spec (ws := wsX11_first) B.pre
  have hown : s.vm.findClass RX11 = some m.cls := findClass_of_methodNamed B.named
  have hlocks := B.notSynchronized
  have hS : va_S (fun _ => False) s.heap s.heap [] := va_S.rf
  generalize hQ0 : MQ below (k2_QcV (.int res)) [.ref obC, .int a0].toArray s 0 0 (fun _ => False) = Q0
  have hl := lv_entry [.ref obC, .int a0] (n := 2) (Nat.le_of_ble_eq_true rfl)
  rw [lg_entry_eq]
  generalize (lg_sl [.ref obC, .int a0] ++ List.replicate (2 - (lg_sl [.ref obC, .int a0]).length) Slot.unset).toArray = ls at hl ⊢
  have hl : lv_has ls 2 [(0, .ref obC), (1, .int a0)] := hl
  unfold m_X11_first at hm
  refine lv_aload_n hx hb dX11_first_0 rfl (lv_at hl 0 rfl) ?_
  refine va_get (D := (dC, dI)) (ci := 3) (v := .ref cq_firsts) (C := RX11) (T := TX11) (N := 3) hx hb hts (inX11 _) hown hK hP 0 rfl rfl 0 (by decide) (hts _ (List.mem_cons_of_mem _ wf11_9)) (fun _ h9 => h9) rfl dX11_first_1 ?_
  refine lv_iload_n hx hb dX11_first_4 rfl (lv_at hl 1 rfl) ?_
  obtain ⟨r1, hz1, hm⟩ := mr_bind hm
  refine mr_pSN (As := [.ref cq_firsts, .int a0]) (rest := []) (sr_okZ adK adV) ⟨hx, hb, hml, hown, hts⟩ (kX8_entry l htr dC dI adK adV cI cB cJ cZ cQ cq_firsts c_firsts 128 a0 r1 hz1) (sr_cnS 2 hts rfl gn11_22.1 (hz0.2.2.2.2.2.2.1 _ gn11_22.2) rfl rfl (by decide +kernel) ⟨(by show 0 + 1 ≤ 1; omega), (by show 8 + (2 + 11) + (0) ≤ 21; omega)⟩) hS hP hK hz0 [1] rfl rfl rfl hl.1 (Nat.le_of_ble_eq_true rfl) dX11_first_5 ⟨Nat.zero_le _, Nat.zero_le _⟩ ?_
  obtain rfl := Option.some.inj hm
  subst hQ0
  exact W.iret (v := r1) hx hb hr (fun t ht hW => ⟨rfl, ht⟩) (fun q h => by cases h) dX11_first_8
set_option maxHeartbeats 4000000 in
set_option maxRecDepth 100000 in
theorem kX11_second (l : Launch) (htr : l.stackTraces = false) (dC : Nat → ClassId) (dI : Nat → Nat → Nat) (adK adV : Nat → Nat) (cI cB cJ cZ cQ : ClassId) (obC cq_firsts cq_seconds : Nat) (c_count : Int32) (c_seconds : Nat → Int32) (a0 : Int32) (res : Int32) (hm : m_X11_second c_seconds a0 = some res) : Met l yX11_second wsX11_second (rmX11_second 0 0) (pcR (sr_Z adK adV) (dC, dI) srCl [(cI, .int), (cB, .byte), (cJ, .long), (cZ, .boolean), (cQ, .object "SchemaReader$Schema")] [.ref obC, .int a0] [(obC, .inr (3, [.ref cq_firsts, .ref cq_seconds, .int c_count])), (cq_seconds, .inl (cI, 128, .inl c_seconds))]) (k2_QcV (.int res)) 0 0 (fun _ => False) := by
  refine Met.ofW (cc := cX11_second) (maxL := 2) (ret := (some .int)) (by decide) rfl ?_
  intro p e s m args below meth c s₁ B hml hv
  obtain ⟨rfl, hP, hK, hz0⟩ := hv
  have hx := B.exec
  have hb := B.bytes
  have hr := B.returns
  have hts := atoms_spec (ws := wsX11_second) B.pre
  have hown : s.vm.findClass RX11 = some m.cls := findClass_of_methodNamed B.named
  have hlocks := B.notSynchronized
  have hS : va_S (fun _ => False) s.heap s.heap [] := va_S.rf
  generalize hQ0 : MQ below (k2_QcV (.int res)) [.ref obC, .int a0].toArray s 0 0 (fun _ => False) = Q0
  have hl := lv_entry [.ref obC, .int a0] (n := 2) (Nat.le_of_ble_eq_true rfl)
  rw [lg_entry_eq]
  generalize (lg_sl [.ref obC, .int a0] ++ List.replicate (2 - (lg_sl [.ref obC, .int a0]).length) Slot.unset).toArray = ls at hl ⊢
  have hl : lv_has ls 2 [(0, .ref obC), (1, .int a0)] := hl
  unfold m_X11_second at hm
  refine lv_aload_n hx hb dX11_second_0 rfl (lv_at hl 0 rfl) ?_
  refine va_get (D := (dC, dI)) (ci := 3) (v := .ref cq_seconds) (C := RX11) (T := TX11) (N := 3) hx hb hts (inX11 _) hown hK hP 0 rfl rfl 1 (by decide) (hts _ (List.mem_cons_of_mem _ wf11_15)) (fun _ h9 => h9) rfl dX11_second_1 ?_
  refine lv_iload_n hx hb dX11_second_4 rfl (lv_at hl 1 rfl) ?_
  obtain ⟨r1, hz1, hm⟩ := mr_bind hm
  refine mr_pSN (As := [.ref cq_seconds, .int a0]) (rest := []) (sr_okZ adK adV) ⟨hx, hb, hml, hown, hts⟩ (kX8_entry l htr dC dI adK adV cI cB cJ cZ cQ cq_seconds c_seconds 128 a0 r1 hz1) (sr_cnS 2 hts rfl gn11_22.1 (hz0.2.2.2.2.2.2.1 _ gn11_22.2) rfl rfl (by decide +kernel) ⟨(by show 0 + 1 ≤ 1; omega), (by show 8 + (2 + 11) + (0) ≤ 21; omega)⟩) hS hP hK hz0 [1] rfl rfl rfl hl.1 (Nat.le_of_ble_eq_true rfl) dX11_second_5 ⟨Nat.zero_le _, Nat.zero_le _⟩ ?_
  obtain rfl := Option.some.inj hm
  subst hQ0
  exact W.iret (v := r1) hx hb hr (fun t ht hW => ⟨rfl, ht⟩) (fun q h => by cases h) dX11_second_8
set_option maxHeartbeats 4000000 in
set_option maxRecDepth 100000 in
theorem kX11_add (l : Launch) (htr : l.stackTraces = false) (dC : Nat → ClassId) (dI : Nat → Nat → Nat) (adK adV : Nat → Nat) (cI cB cJ cZ cQ : ClassId) (obC cq_firsts cq_seconds : Nat) (c_count : Int32) (c_firsts : Nat → Int32) (c_seconds : Nat → Int32) (sz : Nat) (a0 : Int32) (a1 : Int32) (res : (Nat → Int32) × (Nat → Int32) × Int32) (hm : m_X11_add c_firsts c_seconds c_count a0 a1 = some res) : Met l yX11_add wsX11_add (rmX11_add 0 0) (pcW (sr_Z adK adV) (dC, dI) srCl [(cI, .int), (cB, .byte), (cJ, .long), (cZ, .boolean), (cQ, .object "SchemaReader$Schema")] [.ref obC, .int a0, .int a1] [(obC, .inr (3, [.ref cq_firsts, .ref cq_seconds, .int c_count])), (cq_firsts, .inl (cI, 128, .inl c_firsts)), (cq_seconds, .inl (cI, 128, .inl c_seconds))] sz) (va_Qv (fun u' => u' = res) (pcB (dC, dI) srCl [(cI, .int), (cB, .byte), (cJ, .long), (cZ, .boolean), (cQ, .object "SchemaReader$Schema")] (fun u : (Nat → Int32) × (Nat → Int32) × Int32 => [(obC, .inr (3, [.ref cq_firsts, .ref cq_seconds, .int u.2.2])), (cq_firsts, .inl (cI, 128, .inl u.1)), (cq_seconds, .inl (cI, 128, .inl u.2.1))]) (va_A [(obC, .inr (3, [.ref cq_firsts, .ref cq_seconds, .int c_count])), (cq_firsts, .inl (cI, 128, .inl c_firsts)), (cq_seconds, .inl (cI, 128, .inl c_seconds))] sz)) (va_A [(obC, .inr (3, [.ref cq_firsts, .ref cq_seconds, .int c_count])), (cq_firsts, .inl (cI, 128, .inl c_firsts)), (cq_seconds, .inl (cI, 128, .inl c_seconds))] sz)) 0 0 (va_A [(obC, .inr (3, [.ref cq_firsts, .ref cq_seconds, .int c_count])), (cq_firsts, .inl (cI, 128, .inl c_firsts)), (cq_seconds, .inl (cI, 128, .inl c_seconds))] sz) := by
  refine Met.ofW (cc := cX11_add) (maxL := 3) (ret := none) (by decide) rfl ?_
  intro p e s m args below meth c s₁ B hml hv
  obtain ⟨rfl, hsz, hP, hK, hD0, hz0⟩ := hv
  have hx := B.exec
  have hb := B.bytes
  have hr := B.returns
  have hts := atoms_spec (ws := wsX11_add) B.pre
  have hown : s.vm.findClass RX11 = some m.cls := findClass_of_methodNamed B.named
  have hlocks := B.notSynchronized
  subst hsz
  have hD := hD0.self (sz := s.heap.size)
  generalize hAe : va_A [(obC, .inr (3, [.ref cq_firsts, .ref cq_seconds, .int c_count])), (cq_firsts, .inl (cI, 128, .inl c_firsts)), (cq_seconds, .inl (cI, 128, .inl c_seconds))] s.heap.size = A at hD hz0 ⊢
  have hA : ∀ q : Nat, s.heap.size ≤ q → A q := fun q h => by rw [← hAe]; exact Or.inr h
  have hS : va_S A s.heap s.heap [] := va_S.rf
  generalize hQ0 : MQ below (va_Qv (fun u' => u' = res) (pcB (dC, dI) srCl [(cI, .int), (cB, .byte), (cJ, .long), (cZ, .boolean), (cQ, .object "SchemaReader$Schema")] (fun u : (Nat → Int32) × (Nat → Int32) × Int32 => [(obC, .inr (3, [.ref cq_firsts, .ref cq_seconds, .int u.2.2])), (cq_firsts, .inl (cI, 128, .inl u.1)), (cq_seconds, .inl (cI, 128, .inl u.2.1))]) A) A) [.ref obC, .int a0, .int a1].toArray s 0 0 A = Q0
  have hl := lv_entry [.ref obC, .int a0, .int a1] (n := 3) (Nat.le_of_ble_eq_true rfl)
  rw [lg_entry_eq]
  generalize (lg_sl [.ref obC, .int a0, .int a1] ++ List.replicate (3 - (lg_sl [.ref obC, .int a0, .int a1]).length) Slot.unset).toArray = ls at hl ⊢
  have hl : lv_has ls 3 [(0, .ref obC), (1, .int a0), (2, .int a1)] := hl
  unfold m_X11_add at hm
  refine lv_aload_n hx hb dX11_add_0 rfl (lv_at hl 0 rfl) ?_
  refine va_get (D := (dC, dI)) (ci := 3) (v := .int c_count) (C := RX11) (T := TX11) (N := 3) hx hb hts (inX11 _) hown hK hP 0 rfl rfl 2 (by decide) (hts _ (List.mem_cons_of_mem _ wf11_18)) (fun _ h9 => h9) rfl dX11_add_1 ?_
  refine lv_sipush (v := 128) hx hb dX11_add_4 (by decide) ?_
  refine lv_icmp_ge (tgt := 44) hx hb dX11_add_7 (by decide) (fun c1 => ?_) (fun c1 => ?_)
  · have hm := mr_if c1 hm
    obtain rfl := Option.some.inj hm
    subst hQ0
    exact W.vret hx hb hr (fun t ht hW => ⟨⟨(c_firsts, c_seconds, c_count), rfl, rfl, by rw [ht]; exact hP, va_K.moved hW.alike hK, hD⟩, hS.F ht⟩) hS.2.2 dX11_add_44
  · have hm := mr_un c1 hm
    refine lv_aload_n hx hb dX11_add_10 rfl (lv_at hl 0 rfl) ?_
    refine va_get (D := (dC, dI)) (ci := 3) (v := .ref cq_firsts) (C := RX11) (T := TX11) (N := 3) hx hb hts (inX11 _) hown hK hP 0 rfl rfl 0 (by decide) (hts _ (List.mem_cons_of_mem _ wf11_9)) (fun _ h9 => h9) rfl dX11_add_11 ?_
    refine lv_aload_n hx hb dX11_add_14 rfl (lv_at hl 0 rfl) ?_
    refine va_get (D := (dC, dI)) (ci := 3) (v := .int c_count) (C := RX11) (T := TX11) (N := 3) hx hb hts (inX11 _) hown hK hP 0 rfl rfl 2 (by decide) (hts _ (List.mem_cons_of_mem _ wf11_18)) (fun _ h9 => h9) rfl dX11_add_15 ?_
    refine lv_iload_n hx hb dX11_add_18 rfl (lv_at hl 1 rfl) ?_
    obtain ⟨c_firsts_2, hz2, hm⟩ := mr_bind hm
    try dsimp only at hm
    refine mr_wSNv (As := [.ref cq_firsts, .int c_count, .int a0]) (rest := []) (sr_okZ adK adV) ⟨hx, hb, hml, hown, hts⟩ (kX8_enter l htr dC dI adK adV cI cB cJ cZ cQ cq_firsts c_firsts _ 128 c_count a0 _ hz2) (sr_cnS 3 hts rfl gn11_28.1 (hz0.2.2.2.2.2.2.1 _ gn11_28.2) rfl rfl (by decide +kernel) ⟨(by show 0 + 1 ≤ 1; omega), (by show 8 + (3 + 11) + (0) ≤ 22; omega)⟩) hS hA hP hD hK hz0 (wr := [(obC, .inr (3, [.ref cq_firsts, .ref cq_seconds, .int c_count])), (cq_seconds, .inl (cI, 128, .inl c_seconds))]) (w1 := [(obC, .inr (3, [.ref cq_firsts, .ref cq_seconds, .int c_count])), (cq_firsts, .inl (cI, 128, .inl c_firsts_2)), (cq_seconds, .inl (cI, 128, .inl c_seconds))]) [1] [0, 2] [0, 2, 1] rfl rfl rfl rfl rfl (by decide) rfl rfl rfl rfl rfl hl.1 (Nat.le_of_ble_eq_true rfl) dX11_add_19 ⟨Nat.zero_le _, Nat.zero_le _⟩ (fun H locs hP hD hS => ?_)
    refine lv_aload_n hx hb dX11_add_22 rfl (lv_at hl 0 rfl) ?_
    refine va_get (D := (dC, dI)) (ci := 3) (v := .ref cq_seconds) (C := RX11) (T := TX11) (N := 3) hx hb hts (inX11 _) hown hK hP 0 rfl rfl 1 (by decide) (hts _ (List.mem_cons_of_mem _ wf11_15)) (fun _ h9 => h9) rfl dX11_add_23 ?_
    refine lv_aload_n hx hb dX11_add_26 rfl (lv_at hl 0 rfl) ?_
    refine va_get (D := (dC, dI)) (ci := 3) (v := .int c_count) (C := RX11) (T := TX11) (N := 3) hx hb hts (inX11 _) hown hK hP 0 rfl rfl 2 (by decide) (hts _ (List.mem_cons_of_mem _ wf11_18)) (fun _ h9 => h9) rfl dX11_add_27 ?_
    refine lv_iload_n hx hb dX11_add_30 rfl (lv_at hl 2 rfl) ?_
    obtain ⟨c_seconds_3, hz3, hm⟩ := mr_bind hm
    try dsimp only at hm
    refine mr_wSNv (As := [.ref cq_seconds, .int c_count, .int a1]) (rest := []) (sr_okZ adK adV) ⟨hx, hb, hml, hown, hts⟩ (kX8_enter l htr dC dI adK adV cI cB cJ cZ cQ cq_seconds c_seconds _ 128 c_count a1 _ hz3) (sr_cnS 3 hts rfl gn11_28.1 (hz0.2.2.2.2.2.2.1 _ gn11_28.2) rfl rfl (by decide +kernel) ⟨(by show 0 + 1 ≤ 1; omega), (by show 8 + (3 + 11) + (0) ≤ 22; omega)⟩) hS hA hP hD hK hz0 (wr := [(obC, .inr (3, [.ref cq_firsts, .ref cq_seconds, .int c_count])), (cq_firsts, .inl (cI, 128, .inl c_firsts_2))]) (w1 := [(obC, .inr (3, [.ref cq_firsts, .ref cq_seconds, .int c_count])), (cq_firsts, .inl (cI, 128, .inl c_firsts_2)), (cq_seconds, .inl (cI, 128, .inl c_seconds_3))]) [2] [0, 1] [0, 1, 2] rfl rfl rfl rfl rfl (by decide) rfl rfl rfl rfl rfl hl.1 (Nat.le_of_ble_eq_true rfl) dX11_add_31 ⟨Nat.zero_le _, Nat.zero_le _⟩ (fun H locs hP hD hS => ?_)
    refine lv_aload_n hx hb dX11_add_34 rfl (lv_at hl 0 rfl) ?_
    refine lv_dup hx hb dX11_add_35 rfl ?_
    refine va_get (D := (dC, dI)) (ci := 3) (v := .int c_count) (C := RX11) (T := TX11) (N := 3) hx hb hts (inX11 _) hown hK hP 0 rfl rfl 2 (by decide) (hts _ (List.mem_cons_of_mem _ wf11_18)) (fun _ h9 => h9) rfl dX11_add_36 ?_
    refine lv_iconst (v := 1) hx hb dX11_add_39 (by decide) ?_
    refine lv_iadd hx hb dX11_add_40 ?_
    refine va_put (D := (dC, dI)) (ci := 3) (v := .int (c_count + 1)) (ty := .int) (C := RX11) (T := TX11) (N := 3) hx hb hts (inX11 _) tyX11 tyX11_ok nmX11 hown hK hP hD hS 0 rfl rfl 2 (by decide) (hts _ (List.mem_cons_of_mem _ wf11_18)) (fun _ h9 => h9) rfl (by decide +kernel) rfl rfl (Nat.le_of_ble_eq_true rfl) dX11_add_41 (fun H locs hP hD hS => ?_)
    have hP : va_P (dC, dI) srCl [(obC, .inr (3, [.ref cq_firsts, .ref cq_seconds, .int (c_count + 1)])), (cq_firsts, .inl (cI, 128, .inl c_firsts_2)), (cq_seconds, .inl (cI, 128, .inl c_seconds_3))] H := hP
    have hD : va_D A [(obC, .inr (3, [.ref cq_firsts, .ref cq_seconds, .int (c_count + 1)])), (cq_firsts, .inl (cI, 128, .inl c_firsts_2)), (cq_seconds, .inl (cI, 128, .inl c_seconds_3))] := hD
    obtain rfl := Option.some.inj hm
    subst hQ0
    exact W.vret hx hb hr (fun t ht hW => ⟨⟨(c_firsts_2, c_seconds_3, (c_count + 1)), rfl, rfl, by rw [ht]; exact hP, va_K.moved hW.alike hK, hD⟩, hS.F ht⟩) hS.2.2 dX11_add_44
set_option maxHeartbeats 4000000 in
set_option maxRecDepth 100000 in
theorem kX11_has (l : Launch) (htr : l.stackTraces = false) (dC : Nat → ClassId) (dI : Nat → Nat → Nat) (adK adV : Nat → Nat) (cI cB cJ cZ cQ : ClassId) (obC cq_firsts cq_seconds : Nat) (c_count : Int32) (c_firsts : Nat → Int32) (c_seconds : Nat → Int32) (a0 : Int32) (a1 : Int32) (res : Int32) (hm : m_X11_has c_firsts c_seconds c_count a0 a1 = some res) : Met l yX11_has wsX11_has (rmX11_has 0 0) (pcR (sr_Z adK adV) (dC, dI) srCl [(cI, .int), (cB, .byte), (cJ, .long), (cZ, .boolean), (cQ, .object "SchemaReader$Schema")] [.ref obC, .int a0, .int a1] [(obC, .inr (3, [.ref cq_firsts, .ref cq_seconds, .int c_count])), (cq_firsts, .inl (cI, 128, .inl c_firsts)), (cq_seconds, .inl (cI, 128, .inl c_seconds))]) (k2_QcV (.int res)) 0 0 (fun _ => False) := by
  refine Met.ofW (cc := cX11_has) (maxL := 4) (ret := (some .boolean)) (by decide) rfl ?_
  intro p e s m args below meth c s₁ B hml hv
  obtain ⟨rfl, hP, hK, hz0⟩ := hv
  have hx := B.exec
  have hb := B.bytes
  have hr := B.returns
  have hts := atoms_spec (ws := wsX11_has) B.pre
  have hown : s.vm.findClass RX11 = some m.cls := findClass_of_methodNamed B.named
  have hlocks := B.notSynchronized
  have hS : va_S (fun _ => False) s.heap s.heap [] := va_S.rf
  generalize hQ0 : MQ below (k2_QcV (.int res)) [.ref obC, .int a0, .int a1].toArray s 0 0 (fun _ => False) = Q0
  have hl := lv_entry [.ref obC, .int a0, .int a1] (n := 4) (Nat.le_of_ble_eq_true rfl)
  rw [lg_entry_eq]
  generalize (lg_sl [.ref obC, .int a0, .int a1] ++ List.replicate (4 - (lg_sl [.ref obC, .int a0, .int a1]).length) Slot.unset).toArray = ls at hl ⊢
  have hl : lv_has ls 4 [(0, .ref obC), (1, .int a0), (2, .int a1)] := hl
  unfold m_X11_has at hm
  refine lv_iconst (v := 0) hx hb dX11_has_0 (by decide) ?_
  have j2 : ∀ (n2 : Nat) (x1 : Int32) (x2 : Int32) (x3 : Int32) (ls : Array Slot), lv_has ls 4 [(0, .ref obC), (1, .int x1), (2, .int x2), (3, .int x3)] → m_X11_has_2 c_firsts c_seconds c_count n2 x1 x2 x3 = some res → W p l e (headSpec wsX11_has (rmX11_has 0 0)).room s m [.ref obC, .int a0, .int a1].toArray below meth c s.heap [] 0 0 Q0 (F0 m 2 ls []) := by
    intro n2
    induction n2 with
    | zero => intro x1 x2 x3 ls hl hm; exact nomatch (show (none : Option _) = some res from hm)
    | succ n2 ih2 =>
      intro x1 x2 x3 ls hl hm
      rw [m_X11_has_2] at hm
      refine lv_iload_n hx hb dX11_has_2 rfl (lv_at hl 3 rfl) ?_
      refine lv_aload_n hx hb dX11_has_3 rfl (lv_at hl 0 rfl) ?_
      refine va_get (D := (dC, dI)) (ci := 3) (v := .int c_count) (C := RX11) (T := TX11) (N := 3) hx hb hts (inX11 _) hown hK hP 0 rfl rfl 2 (by decide) (hts _ (List.mem_cons_of_mem _ wf11_18)) (fun _ h9 => h9) rfl dX11_has_4 ?_
      refine lv_icmp_ge (tgt := 42) hx hb dX11_has_7 (by decide) (fun c1 => ?_) (fun c1 => ?_)
      · have hm := mr_if c1 hm
        refine lv_iconst (v := 0) hx hb dX11_has_42 (by decide) ?_
        obtain rfl := Option.some.inj hm
        subst hQ0
        exact W.zret (v := 0) hx hb hr rfl (fun t ht hW => ⟨rfl, ht⟩) (fun q h => by cases h) dX11_has_43
      · have hm := mr_un c1 hm
        refine lv_aload_n hx hb dX11_has_10 rfl (lv_at hl 0 rfl) ?_
        refine va_get (D := (dC, dI)) (ci := 3) (v := .ref cq_firsts) (C := RX11) (T := TX11) (N := 3) hx hb hts (inX11 _) hown hK hP 0 rfl rfl 0 (by decide) (hts _ (List.mem_cons_of_mem _ wf11_9)) (fun _ h9 => h9) rfl dX11_has_11 ?_
        refine lv_iload_n hx hb dX11_has_14 rfl (lv_at hl 3 rfl) ?_
        obtain ⟨r2, hz2, hm⟩ := mr_bind hm
        refine mr_pSN (As := [.ref cq_firsts, .int x3]) (rest := []) (sr_okZ adK adV) ⟨hx, hb, hml, hown, hts⟩ (kX8_entry l htr dC dI adK adV cI cB cJ cZ cQ cq_firsts c_firsts 128 x3 r2 hz2) (sr_cnS 2 hts rfl gn11_22.1 (hz0.2.2.2.2.2.2.1 _ gn11_22.2) rfl rfl (by decide +kernel) ⟨(by show 0 + 1 ≤ 1; omega), (by show 8 + (2 + 11) + (0) ≤ 21; omega)⟩) hS hP hK hz0 [1] rfl rfl rfl hl.1 (Nat.le_of_ble_eq_true rfl) dX11_has_15 ⟨Nat.zero_le _, Nat.zero_le _⟩ ?_
        refine lv_iload_n hx hb dX11_has_18 rfl (lv_at hl 1 rfl) ?_
        refine lv_icmp_ne (tgt := 36) hx hb dX11_has_19 (by decide) (fun c3 => ?_) (fun c3 => ?_)
        · have hm := mr_un c3 hm
          refine lv_iinc (v := x3 + 1) (lv' := [(3, .int (x3 + 1)), (0, .ref obC), (1, .int x1), (2, .int x2)]) hx hb dX11_has_36 hl (k := 3) rfl rfl (by decide) rfl (fun ls hl => ?_)
          refine lv_goto (tgt := 2) hx hb dX11_has_39 (by decide) ?_
          exact ih2 x1 x2 (x3 + 1) ls (lv_sub hl [1, 2, 3, 0] rfl) hm
        · have hm := mr_if c3 hm
          refine lv_aload_n hx hb dX11_has_22 rfl (lv_at hl 0 rfl) ?_
          refine va_get (D := (dC, dI)) (ci := 3) (v := .ref cq_seconds) (C := RX11) (T := TX11) (N := 3) hx hb hts (inX11 _) hown hK hP 0 rfl rfl 1 (by decide) (hts _ (List.mem_cons_of_mem _ wf11_15)) (fun _ h9 => h9) rfl dX11_has_23 ?_
          refine lv_iload_n hx hb dX11_has_26 rfl (lv_at hl 3 rfl) ?_
          obtain ⟨r4, hz4, hm⟩ := mr_bind hm
          refine mr_pSN (As := [.ref cq_seconds, .int x3]) (rest := []) (sr_okZ adK adV) ⟨hx, hb, hml, hown, hts⟩ (kX8_entry l htr dC dI adK adV cI cB cJ cZ cQ cq_seconds c_seconds 128 x3 r4 hz4) (sr_cnS 2 hts rfl gn11_22.1 (hz0.2.2.2.2.2.2.1 _ gn11_22.2) rfl rfl (by decide +kernel) ⟨(by show 0 + 1 ≤ 1; omega), (by show 8 + (2 + 11) + (0) ≤ 21; omega)⟩) hS hP hK hz0 [2] rfl rfl rfl hl.1 (Nat.le_of_ble_eq_true rfl) dX11_has_27 ⟨Nat.zero_le _, Nat.zero_le _⟩ ?_
          refine lv_iload_n hx hb dX11_has_30 rfl (lv_at hl 2 rfl) ?_
          refine lv_icmp_ne (tgt := 36) hx hb dX11_has_31 (by decide) (fun c5 => ?_) (fun c5 => ?_)
          · have hm := mr_un c5 hm
            refine lv_iinc (v := x3 + 1) (lv' := [(3, .int (x3 + 1)), (0, .ref obC), (1, .int x1), (2, .int x2)]) hx hb dX11_has_36 hl (k := 3) rfl rfl (by decide) rfl (fun ls hl => ?_)
            refine lv_goto (tgt := 2) hx hb dX11_has_39 (by decide) ?_
            exact ih2 x1 x2 (x3 + 1) ls (lv_sub hl [1, 2, 3, 0] rfl) hm
          · have hm := mr_if c5 hm
            refine lv_iconst (v := 1) hx hb dX11_has_34 (by decide) ?_
            obtain rfl := Option.some.inj hm
            subst hQ0
            exact W.zret (v := 1) hx hb hr rfl (fun t ht hW => ⟨rfl, ht⟩) (fun q h => by cases h) dX11_has_35
  refine lv_istore_n (lv' := [(3, .int 0), (0, .ref obC), (1, .int a0), (2, .int a1)]) hx hb dX11_has_1 rfl hl (by decide) rfl (fun ls hl => ?_)
  exact j2 sr_fuel a0 a1 0 ls (lv_sub hl [1, 2, 3, 0] rfl) hm
