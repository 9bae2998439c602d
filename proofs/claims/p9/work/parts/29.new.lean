set_option maxHeartbeats 4000000 in
set_option maxRecDepth 100000 in
theorem kX2_init (l : Launch) (htr : l.stackTraces = false) (dC : Nat → ClassId) (dI : Nat → Nat → Nat) (adK adV : Nat → Nat) (cI cB cJ cZ cQ : ClassId) (ob : Nat) (sz : Nat) : Met l yX2_init wsX2_init rmX2_init (pcW (sr_Z adK adV) (dC, dI) srCl [(cI, .int), (cB, .byte), (cJ, .long), (cZ, .boolean), (cQ, .object "SchemaReader$Schema")] [.ref ob] [(ob, .inr (5, [.null, .null, .null, .null, .int 0]))] sz) (va_Qv (fun _ => True) (pcB (dC, dI) srCl [(cI, .int), (cB, .byte), (cJ, .long), (cZ, .boolean), (cQ, .object "SchemaReader$Schema")] (fun u : Nat × Nat × Nat × Nat => [(ob, .inr (5, [.ref u.1, .ref u.2.1, .ref u.2.2.1, .ref u.2.2.2, .int 0])), (u.1, .inl (cI, 256, .inl (fun _ => 0))), (u.2.1, .inl (cI, 1024, .inl (fun _ => 0))), (u.2.2.1, .inl (cI, 1024, .inl (fun _ => 0))), (u.2.2.2, .inl (cI, 1024, .inl (fun _ => 0)))]) (va_A [(ob, .inr (5, [.null, .null, .null, .null, .int 0]))] sz)) (va_A [(ob, .inr (5, [.null, .null, .null, .null, .int 0]))] sz)) 4 3328 (va_A [(ob, .inr (5, [.null, .null, .null, .null, .int 0]))] sz) := by
  refine Met.ofW (cc := cX2_init) (maxL := 1) (ret := none) (by decide) rfl ?_
  intro p e s m args below meth c s₁ B hml hv
  obtain ⟨rfl, hsz, hP, hK, hD0, hz0⟩ := hv
  have hx := B.exec
  have hb := B.bytes
  have hr := B.returns
  have hts := atoms_spec (ws := wsX2_init) B.pre
  have hown : s.vm.findClass RX2 = some m.cls := findClass_of_methodNamed B.named
  have hnm : meth.name = "<init>" := (name_of_methodNamed B.named B.method).1
  subst hsz
  have hD := hD0.self (sz := s.heap.size)
  generalize hAe : va_A [(ob, .inr (5, [.null, .null, .null, .null, .int 0]))] s.heap.size = A at hD hz0 ⊢
  have hA : ∀ q : Nat, s.heap.size ≤ q → A q := fun q h => by rw [← hAe]; exact Or.inr h
  have hS : va_S A s.heap s.heap [] := va_S.rf
  generalize hQ0 : MQ below (va_Qv (fun _ => True) (pcB (dC, dI) srCl [(cI, .int), (cB, .byte), (cJ, .long), (cZ, .boolean), (cQ, .object "SchemaReader$Schema")] (fun u : Nat × Nat × Nat × Nat => [(ob, .inr (5, [.ref u.1, .ref u.2.1, .ref u.2.2.1, .ref u.2.2.2, .int 0])), (u.1, .inl (cI, 256, .inl (fun _ => 0))), (u.2.1, .inl (cI, 1024, .inl (fun _ => 0))), (u.2.2.1, .inl (cI, 1024, .inl (fun _ => 0))), (u.2.2.2, .inl (cI, 1024, .inl (fun _ => 0)))]) A) A) [.ref ob].toArray s 4 3328 A = Q0
  have hl := lv_entry [.ref ob] (n := 1) (Nat.le_of_ble_eq_true rfl)
  rw [lg_entry_eq]
  generalize (lg_sl [.ref ob] ++ List.replicate (1 - (lg_sl [.ref ob]).length) Slot.unset).toArray = ls at hl ⊢
  have hl : lv_has ls 1 [(0, .ref ob)] := hl
  refine lv_aload_n hx hb dX2_init_0 rfl (lv_at hl 0 rfl) ?_
  refine W.objInit hx hb hown (hts _ (List.mem_cons_of_mem _ (oi2_3 _ (List.mem_of_getElem? (i := 0) rfl)))) (hts _ (List.mem_cons_of_mem _ (oi2_3 _ (List.mem_of_getElem? (i := 1) rfl)))) (hts _ (List.mem_cons_of_mem _ (oi2_3 _ (List.mem_of_getElem? (i := 2) rfl)))) rfl (by rw [hml]; exact hl.1) rfl dX2_init_1 (Nat.le_of_ble_eq_true rfl) (Nat.le_of_ble_eq_true rfl) ?_
  refine lv_aload_n hx hb dX2_init_4 rfl (lv_at hl 0 rfl) ?_
  refine lv_sipush (v := 256) hx hb dX2_init_5 (by decide) ?_
  refine mr_newa (ty := .int) (N' := 256) (a0 := (256, .inl (fun _ => 0))) hx hb (hts _ (List.mem_cons_of_mem _ (arI _ List.mem_cons_self))) rfl (fun C h => by cases h) hK hP hD hS hA (fun _ => rfl) (by decide) (by decide) (by decide) (Nat.le_of_ble_eq_true rfl) (Nat.le_of_ble_eq_true rfl) dX2_init_8 0 rfl (fun q8 H hP hD hS => ?_)
  have hP : va_P (dC, dI) srCl [(ob, .inr (5, [.null, .null, .null, .null, .int 0])), (q8, .inl (cI, 256, .inl (fun _ => 0)))] H := hP
  have hD : va_D A [(ob, .inr (5, [.null, .null, .null, .null, .int 0])), (q8, .inl (cI, 256, .inl (fun _ => 0)))] := hD
  refine va_putF (D := (dC, dI)) (ci := 5) (v := .ref q8) (ty := .array .int) (C := RX2) (T := TX2) (N := 5) hx hb hts (inX2 _) tyX2 tyX2_ok nmX2 hown hK hP hD hS 0 rfl rfl 0 (by decide) (hts _ (List.mem_cons_of_mem _ wf2_11)) (fun _ h9 => h9) rfl hnm rfl (by decide +kernel) rfl rfl (Nat.le_of_ble_eq_true rfl) dX2_init_10 (fun H locs hP hD hS => ?_)
  have hP : va_P (dC, dI) srCl [(ob, .inr (5, [.ref q8, .null, .null, .null, .int 0])), (q8, .inl (cI, 256, .inl (fun _ => 0)))] H := hP
  have hD : va_D A [(ob, .inr (5, [.ref q8, .null, .null, .null, .int 0])), (q8, .inl (cI, 256, .inl (fun _ => 0)))] := hD
  refine lv_aload_n hx hb dX2_init_13 rfl (lv_at hl 0 rfl) ?_
  refine lv_sipush (v := 1024) hx hb dX2_init_14 (by decide) ?_
  refine mr_newa (ty := .int) (N' := 1024) (a0 := (1024, .inl (fun _ => 0))) hx hb (hts _ (List.mem_cons_of_mem _ (arI _ List.mem_cons_self))) rfl (fun C h => by cases h) hK hP hD hS hA (fun _ => rfl) (by decide) (by decide) (by decide) (Nat.le_of_ble_eq_true rfl) (Nat.le_of_ble_eq_true rfl) dX2_init_17 0 rfl (fun q17 H hP hD hS => ?_)
  have hP : va_P (dC, dI) srCl [(ob, .inr (5, [.ref q8, .null, .null, .null, .int 0])), (q8, .inl (cI, 256, .inl (fun _ => 0))), (q17, .inl (cI, 1024, .inl (fun _ => 0)))] H := hP
  have hD : va_D A [(ob, .inr (5, [.ref q8, .null, .null, .null, .int 0])), (q8, .inl (cI, 256, .inl (fun _ => 0))), (q17, .inl (cI, 1024, .inl (fun _ => 0)))] := hD
  refine va_putF (D := (dC, dI)) (ci := 5) (v := .ref q17) (ty := .array .int) (C := RX2) (T := TX2) (N := 5) hx hb hts (inX2 _) tyX2 tyX2_ok nmX2 hown hK hP hD hS 0 rfl rfl 1 (by decide) (hts _ (List.mem_cons_of_mem _ wf2_15)) (fun _ h9 => h9) rfl hnm rfl (by decide +kernel) rfl rfl (Nat.le_of_ble_eq_true rfl) dX2_init_19 (fun H locs hP hD hS => ?_)
  have hP : va_P (dC, dI) srCl [(ob, .inr (5, [.ref q8, .ref q17, .null, .null, .int 0])), (q8, .inl (cI, 256, .inl (fun _ => 0))), (q17, .inl (cI, 1024, .inl (fun _ => 0)))] H := hP
  have hD : va_D A [(ob, .inr (5, [.ref q8, .ref q17, .null, .null, .int 0])), (q8, .inl (cI, 256, .inl (fun _ => 0))), (q17, .inl (cI, 1024, .inl (fun _ => 0)))] := hD
  refine lv_aload_n hx hb dX2_init_22 rfl (lv_at hl 0 rfl) ?_
  refine lv_sipush (v := 1024) hx hb dX2_init_23 (by decide) ?_
  refine mr_newa (ty := .int) (N' := 1024) (a0 := (1024, .inl (fun _ => 0))) hx hb (hts _ (List.mem_cons_of_mem _ (arI _ List.mem_cons_self))) rfl (fun C h => by cases h) hK hP hD hS hA (fun _ => rfl) (by decide) (by decide) (by decide) (Nat.le_of_ble_eq_true rfl) (Nat.le_of_ble_eq_true rfl) dX2_init_26 0 rfl (fun q26 H hP hD hS => ?_)
  have hP : va_P (dC, dI) srCl [(ob, .inr (5, [.ref q8, .ref q17, .null, .null, .int 0])), (q8, .inl (cI, 256, .inl (fun _ => 0))), (q17, .inl (cI, 1024, .inl (fun _ => 0))), (q26, .inl (cI, 1024, .inl (fun _ => 0)))] H := hP
  have hD : va_D A [(ob, .inr (5, [.ref q8, .ref q17, .null, .null, .int 0])), (q8, .inl (cI, 256, .inl (fun _ => 0))), (q17, .inl (cI, 1024, .inl (fun _ => 0))), (q26, .inl (cI, 1024, .inl (fun _ => 0)))] := hD
  refine va_putF (D := (dC, dI)) (ci := 5) (v := .ref q26) (ty := .array .int) (C := RX2) (T := TX2) (N := 5) hx hb hts (inX2 _) tyX2 tyX2_ok nmX2 hown hK hP hD hS 0 rfl rfl 2 (by decide) (hts _ (List.mem_cons_of_mem _ wf2_18)) (fun _ h9 => h9) rfl hnm rfl (by decide +kernel) rfl rfl (Nat.le_of_ble_eq_true rfl) dX2_init_28 (fun H locs hP hD hS => ?_)
  have hP : va_P (dC, dI) srCl [(ob, .inr (5, [.ref q8, .ref q17, .ref q26, .null, .int 0])), (q8, .inl (cI, 256, .inl (fun _ => 0))), (q17, .inl (cI, 1024, .inl (fun _ => 0))), (q26, .inl (cI, 1024, .inl (fun _ => 0)))] H := hP
  have hD : va_D A [(ob, .inr (5, [.ref q8, .ref q17, .ref q26, .null, .int 0])), (q8, .inl (cI, 256, .inl (fun _ => 0))), (q17, .inl (cI, 1024, .inl (fun _ => 0))), (q26, .inl (cI, 1024, .inl (fun _ => 0)))] := hD
  refine lv_aload_n hx hb dX2_init_31 rfl (lv_at hl 0 rfl) ?_
  refine lv_sipush (v := 1024) hx hb dX2_init_32 (by decide) ?_
  refine mr_newa (ty := .int) (N' := 1024) (a0 := (1024, .inl (fun _ => 0))) hx hb (hts _ (List.mem_cons_of_mem _ (arI _ List.mem_cons_self))) rfl (fun C h => by cases h) hK hP hD hS hA (fun _ => rfl) (by decide) (by decide) (by decide) (Nat.le_of_ble_eq_true rfl) (Nat.le_of_ble_eq_true rfl) dX2_init_35 0 rfl (fun q35 H hP hD hS => ?_)
  have hP : va_P (dC, dI) srCl [(ob, .inr (5, [.ref q8, .ref q17, .ref q26, .null, .int 0])), (q8, .inl (cI, 256, .inl (fun _ => 0))), (q17, .inl (cI, 1024, .inl (fun _ => 0))), (q26, .inl (cI, 1024, .inl (fun _ => 0))), (q35, .inl (cI, 1024, .inl (fun _ => 0)))] H := hP
  have hD : va_D A [(ob, .inr (5, [.ref q8, .ref q17, .ref q26, .null, .int 0])), (q8, .inl (cI, 256, .inl (fun _ => 0))), (q17, .inl (cI, 1024, .inl (fun _ => 0))), (q26, .inl (cI, 1024, .inl (fun _ => 0))), (q35, .inl (cI, 1024, .inl (fun _ => 0)))] := hD
  refine va_putF (D := (dC, dI)) (ci := 5) (v := .ref q35) (ty := .array .int) (C := RX2) (T := TX2) (N := 5) hx hb hts (inX2 _) tyX2 tyX2_ok nmX2 hown hK hP hD hS 0 rfl rfl 3 (by decide) (hts _ (List.mem_cons_of_mem _ wf2_21)) (fun _ h9 => h9) rfl hnm rfl (by decide +kernel) rfl rfl (Nat.le_of_ble_eq_true rfl) dX2_init_37 (fun H locs hP hD hS => ?_)
  have hP : va_P (dC, dI) srCl [(ob, .inr (5, [.ref q8, .ref q17, .ref q26, .ref q35, .int 0])), (q8, .inl (cI, 256, .inl (fun _ => 0))), (q17, .inl (cI, 1024, .inl (fun _ => 0))), (q26, .inl (cI, 1024, .inl (fun _ => 0))), (q35, .inl (cI, 1024, .inl (fun _ => 0)))] H := hP
  have hD : va_D A [(ob, .inr (5, [.ref q8, .ref q17, .ref q26, .ref q35, .int 0])), (q8, .inl (cI, 256, .inl (fun _ => 0))), (q17, .inl (cI, 1024, .inl (fun _ => 0))), (q26, .inl (cI, 1024, .inl (fun _ => 0))), (q35, .inl (cI, 1024, .inl (fun _ => 0)))] := hD
  refine lv_aload_n hx hb dX2_init_40 rfl (lv_at hl 0 rfl) ?_
  refine lv_iconst (v := 0) hx hb dX2_init_41 (by decide) ?_
  refine va_put (D := (dC, dI)) (ci := 5) (v := .int 0) (ty := .int) (C := RX2) (T := TX2) (N := 5) hx hb hts (inX2 _) tyX2 tyX2_ok nmX2 hown hK hP hD hS 0 rfl rfl 4 (by decide) (hts _ (List.mem_cons_of_mem _ wf2_24)) (fun _ h9 => h9) rfl (by decide +kernel) rfl rfl (Nat.le_of_ble_eq_true rfl) dX2_init_42 (fun H locs hP hD hS => ?_)
  have hP : va_P (dC, dI) srCl [(ob, .inr (5, [.ref q8, .ref q17, .ref q26, .ref q35, .int 0])), (q8, .inl (cI, 256, .inl (fun _ => 0))), (q17, .inl (cI, 1024, .inl (fun _ => 0))), (q26, .inl (cI, 1024, .inl (fun _ => 0))), (q35, .inl (cI, 1024, .inl (fun _ => 0)))] H := hP
  have hD : va_D A [(ob, .inr (5, [.ref q8, .ref q17, .ref q26, .ref q35, .int 0])), (q8, .inl (cI, 256, .inl (fun _ => 0))), (q17, .inl (cI, 1024, .inl (fun _ => 0))), (q26, .inl (cI, 1024, .inl (fun _ => 0))), (q35, .inl (cI, 1024, .inl (fun _ => 0)))] := hD
  refine W.widen (k := 4) (n := 3328) (Nat.le_of_ble_eq_true rfl) (Nat.le_of_ble_eq_true rfl) ?_
  subst hQ0
  exact W.vret hx hb hr (fun t ht hW => ⟨⟨(q8, q17, q26, q35), rfl, trivial, by rw [ht]; exact hP, va_K.moved hW.alike hK, hD⟩, hS.F ht⟩) hS.2.2 dX2_init_45
set_option maxHeartbeats 4000000 in
set_option maxRecDepth 100000 in
theorem kX7_init (l : Launch) (htr : l.stackTraces = false) (dC : Nat → ClassId) (dI : Nat → Nat → Nat) (adK adV : Nat → Nat) (cI cB cJ cZ cQ : ClassId) (ob : Nat) (sz : Nat) : Met l yX7_init wsX7_init rmX7_init (pcW (sr_Z adK adV) (dC, dI) srCl [(cI, .int), (cB, .byte), (cJ, .long), (cZ, .boolean), (cQ, .object "SchemaReader$Schema")] [.ref ob] [(ob, .inr (9, [.null, .null, .null, .null, .null, .null, .int 0, .int 0]))] sz) (va_Qv (fun _ => True) (pcB (dC, dI) srCl [(cI, .int), (cB, .byte), (cJ, .long), (cZ, .boolean), (cQ, .object "SchemaReader$Schema")] (fun u : Nat × Nat × Nat × Nat × Nat × Nat × Nat × Nat × Nat × Nat => [(ob, .inr (9, [.ref u.1, .ref u.2.1, .ref u.2.2.1, .ref u.2.2.2.1, .ref u.2.2.2.2.1, .ref u.2.2.2.2.2.1, .int 0, .int (-1)])), (u.1, .inl (cB, 4096, .inl (fun _ => 0))), (u.2.1, .inl (cB, 4096, .inl (fun _ => 0))), (u.2.2.1, .inl (cI, 4096, .inl (fun _ => 0))), (u.2.2.2.1, .inl (cI, 4096, .inl (fun _ => 0))), (u.2.2.2.2.1, .inl (cI, 4096, .inl (fun _ => 0))), (u.2.2.2.2.2.1, .inr (5, [.ref u.2.2.2.2.2.2.1, .ref u.2.2.2.2.2.2.2.1, .ref u.2.2.2.2.2.2.2.2.1, .ref u.2.2.2.2.2.2.2.2.2, .int 0])), (u.2.2.2.2.2.2.1, .inl (cI, 256, .inl (fun _ => 0))), (u.2.2.2.2.2.2.2.1, .inl (cI, 1024, .inl (fun _ => 0))), (u.2.2.2.2.2.2.2.2.1, .inl (cI, 1024, .inl (fun _ => 0))), (u.2.2.2.2.2.2.2.2.2, .inl (cI, 1024, .inl (fun _ => 0)))]) (va_A [(ob, .inr (9, [.null, .null, .null, .null, .null, .null, .int 0, .int 0]))] sz)) (va_A [(ob, .inr (9, [.null, .null, .null, .null, .null, .null, .int 0, .int 0]))] sz)) 10 23813 (va_A [(ob, .inr (9, [.null, .null, .null, .null, .null, .null, .int 0, .int 0]))] sz) := by
  refine Met.ofW (cc := cX7_init) (maxL := 1) (ret := none) (by decide) rfl ?_
  intro p e s m args below meth c s₁ B hml hv
  obtain ⟨rfl, hsz, hP, hK, hD0, hz0⟩ := hv
  have hx := B.exec
  have hb := B.bytes
  have hr := B.returns
  have hts := atoms_spec (ws := wsX7_init) B.pre
  have hown : s.vm.findClass RX7 = some m.cls := findClass_of_methodNamed B.named
  have hnm : meth.name = "<init>" := (name_of_methodNamed B.named B.method).1
  subst hsz
  have hD := hD0.self (sz := s.heap.size)
  generalize hAe : va_A [(ob, .inr (9, [.null, .null, .null, .null, .null, .null, .int 0, .int 0]))] s.heap.size = A at hD hz0 ⊢
  have hA : ∀ q : Nat, s.heap.size ≤ q → A q := fun q h => by rw [← hAe]; exact Or.inr h
  have hS : va_S A s.heap s.heap [] := va_S.rf
  generalize hQ0 : MQ below (va_Qv (fun _ => True) (pcB (dC, dI) srCl [(cI, .int), (cB, .byte), (cJ, .long), (cZ, .boolean), (cQ, .object "SchemaReader$Schema")] (fun u : Nat × Nat × Nat × Nat × Nat × Nat × Nat × Nat × Nat × Nat => [(ob, .inr (9, [.ref u.1, .ref u.2.1, .ref u.2.2.1, .ref u.2.2.2.1, .ref u.2.2.2.2.1, .ref u.2.2.2.2.2.1, .int 0, .int (-1)])), (u.1, .inl (cB, 4096, .inl (fun _ => 0))), (u.2.1, .inl (cB, 4096, .inl (fun _ => 0))), (u.2.2.1, .inl (cI, 4096, .inl (fun _ => 0))), (u.2.2.2.1, .inl (cI, 4096, .inl (fun _ => 0))), (u.2.2.2.2.1, .inl (cI, 4096, .inl (fun _ => 0))), (u.2.2.2.2.2.1, .inr (5, [.ref u.2.2.2.2.2.2.1, .ref u.2.2.2.2.2.2.2.1, .ref u.2.2.2.2.2.2.2.2.1, .ref u.2.2.2.2.2.2.2.2.2, .int 0])), (u.2.2.2.2.2.2.1, .inl (cI, 256, .inl (fun _ => 0))), (u.2.2.2.2.2.2.2.1, .inl (cI, 1024, .inl (fun _ => 0))), (u.2.2.2.2.2.2.2.2.1, .inl (cI, 1024, .inl (fun _ => 0))), (u.2.2.2.2.2.2.2.2.2, .inl (cI, 1024, .inl (fun _ => 0)))]) A) A) [.ref ob].toArray s 10 23813 A = Q0
  have hl := lv_entry [.ref ob] (n := 1) (Nat.le_of_ble_eq_true rfl)
  rw [lg_entry_eq]
  generalize (lg_sl [.ref ob] ++ List.replicate (1 - (lg_sl [.ref ob]).length) Slot.unset).toArray = ls at hl ⊢
  have hl : lv_has ls 1 [(0, .ref ob)] := hl
  refine lv_aload_n hx hb dX7_init_0 rfl (lv_at hl 0 rfl) ?_
  refine W.objInit hx hb hown (hts _ (List.mem_cons_of_mem _ (oi7_3 _ (List.mem_of_getElem? (i := 0) rfl)))) (hts _ (List.mem_cons_of_mem _ (oi7_3 _ (List.mem_of_getElem? (i := 1) rfl)))) (hts _ (List.mem_cons_of_mem _ (oi7_3 _ (List.mem_of_getElem? (i := 2) rfl)))) rfl (by rw [hml]; exact hl.1) rfl dX7_init_1 (Nat.le_of_ble_eq_true rfl) (Nat.le_of_ble_eq_true rfl) ?_
  refine lv_aload_n hx hb dX7_init_4 rfl (lv_at hl 0 rfl) ?_
  refine lv_sipush (v := 4096) hx hb dX7_init_5 (by decide) ?_
  refine mr_newa (ty := .byte) (N' := 4096) (a0 := (4096, .inl (fun _ => 0))) hx hb (hts _ (List.mem_cons_of_mem _ (arB _ List.mem_cons_self))) rfl (fun C h => by cases h) hK hP hD hS hA (fun _ => rfl) (by decide) (by decide) (by decide) (Nat.le_of_ble_eq_true rfl) (Nat.le_of_ble_eq_true rfl) dX7_init_8 1 rfl (fun q8 H hP hD hS => ?_)
  have hP : va_P (dC, dI) srCl [(ob, .inr (9, [.null, .null, .null, .null, .null, .null, .int 0, .int 0])), (q8, .inl (cB, 4096, .inl (fun _ => 0)))] H := hP
  have hD : va_D A [(ob, .inr (9, [.null, .null, .null, .null, .null, .null, .int 0, .int 0])), (q8, .inl (cB, 4096, .inl (fun _ => 0)))] := hD
  refine va_putF (D := (dC, dI)) (ci := 9) (v := .ref q8) (ty := .array .byte) (C := RX7) (T := TX7) (N := 8) hx hb hts (inX7 _) tyX7 tyX7_ok nmX7 hown hK hP hD hS 0 rfl rfl 0 (by decide) (hts _ (List.mem_cons_of_mem _ wf7_9)) (fun _ h9 => h9) rfl hnm rfl (by decide +kernel) rfl rfl (Nat.le_of_ble_eq_true rfl) dX7_init_10 (fun H locs hP hD hS => ?_)
  have hP : va_P (dC, dI) srCl [(ob, .inr (9, [.ref q8, .null, .null, .null, .null, .null, .int 0, .int 0])), (q8, .inl (cB, 4096, .inl (fun _ => 0)))] H := hP
  have hD : va_D A [(ob, .inr (9, [.ref q8, .null, .null, .null, .null, .null, .int 0, .int 0])), (q8, .inl (cB, 4096, .inl (fun _ => 0)))] := hD
  refine lv_aload_n hx hb dX7_init_13 rfl (lv_at hl 0 rfl) ?_
  refine lv_sipush (v := 4096) hx hb dX7_init_14 (by decide) ?_
  refine mr_newa (ty := .byte) (N' := 4096) (a0 := (4096, .inl (fun _ => 0))) hx hb (hts _ (List.mem_cons_of_mem _ (arB _ List.mem_cons_self))) rfl (fun C h => by cases h) hK hP hD hS hA (fun _ => rfl) (by decide) (by decide) (by decide) (Nat.le_of_ble_eq_true rfl) (Nat.le_of_ble_eq_true rfl) dX7_init_17 1 rfl (fun q17 H hP hD hS => ?_)
  have hP : va_P (dC, dI) srCl [(ob, .inr (9, [.ref q8, .null, .null, .null, .null, .null, .int 0, .int 0])), (q8, .inl (cB, 4096, .inl (fun _ => 0))), (q17, .inl (cB, 4096, .inl (fun _ => 0)))] H := hP
  have hD : va_D A [(ob, .inr (9, [.ref q8, .null, .null, .null, .null, .null, .int 0, .int 0])), (q8, .inl (cB, 4096, .inl (fun _ => 0))), (q17, .inl (cB, 4096, .inl (fun _ => 0)))] := hD
  refine va_putF (D := (dC, dI)) (ci := 9) (v := .ref q17) (ty := .array .byte) (C := RX7) (T := TX7) (N := 8) hx hb hts (inX7 _) tyX7 tyX7_ok nmX7 hown hK hP hD hS 0 rfl rfl 1 (by decide) (hts _ (List.mem_cons_of_mem _ wf7_15)) (fun _ h9 => h9) rfl hnm rfl (by decide +kernel) rfl rfl (Nat.le_of_ble_eq_true rfl) dX7_init_19 (fun H locs hP hD hS => ?_)
  have hP : va_P (dC, dI) srCl [(ob, .inr (9, [.ref q8, .ref q17, .null, .null, .null, .null, .int 0, .int 0])), (q8, .inl (cB, 4096, .inl (fun _ => 0))), (q17, .inl (cB, 4096, .inl (fun _ => 0)))] H := hP
  have hD : va_D A [(ob, .inr (9, [.ref q8, .ref q17, .null, .null, .null, .null, .int 0, .int 0])), (q8, .inl (cB, 4096, .inl (fun _ => 0))), (q17, .inl (cB, 4096, .inl (fun _ => 0)))] := hD
  refine lv_aload_n hx hb dX7_init_22 rfl (lv_at hl 0 rfl) ?_
  refine lv_sipush (v := 4096) hx hb dX7_init_23 (by decide) ?_
  refine mr_newa (ty := .int) (N' := 4096) (a0 := (4096, .inl (fun _ => 0))) hx hb (hts _ (List.mem_cons_of_mem _ (arI _ List.mem_cons_self))) rfl (fun C h => by cases h) hK hP hD hS hA (fun _ => rfl) (by decide) (by decide) (by decide) (Nat.le_of_ble_eq_true rfl) (Nat.le_of_ble_eq_true rfl) dX7_init_26 0 rfl (fun q26 H hP hD hS => ?_)
  have hP : va_P (dC, dI) srCl [(ob, .inr (9, [.ref q8, .ref q17, .null, .null, .null, .null, .int 0, .int 0])), (q8, .inl (cB, 4096, .inl (fun _ => 0))), (q17, .inl (cB, 4096, .inl (fun _ => 0))), (q26, .inl (cI, 4096, .inl (fun _ => 0)))] H := hP
  have hD : va_D A [(ob, .inr (9, [.ref q8, .ref q17, .null, .null, .null, .null, .int 0, .int 0])), (q8, .inl (cB, 4096, .inl (fun _ => 0))), (q17, .inl (cB, 4096, .inl (fun _ => 0))), (q26, .inl (cI, 4096, .inl (fun _ => 0)))] := hD
  refine va_putF (D := (dC, dI)) (ci := 9) (v := .ref q26) (ty := .array .int) (C := RX7) (T := TX7) (N := 8) hx hb hts (inX7 _) tyX7 tyX7_ok nmX7 hown hK hP hD hS 0 rfl rfl 2 (by decide) (hts _ (List.mem_cons_of_mem _ wf7_18)) (fun _ h9 => h9) rfl hnm rfl (by decide +kernel) rfl rfl (Nat.le_of_ble_eq_true rfl) dX7_init_28 (fun H locs hP hD hS => ?_)
  have hP : va_P (dC, dI) srCl [(ob, .inr (9, [.ref q8, .ref q17, .ref q26, .null, .null, .null, .int 0, .int 0])), (q8, .inl (cB, 4096, .inl (fun _ => 0))), (q17, .inl (cB, 4096, .inl (fun _ => 0))), (q26, .inl (cI, 4096, .inl (fun _ => 0)))] H := hP
  have hD : va_D A [(ob, .inr (9, [.ref q8, .ref q17, .ref q26, .null, .null, .null, .int 0, .int 0])), (q8, .inl (cB, 4096, .inl (fun _ => 0))), (q17, .inl (cB, 4096, .inl (fun _ => 0))), (q26, .inl (cI, 4096, .inl (fun _ => 0)))] := hD
  refine lv_aload_n hx hb dX7_init_31 rfl (lv_at hl 0 rfl) ?_
  refine lv_sipush (v := 4096) hx hb dX7_init_32 (by decide) ?_
  refine mr_newa (ty := .int) (N' := 4096) (a0 := (4096, .inl (fun _ => 0))) hx hb (hts _ (List.mem_cons_of_mem _ (arI _ List.mem_cons_self))) rfl (fun C h => by cases h) hK hP hD hS hA (fun _ => rfl) (by decide) (by decide) (by decide) (Nat.le_of_ble_eq_true rfl) (Nat.le_of_ble_eq_true rfl) dX7_init_35 0 rfl (fun q35 H hP hD hS => ?_)
  have hP : va_P (dC, dI) srCl [(ob, .inr (9, [.ref q8, .ref q17, .ref q26, .null, .null, .null, .int 0, .int 0])), (q8, .inl (cB, 4096, .inl (fun _ => 0))), (q17, .inl (cB, 4096, .inl (fun _ => 0))), (q26, .inl (cI, 4096, .inl (fun _ => 0))), (q35, .inl (cI, 4096, .inl (fun _ => 0)))] H := hP
  have hD : va_D A [(ob, .inr (9, [.ref q8, .ref q17, .ref q26, .null, .null, .null, .int 0, .int 0])), (q8, .inl (cB, 4096, .inl (fun _ => 0))), (q17, .inl (cB, 4096, .inl (fun _ => 0))), (q26, .inl (cI, 4096, .inl (fun _ => 0))), (q35, .inl (cI, 4096, .inl (fun _ => 0)))] := hD
  refine va_putF (D := (dC, dI)) (ci := 9) (v := .ref q35) (ty := .array .int) (C := RX7) (T := TX7) (N := 8) hx hb hts (inX7 _) tyX7 tyX7_ok nmX7 hown hK hP hD hS 0 rfl rfl 3 (by decide) (hts _ (List.mem_cons_of_mem _ wf7_22)) (fun _ h9 => h9) rfl hnm rfl (by decide +kernel) rfl rfl (Nat.le_of_ble_eq_true rfl) dX7_init_37 (fun H locs hP hD hS => ?_)
  have hP : va_P (dC, dI) srCl [(ob, .inr (9, [.ref q8, .ref q17, .ref q26, .ref q35, .null, .null, .int 0, .int 0])), (q8, .inl (cB, 4096, .inl (fun _ => 0))), (q17, .inl (cB, 4096, .inl (fun _ => 0))), (q26, .inl (cI, 4096, .inl (fun _ => 0))), (q35, .inl (cI, 4096, .inl (fun _ => 0)))] H := hP
  have hD : va_D A [(ob, .inr (9, [.ref q8, .ref q17, .ref q26, .ref q35, .null, .null, .int 0, .int 0])), (q8, .inl (cB, 4096, .inl (fun _ => 0))), (q17, .inl (cB, 4096, .inl (fun _ => 0))), (q26, .inl (cI, 4096, .inl (fun _ => 0))), (q35, .inl (cI, 4096, .inl (fun _ => 0)))] := hD
  refine lv_aload_n hx hb dX7_init_40 rfl (lv_at hl 0 rfl) ?_
  refine lv_sipush (v := 4096) hx hb dX7_init_41 (by decide) ?_
  refine mr_newa (ty := .int) (N' := 4096) (a0 := (4096, .inl (fun _ => 0))) hx hb (hts _ (List.mem_cons_of_mem _ (arI _ List.mem_cons_self))) rfl (fun C h => by cases h) hK hP hD hS hA (fun _ => rfl) (by decide) (by decide) (by decide) (Nat.le_of_ble_eq_true rfl) (Nat.le_of_ble_eq_true rfl) dX7_init_44 0 rfl (fun q44 H hP hD hS => ?_)
  have hP : va_P (dC, dI) srCl [(ob, .inr (9, [.ref q8, .ref q17, .ref q26, .ref q35, .null, .null, .int 0, .int 0])), (q8, .inl (cB, 4096, .inl (fun _ => 0))), (q17, .inl (cB, 4096, .inl (fun _ => 0))), (q26, .inl (cI, 4096, .inl (fun _ => 0))), (q35, .inl (cI, 4096, .inl (fun _ => 0))), (q44, .inl (cI, 4096, .inl (fun _ => 0)))] H := hP
  have hD : va_D A [(ob, .inr (9, [.ref q8, .ref q17, .ref q26, .ref q35, .null, .null, .int 0, .int 0])), (q8, .inl (cB, 4096, .inl (fun _ => 0))), (q17, .inl (cB, 4096, .inl (fun _ => 0))), (q26, .inl (cI, 4096, .inl (fun _ => 0))), (q35, .inl (cI, 4096, .inl (fun _ => 0))), (q44, .inl (cI, 4096, .inl (fun _ => 0)))] := hD
  refine va_putF (D := (dC, dI)) (ci := 9) (v := .ref q44) (ty := .array .int) (C := RX7) (T := TX7) (N := 8) hx hb hts (inX7 _) tyX7 tyX7_ok nmX7 hown hK hP hD hS 0 rfl rfl 4 (by decide) (hts _ (List.mem_cons_of_mem _ wf7_25)) (fun _ h9 => h9) rfl hnm rfl (by decide +kernel) rfl rfl (Nat.le_of_ble_eq_true rfl) dX7_init_46 (fun H locs hP hD hS => ?_)
  have hP : va_P (dC, dI) srCl [(ob, .inr (9, [.ref q8, .ref q17, .ref q26, .ref q35, .ref q44, .null, .int 0, .int 0])), (q8, .inl (cB, 4096, .inl (fun _ => 0))), (q17, .inl (cB, 4096, .inl (fun _ => 0))), (q26, .inl (cI, 4096, .inl (fun _ => 0))), (q35, .inl (cI, 4096, .inl (fun _ => 0))), (q44, .inl (cI, 4096, .inl (fun _ => 0)))] H := hP
  have hD : va_D A [(ob, .inr (9, [.ref q8, .ref q17, .ref q26, .ref q35, .ref q44, .null, .int 0, .int 0])), (q8, .inl (cB, 4096, .inl (fun _ => 0))), (q17, .inl (cB, 4096, .inl (fun _ => 0))), (q26, .inl (cI, 4096, .inl (fun _ => 0))), (q35, .inl (cI, 4096, .inl (fun _ => 0))), (q44, .inl (cI, 4096, .inl (fun _ => 0)))] := hD
  refine lv_aload_n hx hb dX7_init_49 rfl (lv_at hl 0 rfl) ?_
  refine va_new (ci := 5) (fs := [.null, .null, .null, .null, .int 0]) (C := RX2) (T := TX2) (N := 5) hx hb hts (inX2 _) tyX2 tyX2_ok hown (hts _ (List.mem_cons_of_mem _ (nw7_28 _ (List.mem_of_getElem? (i := 0) rfl)))) (hts _ (List.mem_cons_of_mem _ (nw7_28 _ (List.mem_of_getElem? (i := 1) rfl)))) (hts _ (List.mem_cons_of_mem _ (nw7_28 _ (List.mem_of_getElem? (i := 2) rfl)))) hK hP hD hS hA rfl (fun j hj => match j, hj with | 0, _ => rfl | 1, _ => rfl | 2, _ => rfl | 3, _ => rfl | 4, _ => rfl | n + 5, h => absurd h (Nat.not_lt_of_le (Nat.le_add_left 5 n))) (Nat.le_of_ble_eq_true rfl) (Nat.le_of_ble_eq_true rfl) dX7_init_50 (fun q50 H hP hD hS => ?_)
  have hP : va_P (dC, dI) srCl [(ob, .inr (9, [.ref q8, .ref q17, .ref q26, .ref q35, .ref q44, .null, .int 0, .int 0])), (q8, .inl (cB, 4096, .inl (fun _ => 0))), (q17, .inl (cB, 4096, .inl (fun _ => 0))), (q26, .inl (cI, 4096, .inl (fun _ => 0))), (q35, .inl (cI, 4096, .inl (fun _ => 0))), (q44, .inl (cI, 4096, .inl (fun _ => 0))), (q50, .inr (5, [.null, .null, .null, .null, .int 0]))] H := hP
  have hD : va_D A [(ob, .inr (9, [.ref q8, .ref q17, .ref q26, .ref q35, .ref q44, .null, .int 0, .int 0])), (q8, .inl (cB, 4096, .inl (fun _ => 0))), (q17, .inl (cB, 4096, .inl (fun _ => 0))), (q26, .inl (cI, 4096, .inl (fun _ => 0))), (q35, .inl (cI, 4096, .inl (fun _ => 0))), (q44, .inl (cI, 4096, .inl (fun _ => 0))), (q50, .inr (5, [.null, .null, .null, .null, .int 0]))] := hD
  refine lv_dup hx hb dX7_init_53 rfl ?_
  refine mr_iv (wc := [(q50, .inr (5, [.null, .null, .null, .null, .int 0]))]) (wr := [(ob, .inr (9, [.ref q8, .ref q17, .ref q26, .ref q35, .ref q44, .null, .int 0, .int 0])), (q8, .inl (cB, 4096, .inl (fun _ => 0))), (q17, .inl (cB, 4096, .inl (fun _ => 0))), (q26, .inl (cI, 4096, .inl (fun _ => 0))), (q35, .inl (cI, 4096, .inl (fun _ => 0))), (q44, .inl (cI, 4096, .inl (fun _ => 0)))]) (c1 := 10) (s1 := 23813) (va_runIN (g := F0 m 54 ls [.ref q50, .ref q50, .ref ob]) (b := q50) (As := []) (rest := [.ref q50, .ref ob]) ⟨hx, hb, hml, hown, hts⟩ (kX2_init l htr dC dI adK adV cI cB cJ cZ cQ q50 _) (sr_cnI 0 hts rfl gI7_30.1 (hz0.2.2.2.2.2.2.1 _ gI7_30.2) rfl rfl rfl (by decide +kernel) ⟨(Nat.le_of_ble_eq_true rfl), (Nat.le_of_ble_eq_true rfl)⟩) ⟨pcW_blind (sr_okZ adK adV), pcW_at (sr_okZ adK adV) hS hA hP hD hK hz0 [6] rfl rfl rfl⟩ rfl rfl hl.1 rfl (lv_room (Nat.le_of_ble_eq_true rfl)) dX7_init_54 ⟨(Nat.le_of_ble_eq_true rfl), (Nat.le_of_ble_eq_true rfl)⟩) hS hA hP hD [6] [0, 1, 2, 3, 4, 5] rfl rfl rfl (by decide) rfl rfl (fun u0 H locs hP hD hS => ?_)
  obtain ⟨q54_0, q54_1, q54_2, q54_3⟩ := u0
  have hP : va_P (dC, dI) srCl [(ob, .inr (9, [.ref q8, .ref q17, .ref q26, .ref q35, .ref q44, .null, .int 0, .int 0])), (q8, .inl (cB, 4096, .inl (fun _ => 0))), (q17, .inl (cB, 4096, .inl (fun _ => 0))), (q26, .inl (cI, 4096, .inl (fun _ => 0))), (q35, .inl (cI, 4096, .inl (fun _ => 0))), (q44, .inl (cI, 4096, .inl (fun _ => 0))), (q50, .inr (5, [.ref q54_0, .ref q54_1, .ref q54_2, .ref q54_3, .int 0])), (q54_0, .inl (cI, 256, .inl (fun _ => 0))), (q54_1, .inl (cI, 1024, .inl (fun _ => 0))), (q54_2, .inl (cI, 1024, .inl (fun _ => 0))), (q54_3, .inl (cI, 1024, .inl (fun _ => 0)))] H := hP
  have hD : va_D A [(ob, .inr (9, [.ref q8, .ref q17, .ref q26, .ref q35, .ref q44, .null, .int 0, .int 0])), (q8, .inl (cB, 4096, .inl (fun _ => 0))), (q17, .inl (cB, 4096, .inl (fun _ => 0))), (q26, .inl (cI, 4096, .inl (fun _ => 0))), (q35, .inl (cI, 4096, .inl (fun _ => 0))), (q44, .inl (cI, 4096, .inl (fun _ => 0))), (q50, .inr (5, [.ref q54_0, .ref q54_1, .ref q54_2, .ref q54_3, .int 0])), (q54_0, .inl (cI, 256, .inl (fun _ => 0))), (q54_1, .inl (cI, 1024, .inl (fun _ => 0))), (q54_2, .inl (cI, 1024, .inl (fun _ => 0))), (q54_3, .inl (cI, 1024, .inl (fun _ => 0)))] := hD
  refine va_putF (D := (dC, dI)) (ci := 9) (v := .ref q50) (ty := .object "SchemaReader$Keys") (C := RX7) (T := TX7) (N := 8) hx hb hts (inX7 _) tyX7 tyX7_ok nmX7 hown hK hP hD hS 0 rfl rfl 5 (by decide) (hts _ (List.mem_cons_of_mem _ wf7_31)) (fun _ h9 => h9) rfl hnm rfl (by decide +kernel) rfl rfl (Nat.le_of_ble_eq_true rfl) dX7_init_57 (fun H locs hP hD hS => ?_)
  have hP : va_P (dC, dI) srCl [(ob, .inr (9, [.ref q8, .ref q17, .ref q26, .ref q35, .ref q44, .ref q50, .int 0, .int 0])), (q8, .inl (cB, 4096, .inl (fun _ => 0))), (q17, .inl (cB, 4096, .inl (fun _ => 0))), (q26, .inl (cI, 4096, .inl (fun _ => 0))), (q35, .inl (cI, 4096, .inl (fun _ => 0))), (q44, .inl (cI, 4096, .inl (fun _ => 0))), (q50, .inr (5, [.ref q54_0, .ref q54_1, .ref q54_2, .ref q54_3, .int 0])), (q54_0, .inl (cI, 256, .inl (fun _ => 0))), (q54_1, .inl (cI, 1024, .inl (fun _ => 0))), (q54_2, .inl (cI, 1024, .inl (fun _ => 0))), (q54_3, .inl (cI, 1024, .inl (fun _ => 0)))] H := hP
  have hD : va_D A [(ob, .inr (9, [.ref q8, .ref q17, .ref q26, .ref q35, .ref q44, .ref q50, .int 0, .int 0])), (q8, .inl (cB, 4096, .inl (fun _ => 0))), (q17, .inl (cB, 4096, .inl (fun _ => 0))), (q26, .inl (cI, 4096, .inl (fun _ => 0))), (q35, .inl (cI, 4096, .inl (fun _ => 0))), (q44, .inl (cI, 4096, .inl (fun _ => 0))), (q50, .inr (5, [.ref q54_0, .ref q54_1, .ref q54_2, .ref q54_3, .int 0])), (q54_0, .inl (cI, 256, .inl (fun _ => 0))), (q54_1, .inl (cI, 1024, .inl (fun _ => 0))), (q54_2, .inl (cI, 1024, .inl (fun _ => 0))), (q54_3, .inl (cI, 1024, .inl (fun _ => 0)))] := hD
  refine lv_aload_n hx hb dX7_init_60 rfl (lv_at hl 0 rfl) ?_
  refine lv_iconst (v := 0) hx hb dX7_init_61 (by decide) ?_
  refine va_put (D := (dC, dI)) (ci := 9) (v := .int 0) (ty := .int) (C := RX7) (T := TX7) (N := 8) hx hb hts (inX7 _) tyX7 tyX7_ok nmX7 hown hK hP hD hS 0 rfl rfl 6 (by decide) (hts _ (List.mem_cons_of_mem _ wf7_35)) (fun _ h9 => h9) rfl (by decide +kernel) rfl rfl (Nat.le_of_ble_eq_true rfl) dX7_init_62 (fun H locs hP hD hS => ?_)
  have hP : va_P (dC, dI) srCl [(ob, .inr (9, [.ref q8, .ref q17, .ref q26, .ref q35, .ref q44, .ref q50, .int 0, .int 0])), (q8, .inl (cB, 4096, .inl (fun _ => 0))), (q17, .inl (cB, 4096, .inl (fun _ => 0))), (q26, .inl (cI, 4096, .inl (fun _ => 0))), (q35, .inl (cI, 4096, .inl (fun _ => 0))), (q44, .inl (cI, 4096, .inl (fun _ => 0))), (q50, .inr (5, [.ref q54_0, .ref q54_1, .ref q54_2, .ref q54_3, .int 0])), (q54_0, .inl (cI, 256, .inl (fun _ => 0))), (q54_1, .inl (cI, 1024, .inl (fun _ => 0))), (q54_2, .inl (cI, 1024, .inl (fun _ => 0))), (q54_3, .inl (cI, 1024, .inl (fun _ => 0)))] H := hP
  have hD : va_D A [(ob, .inr (9, [.ref q8, .ref q17, .ref q26, .ref q35, .ref q44, .ref q50, .int 0, .int 0])), (q8, .inl (cB, 4096, .inl (fun _ => 0))), (q17, .inl (cB, 4096, .inl (fun _ => 0))), (q26, .inl (cI, 4096, .inl (fun _ => 0))), (q35, .inl (cI, 4096, .inl (fun _ => 0))), (q44, .inl (cI, 4096, .inl (fun _ => 0))), (q50, .inr (5, [.ref q54_0, .ref q54_1, .ref q54_2, .ref q54_3, .int 0])), (q54_0, .inl (cI, 256, .inl (fun _ => 0))), (q54_1, .inl (cI, 1024, .inl (fun _ => 0))), (q54_2, .inl (cI, 1024, .inl (fun _ => 0))), (q54_3, .inl (cI, 1024, .inl (fun _ => 0)))] := hD
  refine lv_aload_n hx hb dX7_init_65 rfl (lv_at hl 0 rfl) ?_
  refine lv_iconst (v := -1) hx hb dX7_init_66 (by decide) ?_
  refine va_put (D := (dC, dI)) (ci := 9) (v := .int (-1)) (ty := .int) (C := RX7) (T := TX7) (N := 8) hx hb hts (inX7 _) tyX7 tyX7_ok nmX7 hown hK hP hD hS 0 rfl rfl 7 (by decide) (hts _ (List.mem_cons_of_mem _ wf7_39)) (fun _ h9 => h9) rfl (by decide +kernel) rfl rfl (Nat.le_of_ble_eq_true rfl) dX7_init_67 (fun H locs hP hD hS => ?_)
  have hP : va_P (dC, dI) srCl [(ob, .inr (9, [.ref q8, .ref q17, .ref q26, .ref q35, .ref q44, .ref q50, .int 0, .int (-1)])), (q8, .inl (cB, 4096, .inl (fun _ => 0))), (q17, .inl (cB, 4096, .inl (fun _ => 0))), (q26, .inl (cI, 4096, .inl (fun _ => 0))), (q35, .inl (cI, 4096, .inl (fun _ => 0))), (q44, .inl (cI, 4096, .inl (fun _ => 0))), (q50, .inr (5, [.ref q54_0, .ref q54_1, .ref q54_2, .ref q54_3, .int 0])), (q54_0, .inl (cI, 256, .inl (fun _ => 0))), (q54_1, .inl (cI, 1024, .inl (fun _ => 0))), (q54_2, .inl (cI, 1024, .inl (fun _ => 0))), (q54_3, .inl (cI, 1024, .inl (fun _ => 0)))] H := hP
  have hD : va_D A [(ob, .inr (9, [.ref q8, .ref q17, .ref q26, .ref q35, .ref q44, .ref q50, .int 0, .int (-1)])), (q8, .inl (cB, 4096, .inl (fun _ => 0))), (q17, .inl (cB, 4096, .inl (fun _ => 0))), (q26, .inl (cI, 4096, .inl (fun _ => 0))), (q35, .inl (cI, 4096, .inl (fun _ => 0))), (q44, .inl (cI, 4096, .inl (fun _ => 0))), (q50, .inr (5, [.ref q54_0, .ref q54_1, .ref q54_2, .ref q54_3, .int 0])), (q54_0, .inl (cI, 256, .inl (fun _ => 0))), (q54_1, .inl (cI, 1024, .inl (fun _ => 0))), (q54_2, .inl (cI, 1024, .inl (fun _ => 0))), (q54_3, .inl (cI, 1024, .inl (fun _ => 0)))] := hD
  refine W.widen (k := 10) (n := 23813) (Nat.le_of_ble_eq_true rfl) (Nat.le_of_ble_eq_true rfl) ?_
  subst hQ0
  exact W.vret hx hb hr (fun t ht hW => ⟨⟨(q8, q17, q26, q35, q44, q50, q54_0, q54_1, q54_2, q54_3), rfl, trivial, by rw [ht]; exact hP, va_K.moved hW.alike hK, hD⟩, hS.F ht⟩) hS.2.2 dX7_init_70
set_option maxHeartbeats 4000000 in
set_option maxRecDepth 100000 in
theorem kX11_init (l : Launch) (htr : l.stackTraces = false) (dC : Nat → ClassId) (dI : Nat → Nat → Nat) (adK adV : Nat → Nat) (cI cB cJ cZ cQ : ClassId) (ob : Nat) (sz : Nat) : Met l yX11_init wsX11_init rmX11_init (pcW (sr_Z adK adV) (dC, dI) srCl [(cI, .int), (cB, .byte), (cJ, .long), (cZ, .boolean), (cQ, .object "SchemaReader$Schema")] [.ref ob] [(ob, .inr (3, [.null, .null, .int 0]))] sz) (va_Qv (fun _ => True) (pcB (dC, dI) srCl [(cI, .int), (cB, .byte), (cJ, .long), (cZ, .boolean), (cQ, .object "SchemaReader$Schema")] (fun u : Nat × Nat => [(ob, .inr (3, [.ref u.1, .ref u.2, .int 0])), (u.1, .inl (cI, 128, .inl (fun _ => 0))), (u.2, .inl (cI, 128, .inl (fun _ => 0)))]) (va_A [(ob, .inr (3, [.null, .null, .int 0]))] sz)) (va_A [(ob, .inr (3, [.null, .null, .int 0]))] sz)) 2 256 (va_A [(ob, .inr (3, [.null, .null, .int 0]))] sz) := by
  refine Met.ofW (cc := cX11_init) (maxL := 1) (ret := none) (by decide) rfl ?_
  intro p e s m args below meth c s₁ B hml hv
  obtain ⟨rfl, hsz, hP, hK, hD0, hz0⟩ := hv
  have hx := B.exec
  have hb := B.bytes
  have hr := B.returns
  have hts := atoms_spec (ws := wsX11_init) B.pre
  have hown : s.vm.findClass RX11 = some m.cls := findClass_of_methodNamed B.named
  have hnm : meth.name = "<init>" := (name_of_methodNamed B.named B.method).1
  subst hsz
  have hD := hD0.self (sz := s.heap.size)
  generalize hAe : va_A [(ob, .inr (3, [.null, .null, .int 0]))] s.heap.size = A at hD hz0 ⊢
  have hA : ∀ q : Nat, s.heap.size ≤ q → A q := fun q h => by rw [← hAe]; exact Or.inr h
  have hS : va_S A s.heap s.heap [] := va_S.rf
  generalize hQ0 : MQ below (va_Qv (fun _ => True) (pcB (dC, dI) srCl [(cI, .int), (cB, .byte), (cJ, .long), (cZ, .boolean), (cQ, .object "SchemaReader$Schema")] (fun u : Nat × Nat => [(ob, .inr (3, [.ref u.1, .ref u.2, .int 0])), (u.1, .inl (cI, 128, .inl (fun _ => 0))), (u.2, .inl (cI, 128, .inl (fun _ => 0)))]) A) A) [.ref ob].toArray s 2 256 A = Q0
  have hl := lv_entry [.ref ob] (n := 1) (Nat.le_of_ble_eq_true rfl)
  rw [lg_entry_eq]
  generalize (lg_sl [.ref ob] ++ List.replicate (1 - (lg_sl [.ref ob]).length) Slot.unset).toArray = ls at hl ⊢
  have hl : lv_has ls 1 [(0, .ref ob)] := hl
  refine lv_aload_n hx hb dX11_init_0 rfl (lv_at hl 0 rfl) ?_
  refine W.objInit hx hb hown (hts _ (List.mem_cons_of_mem _ (oi11_1 _ (List.mem_of_getElem? (i := 0) rfl)))) (hts _ (List.mem_cons_of_mem _ (oi11_1 _ (List.mem_of_getElem? (i := 1) rfl)))) (hts _ (List.mem_cons_of_mem _ (oi11_1 _ (List.mem_of_getElem? (i := 2) rfl)))) rfl (by rw [hml]; exact hl.1) rfl dX11_init_1 (Nat.le_of_ble_eq_true rfl) (Nat.le_of_ble_eq_true rfl) ?_
  refine lv_aload_n hx hb dX11_init_4 rfl (lv_at hl 0 rfl) ?_
  refine lv_sipush (v := 128) hx hb dX11_init_5 (by decide) ?_
  refine mr_newa (ty := .int) (N' := 128) (a0 := (128, .inl (fun _ => 0))) hx hb (hts _ (List.mem_cons_of_mem _ (arI _ List.mem_cons_self))) rfl (fun C h => by cases h) hK hP hD hS hA (fun _ => rfl) (by decide) (by decide) (by decide) (Nat.le_of_ble_eq_true rfl) (Nat.le_of_ble_eq_true rfl) dX11_init_8 0 rfl (fun q8 H hP hD hS => ?_)
  have hP : va_P (dC, dI) srCl [(ob, .inr (3, [.null, .null, .int 0])), (q8, .inl (cI, 128, .inl (fun _ => 0)))] H := hP
  have hD : va_D A [(ob, .inr (3, [.null, .null, .int 0])), (q8, .inl (cI, 128, .inl (fun _ => 0)))] := hD
  refine va_putF (D := (dC, dI)) (ci := 3) (v := .ref q8) (ty := .array .int) (C := RX11) (T := TX11) (N := 3) hx hb hts (inX11 _) tyX11 tyX11_ok nmX11 hown hK hP hD hS 0 rfl rfl 0 (by decide) (hts _ (List.mem_cons_of_mem _ wf11_9)) (fun _ h9 => h9) rfl hnm rfl (by decide +kernel) rfl rfl (Nat.le_of_ble_eq_true rfl) dX11_init_10 (fun H locs hP hD hS => ?_)
  have hP : va_P (dC, dI) srCl [(ob, .inr (3, [.ref q8, .null, .int 0])), (q8, .inl (cI, 128, .inl (fun _ => 0)))] H := hP
  have hD : va_D A [(ob, .inr (3, [.ref q8, .null, .int 0])), (q8, .inl (cI, 128, .inl (fun _ => 0)))] := hD
  refine lv_aload_n hx hb dX11_init_13 rfl (lv_at hl 0 rfl) ?_
  refine lv_sipush (v := 128) hx hb dX11_init_14 (by decide) ?_
  refine mr_newa (ty := .int) (N' := 128) (a0 := (128, .inl (fun _ => 0))) hx hb (hts _ (List.mem_cons_of_mem _ (arI _ List.mem_cons_self))) rfl (fun C h => by cases h) hK hP hD hS hA (fun _ => rfl) (by decide) (by decide) (by decide) (Nat.le_of_ble_eq_true rfl) (Nat.le_of_ble_eq_true rfl) dX11_init_17 0 rfl (fun q17 H hP hD hS => ?_)
  have hP : va_P (dC, dI) srCl [(ob, .inr (3, [.ref q8, .null, .int 0])), (q8, .inl (cI, 128, .inl (fun _ => 0))), (q17, .inl (cI, 128, .inl (fun _ => 0)))] H := hP
  have hD : va_D A [(ob, .inr (3, [.ref q8, .null, .int 0])), (q8, .inl (cI, 128, .inl (fun _ => 0))), (q17, .inl (cI, 128, .inl (fun _ => 0)))] := hD
  refine va_putF (D := (dC, dI)) (ci := 3) (v := .ref q17) (ty := .array .int) (C := RX11) (T := TX11) (N := 3) hx hb hts (inX11 _) tyX11 tyX11_ok nmX11 hown hK hP hD hS 0 rfl rfl 1 (by decide) (hts _ (List.mem_cons_of_mem _ wf11_15)) (fun _ h9 => h9) rfl hnm rfl (by decide +kernel) rfl rfl (Nat.le_of_ble_eq_true rfl) dX11_init_19 (fun H locs hP hD hS => ?_)
  have hP : va_P (dC, dI) srCl [(ob, .inr (3, [.ref q8, .ref q17, .int 0])), (q8, .inl (cI, 128, .inl (fun _ => 0))), (q17, .inl (cI, 128, .inl (fun _ => 0)))] H := hP
  have hD : va_D A [(ob, .inr (3, [.ref q8, .ref q17, .int 0])), (q8, .inl (cI, 128, .inl (fun _ => 0))), (q17, .inl (cI, 128, .inl (fun _ => 0)))] := hD
  refine lv_aload_n hx hb dX11_init_22 rfl (lv_at hl 0 rfl) ?_
  refine lv_iconst (v := 0) hx hb dX11_init_23 (by decide) ?_
  refine va_put (D := (dC, dI)) (ci := 3) (v := .int 0) (ty := .int) (C := RX11) (T := TX11) (N := 3) hx hb hts (inX11 _) tyX11 tyX11_ok nmX11 hown hK hP hD hS 0 rfl rfl 2 (by decide) (hts _ (List.mem_cons_of_mem _ wf11_18)) (fun _ h9 => h9) rfl (by decide +kernel) rfl rfl (Nat.le_of_ble_eq_true rfl) dX11_init_24 (fun H locs hP hD hS => ?_)
  have hP : va_P (dC, dI) srCl [(ob, .inr (3, [.ref q8, .ref q17, .int 0])), (q8, .inl (cI, 128, .inl (fun _ => 0))), (q17, .inl (cI, 128, .inl (fun _ => 0)))] H := hP
  have hD : va_D A [(ob, .inr (3, [.ref q8, .ref q17, .int 0])), (q8, .inl (cI, 128, .inl (fun _ => 0))), (q17, .inl (cI, 128, .inl (fun _ => 0)))] := hD
  refine W.widen (k := 2) (n := 256) (Nat.le_of_ble_eq_true rfl) (Nat.le_of_ble_eq_true rfl) ?_
  subst hQ0
  exact W.vret hx hb hr (fun t ht hW => ⟨⟨(q8, q17), rfl, trivial, by rw [ht]; exact hP, va_K.moved hW.alike hK, hD⟩, hS.F ht⟩) hS.2.2 dX11_init_27
set_option maxHeartbeats 4000000 in
set_option maxRecDepth 100000 in
theorem kX6_init (l : Launch) (htr : l.stackTraces = false) (dC : Nat → ClassId) (dI : Nat → Nat → Nat) (adK adV : Nat → Nat) (cI cB cJ cZ cQ : ClassId) (ob : Nat) (sz : Nat) : Met l yX6_init wsX6_init rmX6_init (pcW (sr_Z adK adV) (dC, dI) srCl [(cI, .int), (cB, .byte), (cJ, .long), (cZ, .boolean), (cQ, .object "SchemaReader$Schema")] [.ref ob] [(ob, .inr (8, [.null, .null, .null, .null, .null, .null, .null, .null, .null, .null, .int 0, .int 0]))] sz) (va_Qv (fun _ => True) (pcB (dC, dI) srCl [(cI, .int), (cB, .byte), (cJ, .long), (cZ, .boolean), (cQ, .object "SchemaReader$Schema")] (fun u : Nat × Nat × Nat × Nat × Nat × Nat × Nat × Nat × Nat × Nat => [(ob, .inr (8, [.ref u.1, .ref u.2.1, .ref u.2.2.1, .ref u.2.2.2.1, .ref u.2.2.2.2.1, .ref u.2.2.2.2.2.1, .ref u.2.2.2.2.2.2.1, .ref u.2.2.2.2.2.2.2.1, .ref u.2.2.2.2.2.2.2.2.1, .ref u.2.2.2.2.2.2.2.2.2, .int 0, .int 0])), (u.1, .inl (cB, 4096, .inl (fun _ => 0))), (u.2.1, .inl (cI, 128, .inl (fun _ => 0))), (u.2.2.1, .inl (cI, 128, .inl (fun _ => 0))), (u.2.2.2.1, .inl (cI, 128, .inl (fun _ => 0))), (u.2.2.2.2.1, .inl (cI, 128, .inl (fun _ => 0))), (u.2.2.2.2.2.1, .inl (cI, 128, .inl (fun _ => 0))), (u.2.2.2.2.2.2.1, .inl (cI, 128, .inl (fun _ => 0))), (u.2.2.2.2.2.2.2.1, .inl (cI, 128, .inl (fun _ => 0))), (u.2.2.2.2.2.2.2.2.1, .inl (cZ, 128, .inl (fun _ => 0))), (u.2.2.2.2.2.2.2.2.2, .inl (cZ, 128, .inl (fun _ => 0)))]) (va_A [(ob, .inr (8, [.null, .null, .null, .null, .null, .null, .null, .null, .null, .null, .int 0, .int 0]))] sz)) (va_A [(ob, .inr (8, [.null, .null, .null, .null, .null, .null, .null, .null, .null, .null, .int 0, .int 0]))] sz)) 10 5248 (va_A [(ob, .inr (8, [.null, .null, .null, .null, .null, .null, .null, .null, .null, .null, .int 0, .int 0]))] sz) := by
  refine Met.ofW (cc := cX6_init) (maxL := 1) (ret := none) (by decide) rfl ?_
  intro p e s m args below meth c s₁ B hml hv
  obtain ⟨rfl, hsz, hP, hK, hD0, hz0⟩ := hv
  have hx := B.exec
  have hb := B.bytes
  have hr := B.returns
  have hts := atoms_spec (ws := wsX6_init) B.pre
  have hown : s.vm.findClass RX6 = some m.cls := findClass_of_methodNamed B.named
  have hnm : meth.name = "<init>" := (name_of_methodNamed B.named B.method).1
  subst hsz
  have hD := hD0.self (sz := s.heap.size)
  generalize hAe : va_A [(ob, .inr (8, [.null, .null, .null, .null, .null, .null, .null, .null, .null, .null, .int 0, .int 0]))] s.heap.size = A at hD hz0 ⊢
  have hA : ∀ q : Nat, s.heap.size ≤ q → A q := fun q h => by rw [← hAe]; exact Or.inr h
  have hS : va_S A s.heap s.heap [] := va_S.rf
  generalize hQ0 : MQ below (va_Qv (fun _ => True) (pcB (dC, dI) srCl [(cI, .int), (cB, .byte), (cJ, .long), (cZ, .boolean), (cQ, .object "SchemaReader$Schema")] (fun u : Nat × Nat × Nat × Nat × Nat × Nat × Nat × Nat × Nat × Nat => [(ob, .inr (8, [.ref u.1, .ref u.2.1, .ref u.2.2.1, .ref u.2.2.2.1, .ref u.2.2.2.2.1, .ref u.2.2.2.2.2.1, .ref u.2.2.2.2.2.2.1, .ref u.2.2.2.2.2.2.2.1, .ref u.2.2.2.2.2.2.2.2.1, .ref u.2.2.2.2.2.2.2.2.2, .int 0, .int 0])), (u.1, .inl (cB, 4096, .inl (fun _ => 0))), (u.2.1, .inl (cI, 128, .inl (fun _ => 0))), (u.2.2.1, .inl (cI, 128, .inl (fun _ => 0))), (u.2.2.2.1, .inl (cI, 128, .inl (fun _ => 0))), (u.2.2.2.2.1, .inl (cI, 128, .inl (fun _ => 0))), (u.2.2.2.2.2.1, .inl (cI, 128, .inl (fun _ => 0))), (u.2.2.2.2.2.2.1, .inl (cI, 128, .inl (fun _ => 0))), (u.2.2.2.2.2.2.2.1, .inl (cI, 128, .inl (fun _ => 0))), (u.2.2.2.2.2.2.2.2.1, .inl (cZ, 128, .inl (fun _ => 0))), (u.2.2.2.2.2.2.2.2.2, .inl (cZ, 128, .inl (fun _ => 0)))]) A) A) [.ref ob].toArray s 10 5248 A = Q0
  have hl := lv_entry [.ref ob] (n := 1) (Nat.le_of_ble_eq_true rfl)
  rw [lg_entry_eq]
  generalize (lg_sl [.ref ob] ++ List.replicate (1 - (lg_sl [.ref ob]).length) Slot.unset).toArray = ls at hl ⊢
  have hl : lv_has ls 1 [(0, .ref ob)] := hl
  refine lv_aload_n hx hb dX6_init_0 rfl (lv_at hl 0 rfl) ?_
  refine W.objInit hx hb hown (hts _ (List.mem_cons_of_mem _ (oi6_3 _ (List.mem_of_getElem? (i := 0) rfl)))) (hts _ (List.mem_cons_of_mem _ (oi6_3 _ (List.mem_of_getElem? (i := 1) rfl)))) (hts _ (List.mem_cons_of_mem _ (oi6_3 _ (List.mem_of_getElem? (i := 2) rfl)))) rfl (by rw [hml]; exact hl.1) rfl dX6_init_1 (Nat.le_of_ble_eq_true rfl) (Nat.le_of_ble_eq_true rfl) ?_
  refine lv_aload_n hx hb dX6_init_4 rfl (lv_at hl 0 rfl) ?_
  refine lv_sipush (v := 4096) hx hb dX6_init_5 (by decide) ?_
  refine mr_newa (ty := .byte) (N' := 4096) (a0 := (4096, .inl (fun _ => 0))) hx hb (hts _ (List.mem_cons_of_mem _ (arB _ List.mem_cons_self))) rfl (fun C h => by cases h) hK hP hD hS hA (fun _ => rfl) (by decide) (by decide) (by decide) (Nat.le_of_ble_eq_true rfl) (Nat.le_of_ble_eq_true rfl) dX6_init_8 1 rfl (fun q8 H hP hD hS => ?_)
  have hP : va_P (dC, dI) srCl [(ob, .inr (8, [.null, .null, .null, .null, .null, .null, .null, .null, .null, .null, .int 0, .int 0])), (q8, .inl (cB, 4096, .inl (fun _ => 0)))] H := hP
  have hD : va_D A [(ob, .inr (8, [.null, .null, .null, .null, .null, .null, .null, .null, .null, .null, .int 0, .int 0])), (q8, .inl (cB, 4096, .inl (fun _ => 0)))] := hD
  refine va_putF (D := (dC, dI)) (ci := 8) (v := .ref q8) (ty := .array .byte) (C := RX6) (T := TX6) (N := 12) hx hb hts (inX6 _) tyX6 tyX6_ok nmX6 hown hK hP hD hS 0 rfl rfl 0 (by decide) (hts _ (List.mem_cons_of_mem _ wf6_9)) (fun _ h9 => h9) rfl hnm rfl (by decide +kernel) rfl rfl (Nat.le_of_ble_eq_true rfl) dX6_init_10 (fun H locs hP hD hS => ?_)
  have hP : va_P (dC, dI) srCl [(ob, .inr (8, [.ref q8, .null, .null, .null, .null, .null, .null, .null, .null, .null, .int 0, .int 0])), (q8, .inl (cB, 4096, .inl (fun _ => 0)))] H := hP
  have hD : va_D A [(ob, .inr (8, [.ref q8, .null, .null, .null, .null, .null, .null, .null, .null, .null, .int 0, .int 0])), (q8, .inl (cB, 4096, .inl (fun _ => 0)))] := hD
  refine lv_aload_n hx hb dX6_init_13 rfl (lv_at hl 0 rfl) ?_
  refine lv_sipush (v := 128) hx hb dX6_init_14 (by decide) ?_
  refine mr_newa (ty := .int) (N' := 128) (a0 := (128, .inl (fun _ => 0))) hx hb (hts _ (List.mem_cons_of_mem _ (arI _ List.mem_cons_self))) rfl (fun C h => by cases h) hK hP hD hS hA (fun _ => rfl) (by decide) (by decide) (by decide) (Nat.le_of_ble_eq_true rfl) (Nat.le_of_ble_eq_true rfl) dX6_init_17 0 rfl (fun q17 H hP hD hS => ?_)
  have hP : va_P (dC, dI) srCl [(ob, .inr (8, [.ref q8, .null, .null, .null, .null, .null, .null, .null, .null, .null, .int 0, .int 0])), (q8, .inl (cB, 4096, .inl (fun _ => 0))), (q17, .inl (cI, 128, .inl (fun _ => 0)))] H := hP
  have hD : va_D A [(ob, .inr (8, [.ref q8, .null, .null, .null, .null, .null, .null, .null, .null, .null, .int 0, .int 0])), (q8, .inl (cB, 4096, .inl (fun _ => 0))), (q17, .inl (cI, 128, .inl (fun _ => 0)))] := hD
  refine va_putF (D := (dC, dI)) (ci := 8) (v := .ref q17) (ty := .array .int) (C := RX6) (T := TX6) (N := 12) hx hb hts (inX6 _) tyX6 tyX6_ok nmX6 hown hK hP hD hS 0 rfl rfl 1 (by decide) (hts _ (List.mem_cons_of_mem _ wf6_15)) (fun _ h9 => h9) rfl hnm rfl (by decide +kernel) rfl rfl (Nat.le_of_ble_eq_true rfl) dX6_init_19 (fun H locs hP hD hS => ?_)
  have hP : va_P (dC, dI) srCl [(ob, .inr (8, [.ref q8, .ref q17, .null, .null, .null, .null, .null, .null, .null, .null, .int 0, .int 0])), (q8, .inl (cB, 4096, .inl (fun _ => 0))), (q17, .inl (cI, 128, .inl (fun _ => 0)))] H := hP
  have hD : va_D A [(ob, .inr (8, [.ref q8, .ref q17, .null, .null, .null, .null, .null, .null, .null, .null, .int 0, .int 0])), (q8, .inl (cB, 4096, .inl (fun _ => 0))), (q17, .inl (cI, 128, .inl (fun _ => 0)))] := hD
  refine lv_aload_n hx hb dX6_init_22 rfl (lv_at hl 0 rfl) ?_
  refine lv_sipush (v := 128) hx hb dX6_init_23 (by decide) ?_
  refine mr_newa (ty := .int) (N' := 128) (a0 := (128, .inl (fun _ => 0))) hx hb (hts _ (List.mem_cons_of_mem _ (arI _ List.mem_cons_self))) rfl (fun C h => by cases h) hK hP hD hS hA (fun _ => rfl) (by decide) (by decide) (by decide) (Nat.le_of_ble_eq_true rfl) (Nat.le_of_ble_eq_true rfl) dX6_init_26 0 rfl (fun q26 H hP hD hS => ?_)
  have hP : va_P (dC, dI) srCl [(ob, .inr (8, [.ref q8, .ref q17, .null, .null, .null, .null, .null, .null, .null, .null, .int 0, .int 0])), (q8, .inl (cB, 4096, .inl (fun _ => 0))), (q17, .inl (cI, 128, .inl (fun _ => 0))), (q26, .inl (cI, 128, .inl (fun _ => 0)))] H := hP
  have hD : va_D A [(ob, .inr (8, [.ref q8, .ref q17, .null, .null, .null, .null, .null, .null, .null, .null, .int 0, .int 0])), (q8, .inl (cB, 4096, .inl (fun _ => 0))), (q17, .inl (cI, 128, .inl (fun _ => 0))), (q26, .inl (cI, 128, .inl (fun _ => 0)))] := hD
  refine va_putF (D := (dC, dI)) (ci := 8) (v := .ref q26) (ty := .array .int) (C := RX6) (T := TX6) (N := 12) hx hb hts (inX6 _) tyX6 tyX6_ok nmX6 hown hK hP hD hS 0 rfl rfl 2 (by decide) (hts _ (List.mem_cons_of_mem _ wf6_19)) (fun _ h9 => h9) rfl hnm rfl (by decide +kernel) rfl rfl (Nat.le_of_ble_eq_true rfl) dX6_init_28 (fun H locs hP hD hS => ?_)
  have hP : va_P (dC, dI) srCl [(ob, .inr (8, [.ref q8, .ref q17, .ref q26, .null, .null, .null, .null, .null, .null, .null, .int 0, .int 0])), (q8, .inl (cB, 4096, .inl (fun _ => 0))), (q17, .inl (cI, 128, .inl (fun _ => 0))), (q26, .inl (cI, 128, .inl (fun _ => 0)))] H := hP
  have hD : va_D A [(ob, .inr (8, [.ref q8, .ref q17, .ref q26, .null, .null, .null, .null, .null, .null, .null, .int 0, .int 0])), (q8, .inl (cB, 4096, .inl (fun _ => 0))), (q17, .inl (cI, 128, .inl (fun _ => 0))), (q26, .inl (cI, 128, .inl (fun _ => 0)))] := hD
  refine lv_aload_n hx hb dX6_init_31 rfl (lv_at hl 0 rfl) ?_
  refine lv_sipush (v := 128) hx hb dX6_init_32 (by decide) ?_
  refine mr_newa (ty := .int) (N' := 128) (a0 := (128, .inl (fun _ => 0))) hx hb (hts _ (List.mem_cons_of_mem _ (arI _ List.mem_cons_self))) rfl (fun C h => by cases h) hK hP hD hS hA (fun _ => rfl) (by decide) (by decide) (by decide) (Nat.le_of_ble_eq_true rfl) (Nat.le_of_ble_eq_true rfl) dX6_init_35 0 rfl (fun q35 H hP hD hS => ?_)
  have hP : va_P (dC, dI) srCl [(ob, .inr (8, [.ref q8, .ref q17, .ref q26, .null, .null, .null, .null, .null, .null, .null, .int 0, .int 0])), (q8, .inl (cB, 4096, .inl (fun _ => 0))), (q17, .inl (cI, 128, .inl (fun _ => 0))), (q26, .inl (cI, 128, .inl (fun _ => 0))), (q35, .inl (cI, 128, .inl (fun _ => 0)))] H := hP
  have hD : va_D A [(ob, .inr (8, [.ref q8, .ref q17, .ref q26, .null, .null, .null, .null, .null, .null, .null, .int 0, .int 0])), (q8, .inl (cB, 4096, .inl (fun _ => 0))), (q17, .inl (cI, 128, .inl (fun _ => 0))), (q26, .inl (cI, 128, .inl (fun _ => 0))), (q35, .inl (cI, 128, .inl (fun _ => 0)))] := hD
  refine va_putF (D := (dC, dI)) (ci := 8) (v := .ref q35) (ty := .array .int) (C := RX6) (T := TX6) (N := 12) hx hb hts (inX6 _) tyX6 tyX6_ok nmX6 hown hK hP hD hS 0 rfl rfl 3 (by decide) (hts _ (List.mem_cons_of_mem _ wf6_22)) (fun _ h9 => h9) rfl hnm rfl (by decide +kernel) rfl rfl (Nat.le_of_ble_eq_true rfl) dX6_init_37 (fun H locs hP hD hS => ?_)
  have hP : va_P (dC, dI) srCl [(ob, .inr (8, [.ref q8, .ref q17, .ref q26, .ref q35, .null, .null, .null, .null, .null, .null, .int 0, .int 0])), (q8, .inl (cB, 4096, .inl (fun _ => 0))), (q17, .inl (cI, 128, .inl (fun _ => 0))), (q26, .inl (cI, 128, .inl (fun _ => 0))), (q35, .inl (cI, 128, .inl (fun _ => 0)))] H := hP
  have hD : va_D A [(ob, .inr (8, [.ref q8, .ref q17, .ref q26, .ref q35, .null, .null, .null, .null, .null, .null, .int 0, .int 0])), (q8, .inl (cB, 4096, .inl (fun _ => 0))), (q17, .inl (cI, 128, .inl (fun _ => 0))), (q26, .inl (cI, 128, .inl (fun _ => 0))), (q35, .inl (cI, 128, .inl (fun _ => 0)))] := hD
  refine lv_aload_n hx hb dX6_init_40 rfl (lv_at hl 0 rfl) ?_
  refine lv_sipush (v := 128) hx hb dX6_init_41 (by decide) ?_
  refine mr_newa (ty := .int) (N' := 128) (a0 := (128, .inl (fun _ => 0))) hx hb (hts _ (List.mem_cons_of_mem _ (arI _ List.mem_cons_self))) rfl (fun C h => by cases h) hK hP hD hS hA (fun _ => rfl) (by decide) (by decide) (by decide) (Nat.le_of_ble_eq_true rfl) (Nat.le_of_ble_eq_true rfl) dX6_init_44 0 rfl (fun q44 H hP hD hS => ?_)
  have hP : va_P (dC, dI) srCl [(ob, .inr (8, [.ref q8, .ref q17, .ref q26, .ref q35, .null, .null, .null, .null, .null, .null, .int 0, .int 0])), (q8, .inl (cB, 4096, .inl (fun _ => 0))), (q17, .inl (cI, 128, .inl (fun _ => 0))), (q26, .inl (cI, 128, .inl (fun _ => 0))), (q35, .inl (cI, 128, .inl (fun _ => 0))), (q44, .inl (cI, 128, .inl (fun _ => 0)))] H := hP
  have hD : va_D A [(ob, .inr (8, [.ref q8, .ref q17, .ref q26, .ref q35, .null, .null, .null, .null, .null, .null, .int 0, .int 0])), (q8, .inl (cB, 4096, .inl (fun _ => 0))), (q17, .inl (cI, 128, .inl (fun _ => 0))), (q26, .inl (cI, 128, .inl (fun _ => 0))), (q35, .inl (cI, 128, .inl (fun _ => 0))), (q44, .inl (cI, 128, .inl (fun _ => 0)))] := hD
  refine va_putF (D := (dC, dI)) (ci := 8) (v := .ref q44) (ty := .array .int) (C := RX6) (T := TX6) (N := 12) hx hb hts (inX6 _) tyX6 tyX6_ok nmX6 hown hK hP hD hS 0 rfl rfl 4 (by decide) (hts _ (List.mem_cons_of_mem _ wf6_25)) (fun _ h9 => h9) rfl hnm rfl (by decide +kernel) rfl rfl (Nat.le_of_ble_eq_true rfl) dX6_init_46 (fun H locs hP hD hS => ?_)
  have hP : va_P (dC, dI) srCl [(ob, .inr (8, [.ref q8, .ref q17, .ref q26, .ref q35, .ref q44, .null, .null, .null, .null, .null, .int 0, .int 0])), (q8, .inl (cB, 4096, .inl (fun _ => 0))), (q17, .inl (cI, 128, .inl (fun _ => 0))), (q26, .inl (cI, 128, .inl (fun _ => 0))), (q35, .inl (cI, 128, .inl (fun _ => 0))), (q44, .inl (cI, 128, .inl (fun _ => 0)))] H := hP
  have hD : va_D A [(ob, .inr (8, [.ref q8, .ref q17, .ref q26, .ref q35, .ref q44, .null, .null, .null, .null, .null, .int 0, .int 0])), (q8, .inl (cB, 4096, .inl (fun _ => 0))), (q17, .inl (cI, 128, .inl (fun _ => 0))), (q26, .inl (cI, 128, .inl (fun _ => 0))), (q35, .inl (cI, 128, .inl (fun _ => 0))), (q44, .inl (cI, 128, .inl (fun _ => 0)))] := hD
  refine lv_aload_n hx hb dX6_init_49 rfl (lv_at hl 0 rfl) ?_
  refine lv_sipush (v := 128) hx hb dX6_init_50 (by decide) ?_
  refine mr_newa (ty := .int) (N' := 128) (a0 := (128, .inl (fun _ => 0))) hx hb (hts _ (List.mem_cons_of_mem _ (arI _ List.mem_cons_self))) rfl (fun C h => by cases h) hK hP hD hS hA (fun _ => rfl) (by decide) (by decide) (by decide) (Nat.le_of_ble_eq_true rfl) (Nat.le_of_ble_eq_true rfl) dX6_init_53 0 rfl (fun q53 H hP hD hS => ?_)
  have hP : va_P (dC, dI) srCl [(ob, .inr (8, [.ref q8, .ref q17, .ref q26, .ref q35, .ref q44, .null, .null, .null, .null, .null, .int 0, .int 0])), (q8, .inl (cB, 4096, .inl (fun _ => 0))), (q17, .inl (cI, 128, .inl (fun _ => 0))), (q26, .inl (cI, 128, .inl (fun _ => 0))), (q35, .inl (cI, 128, .inl (fun _ => 0))), (q44, .inl (cI, 128, .inl (fun _ => 0))), (q53, .inl (cI, 128, .inl (fun _ => 0)))] H := hP
  have hD : va_D A [(ob, .inr (8, [.ref q8, .ref q17, .ref q26, .ref q35, .ref q44, .null, .null, .null, .null, .null, .int 0, .int 0])), (q8, .inl (cB, 4096, .inl (fun _ => 0))), (q17, .inl (cI, 128, .inl (fun _ => 0))), (q26, .inl (cI, 128, .inl (fun _ => 0))), (q35, .inl (cI, 128, .inl (fun _ => 0))), (q44, .inl (cI, 128, .inl (fun _ => 0))), (q53, .inl (cI, 128, .inl (fun _ => 0)))] := hD
  refine va_putF (D := (dC, dI)) (ci := 8) (v := .ref q53) (ty := .array .int) (C := RX6) (T := TX6) (N := 12) hx hb hts (inX6 _) tyX6 tyX6_ok nmX6 hown hK hP hD hS 0 rfl rfl 5 (by decide) (hts _ (List.mem_cons_of_mem _ wf6_28)) (fun _ h9 => h9) rfl hnm rfl (by decide +kernel) rfl rfl (Nat.le_of_ble_eq_true rfl) dX6_init_55 (fun H locs hP hD hS => ?_)
  have hP : va_P (dC, dI) srCl [(ob, .inr (8, [.ref q8, .ref q17, .ref q26, .ref q35, .ref q44, .ref q53, .null, .null, .null, .null, .int 0, .int 0])), (q8, .inl (cB, 4096, .inl (fun _ => 0))), (q17, .inl (cI, 128, .inl (fun _ => 0))), (q26, .inl (cI, 128, .inl (fun _ => 0))), (q35, .inl (cI, 128, .inl (fun _ => 0))), (q44, .inl (cI, 128, .inl (fun _ => 0))), (q53, .inl (cI, 128, .inl (fun _ => 0)))] H := hP
  have hD : va_D A [(ob, .inr (8, [.ref q8, .ref q17, .ref q26, .ref q35, .ref q44, .ref q53, .null, .null, .null, .null, .int 0, .int 0])), (q8, .inl (cB, 4096, .inl (fun _ => 0))), (q17, .inl (cI, 128, .inl (fun _ => 0))), (q26, .inl (cI, 128, .inl (fun _ => 0))), (q35, .inl (cI, 128, .inl (fun _ => 0))), (q44, .inl (cI, 128, .inl (fun _ => 0))), (q53, .inl (cI, 128, .inl (fun _ => 0)))] := hD
  refine lv_aload_n hx hb dX6_init_58 rfl (lv_at hl 0 rfl) ?_
  refine lv_sipush (v := 128) hx hb dX6_init_59 (by decide) ?_
  refine mr_newa (ty := .int) (N' := 128) (a0 := (128, .inl (fun _ => 0))) hx hb (hts _ (List.mem_cons_of_mem _ (arI _ List.mem_cons_self))) rfl (fun C h => by cases h) hK hP hD hS hA (fun _ => rfl) (by decide) (by decide) (by decide) (Nat.le_of_ble_eq_true rfl) (Nat.le_of_ble_eq_true rfl) dX6_init_62 0 rfl (fun q62 H hP hD hS => ?_)
  have hP : va_P (dC, dI) srCl [(ob, .inr (8, [.ref q8, .ref q17, .ref q26, .ref q35, .ref q44, .ref q53, .null, .null, .null, .null, .int 0, .int 0])), (q8, .inl (cB, 4096, .inl (fun _ => 0))), (q17, .inl (cI, 128, .inl (fun _ => 0))), (q26, .inl (cI, 128, .inl (fun _ => 0))), (q35, .inl (cI, 128, .inl (fun _ => 0))), (q44, .inl (cI, 128, .inl (fun _ => 0))), (q53, .inl (cI, 128, .inl (fun _ => 0))), (q62, .inl (cI, 128, .inl (fun _ => 0)))] H := hP
  have hD : va_D A [(ob, .inr (8, [.ref q8, .ref q17, .ref q26, .ref q35, .ref q44, .ref q53, .null, .null, .null, .null, .int 0, .int 0])), (q8, .inl (cB, 4096, .inl (fun _ => 0))), (q17, .inl (cI, 128, .inl (fun _ => 0))), (q26, .inl (cI, 128, .inl (fun _ => 0))), (q35, .inl (cI, 128, .inl (fun _ => 0))), (q44, .inl (cI, 128, .inl (fun _ => 0))), (q53, .inl (cI, 128, .inl (fun _ => 0))), (q62, .inl (cI, 128, .inl (fun _ => 0)))] := hD
  refine va_putF (D := (dC, dI)) (ci := 8) (v := .ref q62) (ty := .array .int) (C := RX6) (T := TX6) (N := 12) hx hb hts (inX6 _) tyX6 tyX6_ok nmX6 hown hK hP hD hS 0 rfl rfl 6 (by decide) (hts _ (List.mem_cons_of_mem _ wf6_31)) (fun _ h9 => h9) rfl hnm rfl (by decide +kernel) rfl rfl (Nat.le_of_ble_eq_true rfl) dX6_init_64 (fun H locs hP hD hS => ?_)
  have hP : va_P (dC, dI) srCl [(ob, .inr (8, [.ref q8, .ref q17, .ref q26, .ref q35, .ref q44, .ref q53, .ref q62, .null, .null, .null, .int 0, .int 0])), (q8, .inl (cB, 4096, .inl (fun _ => 0))), (q17, .inl (cI, 128, .inl (fun _ => 0))), (q26, .inl (cI, 128, .inl (fun _ => 0))), (q35, .inl (cI, 128, .inl (fun _ => 0))), (q44, .inl (cI, 128, .inl (fun _ => 0))), (q53, .inl (cI, 128, .inl (fun _ => 0))), (q62, .inl (cI, 128, .inl (fun _ => 0)))] H := hP
  have hD : va_D A [(ob, .inr (8, [.ref q8, .ref q17, .ref q26, .ref q35, .ref q44, .ref q53, .ref q62, .null, .null, .null, .int 0, .int 0])), (q8, .inl (cB, 4096, .inl (fun _ => 0))), (q17, .inl (cI, 128, .inl (fun _ => 0))), (q26, .inl (cI, 128, .inl (fun _ => 0))), (q35, .inl (cI, 128, .inl (fun _ => 0))), (q44, .inl (cI, 128, .inl (fun _ => 0))), (q53, .inl (cI, 128, .inl (fun _ => 0))), (q62, .inl (cI, 128, .inl (fun _ => 0)))] := hD
  refine lv_aload_n hx hb dX6_init_67 rfl (lv_at hl 0 rfl) ?_
  refine lv_sipush (v := 128) hx hb dX6_init_68 (by decide) ?_
  refine mr_newa (ty := .int) (N' := 128) (a0 := (128, .inl (fun _ => 0))) hx hb (hts _ (List.mem_cons_of_mem _ (arI _ List.mem_cons_self))) rfl (fun C h => by cases h) hK hP hD hS hA (fun _ => rfl) (by decide) (by decide) (by decide) (Nat.le_of_ble_eq_true rfl) (Nat.le_of_ble_eq_true rfl) dX6_init_71 0 rfl (fun q71 H hP hD hS => ?_)
  have hP : va_P (dC, dI) srCl [(ob, .inr (8, [.ref q8, .ref q17, .ref q26, .ref q35, .ref q44, .ref q53, .ref q62, .null, .null, .null, .int 0, .int 0])), (q8, .inl (cB, 4096, .inl (fun _ => 0))), (q17, .inl (cI, 128, .inl (fun _ => 0))), (q26, .inl (cI, 128, .inl (fun _ => 0))), (q35, .inl (cI, 128, .inl (fun _ => 0))), (q44, .inl (cI, 128, .inl (fun _ => 0))), (q53, .inl (cI, 128, .inl (fun _ => 0))), (q62, .inl (cI, 128, .inl (fun _ => 0))), (q71, .inl (cI, 128, .inl (fun _ => 0)))] H := hP
  have hD : va_D A [(ob, .inr (8, [.ref q8, .ref q17, .ref q26, .ref q35, .ref q44, .ref q53, .ref q62, .null, .null, .null, .int 0, .int 0])), (q8, .inl (cB, 4096, .inl (fun _ => 0))), (q17, .inl (cI, 128, .inl (fun _ => 0))), (q26, .inl (cI, 128, .inl (fun _ => 0))), (q35, .inl (cI, 128, .inl (fun _ => 0))), (q44, .inl (cI, 128, .inl (fun _ => 0))), (q53, .inl (cI, 128, .inl (fun _ => 0))), (q62, .inl (cI, 128, .inl (fun _ => 0))), (q71, .inl (cI, 128, .inl (fun _ => 0)))] := hD
  refine va_putF (D := (dC, dI)) (ci := 8) (v := .ref q71) (ty := .array .int) (C := RX6) (T := TX6) (N := 12) hx hb hts (inX6 _) tyX6 tyX6_ok nmX6 hown hK hP hD hS 0 rfl rfl 7 (by decide) (hts _ (List.mem_cons_of_mem _ wf6_34)) (fun _ h9 => h9) rfl hnm rfl (by decide +kernel) rfl rfl (Nat.le_of_ble_eq_true rfl) dX6_init_73 (fun H locs hP hD hS => ?_)
  have hP : va_P (dC, dI) srCl [(ob, .inr (8, [.ref q8, .ref q17, .ref q26, .ref q35, .ref q44, .ref q53, .ref q62, .ref q71, .null, .null, .int 0, .int 0])), (q8, .inl (cB, 4096, .inl (fun _ => 0))), (q17, .inl (cI, 128, .inl (fun _ => 0))), (q26, .inl (cI, 128, .inl (fun _ => 0))), (q35, .inl (cI, 128, .inl (fun _ => 0))), (q44, .inl (cI, 128, .inl (fun _ => 0))), (q53, .inl (cI, 128, .inl (fun _ => 0))), (q62, .inl (cI, 128, .inl (fun _ => 0))), (q71, .inl (cI, 128, .inl (fun _ => 0)))] H := hP
  have hD : va_D A [(ob, .inr (8, [.ref q8, .ref q17, .ref q26, .ref q35, .ref q44, .ref q53, .ref q62, .ref q71, .null, .null, .int 0, .int 0])), (q8, .inl (cB, 4096, .inl (fun _ => 0))), (q17, .inl (cI, 128, .inl (fun _ => 0))), (q26, .inl (cI, 128, .inl (fun _ => 0))), (q35, .inl (cI, 128, .inl (fun _ => 0))), (q44, .inl (cI, 128, .inl (fun _ => 0))), (q53, .inl (cI, 128, .inl (fun _ => 0))), (q62, .inl (cI, 128, .inl (fun _ => 0))), (q71, .inl (cI, 128, .inl (fun _ => 0)))] := hD
  refine lv_aload_n hx hb dX6_init_76 rfl (lv_at hl 0 rfl) ?_
  refine lv_sipush (v := 128) hx hb dX6_init_77 (by decide) ?_
  refine mr_newa (ty := .boolean) (N' := 128) (a0 := (128, .inl (fun _ => 0))) hx hb (hts _ (List.mem_cons_of_mem _ (arZ _ List.mem_cons_self))) rfl (fun C h => by cases h) hK hP hD hS hA (fun _ => rfl) (by decide) (by decide) (by decide) (Nat.le_of_ble_eq_true rfl) (Nat.le_of_ble_eq_true rfl) dX6_init_80 3 rfl (fun q80 H hP hD hS => ?_)
  have hP : va_P (dC, dI) srCl [(ob, .inr (8, [.ref q8, .ref q17, .ref q26, .ref q35, .ref q44, .ref q53, .ref q62, .ref q71, .null, .null, .int 0, .int 0])), (q8, .inl (cB, 4096, .inl (fun _ => 0))), (q17, .inl (cI, 128, .inl (fun _ => 0))), (q26, .inl (cI, 128, .inl (fun _ => 0))), (q35, .inl (cI, 128, .inl (fun _ => 0))), (q44, .inl (cI, 128, .inl (fun _ => 0))), (q53, .inl (cI, 128, .inl (fun _ => 0))), (q62, .inl (cI, 128, .inl (fun _ => 0))), (q71, .inl (cI, 128, .inl (fun _ => 0))), (q80, .inl (cZ, 128, .inl (fun _ => 0)))] H := hP
  have hD : va_D A [(ob, .inr (8, [.ref q8, .ref q17, .ref q26, .ref q35, .ref q44, .ref q53, .ref q62, .ref q71, .null, .null, .int 0, .int 0])), (q8, .inl (cB, 4096, .inl (fun _ => 0))), (q17, .inl (cI, 128, .inl (fun _ => 0))), (q26, .inl (cI, 128, .inl (fun _ => 0))), (q35, .inl (cI, 128, .inl (fun _ => 0))), (q44, .inl (cI, 128, .inl (fun _ => 0))), (q53, .inl (cI, 128, .inl (fun _ => 0))), (q62, .inl (cI, 128, .inl (fun _ => 0))), (q71, .inl (cI, 128, .inl (fun _ => 0))), (q80, .inl (cZ, 128, .inl (fun _ => 0)))] := hD
  refine va_putF (D := (dC, dI)) (ci := 8) (v := .ref q80) (ty := .array .boolean) (C := RX6) (T := TX6) (N := 12) hx hb hts (inX6 _) tyX6 tyX6_ok nmX6 hown hK hP hD hS 0 rfl rfl 8 (by decide) (hts _ (List.mem_cons_of_mem _ wf6_37)) (fun _ h9 => h9) rfl hnm rfl (by decide +kernel) rfl rfl (Nat.le_of_ble_eq_true rfl) dX6_init_82 (fun H locs hP hD hS => ?_)
  have hP : va_P (dC, dI) srCl [(ob, .inr (8, [.ref q8, .ref q17, .ref q26, .ref q35, .ref q44, .ref q53, .ref q62, .ref q71, .ref q80, .null, .int 0, .int 0])), (q8, .inl (cB, 4096, .inl (fun _ => 0))), (q17, .inl (cI, 128, .inl (fun _ => 0))), (q26, .inl (cI, 128, .inl (fun _ => 0))), (q35, .inl (cI, 128, .inl (fun _ => 0))), (q44, .inl (cI, 128, .inl (fun _ => 0))), (q53, .inl (cI, 128, .inl (fun _ => 0))), (q62, .inl (cI, 128, .inl (fun _ => 0))), (q71, .inl (cI, 128, .inl (fun _ => 0))), (q80, .inl (cZ, 128, .inl (fun _ => 0)))] H := hP
  have hD : va_D A [(ob, .inr (8, [.ref q8, .ref q17, .ref q26, .ref q35, .ref q44, .ref q53, .ref q62, .ref q71, .ref q80, .null, .int 0, .int 0])), (q8, .inl (cB, 4096, .inl (fun _ => 0))), (q17, .inl (cI, 128, .inl (fun _ => 0))), (q26, .inl (cI, 128, .inl (fun _ => 0))), (q35, .inl (cI, 128, .inl (fun _ => 0))), (q44, .inl (cI, 128, .inl (fun _ => 0))), (q53, .inl (cI, 128, .inl (fun _ => 0))), (q62, .inl (cI, 128, .inl (fun _ => 0))), (q71, .inl (cI, 128, .inl (fun _ => 0))), (q80, .inl (cZ, 128, .inl (fun _ => 0)))] := hD
  refine lv_aload_n hx hb dX6_init_85 rfl (lv_at hl 0 rfl) ?_
  refine lv_sipush (v := 128) hx hb dX6_init_86 (by decide) ?_
  refine mr_newa (ty := .boolean) (N' := 128) (a0 := (128, .inl (fun _ => 0))) hx hb (hts _ (List.mem_cons_of_mem _ (arZ _ List.mem_cons_self))) rfl (fun C h => by cases h) hK hP hD hS hA (fun _ => rfl) (by decide) (by decide) (by decide) (Nat.le_of_ble_eq_true rfl) (Nat.le_of_ble_eq_true rfl) dX6_init_89 3 rfl (fun q89 H hP hD hS => ?_)
  have hP : va_P (dC, dI) srCl [(ob, .inr (8, [.ref q8, .ref q17, .ref q26, .ref q35, .ref q44, .ref q53, .ref q62, .ref q71, .ref q80, .null, .int 0, .int 0])), (q8, .inl (cB, 4096, .inl (fun _ => 0))), (q17, .inl (cI, 128, .inl (fun _ => 0))), (q26, .inl (cI, 128, .inl (fun _ => 0))), (q35, .inl (cI, 128, .inl (fun _ => 0))), (q44, .inl (cI, 128, .inl (fun _ => 0))), (q53, .inl (cI, 128, .inl (fun _ => 0))), (q62, .inl (cI, 128, .inl (fun _ => 0))), (q71, .inl (cI, 128, .inl (fun _ => 0))), (q80, .inl (cZ, 128, .inl (fun _ => 0))), (q89, .inl (cZ, 128, .inl (fun _ => 0)))] H := hP
  have hD : va_D A [(ob, .inr (8, [.ref q8, .ref q17, .ref q26, .ref q35, .ref q44, .ref q53, .ref q62, .ref q71, .ref q80, .null, .int 0, .int 0])), (q8, .inl (cB, 4096, .inl (fun _ => 0))), (q17, .inl (cI, 128, .inl (fun _ => 0))), (q26, .inl (cI, 128, .inl (fun _ => 0))), (q35, .inl (cI, 128, .inl (fun _ => 0))), (q44, .inl (cI, 128, .inl (fun _ => 0))), (q53, .inl (cI, 128, .inl (fun _ => 0))), (q62, .inl (cI, 128, .inl (fun _ => 0))), (q71, .inl (cI, 128, .inl (fun _ => 0))), (q80, .inl (cZ, 128, .inl (fun _ => 0))), (q89, .inl (cZ, 128, .inl (fun _ => 0)))] := hD
  refine va_putF (D := (dC, dI)) (ci := 8) (v := .ref q89) (ty := .array .boolean) (C := RX6) (T := TX6) (N := 12) hx hb hts (inX6 _) tyX6 tyX6_ok nmX6 hown hK hP hD hS 0 rfl rfl 9 (by decide) (hts _ (List.mem_cons_of_mem _ wf6_41)) (fun _ h9 => h9) rfl hnm rfl (by decide +kernel) rfl rfl (Nat.le_of_ble_eq_true rfl) dX6_init_91 (fun H locs hP hD hS => ?_)
  have hP : va_P (dC, dI) srCl [(ob, .inr (8, [.ref q8, .ref q17, .ref q26, .ref q35, .ref q44, .ref q53, .ref q62, .ref q71, .ref q80, .ref q89, .int 0, .int 0])), (q8, .inl (cB, 4096, .inl (fun _ => 0))), (q17, .inl (cI, 128, .inl (fun _ => 0))), (q26, .inl (cI, 128, .inl (fun _ => 0))), (q35, .inl (cI, 128, .inl (fun _ => 0))), (q44, .inl (cI, 128, .inl (fun _ => 0))), (q53, .inl (cI, 128, .inl (fun _ => 0))), (q62, .inl (cI, 128, .inl (fun _ => 0))), (q71, .inl (cI, 128, .inl (fun _ => 0))), (q80, .inl (cZ, 128, .inl (fun _ => 0))), (q89, .inl (cZ, 128, .inl (fun _ => 0)))] H := hP
  have hD : va_D A [(ob, .inr (8, [.ref q8, .ref q17, .ref q26, .ref q35, .ref q44, .ref q53, .ref q62, .ref q71, .ref q80, .ref q89, .int 0, .int 0])), (q8, .inl (cB, 4096, .inl (fun _ => 0))), (q17, .inl (cI, 128, .inl (fun _ => 0))), (q26, .inl (cI, 128, .inl (fun _ => 0))), (q35, .inl (cI, 128, .inl (fun _ => 0))), (q44, .inl (cI, 128, .inl (fun _ => 0))), (q53, .inl (cI, 128, .inl (fun _ => 0))), (q62, .inl (cI, 128, .inl (fun _ => 0))), (q71, .inl (cI, 128, .inl (fun _ => 0))), (q80, .inl (cZ, 128, .inl (fun _ => 0))), (q89, .inl (cZ, 128, .inl (fun _ => 0)))] := hD
  refine lv_aload_n hx hb dX6_init_94 rfl (lv_at hl 0 rfl) ?_
  refine lv_iconst (v := 0) hx hb dX6_init_95 (by decide) ?_
  refine va_put (D := (dC, dI)) (ci := 8) (v := .int 0) (ty := .int) (C := RX6) (T := TX6) (N := 12) hx hb hts (inX6 _) tyX6 tyX6_ok nmX6 hown hK hP hD hS 0 rfl rfl 10 (by decide) (hts _ (List.mem_cons_of_mem _ wf6_44)) (fun _ h9 => h9) rfl (by decide +kernel) rfl rfl (Nat.le_of_ble_eq_true rfl) dX6_init_96 (fun H locs hP hD hS => ?_)
  have hP : va_P (dC, dI) srCl [(ob, .inr (8, [.ref q8, .ref q17, .ref q26, .ref q35, .ref q44, .ref q53, .ref q62, .ref q71, .ref q80, .ref q89, .int 0, .int 0])), (q8, .inl (cB, 4096, .inl (fun _ => 0))), (q17, .inl (cI, 128, .inl (fun _ => 0))), (q26, .inl (cI, 128, .inl (fun _ => 0))), (q35, .inl (cI, 128, .inl (fun _ => 0))), (q44, .inl (cI, 128, .inl (fun _ => 0))), (q53, .inl (cI, 128, .inl (fun _ => 0))), (q62, .inl (cI, 128, .inl (fun _ => 0))), (q71, .inl (cI, 128, .inl (fun _ => 0))), (q80, .inl (cZ, 128, .inl (fun _ => 0))), (q89, .inl (cZ, 128, .inl (fun _ => 0)))] H := hP
  have hD : va_D A [(ob, .inr (8, [.ref q8, .ref q17, .ref q26, .ref q35, .ref q44, .ref q53, .ref q62, .ref q71, .ref q80, .ref q89, .int 0, .int 0])), (q8, .inl (cB, 4096, .inl (fun _ => 0))), (q17, .inl (cI, 128, .inl (fun _ => 0))), (q26, .inl (cI, 128, .inl (fun _ => 0))), (q35, .inl (cI, 128, .inl (fun _ => 0))), (q44, .inl (cI, 128, .inl (fun _ => 0))), (q53, .inl (cI, 128, .inl (fun _ => 0))), (q62, .inl (cI, 128, .inl (fun _ => 0))), (q71, .inl (cI, 128, .inl (fun _ => 0))), (q80, .inl (cZ, 128, .inl (fun _ => 0))), (q89, .inl (cZ, 128, .inl (fun _ => 0)))] := hD
  refine lv_aload_n hx hb dX6_init_99 rfl (lv_at hl 0 rfl) ?_
  refine lv_iconst (v := 0) hx hb dX6_init_100 (by decide) ?_
  refine va_put (D := (dC, dI)) (ci := 8) (v := .int 0) (ty := .int) (C := RX6) (T := TX6) (N := 12) hx hb hts (inX6 _) tyX6 tyX6_ok nmX6 hown hK hP hD hS 0 rfl rfl 11 (by decide) (hts _ (List.mem_cons_of_mem _ wf6_48)) (fun _ h9 => h9) rfl (by decide +kernel) rfl rfl (Nat.le_of_ble_eq_true rfl) dX6_init_101 (fun H locs hP hD hS => ?_)
  have hP : va_P (dC, dI) srCl [(ob, .inr (8, [.ref q8, .ref q17, .ref q26, .ref q35, .ref q44, .ref q53, .ref q62, .ref q71, .ref q80, .ref q89, .int 0, .int 0])), (q8, .inl (cB, 4096, .inl (fun _ => 0))), (q17, .inl (cI, 128, .inl (fun _ => 0))), (q26, .inl (cI, 128, .inl (fun _ => 0))), (q35, .inl (cI, 128, .inl (fun _ => 0))), (q44, .inl (cI, 128, .inl (fun _ => 0))), (q53, .inl (cI, 128, .inl (fun _ => 0))), (q62, .inl (cI, 128, .inl (fun _ => 0))), (q71, .inl (cI, 128, .inl (fun _ => 0))), (q80, .inl (cZ, 128, .inl (fun _ => 0))), (q89, .inl (cZ, 128, .inl (fun _ => 0)))] H := hP
  have hD : va_D A [(ob, .inr (8, [.ref q8, .ref q17, .ref q26, .ref q35, .ref q44, .ref q53, .ref q62, .ref q71, .ref q80, .ref q89, .int 0, .int 0])), (q8, .inl (cB, 4096, .inl (fun _ => 0))), (q17, .inl (cI, 128, .inl (fun _ => 0))), (q26, .inl (cI, 128, .inl (fun _ => 0))), (q35, .inl (cI, 128, .inl (fun _ => 0))), (q44, .inl (cI, 128, .inl (fun _ => 0))), (q53, .inl (cI, 128, .inl (fun _ => 0))), (q62, .inl (cI, 128, .inl (fun _ => 0))), (q71, .inl (cI, 128, .inl (fun _ => 0))), (q80, .inl (cZ, 128, .inl (fun _ => 0))), (q89, .inl (cZ, 128, .inl (fun _ => 0)))] := hD
  refine W.widen (k := 10) (n := 5248) (Nat.le_of_ble_eq_true rfl) (Nat.le_of_ble_eq_true rfl) ?_
  subst hQ0
  exact W.vret hx hb hr (fun t ht hW => ⟨⟨(q8, q17, q26, q35, q44, q53, q62, q71, q80, q89), rfl, trivial, by rw [ht]; exact hP, va_K.moved hW.alike hK, hD⟩, hS.F ht⟩) hS.2.2 dX6_init_104
set_option maxHeartbeats 4000000 in
set_option maxRecDepth 100000 in
theorem kX4_init (l : Launch) (htr : l.stackTraces = false) (dC : Nat → ClassId) (dI : Nat → Nat → Nat) (adK adV : Nat → Nat) (cI cB cJ cZ cQ : ClassId) (ob : Nat) (a0 : Nat) (a1 : Nat) (a2 : Nat) (sz : Nat) : Met l yX4_init wsX4_init rmX4_init (pcW (sr_Z adK adV) (dC, dI) srCl [(cI, .int), (cB, .byte), (cJ, .long), (cZ, .boolean), (cQ, .object "SchemaReader$Schema")] [.ref ob, .ref a0, .ref a1, .ref a2] [(ob, .inr (6, [.null, .null, .null, .int 0, .int 0]))] sz) (va_Qv (fun _ => True) (pcB (dC, dI) srCl [(cI, .int), (cB, .byte), (cJ, .long), (cZ, .boolean), (cQ, .object "SchemaReader$Schema")] (fun u : Unit => [(ob, .inr (6, [.ref a0, .ref a1, .ref a2, .int 0, .int (-1)]))]) (va_A [(ob, .inr (6, [.null, .null, .null, .int 0, .int 0]))] sz)) (va_A [(ob, .inr (6, [.null, .null, .null, .int 0, .int 0]))] sz)) 0 0 (va_A [(ob, .inr (6, [.null, .null, .null, .int 0, .int 0]))] sz) := by
  refine Met.ofW (cc := cX4_init) (maxL := 4) (ret := none) (by decide) rfl ?_
  intro p e s m args below meth c s₁ B hml hv
  obtain ⟨rfl, hsz, hP, hK, hD0, hz0⟩ := hv
  have hx := B.exec
  have hb := B.bytes
  have hr := B.returns
  have hts := atoms_spec (ws := wsX4_init) B.pre
  have hown : s.vm.findClass RX4 = some m.cls := findClass_of_methodNamed B.named
  have hnm : meth.name = "<init>" := (name_of_methodNamed B.named B.method).1
  subst hsz
  have hD := hD0.self (sz := s.heap.size)
  generalize hAe : va_A [(ob, .inr (6, [.null, .null, .null, .int 0, .int 0]))] s.heap.size = A at hD hz0 ⊢
  have hA : ∀ q : Nat, s.heap.size ≤ q → A q := fun q h => by rw [← hAe]; exact Or.inr h
  have hS : va_S A s.heap s.heap [] := va_S.rf
  generalize hQ0 : MQ below (va_Qv (fun _ => True) (pcB (dC, dI) srCl [(cI, .int), (cB, .byte), (cJ, .long), (cZ, .boolean), (cQ, .object "SchemaReader$Schema")] (fun u : Unit => [(ob, .inr (6, [.ref a0, .ref a1, .ref a2, .int 0, .int (-1)]))]) A) A) [.ref ob, .ref a0, .ref a1, .ref a2].toArray s 0 0 A = Q0
  have hl := lv_entry [.ref ob, .ref a0, .ref a1, .ref a2] (n := 4) (Nat.le_of_ble_eq_true rfl)
  rw [lg_entry_eq]
  generalize (lg_sl [.ref ob, .ref a0, .ref a1, .ref a2] ++ List.replicate (4 - (lg_sl [.ref ob, .ref a0, .ref a1, .ref a2]).length) Slot.unset).toArray = ls at hl ⊢
  have hl : lv_has ls 4 [(0, .ref ob), (1, .ref a0), (2, .ref a1), (3, .ref a2)] := hl
  refine lv_aload_n hx hb dX4_init_0 rfl (lv_at hl 0 rfl) ?_
  refine W.objInit hx hb hown (hts _ (List.mem_cons_of_mem _ (oi4_3 _ (List.mem_of_getElem? (i := 0) rfl)))) (hts _ (List.mem_cons_of_mem _ (oi4_3 _ (List.mem_of_getElem? (i := 1) rfl)))) (hts _ (List.mem_cons_of_mem _ (oi4_3 _ (List.mem_of_getElem? (i := 2) rfl)))) rfl (by rw [hml]; exact hl.1) rfl dX4_init_1 (Nat.le_of_ble_eq_true rfl) (Nat.le_of_ble_eq_true rfl) ?_
  refine lv_aload_n hx hb dX4_init_4 rfl (lv_at hl 0 rfl) ?_
  refine lv_iconst (v := 0) hx hb dX4_init_5 (by decide) ?_
  refine va_put (D := (dC, dI)) (ci := 6) (v := .int 0) (ty := .int) (C := RX4) (T := TX4) (N := 5) hx hb hts (inX4 _) tyX4 tyX4_ok nmX4 hown hK hP hD hS 0 rfl rfl 3 (by decide) (hts _ (List.mem_cons_of_mem _ wf4_9)) (fun _ h9 => h9) rfl (by decide +kernel) rfl rfl (Nat.le_of_ble_eq_true rfl) dX4_init_6 (fun H locs hP hD hS => ?_)
  have hP : va_P (dC, dI) srCl [(ob, .inr (6, [.null, .null, .null, .int 0, .int 0]))] H := hP
  have hD : va_D A [(ob, .inr (6, [.null, .null, .null, .int 0, .int 0]))] := hD
  refine lv_aload_n hx hb dX4_init_9 rfl (lv_at hl 0 rfl) ?_
  refine lv_iconst (v := -1) hx hb dX4_init_10 (by decide) ?_
  refine va_put (D := (dC, dI)) (ci := 6) (v := .int (-1)) (ty := .int) (C := RX4) (T := TX4) (N := 5) hx hb hts (inX4 _) tyX4 tyX4_ok nmX4 hown hK hP hD hS 0 rfl rfl 4 (by decide) (hts _ (List.mem_cons_of_mem _ wf4_15)) (fun _ h9 => h9) rfl (by decide +kernel) rfl rfl (Nat.le_of_ble_eq_true rfl) dX4_init_11 (fun H locs hP hD hS => ?_)
  have hP : va_P (dC, dI) srCl [(ob, .inr (6, [.null, .null, .null, .int 0, .int (-1)]))] H := hP
  have hD : va_D A [(ob, .inr (6, [.null, .null, .null, .int 0, .int (-1)]))] := hD
  refine lv_aload_n hx hb dX4_init_14 rfl (lv_at hl 0 rfl) ?_
  refine lv_aload_n hx hb dX4_init_15 rfl (lv_at hl 1 rfl) ?_
  refine va_putF (D := (dC, dI)) (ci := 6) (v := .ref a0) (ty := .object "SchemaReader$Text") (C := RX4) (T := TX4) (N := 5) hx hb hts (inX4 _) tyX4 tyX4_ok nmX4 hown hK hP hD hS 0 rfl rfl 0 (by decide) (hts _ (List.mem_cons_of_mem _ wf4_18)) (fun _ h9 => h9) rfl hnm rfl (by decide +kernel) rfl rfl (Nat.le_of_ble_eq_true rfl) dX4_init_16 (fun H locs hP hD hS => ?_)
  have hP : va_P (dC, dI) srCl [(ob, .inr (6, [.ref a0, .null, .null, .int 0, .int (-1)]))] H := hP
  have hD : va_D A [(ob, .inr (6, [.ref a0, .null, .null, .int 0, .int (-1)]))] := hD
  refine lv_aload_n hx hb dX4_init_19 rfl (lv_at hl 0 rfl) ?_
  refine lv_aload_n hx hb dX4_init_20 rfl (lv_at hl 2 rfl) ?_
  refine va_putF (D := (dC, dI)) (ci := 6) (v := .ref a1) (ty := .object "SchemaReader$Schema") (C := RX4) (T := TX4) (N := 5) hx hb hts (inX4 _) tyX4 tyX4_ok nmX4 hown hK hP hD hS 0 rfl rfl 1 (by decide) (hts _ (List.mem_cons_of_mem _ wf4_22)) (fun _ h9 => h9) rfl hnm rfl (by decide +kernel) rfl rfl (Nat.le_of_ble_eq_true rfl) dX4_init_21 (fun H locs hP hD hS => ?_)
  have hP : va_P (dC, dI) srCl [(ob, .inr (6, [.ref a0, .ref a1, .null, .int 0, .int (-1)]))] H := hP
  have hD : va_D A [(ob, .inr (6, [.ref a0, .ref a1, .null, .int 0, .int (-1)]))] := hD
  refine lv_aload_n hx hb dX4_init_24 rfl (lv_at hl 0 rfl) ?_
  refine lv_aload_n hx hb dX4_init_25 rfl (lv_at hl 3 rfl) ?_
  refine va_putF (D := (dC, dI)) (ci := 6) (v := .ref a2) (ty := .object "SchemaReader$Couples") (C := RX4) (T := TX4) (N := 5) hx hb hts (inX4 _) tyX4 tyX4_ok nmX4 hown hK hP hD hS 0 rfl rfl 2 (by decide) (hts _ (List.mem_cons_of_mem _ wf4_26)) (fun _ h9 => h9) rfl hnm rfl (by decide +kernel) rfl rfl (Nat.le_of_ble_eq_true rfl) dX4_init_26 (fun H locs hP hD hS => ?_)
  have hP : va_P (dC, dI) srCl [(ob, .inr (6, [.ref a0, .ref a1, .ref a2, .int 0, .int (-1)]))] H := hP
  have hD : va_D A [(ob, .inr (6, [.ref a0, .ref a1, .ref a2, .int 0, .int (-1)]))] := hD
  refine W.widen (k := 0) (n := 0) (Nat.le_of_ble_eq_true rfl) (Nat.le_of_ble_eq_true rfl) ?_
  subst hQ0
  exact W.vret hx hb hr (fun t ht hW => ⟨⟨(), rfl, trivial, by rw [ht]; exact hP, va_K.moved hW.alike hK, hD⟩, hS.F ht⟩) hS.2.2 dX4_init_29
set_option maxHeartbeats 4000000 in
set_option maxRecDepth 100000 in
theorem kX0_init (l : Launch) (htr : l.stackTraces = false) (dC : Nat → ClassId) (dI : Nat → Nat → Nat) (adK adV : Nat → Nat) (cI cB cJ cZ cQ : ClassId) (ob : Nat) (a0 : Nat) (a1 : Nat) (sz : Nat) : Met l yX0_init wsX0_init rmX0_init (pcW (sr_Z adK adV) (dC, dI) srCl [(cI, .int), (cB, .byte), (cJ, .long), (cZ, .boolean), (cQ, .object "SchemaReader$Schema")] [.ref ob, .ref a0, .ref a1] [(ob, .inr (4, [.null, .null]))] sz) (va_Qv (fun _ => True) (pcB (dC, dI) srCl [(cI, .int), (cB, .byte), (cJ, .long), (cZ, .boolean), (cQ, .object "SchemaReader$Schema")] (fun u : Unit => [(ob, .inr (4, [.ref a0, .ref a1]))]) (va_A [(ob, .inr (4, [.null, .null]))] sz)) (va_A [(ob, .inr (4, [.null, .null]))] sz)) 0 0 (va_A [(ob, .inr (4, [.null, .null]))] sz) := by
  refine Met.ofW (cc := cX0_init) (maxL := 3) (ret := none) (by decide) rfl ?_
  intro p e s m args below meth c s₁ B hml hv
  obtain ⟨rfl, hsz, hP, hK, hD0, hz0⟩ := hv
  have hx := B.exec
  have hb := B.bytes
  have hr := B.returns
  have hts := atoms_spec (ws := wsX0_init) B.pre
  have hown : s.vm.findClass RX0 = some m.cls := findClass_of_methodNamed B.named
  have hnm : meth.name = "<init>" := (name_of_methodNamed B.named B.method).1
  subst hsz
  have hD := hD0.self (sz := s.heap.size)
  generalize hAe : va_A [(ob, .inr (4, [.null, .null]))] s.heap.size = A at hD hz0 ⊢
  have hA : ∀ q : Nat, s.heap.size ≤ q → A q := fun q h => by rw [← hAe]; exact Or.inr h
  have hS : va_S A s.heap s.heap [] := va_S.rf
  generalize hQ0 : MQ below (va_Qv (fun _ => True) (pcB (dC, dI) srCl [(cI, .int), (cB, .byte), (cJ, .long), (cZ, .boolean), (cQ, .object "SchemaReader$Schema")] (fun u : Unit => [(ob, .inr (4, [.ref a0, .ref a1]))]) A) A) [.ref ob, .ref a0, .ref a1].toArray s 0 0 A = Q0
  have hl := lv_entry [.ref ob, .ref a0, .ref a1] (n := 3) (Nat.le_of_ble_eq_true rfl)
  rw [lg_entry_eq]
  generalize (lg_sl [.ref ob, .ref a0, .ref a1] ++ List.replicate (3 - (lg_sl [.ref ob, .ref a0, .ref a1]).length) Slot.unset).toArray = ls at hl ⊢
  have hl : lv_has ls 3 [(0, .ref ob), (1, .ref a0), (2, .ref a1)] := hl
  refine lv_aload_n hx hb dX0_init_0 rfl (lv_at hl 0 rfl) ?_
  refine W.objInit hx hb hown (hts _ (List.mem_cons_of_mem _ (oi0_3 _ (List.mem_of_getElem? (i := 0) rfl)))) (hts _ (List.mem_cons_of_mem _ (oi0_3 _ (List.mem_of_getElem? (i := 1) rfl)))) (hts _ (List.mem_cons_of_mem _ (oi0_3 _ (List.mem_of_getElem? (i := 2) rfl)))) rfl (by rw [hml]; exact hl.1) rfl dX0_init_1 (Nat.le_of_ble_eq_true rfl) (Nat.le_of_ble_eq_true rfl) ?_
  refine lv_aload_n hx hb dX0_init_4 rfl (lv_at hl 0 rfl) ?_
  refine lv_aload_n hx hb dX0_init_5 rfl (lv_at hl 1 rfl) ?_
  refine va_putF (D := (dC, dI)) (ci := 4) (v := .ref a0) (ty := .object "SchemaReader$Text") (C := RX0) (T := TX0) (N := 2) hx hb hts (inX0 _) tyX0 tyX0_ok nmX0 hown hK hP hD hS 0 rfl rfl 0 (by decide) (hts _ (List.mem_cons_of_mem _ wf0_9)) (fun _ h9 => h9) rfl hnm rfl (by decide +kernel) rfl rfl (Nat.le_of_ble_eq_true rfl) dX0_init_6 (fun H locs hP hD hS => ?_)
  have hP : va_P (dC, dI) srCl [(ob, .inr (4, [.ref a0, .null]))] H := hP
  have hD : va_D A [(ob, .inr (4, [.ref a0, .null]))] := hD
  refine lv_aload_n hx hb dX0_init_9 rfl (lv_at hl 0 rfl) ?_
  refine lv_aload_n hx hb dX0_init_10 rfl (lv_at hl 2 rfl) ?_
  refine va_putF (D := (dC, dI)) (ci := 4) (v := .ref a1) (ty := .object "SchemaReader$Schema") (C := RX0) (T := TX0) (N := 2) hx hb hts (inX0 _) tyX0 tyX0_ok nmX0 hown hK hP hD hS 0 rfl rfl 1 (by decide) (hts _ (List.mem_cons_of_mem _ wf0_15)) (fun _ h9 => h9) rfl hnm rfl (by decide +kernel) rfl rfl (Nat.le_of_ble_eq_true rfl) dX0_init_11 (fun H locs hP hD hS => ?_)
  have hP : va_P (dC, dI) srCl [(ob, .inr (4, [.ref a0, .ref a1]))] H := hP
  have hD : va_D A [(ob, .inr (4, [.ref a0, .ref a1]))] := hD
  refine W.widen (k := 0) (n := 0) (Nat.le_of_ble_eq_true rfl) (Nat.le_of_ble_eq_true rfl) ?_
  subst hQ0
  exact W.vret hx hb hr (fun t ht hW => ⟨⟨(), rfl, trivial, by rw [ht]; exact hP, va_K.moved hW.alike hK, hD⟩, hS.F ht⟩) hS.2.2 dX0_init_14
set_option maxHeartbeats 4000000 in
set_option maxRecDepth 100000 in
theorem kX5_init (l : Launch) (htr : l.stackTraces = false) (dC : Nat → ClassId) (dI : Nat → Nat → Nat) (adK adV : Nat → Nat) (cI cB cJ cZ cQ : ClassId) (ob : Nat) (a0 : Nat) (a1 : Nat) (a2 : Nat) (sz : Nat) : Met l yX5_init wsX5_init rmX5_init (pcW (sr_Z adK adV) (dC, dI) srCl [(cI, .int), (cB, .byte), (cJ, .long), (cZ, .boolean), (cQ, .object "SchemaReader$Schema")] [.ref ob, .ref a0, .ref a1, .ref a2] [(ob, .inr (7, [.null, .null, .null]))] sz) (va_Qv (fun _ => True) (pcB (dC, dI) srCl [(cI, .int), (cB, .byte), (cJ, .long), (cZ, .boolean), (cQ, .object "SchemaReader$Schema")] (fun u : Unit => [(ob, .inr (7, [.ref a0, .ref a1, .ref a2]))]) (va_A [(ob, .inr (7, [.null, .null, .null]))] sz)) (va_A [(ob, .inr (7, [.null, .null, .null]))] sz)) 0 0 (va_A [(ob, .inr (7, [.null, .null, .null]))] sz) := by
  refine Met.ofW (cc := cX5_init) (maxL := 4) (ret := none) (by decide) rfl ?_
  intro p e s m args below meth c s₁ B hml hv
  obtain ⟨rfl, hsz, hP, hK, hD0, hz0⟩ := hv
  have hx := B.exec
  have hb := B.bytes
  have hr := B.returns
  have hts := atoms_spec (ws := wsX5_init) B.pre
  have hown : s.vm.findClass RX5 = some m.cls := findClass_of_methodNamed B.named
  have hnm : meth.name = "<init>" := (name_of_methodNamed B.named B.method).1
  subst hsz
  have hD := hD0.self (sz := s.heap.size)
  generalize hAe : va_A [(ob, .inr (7, [.null, .null, .null]))] s.heap.size = A at hD hz0 ⊢
  have hA : ∀ q : Nat, s.heap.size ≤ q → A q := fun q h => by rw [← hAe]; exact Or.inr h
  have hS : va_S A s.heap s.heap [] := va_S.rf
  generalize hQ0 : MQ below (va_Qv (fun _ => True) (pcB (dC, dI) srCl [(cI, .int), (cB, .byte), (cJ, .long), (cZ, .boolean), (cQ, .object "SchemaReader$Schema")] (fun u : Unit => [(ob, .inr (7, [.ref a0, .ref a1, .ref a2]))]) A) A) [.ref ob, .ref a0, .ref a1, .ref a2].toArray s 0 0 A = Q0
  have hl := lv_entry [.ref ob, .ref a0, .ref a1, .ref a2] (n := 4) (Nat.le_of_ble_eq_true rfl)
  rw [lg_entry_eq]
  generalize (lg_sl [.ref ob, .ref a0, .ref a1, .ref a2] ++ List.replicate (4 - (lg_sl [.ref ob, .ref a0, .ref a1, .ref a2]).length) Slot.unset).toArray = ls at hl ⊢
  have hl : lv_has ls 4 [(0, .ref ob), (1, .ref a0), (2, .ref a1), (3, .ref a2)] := hl
  refine lv_aload_n hx hb dX5_init_0 rfl (lv_at hl 0 rfl) ?_
  refine W.objInit hx hb hown (hts _ (List.mem_cons_of_mem _ (oi5_5 _ (List.mem_of_getElem? (i := 0) rfl)))) (hts _ (List.mem_cons_of_mem _ (oi5_5 _ (List.mem_of_getElem? (i := 1) rfl)))) (hts _ (List.mem_cons_of_mem _ (oi5_5 _ (List.mem_of_getElem? (i := 2) rfl)))) rfl (by rw [hml]; exact hl.1) rfl dX5_init_1 (Nat.le_of_ble_eq_true rfl) (Nat.le_of_ble_eq_true rfl) ?_
  refine lv_aload_n hx hb dX5_init_4 rfl (lv_at hl 0 rfl) ?_
  refine lv_aload_n hx hb dX5_init_5 rfl (lv_at hl 1 rfl) ?_
  refine va_putF (D := (dC, dI)) (ci := 7) (v := .ref a0) (ty := .object "SchemaReader$Schema") (C := RX5) (T := TX5) (N := 3) hx hb hts (inX5 _) tyX5 tyX5_ok nmX5 hown hK hP hD hS 0 rfl rfl 0 (by decide) (hts _ (List.mem_cons_of_mem _ wf5_11)) (fun _ h9 => h9) rfl hnm rfl (by decide +kernel) rfl rfl (Nat.le_of_ble_eq_true rfl) dX5_init_6 (fun H locs hP hD hS => ?_)
  have hP : va_P (dC, dI) srCl [(ob, .inr (7, [.ref a0, .null, .null]))] H := hP
  have hD : va_D A [(ob, .inr (7, [.ref a0, .null, .null]))] := hD
  refine lv_aload_n hx hb dX5_init_9 rfl (lv_at hl 0 rfl) ?_
  refine lv_aload_n hx hb dX5_init_10 rfl (lv_at hl 2 rfl) ?_
  refine va_putF (D := (dC, dI)) (ci := 7) (v := .ref a1) (ty := .object "SchemaReader$Schema") (C := RX5) (T := TX5) (N := 3) hx hb hts (inX5 _) tyX5 tyX5_ok nmX5 hown hK hP hD hS 0 rfl rfl 1 (by decide) (hts _ (List.mem_cons_of_mem _ wf5_17)) (fun _ h9 => h9) rfl hnm rfl (by decide +kernel) rfl rfl (Nat.le_of_ble_eq_true rfl) dX5_init_11 (fun H locs hP hD hS => ?_)
  have hP : va_P (dC, dI) srCl [(ob, .inr (7, [.ref a0, .ref a1, .null]))] H := hP
  have hD : va_D A [(ob, .inr (7, [.ref a0, .ref a1, .null]))] := hD
  refine lv_aload_n hx hb dX5_init_14 rfl (lv_at hl 0 rfl) ?_
  refine lv_aload_n hx hb dX5_init_15 rfl (lv_at hl 3 rfl) ?_
  refine va_putF (D := (dC, dI)) (ci := 7) (v := .ref a2) (ty := .object "SchemaReader$Couples") (C := RX5) (T := TX5) (N := 3) hx hb hts (inX5 _) tyX5 tyX5_ok nmX5 hown hK hP hD hS 0 rfl rfl 2 (by decide) (hts _ (List.mem_cons_of_mem _ wf5_20)) (fun _ h9 => h9) rfl hnm rfl (by decide +kernel) rfl rfl (Nat.le_of_ble_eq_true rfl) dX5_init_16 (fun H locs hP hD hS => ?_)
  have hP : va_P (dC, dI) srCl [(ob, .inr (7, [.ref a0, .ref a1, .ref a2]))] H := hP
  have hD : va_D A [(ob, .inr (7, [.ref a0, .ref a1, .ref a2]))] := hD
  refine W.widen (k := 0) (n := 0) (Nat.le_of_ble_eq_true rfl) (Nat.le_of_ble_eq_true rfl) ?_
  subst hQ0
  exact W.vret hx hb hr (fun t ht hW => ⟨⟨(), rfl, trivial, by rw [ht]; exact hP, va_K.moved hW.alike hK, hD⟩, hS.F ht⟩) hS.2.2 dX5_init_19
