set_option maxHeartbeats 4000000 in
set_option maxRecDepth 100000 in
theorem kX9_look (l : Launch) (htr : l.stackTraces = false) (dC : Nat → ClassId) (dI : Nat → Nat → Nat) (adK adV : Nat → Nat) (cI cB cJ cZ cQ : ClassId) (ob0 tq_bytes tq_kinds tq_firsts tq_numbers tq_sizes tq_inner tq_nexts tq_letters tq_sorts tq_names tq_wide tq_kids tq_many tq_fallback tq_kidShape tq_kidName tq_kidDefault tq_kidNext tq_finished tq_plain tq_told : Nat) (t_length : Int32) (t_at : Int32) (t_deep : Int32) (t_fault : Int32) (t_place : Int32) (t_end : Int32) (t_nodes : Int32) (t_lettered : Int32) (t_shapes : Int32) (t_looked : Int32) (t_kidCount : Int32) (t_done : Int32) (t_root : Int32) (t_plainSize : Int32) (t_bytes : Nat → Int32) (res : Int32) (hm : m_X9_look t_bytes t_length t_at = some res) : Met l yX9_look wsX9_look (rmX9_look 0 0) (pcR (sr_Z adK adV) (dC, dI) srCl [(cI, .int), (cB, .byte), (cJ, .long), (cZ, .boolean), (cQ, .object "SchemaReader$Schema")] [.ref ob0] [(ob0, .inr (0, [.ref tq_bytes, .int t_length, .int t_at, .int t_deep, .int t_fault, .int t_place, .int t_end, .int t_nodes, .ref tq_kinds, .ref tq_firsts, .ref tq_numbers, .ref tq_sizes, .ref tq_inner, .ref tq_nexts, .ref tq_letters, .int t_lettered, .int t_shapes, .int t_looked, .ref tq_sorts, .ref tq_names, .ref tq_wide, .ref tq_kids, .ref tq_many, .ref tq_fallback, .int t_kidCount, .ref tq_kidShape, .ref tq_kidName, .ref tq_kidDefault, .ref tq_kidNext, .int t_done, .ref tq_finished, .int t_root, .ref tq_plain, .int t_plainSize, .ref tq_told])), (tq_bytes, .inl (cB, 4096, .inl t_bytes))]) (k2_QcV (.int res)) 0 0 (fun _ => False) := by
  refine Met.ofW (cc := cX9_look) (maxL := 1) (ret := (some .int)) (by decide) rfl ?_
  intro p e s m args below meth c s₁ B hml hv
  obtain ⟨rfl, hP, hK, hz0⟩ := hv
  have hx := B.exec
  have hb := B.bytes
  have hr := B.returns
  have hts := atoms_spec (ws := wsX9_look) B.pre
  have hown : s.vm.findClass RX9 = some m.cls := findClass_of_methodNamed B.named
  have hlocks := B.notSynchronized
  have hS : va_S (fun _ => False) s.heap s.heap [] := va_S.rf
  generalize hQ0 : MQ below (k2_QcV (.int res)) [.ref ob0].toArray s 0 0 (fun _ => False) = Q0
  have hl := lv_entry [.ref ob0] (n := 1) (Nat.le_of_ble_eq_true rfl)
  rw [lg_entry_eq]
  generalize (lg_sl [.ref ob0] ++ List.replicate (1 - (lg_sl [.ref ob0]).length) Slot.unset).toArray = ls at hl ⊢
  have hl : lv_has ls 1 [(0, .ref ob0)] := hl
  unfold m_X9_look at hm
  refine lv_aload_n hx hb dX9_look_0 rfl (lv_at hl 0 rfl) ?_
  refine va_get (D := (dC, dI)) (ci := 0) (v := .int t_at) (C := RX9) (T := TX9) (N := 35) hx hb hts (inX9 _) hown hK hP 0 rfl rfl 2 (by decide) (hts _ (List.mem_cons_of_mem _ wf9_95)) (fun _ h9 => h9) rfl dX9_look_1 ?_
  refine lv_aload_n hx hb dX9_look_4 rfl (lv_at hl 0 rfl) ?_
  refine va_get (D := (dC, dI)) (ci := 0) (v := .int t_length) (C := RX9) (T := TX9) (N := 35) hx hb hts (inX9 _) hown hK hP 0 rfl rfl 1 (by decide) (hts _ (List.mem_cons_of_mem _ wf9_98)) (fun _ h9 => h9) rfl dX9_look_5 ?_
  refine lv_icmp_ge (tgt := 23) hx hb dX9_look_8 (by decide) (fun c1 => ?_) (fun c1 => ?_)
  · have hm := mr_if c1 hm
    refine lv_iconst (v := -1) hx hb dX9_look_23 (by decide) ?_
    obtain rfl := Option.some.inj hm
    subst hQ0
    exact W.iret (v := (-1)) hx hb hr (fun t ht hW => ⟨rfl, ht⟩) (fun q h => by cases h) dX9_look_24
  · have hm := mr_un c1 hm
    refine lv_aload_n hx hb dX9_look_11 rfl (lv_at hl 0 rfl) ?_
    refine va_get (D := (dC, dI)) (ci := 0) (v := .ref tq_bytes) (C := RX9) (T := TX9) (N := 35) hx hb hts (inX9 _) hown hK hP 0 rfl rfl 0 (by decide) (hts _ (List.mem_cons_of_mem _ wf9_9)) (fun _ h9 => h9) rfl dX9_look_12 ?_
    refine lv_aload_n hx hb dX9_look_15 rfl (lv_at hl 0 rfl) ?_
    refine va_get (D := (dC, dI)) (ci := 0) (v := .int t_at) (C := RX9) (T := TX9) (N := 35) hx hb hts (inX9 _) hown hK hP 0 rfl rfl 2 (by decide) (hts _ (List.mem_cons_of_mem _ wf9_95)) (fun _ h9 => h9) rfl dX9_look_16 ?_
    obtain ⟨h2, hm⟩ := mr_bd hm
    refine va_bald hx hb hK hP 1 1 rfl rfl h2 dX9_look_19 ?_
    refine lv_goto (tgt := 24) hx hb dX9_look_20 (by decide) ?_
    obtain rfl := Option.some.inj hm
    subst hQ0
    exact W.iret (v := (t_bytes (t_at : Int32).toNatClampNeg)) hx hb hr (fun t ht hW => ⟨rfl, ht⟩) (fun q h => by cases h) dX9_look_24
set_option maxHeartbeats 4000000 in
set_option maxRecDepth 100000 in
theorem kX9_blanks (l : Launch) (htr : l.stackTraces = false) (dC : Nat → ClassId) (dI : Nat → Nat → Nat) (adK adV : Nat → Nat) (cI cB cJ cZ cQ : ClassId) (ob0 tq_bytes tq_kinds tq_firsts tq_numbers tq_sizes tq_inner tq_nexts tq_letters tq_sorts tq_names tq_wide tq_kids tq_many tq_fallback tq_kidShape tq_kidName tq_kidDefault tq_kidNext tq_finished tq_plain tq_told : Nat) (t_length : Int32) (t_at : Int32) (t_deep : Int32) (t_fault : Int32) (t_place : Int32) (t_end : Int32) (t_nodes : Int32) (t_lettered : Int32) (t_shapes : Int32) (t_looked : Int32) (t_kidCount : Int32) (t_done : Int32) (t_root : Int32) (t_plainSize : Int32) (t_bytes : Nat → Int32) (sz : Nat) (res : Int32) (hm : m_X9_blanks t_bytes t_length t_at = some res) : Met l yX9_blanks wsX9_blanks (rmX9_blanks 0 0) (pcW (sr_Z adK adV) (dC, dI) srCl [(cI, .int), (cB, .byte), (cJ, .long), (cZ, .boolean), (cQ, .object "SchemaReader$Schema")] [.ref ob0] [(ob0, .inr (0, [.ref tq_bytes, .int t_length, .int t_at, .int t_deep, .int t_fault, .int t_place, .int t_end, .int t_nodes, .ref tq_kinds, .ref tq_firsts, .ref tq_numbers, .ref tq_sizes, .ref tq_inner, .ref tq_nexts, .ref tq_letters, .int t_lettered, .int t_shapes, .int t_looked, .ref tq_sorts, .ref tq_names, .ref tq_wide, .ref tq_kids, .ref tq_many, .ref tq_fallback, .int t_kidCount, .ref tq_kidShape, .ref tq_kidName, .ref tq_kidDefault, .ref tq_kidNext, .int t_done, .ref tq_finished, .int t_root, .ref tq_plain, .int t_plainSize, .ref tq_told])), (tq_bytes, .inl (cB, 4096, .inl t_bytes))] sz) (va_Qv (fun u' => u' = res) (pcB (dC, dI) srCl [(cI, .int), (cB, .byte), (cJ, .long), (cZ, .boolean), (cQ, .object "SchemaReader$Schema")] (fun u : Int32 => [(ob0, .inr (0, [.ref tq_bytes, .int t_length, .int u, .int t_deep, .int t_fault, .int t_place, .int t_end, .int t_nodes, .ref tq_kinds, .ref tq_firsts, .ref tq_numbers, .ref tq_sizes, .ref tq_inner, .ref tq_nexts, .ref tq_letters, .int t_lettered, .int t_shapes, .int t_looked, .ref tq_sorts, .ref tq_names, .ref tq_wide, .ref tq_kids, .ref tq_many, .ref tq_fallback, .int t_kidCount, .ref tq_kidShape, .ref tq_kidName, .ref tq_kidDefault, .ref tq_kidNext, .int t_done, .ref tq_finished, .int t_root, .ref tq_plain, .int t_plainSize, .ref tq_told])), (tq_bytes, .inl (cB, 4096, .inl t_bytes))]) (va_A [(ob0, .inr (0, [.ref tq_bytes, .int t_length, .int t_at, .int t_deep, .int t_fault, .int t_place, .int t_end, .int t_nodes, .ref tq_kinds, .ref tq_firsts, .ref tq_numbers, .ref tq_sizes, .ref tq_inner, .ref tq_nexts, .ref tq_letters, .int t_lettered, .int t_shapes, .int t_looked, .ref tq_sorts, .ref tq_names, .ref tq_wide, .ref tq_kids, .ref tq_many, .ref tq_fallback, .int t_kidCount, .ref tq_kidShape, .ref tq_kidName, .ref tq_kidDefault, .ref tq_kidNext, .int t_done, .ref tq_finished, .int t_root, .ref tq_plain, .int t_plainSize, .ref tq_told])), (tq_bytes, .inl (cB, 4096, .inl t_bytes))] sz)) (va_A [(ob0, .inr (0, [.ref tq_bytes, .int t_length, .int t_at, .int t_deep, .int t_fault, .int t_place, .int t_end, .int t_nodes, .ref tq_kinds, .ref tq_firsts, .ref tq_numbers, .ref tq_sizes, .ref tq_inner, .ref tq_nexts, .ref tq_letters, .int t_lettered, .int t_shapes, .int t_looked, .ref tq_sorts, .ref tq_names, .ref tq_wide, .ref tq_kids, .ref tq_many, .ref tq_fallback, .int t_kidCount, .ref tq_kidShape, .ref tq_kidName, .ref tq_kidDefault, .ref tq_kidNext, .int t_done, .ref tq_finished, .int t_root, .ref tq_plain, .int t_plainSize, .ref tq_told])), (tq_bytes, .inl (cB, 4096, .inl t_bytes))] sz)) 0 0 (va_A [(ob0, .inr (0, [.ref tq_bytes, .int t_length, .int t_at, .int t_deep, .int t_fault, .int t_place, .int t_end, .int t_nodes, .ref tq_kinds, .ref tq_firsts, .ref tq_numbers, .ref tq_sizes, .ref tq_inner, .ref tq_nexts, .ref tq_letters, .int t_lettered, .int t_shapes, .int t_looked, .ref tq_sorts, .ref tq_names, .ref tq_wide, .ref tq_kids, .ref tq_many, .ref tq_fallback, .int t_kidCount, .ref tq_kidShape, .ref tq_kidName, .ref tq_kidDefault, .ref tq_kidNext, .int t_done, .ref tq_finished, .int t_root, .ref tq_plain, .int t_plainSize, .ref tq_told])), (tq_bytes, .inl (cB, 4096, .inl t_bytes))] sz) := by
  refine Met.ofW (cc := cX9_blanks) (maxL := 1) (ret := none) (by decide) rfl ?_
  intro p e s m args below meth c s₁ B hml hv
  obtain ⟨rfl, hsz, hP, hK, hD0, hz0⟩ := hv
  have hx := B.exec
  have hb := B.bytes
  have hr := B.returns
  have hts := atoms_spec (ws := wsX9_blanks) B.pre
  have hown : s.vm.findClass RX9 = some m.cls := findClass_of_methodNamed B.named
  have hlocks := B.notSynchronized
  subst hsz
  have hD := hD0.self (sz := s.heap.size)
  generalize hAe : va_A [(ob0, .inr (0, [.ref tq_bytes, .int t_length, .int t_at, .int t_deep, .int t_fault, .int t_place, .int t_end, .int t_nodes, .ref tq_kinds, .ref tq_firsts, .ref tq_numbers, .ref tq_sizes, .ref tq_inner, .ref tq_nexts, .ref tq_letters, .int t_lettered, .int t_shapes, .int t_looked, .ref tq_sorts, .ref tq_names, .ref tq_wide, .ref tq_kids, .ref tq_many, .ref tq_fallback, .int t_kidCount, .ref tq_kidShape, .ref tq_kidName, .ref tq_kidDefault, .ref tq_kidNext, .int t_done, .ref tq_finished, .int t_root, .ref tq_plain, .int t_plainSize, .ref tq_told])), (tq_bytes, .inl (cB, 4096, .inl t_bytes))] s.heap.size = A at hD hz0 ⊢
  have hA : ∀ q : Nat, s.heap.size ≤ q → A q := fun q h => by rw [← hAe]; exact Or.inr h
  have hS : va_S A s.heap s.heap [] := va_S.rf
  generalize hQ0 : MQ below (va_Qv (fun u' => u' = res) (pcB (dC, dI) srCl [(cI, .int), (cB, .byte), (cJ, .long), (cZ, .boolean), (cQ, .object "SchemaReader$Schema")] (fun u : Int32 => [(ob0, .inr (0, [.ref tq_bytes, .int t_length, .int u, .int t_deep, .int t_fault, .int t_place, .int t_end, .int t_nodes, .ref tq_kinds, .ref tq_firsts, .ref tq_numbers, .ref tq_sizes, .ref tq_inner, .ref tq_nexts, .ref tq_letters, .int t_lettered, .int t_shapes, .int t_looked, .ref tq_sorts, .ref tq_names, .ref tq_wide, .ref tq_kids, .ref tq_many, .ref tq_fallback, .int t_kidCount, .ref tq_kidShape, .ref tq_kidName, .ref tq_kidDefault, .ref tq_kidNext, .int t_done, .ref tq_finished, .int t_root, .ref tq_plain, .int t_plainSize, .ref tq_told])), (tq_bytes, .inl (cB, 4096, .inl t_bytes))]) A) A) [.ref ob0].toArray s 0 0 A = Q0
  have hl := lv_entry [.ref ob0] (n := 1) (Nat.le_of_ble_eq_true rfl)
  rw [lg_entry_eq]
  generalize (lg_sl [.ref ob0] ++ List.replicate (1 - (lg_sl [.ref ob0]).length) Slot.unset).toArray = ls at hl ⊢
  have hl : lv_has ls 1 [(0, .ref ob0)] := hl
  unfold m_X9_blanks at hm
  have j0 : ∀ (n0 : Nat) (t_at : Int32) (H : Heap) (locs : List Loc) (ls : Array Slot), va_P (dC, dI) srCl [(ob0, .inr (0, [.ref tq_bytes, .int t_length, .int t_at, .int t_deep, .int t_fault, .int t_place, .int t_end, .int t_nodes, .ref tq_kinds, .ref tq_firsts, .ref tq_numbers, .ref tq_sizes, .ref tq_inner, .ref tq_nexts, .ref tq_letters, .int t_lettered, .int t_shapes, .int t_looked, .ref tq_sorts, .ref tq_names, .ref tq_wide, .ref tq_kids, .ref tq_many, .ref tq_fallback, .int t_kidCount, .ref tq_kidShape, .ref tq_kidName, .ref tq_kidDefault, .ref tq_kidNext, .int t_done, .ref tq_finished, .int t_root, .ref tq_plain, .int t_plainSize, .ref tq_told])), (tq_bytes, .inl (cB, 4096, .inl t_bytes))] H → va_D A [(ob0, .inr (0, [.ref tq_bytes, .int t_length, .int t_at, .int t_deep, .int t_fault, .int t_place, .int t_end, .int t_nodes, .ref tq_kinds, .ref tq_firsts, .ref tq_numbers, .ref tq_sizes, .ref tq_inner, .ref tq_nexts, .ref tq_letters, .int t_lettered, .int t_shapes, .int t_looked, .ref tq_sorts, .ref tq_names, .ref tq_wide, .ref tq_kids, .ref tq_many, .ref tq_fallback, .int t_kidCount, .ref tq_kidShape, .ref tq_kidName, .ref tq_kidDefault, .ref tq_kidNext, .int t_done, .ref tq_finished, .int t_root, .ref tq_plain, .int t_plainSize, .ref tq_told])), (tq_bytes, .inl (cB, 4096, .inl t_bytes))] → va_S A s.heap H locs → lv_has ls 1 [(0, .ref ob0)] → m_X9_blanks_0 t_bytes t_length n0 t_at = some res → W p l e (headSpec wsX9_blanks (rmX9_blanks 0 0)).room s m [.ref ob0].toArray below meth c H locs 0 0 Q0 (F0 m 0 ls []) := by
    intro n0
    induction n0 with
    | zero => intro t_at H locs ls hP hD hS hl hm; exact nomatch (show (none : Option _) = some res from hm)
    | succ n0 ih0 =>
      intro t_at H locs ls hP hD hS hl hm
      rw [m_X9_blanks_0] at hm
      refine lv_aload_n hx hb dX9_blanks_0 rfl (lv_at hl 0 rfl) ?_
      obtain ⟨r1, hz1, hm⟩ := mr_bind hm
      refine mr_pV (As := []) (rest := []) (sr_okZ adK adV) ⟨hx, hb, hml, hown, hts⟩ (kX9_look l htr dC dI adK adV cI cB cJ cZ cQ ob0 tq_bytes tq_kinds tq_firsts tq_numbers tq_sizes tq_inner tq_nexts tq_letters tq_sorts tq_names tq_wide tq_kids tq_many tq_fallback tq_kidShape tq_kidName tq_kidDefault tq_kidNext tq_finished tq_plain tq_told t_length t_at t_deep t_fault t_place t_end t_nodes t_lettered t_shapes t_looked t_kidCount t_done t_root t_plainSize t_bytes r1 hz1) (cwV 0 hts (g9_101 _) rfl rfl rfl (by decide +kernel) ⟨(by show 0 + 1 ≤ 1; omega), (by show 8 + (1 + 11) + (0) ≤ 20; omega)⟩) hS hP hK hz0 [0, 1] rfl (va_recv hK hP (ci := 0) (q0 := 0) rfl rfl) rfl rfl hl.1 (Nat.le_of_ble_eq_true rfl) dX9_blanks_1 ⟨Nat.zero_le _, Nat.zero_le _⟩ ?_
      refine lv_bipush (v := 32) hx hb dX9_blanks_4 (by decide) ?_
      have j36 : ∀ (t_at : Int32) (H : Heap) (locs : List Loc) (ls : Array Slot), va_P (dC, dI) srCl [(ob0, .inr (0, [.ref tq_bytes, .int t_length, .int t_at, .int t_deep, .int t_fault, .int t_place, .int t_end, .int t_nodes, .ref tq_kinds, .ref tq_firsts, .ref tq_numbers, .ref tq_sizes, .ref tq_inner, .ref tq_nexts, .ref tq_letters, .int t_lettered, .int t_shapes, .int t_looked, .ref tq_sorts, .ref tq_names, .ref tq_wide, .ref tq_kids, .ref tq_many, .ref tq_fallback, .int t_kidCount, .ref tq_kidShape, .ref tq_kidName, .ref tq_kidDefault, .ref tq_kidNext, .int t_done, .ref tq_finished, .int t_root, .ref tq_plain, .int t_plainSize, .ref tq_told])), (tq_bytes, .inl (cB, 4096, .inl t_bytes))] H → va_D A [(ob0, .inr (0, [.ref tq_bytes, .int t_length, .int t_at, .int t_deep, .int t_fault, .int t_place, .int t_end, .int t_nodes, .ref tq_kinds, .ref tq_firsts, .ref tq_numbers, .ref tq_sizes, .ref tq_inner, .ref tq_nexts, .ref tq_letters, .int t_lettered, .int t_shapes, .int t_looked, .ref tq_sorts, .ref tq_names, .ref tq_wide, .ref tq_kids, .ref tq_many, .ref tq_fallback, .int t_kidCount, .ref tq_kidShape, .ref tq_kidName, .ref tq_kidDefault, .ref tq_kidNext, .int t_done, .ref tq_finished, .int t_root, .ref tq_plain, .int t_plainSize, .ref tq_told])), (tq_bytes, .inl (cB, 4096, .inl t_bytes))] → va_S A s.heap H locs → lv_has ls 1 [(0, .ref ob0)] → m_X9_blanks_36 t_bytes t_length (m_X9_blanks_0 t_bytes t_length n0) t_at = some res → W p l e (headSpec wsX9_blanks (rmX9_blanks 0 0)).room s m [.ref ob0].toArray below meth c H locs 0 0 Q0 (F0 m 36 ls []) := by
        intro t_at H locs ls hP hD hS hl hm
        unfold m_X9_blanks_36 at hm
        refine lv_aload_n hx hb dX9_blanks_36 rfl (lv_at hl 0 rfl) ?_
        refine lv_dup hx hb dX9_blanks_37 rfl ?_
        refine va_get (D := (dC, dI)) (ci := 0) (v := .int t_at) (C := RX9) (T := TX9) (N := 35) hx hb hts (inX9 _) hown hK hP 0 rfl rfl 2 (by decide) (hts _ (List.mem_cons_of_mem _ wf9_95)) (fun _ h9 => h9) rfl dX9_blanks_38 ?_
        refine lv_iconst (v := 1) hx hb dX9_blanks_41 (by decide) ?_
        refine lv_iadd hx hb dX9_blanks_42 ?_
        refine va_put (D := (dC, dI)) (ci := 0) (v := .int (t_at + 1)) (ty := .int) (C := RX9) (T := TX9) (N := 35) hx hb hts (inX9 _) tyX9 tyX9_ok nmX9 hown hK hP hD hS 0 rfl rfl 2 (by decide) (hts _ (List.mem_cons_of_mem _ wf9_95)) (fun _ h9 => h9) rfl (by decide +kernel) rfl rfl (Nat.le_of_ble_eq_true rfl) dX9_blanks_43 (fun H locs hP hD hS => ?_)
        have hP : va_P (dC, dI) srCl [(ob0, .inr (0, [.ref tq_bytes, .int t_length, .int (t_at + 1), .int t_deep, .int t_fault, .int t_place, .int t_end, .int t_nodes, .ref tq_kinds, .ref tq_firsts, .ref tq_numbers, .ref tq_sizes, .ref tq_inner, .ref tq_nexts, .ref tq_letters, .int t_lettered, .int t_shapes, .int t_looked, .ref tq_sorts, .ref tq_names, .ref tq_wide, .ref tq_kids, .ref tq_many, .ref tq_fallback, .int t_kidCount, .ref tq_kidShape, .ref tq_kidName, .ref tq_kidDefault, .ref tq_kidNext, .int t_done, .ref tq_finished, .int t_root, .ref tq_plain, .int t_plainSize, .ref tq_told])), (tq_bytes, .inl (cB, 4096, .inl t_bytes))] H := hP
        have hD : va_D A [(ob0, .inr (0, [.ref tq_bytes, .int t_length, .int (t_at + 1), .int t_deep, .int t_fault, .int t_place, .int t_end, .int t_nodes, .ref tq_kinds, .ref tq_firsts, .ref tq_numbers, .ref tq_sizes, .ref tq_inner, .ref tq_nexts, .ref tq_letters, .int t_lettered, .int t_shapes, .int t_looked, .ref tq_sorts, .ref tq_names, .ref tq_wide, .ref tq_kids, .ref tq_many, .ref tq_fallback, .int t_kidCount, .ref tq_kidShape, .ref tq_kidName, .ref tq_kidDefault, .ref tq_kidNext, .int t_done, .ref tq_finished, .int t_root, .ref tq_plain, .int t_plainSize, .ref tq_told])), (tq_bytes, .inl (cB, 4096, .inl t_bytes))] := hD
        refine lv_goto (tgt := 0) hx hb dX9_blanks_46 (by decide) ?_
        exact ih0 (t_at + 1) _ _ ls hP hD hS (lv_sub hl [0] rfl) hm
      refine lv_icmp_eq (tgt := 36) hx hb dX9_blanks_6 (by decide) (fun c2 => ?_) (fun c2 => ?_)
      · have hm := mr_if c2 hm
        exact j36 t_at _ _ ls hP hD hS (lv_sub hl [0] rfl) hm
      · have hm := mr_un c2 hm
        refine lv_aload_n hx hb dX9_blanks_9 rfl (lv_at hl 0 rfl) ?_
        obtain ⟨r3, hz3, hm⟩ := mr_bind hm
        refine mr_pV (As := []) (rest := []) (sr_okZ adK adV) ⟨hx, hb, hml, hown, hts⟩ (kX9_look l htr dC dI adK adV cI cB cJ cZ cQ ob0 tq_bytes tq_kinds tq_firsts tq_numbers tq_sizes tq_inner tq_nexts tq_letters tq_sorts tq_names tq_wide tq_kids tq_many tq_fallback tq_kidShape tq_kidName tq_kidDefault tq_kidNext tq_finished tq_plain tq_told t_length t_at t_deep t_fault t_place t_end t_nodes t_lettered t_shapes t_looked t_kidCount t_done t_root t_plainSize t_bytes r3 hz3) (cwV 0 hts (g9_101 _) rfl rfl rfl (by decide +kernel) ⟨(by show 0 + 1 ≤ 1; omega), (by show 8 + (1 + 11) + (0) ≤ 20; omega)⟩) hS hP hK hz0 [0, 1] rfl (va_recv hK hP (ci := 0) (q0 := 0) rfl rfl) rfl rfl hl.1 (Nat.le_of_ble_eq_true rfl) dX9_blanks_10 ⟨Nat.zero_le _, Nat.zero_le _⟩ ?_
        refine lv_bipush (v := 9) hx hb dX9_blanks_13 (by decide) ?_
        refine lv_icmp_eq (tgt := 36) hx hb dX9_blanks_15 (by decide) (fun c4 => ?_) (fun c4 => ?_)
        · have hm := mr_if c4 hm
          exact j36 t_at _ _ ls hP hD hS (lv_sub hl [0] rfl) hm
        · have hm := mr_un c4 hm
          refine lv_aload_n hx hb dX9_blanks_18 rfl (lv_at hl 0 rfl) ?_
          obtain ⟨r5, hz5, hm⟩ := mr_bind hm
          refine mr_pV (As := []) (rest := []) (sr_okZ adK adV) ⟨hx, hb, hml, hown, hts⟩ (kX9_look l htr dC dI adK adV cI cB cJ cZ cQ ob0 tq_bytes tq_kinds tq_firsts tq_numbers tq_sizes tq_inner tq_nexts tq_letters tq_sorts tq_names tq_wide tq_kids tq_many tq_fallback tq_kidShape tq_kidName tq_kidDefault tq_kidNext tq_finished tq_plain tq_told t_length t_at t_deep t_fault t_place t_end t_nodes t_lettered t_shapes t_looked t_kidCount t_done t_root t_plainSize t_bytes r5 hz5) (cwV 0 hts (g9_101 _) rfl rfl rfl (by decide +kernel) ⟨(by show 0 + 1 ≤ 1; omega), (by show 8 + (1 + 11) + (0) ≤ 20; omega)⟩) hS hP hK hz0 [0, 1] rfl (va_recv hK hP (ci := 0) (q0 := 0) rfl rfl) rfl rfl hl.1 (Nat.le_of_ble_eq_true rfl) dX9_blanks_19 ⟨Nat.zero_le _, Nat.zero_le _⟩ ?_
          refine lv_bipush (v := 10) hx hb dX9_blanks_22 (by decide) ?_
          refine lv_icmp_eq (tgt := 36) hx hb dX9_blanks_24 (by decide) (fun c6 => ?_) (fun c6 => ?_)
          · have hm := mr_if c6 hm
            exact j36 t_at _ _ ls hP hD hS (lv_sub hl [0] rfl) hm
          · have hm := mr_un c6 hm
            refine lv_aload_n hx hb dX9_blanks_27 rfl (lv_at hl 0 rfl) ?_
            obtain ⟨r7, hz7, hm⟩ := mr_bind hm
            refine mr_pV (As := []) (rest := []) (sr_okZ adK adV) ⟨hx, hb, hml, hown, hts⟩ (kX9_look l htr dC dI adK adV cI cB cJ cZ cQ ob0 tq_bytes tq_kinds tq_firsts tq_numbers tq_sizes tq_inner tq_nexts tq_letters tq_sorts tq_names tq_wide tq_kids tq_many tq_fallback tq_kidShape tq_kidName tq_kidDefault tq_kidNext tq_finished tq_plain tq_told t_length t_at t_deep t_fault t_place t_end t_nodes t_lettered t_shapes t_looked t_kidCount t_done t_root t_plainSize t_bytes r7 hz7) (cwV 0 hts (g9_101 _) rfl rfl rfl (by decide +kernel) ⟨(by show 0 + 1 ≤ 1; omega), (by show 8 + (1 + 11) + (0) ≤ 20; omega)⟩) hS hP hK hz0 [0, 1] rfl (va_recv hK hP (ci := 0) (q0 := 0) rfl rfl) rfl rfl hl.1 (Nat.le_of_ble_eq_true rfl) dX9_blanks_28 ⟨Nat.zero_le _, Nat.zero_le _⟩ ?_
            refine lv_bipush (v := 13) hx hb dX9_blanks_31 (by decide) ?_
            refine lv_icmp_ne (tgt := 49) hx hb dX9_blanks_33 (by decide) (fun c8 => ?_) (fun c8 => ?_)
            · have hm := mr_un c8 hm
              obtain rfl := Option.some.inj hm
              subst hQ0
              exact W.vret hx hb hr (fun t ht hW => ⟨⟨t_at, rfl, rfl, by rw [ht]; exact hP, va_K.moved hW.alike hK, hD⟩, hS.F ht⟩) hS.2.2 dX9_blanks_49
            · have hm := mr_if c8 hm
              exact j36 t_at _ _ ls hP hD hS (lv_sub hl [0] rfl) hm
  exact j0 sr_fuel t_at _ _ ls hP hD hS (lv_sub hl [0] rfl) hm
set_option maxHeartbeats 4000000 in
set_option maxRecDepth 100000 in
theorem kX9_node (l : Launch) (htr : l.stackTraces = false) (dC : Nat → ClassId) (dI : Nat → Nat → Nat) (adK adV : Nat → Nat) (cI cB cJ cZ cQ : ClassId) (ob0 tq_bytes tq_kinds tq_firsts tq_numbers tq_sizes tq_inner tq_nexts tq_letters tq_sorts tq_names tq_wide tq_kids tq_many tq_fallback tq_kidShape tq_kidName tq_kidDefault tq_kidNext tq_finished tq_plain tq_told : Nat) (t_length : Int32) (t_at : Int32) (t_deep : Int32) (t_fault : Int32) (t_place : Int32) (t_end : Int32) (t_nodes : Int32) (t_lettered : Int32) (t_shapes : Int32) (t_looked : Int32) (t_kidCount : Int32) (t_done : Int32) (t_root : Int32) (t_plainSize : Int32) (t_kinds : Nat → Int32) (t_firsts : Nat → Int32) (t_numbers : Nat → Int64) (t_sizes : Nat → Int32) (t_inner : Nat → Int32) (t_nexts : Nat → Int32) (sz : Nat) (a0 : Int32) (res : Int32 × Int32 × (Nat → Int32) × (Nat → Int32) × (Nat → Int64) × (Nat → Int32) × (Nat → Int32) × (Nat → Int32)) (hm : m_X9_node t_at t_nodes t_kinds t_firsts t_numbers t_sizes t_inner t_nexts a0 = some res) : Met l yX9_node wsX9_node (rmX9_node 0 0) (pcW (sr_Z adK adV) (dC, dI) srCl [(cI, .int), (cB, .byte), (cJ, .long), (cZ, .boolean), (cQ, .object "SchemaReader$Schema")] [.ref ob0, .int a0] [(ob0, .inr (0, [.ref tq_bytes, .int t_length, .int t_at, .int t_deep, .int t_fault, .int t_place, .int t_end, .int t_nodes, .ref tq_kinds, .ref tq_firsts, .ref tq_numbers, .ref tq_sizes, .ref tq_inner, .ref tq_nexts, .ref tq_letters, .int t_lettered, .int t_shapes, .int t_looked, .ref tq_sorts, .ref tq_names, .ref tq_wide, .ref tq_kids, .ref tq_many, .ref tq_fallback, .int t_kidCount, .ref tq_kidShape, .ref tq_kidName, .ref tq_kidDefault, .ref tq_kidNext, .int t_done, .ref tq_finished, .int t_root, .ref tq_plain, .int t_plainSize, .ref tq_told])), (tq_kinds, .inl (cI, 4200, .inl t_kinds)), (tq_firsts, .inl (cI, 4200, .inl t_firsts)), (tq_numbers, .inl (cJ, 4200, .inr (.inl t_numbers))), (tq_sizes, .inl (cI, 4200, .inl t_sizes)), (tq_inner, .inl (cI, 4200, .inl t_inner)), (tq_nexts, .inl (cI, 4200, .inl t_nexts))] sz) (va_Qi (fun r' u' => r' = res.1 ∧ u' = res.2) (pcB (dC, dI) srCl [(cI, .int), (cB, .byte), (cJ, .long), (cZ, .boolean), (cQ, .object "SchemaReader$Schema")] (fun u : Int32 × (Nat → Int32) × (Nat → Int32) × (Nat → Int64) × (Nat → Int32) × (Nat → Int32) × (Nat → Int32) => [(ob0, .inr (0, [.ref tq_bytes, .int t_length, .int t_at, .int t_deep, .int t_fault, .int t_place, .int t_end, .int u.1, .ref tq_kinds, .ref tq_firsts, .ref tq_numbers, .ref tq_sizes, .ref tq_inner, .ref tq_nexts, .ref tq_letters, .int t_lettered, .int t_shapes, .int t_looked, .ref tq_sorts, .ref tq_names, .ref tq_wide, .ref tq_kids, .ref tq_many, .ref tq_fallback, .int t_kidCount, .ref tq_kidShape, .ref tq_kidName, .ref tq_kidDefault, .ref tq_kidNext, .int t_done, .ref tq_finished, .int t_root, .ref tq_plain, .int t_plainSize, .ref tq_told])), (tq_kinds, .inl (cI, 4200, .inl u.2.1)), (tq_firsts, .inl (cI, 4200, .inl u.2.2.1)), (tq_numbers, .inl (cJ, 4200, .inr (.inl u.2.2.2.1))), (tq_sizes, .inl (cI, 4200, .inl u.2.2.2.2.1)), (tq_inner, .inl (cI, 4200, .inl u.2.2.2.2.2.1)), (tq_nexts, .inl (cI, 4200, .inl u.2.2.2.2.2.2))]) (va_A [(ob0, .inr (0, [.ref tq_bytes, .int t_length, .int t_at, .int t_deep, .int t_fault, .int t_place, .int t_end, .int t_nodes, .ref tq_kinds, .ref tq_firsts, .ref tq_numbers, .ref tq_sizes, .ref tq_inner, .ref tq_nexts, .ref tq_letters, .int t_lettered, .int t_shapes, .int t_looked, .ref tq_sorts, .ref tq_names, .ref tq_wide, .ref tq_kids, .ref tq_many, .ref tq_fallback, .int t_kidCount, .ref tq_kidShape, .ref tq_kidName, .ref tq_kidDefault, .ref tq_kidNext, .int t_done, .ref tq_finished, .int t_root, .ref tq_plain, .int t_plainSize, .ref tq_told])), (tq_kinds, .inl (cI, 4200, .inl t_kinds)), (tq_firsts, .inl (cI, 4200, .inl t_firsts)), (tq_numbers, .inl (cJ, 4200, .inr (.inl t_numbers))), (tq_sizes, .inl (cI, 4200, .inl t_sizes)), (tq_inner, .inl (cI, 4200, .inl t_inner)), (tq_nexts, .inl (cI, 4200, .inl t_nexts))] sz)) (va_A [(ob0, .inr (0, [.ref tq_bytes, .int t_length, .int t_at, .int t_deep, .int t_fault, .int t_place, .int t_end, .int t_nodes, .ref tq_kinds, .ref tq_firsts, .ref tq_numbers, .ref tq_sizes, .ref tq_inner, .ref tq_nexts, .ref tq_letters, .int t_lettered, .int t_shapes, .int t_looked, .ref tq_sorts, .ref tq_names, .ref tq_wide, .ref tq_kids, .ref tq_many, .ref tq_fallback, .int t_kidCount, .ref tq_kidShape, .ref tq_kidName, .ref tq_kidDefault, .ref tq_kidNext, .int t_done, .ref tq_finished, .int t_root, .ref tq_plain, .int t_plainSize, .ref tq_told])), (tq_kinds, .inl (cI, 4200, .inl t_kinds)), (tq_firsts, .inl (cI, 4200, .inl t_firsts)), (tq_numbers, .inl (cJ, 4200, .inr (.inl t_numbers))), (tq_sizes, .inl (cI, 4200, .inl t_sizes)), (tq_inner, .inl (cI, 4200, .inl t_inner)), (tq_nexts, .inl (cI, 4200, .inl t_nexts))] sz)) 0 0 (va_A [(ob0, .inr (0, [.ref tq_bytes, .int t_length, .int t_at, .int t_deep, .int t_fault, .int t_place, .int t_end, .int t_nodes, .ref tq_kinds, .ref tq_firsts, .ref tq_numbers, .ref tq_sizes, .ref tq_inner, .ref tq_nexts, .ref tq_letters, .int t_lettered, .int t_shapes, .int t_looked, .ref tq_sorts, .ref tq_names, .ref tq_wide, .ref tq_kids, .ref tq_many, .ref tq_fallback, .int t_kidCount, .ref tq_kidShape, .ref tq_kidName, .ref tq_kidDefault, .ref tq_kidNext, .int t_done, .ref tq_finished, .int t_root, .ref tq_plain, .int t_plainSize, .ref tq_told])), (tq_kinds, .inl (cI, 4200, .inl t_kinds)), (tq_firsts, .inl (cI, 4200, .inl t_firsts)), (tq_numbers, .inl (cJ, 4200, .inr (.inl t_numbers))), (tq_sizes, .inl (cI, 4200, .inl t_sizes)), (tq_inner, .inl (cI, 4200, .inl t_inner)), (tq_nexts, .inl (cI, 4200, .inl t_nexts))] sz) := by
  refine Met.ofW (cc := cX9_node) (maxL := 2) (ret := (some .int)) (by decide) rfl ?_
  intro p e s m args below meth c s₁ B hml hv
  obtain ⟨rfl, hsz, hP, hK, hD0, hz0⟩ := hv
  have hx := B.exec
  have hb := B.bytes
  have hr := B.returns
  have hts := atoms_spec (ws := wsX9_node) B.pre
  have hown : s.vm.findClass RX9 = some m.cls := findClass_of_methodNamed B.named
  have hlocks := B.notSynchronized
  subst hsz
  have hD := hD0.self (sz := s.heap.size)
  generalize hAe : va_A [(ob0, .inr (0, [.ref tq_bytes, .int t_length, .int t_at, .int t_deep, .int t_fault, .int t_place, .int t_end, .int t_nodes, .ref tq_kinds, .ref tq_firsts, .ref tq_numbers, .ref tq_sizes, .ref tq_inner, .ref tq_nexts, .ref tq_letters, .int t_lettered, .int t_shapes, .int t_looked, .ref tq_sorts, .ref tq_names, .ref tq_wide, .ref tq_kids, .ref tq_many, .ref tq_fallback, .int t_kidCount, .ref tq_kidShape, .ref tq_kidName, .ref tq_kidDefault, .ref tq_kidNext, .int t_done, .ref tq_finished, .int t_root, .ref tq_plain, .int t_plainSize, .ref tq_told])), (tq_kinds, .inl (cI, 4200, .inl t_kinds)), (tq_firsts, .inl (cI, 4200, .inl t_firsts)), (tq_numbers, .inl (cJ, 4200, .inr (.inl t_numbers))), (tq_sizes, .inl (cI, 4200, .inl t_sizes)), (tq_inner, .inl (cI, 4200, .inl t_inner)), (tq_nexts, .inl (cI, 4200, .inl t_nexts))] s.heap.size = A at hD hz0 ⊢
  have hA : ∀ q : Nat, s.heap.size ≤ q → A q := fun q h => by rw [← hAe]; exact Or.inr h
  have hS : va_S A s.heap s.heap [] := va_S.rf
  generalize hQ0 : MQ below (va_Qi (fun r' u' => r' = res.1 ∧ u' = res.2) (pcB (dC, dI) srCl [(cI, .int), (cB, .byte), (cJ, .long), (cZ, .boolean), (cQ, .object "SchemaReader$Schema")] (fun u : Int32 × (Nat → Int32) × (Nat → Int32) × (Nat → Int64) × (Nat → Int32) × (Nat → Int32) × (Nat → Int32) => [(ob0, .inr (0, [.ref tq_bytes, .int t_length, .int t_at, .int t_deep, .int t_fault, .int t_place, .int t_end, .int u.1, .ref tq_kinds, .ref tq_firsts, .ref tq_numbers, .ref tq_sizes, .ref tq_inner, .ref tq_nexts, .ref tq_letters, .int t_lettered, .int t_shapes, .int t_looked, .ref tq_sorts, .ref tq_names, .ref tq_wide, .ref tq_kids, .ref tq_many, .ref tq_fallback, .int t_kidCount, .ref tq_kidShape, .ref tq_kidName, .ref tq_kidDefault, .ref tq_kidNext, .int t_done, .ref tq_finished, .int t_root, .ref tq_plain, .int t_plainSize, .ref tq_told])), (tq_kinds, .inl (cI, 4200, .inl u.2.1)), (tq_firsts, .inl (cI, 4200, .inl u.2.2.1)), (tq_numbers, .inl (cJ, 4200, .inr (.inl u.2.2.2.1))), (tq_sizes, .inl (cI, 4200, .inl u.2.2.2.2.1)), (tq_inner, .inl (cI, 4200, .inl u.2.2.2.2.2.1)), (tq_nexts, .inl (cI, 4200, .inl u.2.2.2.2.2.2))]) A) A) [.ref ob0, .int a0].toArray s 0 0 A = Q0
  have hl := lv_entry [.ref ob0, .int a0] (n := 2) (Nat.le_of_ble_eq_true rfl)
  rw [lg_entry_eq]
  generalize (lg_sl [.ref ob0, .int a0] ++ List.replicate (2 - (lg_sl [.ref ob0, .int a0]).length) Slot.unset).toArray = ls at hl ⊢
  have hl : lv_has ls 2 [(0, .ref ob0), (1, .int a0)] := hl
  unfold m_X9_node at hm
  refine lv_aload_n hx hb dX9_node_0 rfl (lv_at hl 0 rfl) ?_
  refine va_get (D := (dC, dI)) (ci := 0) (v := .ref tq_kinds) (C := RX9) (T := TX9) (N := 35) hx hb hts (inX9 _) hown hK hP 0 rfl rfl 8 (by decide) (hts _ (List.mem_cons_of_mem _ wf9_15)) (fun _ h9 => h9) rfl dX9_node_1 ?_
  refine lv_aload_n hx hb dX9_node_4 rfl (lv_at hl 0 rfl) ?_
  refine va_get (D := (dC, dI)) (ci := 0) (v := .int t_nodes) (C := RX9) (T := TX9) (N := 35) hx hb hts (inX9 _) hown hK hP 0 rfl rfl 7 (by decide) (hts _ (List.mem_cons_of_mem _ wf9_109)) (fun _ h9 => h9) rfl dX9_node_5 ?_
  refine lv_iload_n hx hb dX9_node_8 rfl (lv_at hl 1 rfl) ?_
  obtain ⟨h1, hm⟩ := mr_bd hm
  refine va_iast hx hb hK hP hD hS 1 0 rfl rfl h1 dX9_node_9 (fun H locs hP hD hS => ?_)
  have hP : va_P (dC, dI) srCl [(ob0, .inr (0, [.ref tq_bytes, .int t_length, .int t_at, .int t_deep, .int t_fault, .int t_place, .int t_end, .int t_nodes, .ref tq_kinds, .ref tq_firsts, .ref tq_numbers, .ref tq_sizes, .ref tq_inner, .ref tq_nexts, .ref tq_letters, .int t_lettered, .int t_shapes, .int t_looked, .ref tq_sorts, .ref tq_names, .ref tq_wide, .ref tq_kids, .ref tq_many, .ref tq_fallback, .int t_kidCount, .ref tq_kidShape, .ref tq_kidName, .ref tq_kidDefault, .ref tq_kidNext, .int t_done, .ref tq_finished, .int t_root, .ref tq_plain, .int t_plainSize, .ref tq_told])), (tq_kinds, .inl (cI, 4200, .inl (upd t_kinds (t_nodes : Int32).toNatClampNeg a0))), (tq_firsts, .inl (cI, 4200, .inl t_firsts)), (tq_numbers, .inl (cJ, 4200, .inr (.inl t_numbers))), (tq_sizes, .inl (cI, 4200, .inl t_sizes)), (tq_inner, .inl (cI, 4200, .inl t_inner)), (tq_nexts, .inl (cI, 4200, .inl t_nexts))] H := hP
  have hD : va_D A [(ob0, .inr (0, [.ref tq_bytes, .int t_length, .int t_at, .int t_deep, .int t_fault, .int t_place, .int t_end, .int t_nodes, .ref tq_kinds, .ref tq_firsts, .ref tq_numbers, .ref tq_sizes, .ref tq_inner, .ref tq_nexts, .ref tq_letters, .int t_lettered, .int t_shapes, .int t_looked, .ref tq_sorts, .ref tq_names, .ref tq_wide, .ref tq_kids, .ref tq_many, .ref tq_fallback, .int t_kidCount, .ref tq_kidShape, .ref tq_kidName, .ref tq_kidDefault, .ref tq_kidNext, .int t_done, .ref tq_finished, .int t_root, .ref tq_plain, .int t_plainSize, .ref tq_told])), (tq_kinds, .inl (cI, 4200, .inl (upd t_kinds (t_nodes : Int32).toNatClampNeg a0))), (tq_firsts, .inl (cI, 4200, .inl t_firsts)), (tq_numbers, .inl (cJ, 4200, .inr (.inl t_numbers))), (tq_sizes, .inl (cI, 4200, .inl t_sizes)), (tq_inner, .inl (cI, 4200, .inl t_inner)), (tq_nexts, .inl (cI, 4200, .inl t_nexts))] := hD
  refine lv_aload_n hx hb dX9_node_10 rfl (lv_at hl 0 rfl) ?_
  refine va_get (D := (dC, dI)) (ci := 0) (v := .ref tq_firsts) (C := RX9) (T := TX9) (N := 35) hx hb hts (inX9 _) hown hK hP 0 rfl rfl 9 (by decide) (hts _ (List.mem_cons_of_mem _ wf9_19)) (fun _ h9 => h9) rfl dX9_node_11 ?_
  refine lv_aload_n hx hb dX9_node_14 rfl (lv_at hl 0 rfl) ?_
  refine va_get (D := (dC, dI)) (ci := 0) (v := .int t_nodes) (C := RX9) (T := TX9) (N := 35) hx hb hts (inX9 _) hown hK hP 0 rfl rfl 7 (by decide) (hts _ (List.mem_cons_of_mem _ wf9_109)) (fun _ h9 => h9) rfl dX9_node_15 ?_
  refine lv_aload_n hx hb dX9_node_18 rfl (lv_at hl 0 rfl) ?_
  refine va_get (D := (dC, dI)) (ci := 0) (v := .int t_at) (C := RX9) (T := TX9) (N := 35) hx hb hts (inX9 _) hown hK hP 0 rfl rfl 2 (by decide) (hts _ (List.mem_cons_of_mem _ wf9_95)) (fun _ h9 => h9) rfl dX9_node_19 ?_
  obtain ⟨h2, hm⟩ := mr_bd hm
  refine va_iast hx hb hK hP hD hS 2 0 rfl rfl h2 dX9_node_22 (fun H locs hP hD hS => ?_)
  have hP : va_P (dC, dI) srCl [(ob0, .inr (0, [.ref tq_bytes, .int t_length, .int t_at, .int t_deep, .int t_fault, .int t_place, .int t_end, .int t_nodes, .ref tq_kinds, .ref tq_firsts, .ref tq_numbers, .ref tq_sizes, .ref tq_inner, .ref tq_nexts, .ref tq_letters, .int t_lettered, .int t_shapes, .int t_looked, .ref tq_sorts, .ref tq_names, .ref tq_wide, .ref tq_kids, .ref tq_many, .ref tq_fallback, .int t_kidCount, .ref tq_kidShape, .ref tq_kidName, .ref tq_kidDefault, .ref tq_kidNext, .int t_done, .ref tq_finished, .int t_root, .ref tq_plain, .int t_plainSize, .ref tq_told])), (tq_kinds, .inl (cI, 4200, .inl (upd t_kinds (t_nodes : Int32).toNatClampNeg a0))), (tq_firsts, .inl (cI, 4200, .inl (upd t_firsts (t_nodes : Int32).toNatClampNeg t_at))), (tq_numbers, .inl (cJ, 4200, .inr (.inl t_numbers))), (tq_sizes, .inl (cI, 4200, .inl t_sizes)), (tq_inner, .inl (cI, 4200, .inl t_inner)), (tq_nexts, .inl (cI, 4200, .inl t_nexts))] H := hP
  have hD : va_D A [(ob0, .inr (0, [.ref tq_bytes, .int t_length, .int t_at, .int t_deep, .int t_fault, .int t_place, .int t_end, .int t_nodes, .ref tq_kinds, .ref tq_firsts, .ref tq_numbers, .ref tq_sizes, .ref tq_inner, .ref tq_nexts, .ref tq_letters, .int t_lettered, .int t_shapes, .int t_looked, .ref tq_sorts, .ref tq_names, .ref tq_wide, .ref tq_kids, .ref tq_many, .ref tq_fallback, .int t_kidCount, .ref tq_kidShape, .ref tq_kidName, .ref tq_kidDefault, .ref tq_kidNext, .int t_done, .ref tq_finished, .int t_root, .ref tq_plain, .int t_plainSize, .ref tq_told])), (tq_kinds, .inl (cI, 4200, .inl (upd t_kinds (t_nodes : Int32).toNatClampNeg a0))), (tq_firsts, .inl (cI, 4200, .inl (upd t_firsts (t_nodes : Int32).toNatClampNeg t_at))), (tq_numbers, .inl (cJ, 4200, .inr (.inl t_numbers))), (tq_sizes, .inl (cI, 4200, .inl t_sizes)), (tq_inner, .inl (cI, 4200, .inl t_inner)), (tq_nexts, .inl (cI, 4200, .inl t_nexts))] := hD
  refine lv_aload_n hx hb dX9_node_23 rfl (lv_at hl 0 rfl) ?_
  refine va_get (D := (dC, dI)) (ci := 0) (v := .ref tq_numbers) (C := RX9) (T := TX9) (N := 35) hx hb hts (inX9 _) hown hK hP 0 rfl rfl 10 (by decide) (hts _ (List.mem_cons_of_mem _ wf9_22)) (fun _ h9 => h9) rfl dX9_node_24 ?_
  refine lv_aload_n hx hb dX9_node_27 rfl (lv_at hl 0 rfl) ?_
  refine va_get (D := (dC, dI)) (ci := 0) (v := .int t_nodes) (C := RX9) (T := TX9) (N := 35) hx hb hts (inX9 _) hown hK hP 0 rfl rfl 7 (by decide) (hts _ (List.mem_cons_of_mem _ wf9_109)) (fun _ h9 => h9) rfl dX9_node_28 ?_
  refine lv_lconst (v := 0) hx hb dX9_node_31 (by decide) ?_
  obtain ⟨h3, hm⟩ := mr_bd hm
  refine va_last hx hb hK hP hD hS 3 2 rfl rfl h3 dX9_node_32 (fun H locs hP hD hS => ?_)
  have hP : va_P (dC, dI) srCl [(ob0, .inr (0, [.ref tq_bytes, .int t_length, .int t_at, .int t_deep, .int t_fault, .int t_place, .int t_end, .int t_nodes, .ref tq_kinds, .ref tq_firsts, .ref tq_numbers, .ref tq_sizes, .ref tq_inner, .ref tq_nexts, .ref tq_letters, .int t_lettered, .int t_shapes, .int t_looked, .ref tq_sorts, .ref tq_names, .ref tq_wide, .ref tq_kids, .ref tq_many, .ref tq_fallback, .int t_kidCount, .ref tq_kidShape, .ref tq_kidName, .ref tq_kidDefault, .ref tq_kidNext, .int t_done, .ref tq_finished, .int t_root, .ref tq_plain, .int t_plainSize, .ref tq_told])), (tq_kinds, .inl (cI, 4200, .inl (upd t_kinds (t_nodes : Int32).toNatClampNeg a0))), (tq_firsts, .inl (cI, 4200, .inl (upd t_firsts (t_nodes : Int32).toNatClampNeg t_at))), (tq_numbers, .inl (cJ, 4200, .inr (.inl (vp_updL t_numbers (t_nodes : Int32).toNatClampNeg 0)))), (tq_sizes, .inl (cI, 4200, .inl t_sizes)), (tq_inner, .inl (cI, 4200, .inl t_inner)), (tq_nexts, .inl (cI, 4200, .inl t_nexts))] H := hP
  have hD : va_D A [(ob0, .inr (0, [.ref tq_bytes, .int t_length, .int t_at, .int t_deep, .int t_fault, .int t_place, .int t_end, .int t_nodes, .ref tq_kinds, .ref tq_firsts, .ref tq_numbers, .ref tq_sizes, .ref tq_inner, .ref tq_nexts, .ref tq_letters, .int t_lettered, .int t_shapes, .int t_looked, .ref tq_sorts, .ref tq_names, .ref tq_wide, .ref tq_kids, .ref tq_many, .ref tq_fallback, .int t_kidCount, .ref tq_kidShape, .ref tq_kidName, .ref tq_kidDefault, .ref tq_kidNext, .int t_done, .ref tq_finished, .int t_root, .ref tq_plain, .int t_plainSize, .ref tq_told])), (tq_kinds, .inl (cI, 4200, .inl (upd t_kinds (t_nodes : Int32).toNatClampNeg a0))), (tq_firsts, .inl (cI, 4200, .inl (upd t_firsts (t_nodes : Int32).toNatClampNeg t_at))), (tq_numbers, .inl (cJ, 4200, .inr (.inl (vp_updL t_numbers (t_nodes : Int32).toNatClampNeg 0)))), (tq_sizes, .inl (cI, 4200, .inl t_sizes)), (tq_inner, .inl (cI, 4200, .inl t_inner)), (tq_nexts, .inl (cI, 4200, .inl t_nexts))] := hD
  refine lv_aload_n hx hb dX9_node_33 rfl (lv_at hl 0 rfl) ?_
  refine va_get (D := (dC, dI)) (ci := 0) (v := .ref tq_sizes) (C := RX9) (T := TX9) (N := 35) hx hb hts (inX9 _) hown hK hP 0 rfl rfl 11 (by decide) (hts _ (List.mem_cons_of_mem _ wf9_26)) (fun _ h9 => h9) rfl dX9_node_34 ?_
  refine lv_aload_n hx hb dX9_node_37 rfl (lv_at hl 0 rfl) ?_
  refine va_get (D := (dC, dI)) (ci := 0) (v := .int t_nodes) (C := RX9) (T := TX9) (N := 35) hx hb hts (inX9 _) hown hK hP 0 rfl rfl 7 (by decide) (hts _ (List.mem_cons_of_mem _ wf9_109)) (fun _ h9 => h9) rfl dX9_node_38 ?_
  refine lv_iconst (v := 0) hx hb dX9_node_41 (by decide) ?_
  obtain ⟨h4, hm⟩ := mr_bd hm
  refine va_iast hx hb hK hP hD hS 4 0 rfl rfl h4 dX9_node_42 (fun H locs hP hD hS => ?_)
  have hP : va_P (dC, dI) srCl [(ob0, .inr (0, [.ref tq_bytes, .int t_length, .int t_at, .int t_deep, .int t_fault, .int t_place, .int t_end, .int t_nodes, .ref tq_kinds, .ref tq_firsts, .ref tq_numbers, .ref tq_sizes, .ref tq_inner, .ref tq_nexts, .ref tq_letters, .int t_lettered, .int t_shapes, .int t_looked, .ref tq_sorts, .ref tq_names, .ref tq_wide, .ref tq_kids, .ref tq_many, .ref tq_fallback, .int t_kidCount, .ref tq_kidShape, .ref tq_kidName, .ref tq_kidDefault, .ref tq_kidNext, .int t_done, .ref tq_finished, .int t_root, .ref tq_plain, .int t_plainSize, .ref tq_told])), (tq_kinds, .inl (cI, 4200, .inl (upd t_kinds (t_nodes : Int32).toNatClampNeg a0))), (tq_firsts, .inl (cI, 4200, .inl (upd t_firsts (t_nodes : Int32).toNatClampNeg t_at))), (tq_numbers, .inl (cJ, 4200, .inr (.inl (vp_updL t_numbers (t_nodes : Int32).toNatClampNeg 0)))), (tq_sizes, .inl (cI, 4200, .inl (upd t_sizes (t_nodes : Int32).toNatClampNeg 0))), (tq_inner, .inl (cI, 4200, .inl t_inner)), (tq_nexts, .inl (cI, 4200, .inl t_nexts))] H := hP
  have hD : va_D A [(ob0, .inr (0, [.ref tq_bytes, .int t_length, .int t_at, .int t_deep, .int t_fault, .int t_place, .int t_end, .int t_nodes, .ref tq_kinds, .ref tq_firsts, .ref tq_numbers, .ref tq_sizes, .ref tq_inner, .ref tq_nexts, .ref tq_letters, .int t_lettered, .int t_shapes, .int t_looked, .ref tq_sorts, .ref tq_names, .ref tq_wide, .ref tq_kids, .ref tq_many, .ref tq_fallback, .int t_kidCount, .ref tq_kidShape, .ref tq_kidName, .ref tq_kidDefault, .ref tq_kidNext, .int t_done, .ref tq_finished, .int t_root, .ref tq_plain, .int t_plainSize, .ref tq_told])), (tq_kinds, .inl (cI, 4200, .inl (upd t_kinds (t_nodes : Int32).toNatClampNeg a0))), (tq_firsts, .inl (cI, 4200, .inl (upd t_firsts (t_nodes : Int32).toNatClampNeg t_at))), (tq_numbers, .inl (cJ, 4200, .inr (.inl (vp_updL t_numbers (t_nodes : Int32).toNatClampNeg 0)))), (tq_sizes, .inl (cI, 4200, .inl (upd t_sizes (t_nodes : Int32).toNatClampNeg 0))), (tq_inner, .inl (cI, 4200, .inl t_inner)), (tq_nexts, .inl (cI, 4200, .inl t_nexts))] := hD
  refine lv_aload_n hx hb dX9_node_43 rfl (lv_at hl 0 rfl) ?_
  refine va_get (D := (dC, dI)) (ci := 0) (v := .ref tq_inner) (C := RX9) (T := TX9) (N := 35) hx hb hts (inX9 _) hown hK hP 0 rfl rfl 12 (by decide) (hts _ (List.mem_cons_of_mem _ wf9_29)) (fun _ h9 => h9) rfl dX9_node_44 ?_
  refine lv_aload_n hx hb dX9_node_47 rfl (lv_at hl 0 rfl) ?_
  refine va_get (D := (dC, dI)) (ci := 0) (v := .int t_nodes) (C := RX9) (T := TX9) (N := 35) hx hb hts (inX9 _) hown hK hP 0 rfl rfl 7 (by decide) (hts _ (List.mem_cons_of_mem _ wf9_109)) (fun _ h9 => h9) rfl dX9_node_48 ?_
  refine lv_iconst (v := -1) hx hb dX9_node_51 (by decide) ?_
  obtain ⟨h5, hm⟩ := mr_bd hm
  refine va_iast hx hb hK hP hD hS 5 0 rfl rfl h5 dX9_node_52 (fun H locs hP hD hS => ?_)
  have hP : va_P (dC, dI) srCl [(ob0, .inr (0, [.ref tq_bytes, .int t_length, .int t_at, .int t_deep, .int t_fault, .int t_place, .int t_end, .int t_nodes, .ref tq_kinds, .ref tq_firsts, .ref tq_numbers, .ref tq_sizes, .ref tq_inner, .ref tq_nexts, .ref tq_letters, .int t_lettered, .int t_shapes, .int t_looked, .ref tq_sorts, .ref tq_names, .ref tq_wide, .ref tq_kids, .ref tq_many, .ref tq_fallback, .int t_kidCount, .ref tq_kidShape, .ref tq_kidName, .ref tq_kidDefault, .ref tq_kidNext, .int t_done, .ref tq_finished, .int t_root, .ref tq_plain, .int t_plainSize, .ref tq_told])), (tq_kinds, .inl (cI, 4200, .inl (upd t_kinds (t_nodes : Int32).toNatClampNeg a0))), (tq_firsts, .inl (cI, 4200, .inl (upd t_firsts (t_nodes : Int32).toNatClampNeg t_at))), (tq_numbers, .inl (cJ, 4200, .inr (.inl (vp_updL t_numbers (t_nodes : Int32).toNatClampNeg 0)))), (tq_sizes, .inl (cI, 4200, .inl (upd t_sizes (t_nodes : Int32).toNatClampNeg 0))), (tq_inner, .inl (cI, 4200, .inl (upd t_inner (t_nodes : Int32).toNatClampNeg (-1)))), (tq_nexts, .inl (cI, 4200, .inl t_nexts))] H := hP
  have hD : va_D A [(ob0, .inr (0, [.ref tq_bytes, .int t_length, .int t_at, .int t_deep, .int t_fault, .int t_place, .int t_end, .int t_nodes, .ref tq_kinds, .ref tq_firsts, .ref tq_numbers, .ref tq_sizes, .ref tq_inner, .ref tq_nexts, .ref tq_letters, .int t_lettered, .int t_shapes, .int t_looked, .ref tq_sorts, .ref tq_names, .ref tq_wide, .ref tq_kids, .ref tq_many, .ref tq_fallback, .int t_kidCount, .ref tq_kidShape, .ref tq_kidName, .ref tq_kidDefault, .ref tq_kidNext, .int t_done, .ref tq_finished, .int t_root, .ref tq_plain, .int t_plainSize, .ref tq_told])), (tq_kinds, .inl (cI, 4200, .inl (upd t_kinds (t_nodes : Int32).toNatClampNeg a0))), (tq_firsts, .inl (cI, 4200, .inl (upd t_firsts (t_nodes : Int32).toNatClampNeg t_at))), (tq_numbers, .inl (cJ, 4200, .inr (.inl (vp_updL t_numbers (t_nodes : Int32).toNatClampNeg 0)))), (tq_sizes, .inl (cI, 4200, .inl (upd t_sizes (t_nodes : Int32).toNatClampNeg 0))), (tq_inner, .inl (cI, 4200, .inl (upd t_inner (t_nodes : Int32).toNatClampNeg (-1)))), (tq_nexts, .inl (cI, 4200, .inl t_nexts))] := hD
  refine lv_aload_n hx hb dX9_node_53 rfl (lv_at hl 0 rfl) ?_
  refine va_get (D := (dC, dI)) (ci := 0) (v := .ref tq_nexts) (C := RX9) (T := TX9) (N := 35) hx hb hts (inX9 _) hown hK hP 0 rfl rfl 13 (by decide) (hts _ (List.mem_cons_of_mem _ wf9_32)) (fun _ h9 => h9) rfl dX9_node_54 ?_
  refine lv_aload_n hx hb dX9_node_57 rfl (lv_at hl 0 rfl) ?_
  refine va_get (D := (dC, dI)) (ci := 0) (v := .int t_nodes) (C := RX9) (T := TX9) (N := 35) hx hb hts (inX9 _) hown hK hP 0 rfl rfl 7 (by decide) (hts _ (List.mem_cons_of_mem _ wf9_109)) (fun _ h9 => h9) rfl dX9_node_58 ?_
  refine lv_iconst (v := -1) hx hb dX9_node_61 (by decide) ?_
  obtain ⟨h6, hm⟩ := mr_bd hm
  refine va_iast hx hb hK hP hD hS 6 0 rfl rfl h6 dX9_node_62 (fun H locs hP hD hS => ?_)
  have hP : va_P (dC, dI) srCl [(ob0, .inr (0, [.ref tq_bytes, .int t_length, .int t_at, .int t_deep, .int t_fault, .int t_place, .int t_end, .int t_nodes, .ref tq_kinds, .ref tq_firsts, .ref tq_numbers, .ref tq_sizes, .ref tq_inner, .ref tq_nexts, .ref tq_letters, .int t_lettered, .int t_shapes, .int t_looked, .ref tq_sorts, .ref tq_names, .ref tq_wide, .ref tq_kids, .ref tq_many, .ref tq_fallback, .int t_kidCount, .ref tq_kidShape, .ref tq_kidName, .ref tq_kidDefault, .ref tq_kidNext, .int t_done, .ref tq_finished, .int t_root, .ref tq_plain, .int t_plainSize, .ref tq_told])), (tq_kinds, .inl (cI, 4200, .inl (upd t_kinds (t_nodes : Int32).toNatClampNeg a0))), (tq_firsts, .inl (cI, 4200, .inl (upd t_firsts (t_nodes : Int32).toNatClampNeg t_at))), (tq_numbers, .inl (cJ, 4200, .inr (.inl (vp_updL t_numbers (t_nodes : Int32).toNatClampNeg 0)))), (tq_sizes, .inl (cI, 4200, .inl (upd t_sizes (t_nodes : Int32).toNatClampNeg 0))), (tq_inner, .inl (cI, 4200, .inl (upd t_inner (t_nodes : Int32).toNatClampNeg (-1)))), (tq_nexts, .inl (cI, 4200, .inl (upd t_nexts (t_nodes : Int32).toNatClampNeg (-1))))] H := hP
  have hD : va_D A [(ob0, .inr (0, [.ref tq_bytes, .int t_length, .int t_at, .int t_deep, .int t_fault, .int t_place, .int t_end, .int t_nodes, .ref tq_kinds, .ref tq_firsts, .ref tq_numbers, .ref tq_sizes, .ref tq_inner, .ref tq_nexts, .ref tq_letters, .int t_lettered, .int t_shapes, .int t_looked, .ref tq_sorts, .ref tq_names, .ref tq_wide, .ref tq_kids, .ref tq_many, .ref tq_fallback, .int t_kidCount, .ref tq_kidShape, .ref tq_kidName, .ref tq_kidDefault, .ref tq_kidNext, .int t_done, .ref tq_finished, .int t_root, .ref tq_plain, .int t_plainSize, .ref tq_told])), (tq_kinds, .inl (cI, 4200, .inl (upd t_kinds (t_nodes : Int32).toNatClampNeg a0))), (tq_firsts, .inl (cI, 4200, .inl (upd t_firsts (t_nodes : Int32).toNatClampNeg t_at))), (tq_numbers, .inl (cJ, 4200, .inr (.inl (vp_updL t_numbers (t_nodes : Int32).toNatClampNeg 0)))), (tq_sizes, .inl (cI, 4200, .inl (upd t_sizes (t_nodes : Int32).toNatClampNeg 0))), (tq_inner, .inl (cI, 4200, .inl (upd t_inner (t_nodes : Int32).toNatClampNeg (-1)))), (tq_nexts, .inl (cI, 4200, .inl (upd t_nexts (t_nodes : Int32).toNatClampNeg (-1))))] := hD
  refine lv_aload_n hx hb dX9_node_63 rfl (lv_at hl 0 rfl) ?_
  refine lv_dup hx hb dX9_node_64 rfl ?_
  refine va_get (D := (dC, dI)) (ci := 0) (v := .int t_nodes) (C := RX9) (T := TX9) (N := 35) hx hb hts (inX9 _) hown hK hP 0 rfl rfl 7 (by decide) (hts _ (List.mem_cons_of_mem _ wf9_109)) (fun _ h9 => h9) rfl dX9_node_65 ?_
  refine lv_iconst (v := 1) hx hb dX9_node_68 (by decide) ?_
  refine lv_iadd hx hb dX9_node_69 ?_
  refine va_put (D := (dC, dI)) (ci := 0) (v := .int (t_nodes + 1)) (ty := .int) (C := RX9) (T := TX9) (N := 35) hx hb hts (inX9 _) tyX9 tyX9_ok nmX9 hown hK hP hD hS 0 rfl rfl 7 (by decide) (hts _ (List.mem_cons_of_mem _ wf9_109)) (fun _ h9 => h9) rfl (by decide +kernel) rfl rfl (Nat.le_of_ble_eq_true rfl) dX9_node_70 (fun H locs hP hD hS => ?_)
  have hP : va_P (dC, dI) srCl [(ob0, .inr (0, [.ref tq_bytes, .int t_length, .int t_at, .int t_deep, .int t_fault, .int t_place, .int t_end, .int (t_nodes + 1), .ref tq_kinds, .ref tq_firsts, .ref tq_numbers, .ref tq_sizes, .ref tq_inner, .ref tq_nexts, .ref tq_letters, .int t_lettered, .int t_shapes, .int t_looked, .ref tq_sorts, .ref tq_names, .ref tq_wide, .ref tq_kids, .ref tq_many, .ref tq_fallback, .int t_kidCount, .ref tq_kidShape, .ref tq_kidName, .ref tq_kidDefault, .ref tq_kidNext, .int t_done, .ref tq_finished, .int t_root, .ref tq_plain, .int t_plainSize, .ref tq_told])), (tq_kinds, .inl (cI, 4200, .inl (upd t_kinds (t_nodes : Int32).toNatClampNeg a0))), (tq_firsts, .inl (cI, 4200, .inl (upd t_firsts (t_nodes : Int32).toNatClampNeg t_at))), (tq_numbers, .inl (cJ, 4200, .inr (.inl (vp_updL t_numbers (t_nodes : Int32).toNatClampNeg 0)))), (tq_sizes, .inl (cI, 4200, .inl (upd t_sizes (t_nodes : Int32).toNatClampNeg 0))), (tq_inner, .inl (cI, 4200, .inl (upd t_inner (t_nodes : Int32).toNatClampNeg (-1)))), (tq_nexts, .inl (cI, 4200, .inl (upd t_nexts (t_nodes : Int32).toNatClampNeg (-1))))] H := hP
  have hD : va_D A [(ob0, .inr (0, [.ref tq_bytes, .int t_length, .int t_at, .int t_deep, .int t_fault, .int t_place, .int t_end, .int (t_nodes + 1), .ref tq_kinds, .ref tq_firsts, .ref tq_numbers, .ref tq_sizes, .ref tq_inner, .ref tq_nexts, .ref tq_letters, .int t_lettered, .int t_shapes, .int t_looked, .ref tq_sorts, .ref tq_names, .ref tq_wide, .ref tq_kids, .ref tq_many, .ref tq_fallback, .int t_kidCount, .ref tq_kidShape, .ref tq_kidName, .ref tq_kidDefault, .ref tq_kidNext, .int t_done, .ref tq_finished, .int t_root, .ref tq_plain, .int t_plainSize, .ref tq_told])), (tq_kinds, .inl (cI, 4200, .inl (upd t_kinds (t_nodes : Int32).toNatClampNeg a0))), (tq_firsts, .inl (cI, 4200, .inl (upd t_firsts (t_nodes : Int32).toNatClampNeg t_at))), (tq_numbers, .inl (cJ, 4200, .inr (.inl (vp_updL t_numbers (t_nodes : Int32).toNatClampNeg 0)))), (tq_sizes, .inl (cI, 4200, .inl (upd t_sizes (t_nodes : Int32).toNatClampNeg 0))), (tq_inner, .inl (cI, 4200, .inl (upd t_inner (t_nodes : Int32).toNatClampNeg (-1)))), (tq_nexts, .inl (cI, 4200, .inl (upd t_nexts (t_nodes : Int32).toNatClampNeg (-1))))] := hD
  refine lv_aload_n hx hb dX9_node_73 rfl (lv_at hl 0 rfl) ?_
  refine va_get (D := (dC, dI)) (ci := 0) (v := .int (t_nodes + 1)) (C := RX9) (T := TX9) (N := 35) hx hb hts (inX9 _) hown hK hP 0 rfl rfl 7 (by decide) (hts _ (List.mem_cons_of_mem _ wf9_109)) (fun _ h9 => h9) rfl dX9_node_74 ?_
  refine lv_iconst (v := 1) hx hb dX9_node_77 (by decide) ?_
  refine lv_isub hx hb dX9_node_78 ?_
  obtain rfl := Option.some.inj hm
  subst hQ0
  exact W.iret (v := ((t_nodes + 1) - 1)) hx hb hr (fun t ht hW => ⟨⟨((t_nodes + 1) - 1), ((t_nodes + 1), (upd t_kinds (t_nodes : Int32).toNatClampNeg a0), (upd t_firsts (t_nodes : Int32).toNatClampNeg t_at), (vp_updL t_numbers (t_nodes : Int32).toNatClampNeg 0), (upd t_sizes (t_nodes : Int32).toNatClampNeg 0), (upd t_inner (t_nodes : Int32).toNatClampNeg (-1)), (upd t_nexts (t_nodes : Int32).toNatClampNeg (-1))), rfl, ⟨rfl, rfl⟩, by rw [ht]; exact hP, va_K.moved hW.alike hK, hD⟩, hS.F ht⟩) hS.2.2 dX9_node_79
set_option maxHeartbeats 4000000 in
set_option maxRecDepth 100000 in
theorem kX9_hex (l : Launch) (htr : l.stackTraces = false) (dC : Nat → ClassId) (dI : Nat → Nat → Nat) (adK adV : Nat → Nat) (cI cB cJ cZ cQ : ClassId) (a0 : Int32) (res : Int32) (hm : m_X9_hex a0 = some res) : Met l yX9_hex wsX9_hex (rmX9_hex 0 0) (pcR (sr_Z adK adV) (dC, dI) srCl [(cI, .int), (cB, .byte), (cJ, .long), (cZ, .boolean), (cQ, .object "SchemaReader$Schema")] [.int a0] []) (k2_QcV (.int res)) 0 0 (fun _ => False) := by
  refine Met.ofW (cc := cX9_hex) (maxL := 1) (ret := (some .int)) (by decide) rfl ?_
  intro p e s m args below meth c s₁ B hml hv
  obtain ⟨rfl, hP, hK, hz0⟩ := hv
  have hx := B.exec
  have hb := B.bytes
  have hr := B.returns
  have hts := atoms_spec (ws := wsX9_hex) B.pre
  have hown : s.vm.findClass RX9 = some m.cls := findClass_of_methodNamed B.named
  have hlocks := B.notSynchronized
  have hS : va_S (fun _ => False) s.heap s.heap [] := va_S.rf
  generalize hQ0 : MQ below (k2_QcV (.int res)) [.int a0].toArray s 0 0 (fun _ => False) = Q0
  have hl := lv_entry [.int a0] (n := 1) (Nat.le_of_ble_eq_true rfl)
  rw [lg_entry_eq]
  generalize (lg_sl [.int a0] ++ List.replicate (1 - (lg_sl [.int a0]).length) Slot.unset).toArray = ls at hl ⊢
  have hl : lv_has ls 1 [(0, .int a0)] := hl
  unfold m_X9_hex at hm
  refine lv_iload_n hx hb dX9_hex_0 rfl (lv_at hl 0 rfl) ?_
  refine lv_bipush (v := 48) hx hb dX9_hex_1 (by decide) ?_
  have j19 : ∀ (x0 : Int32) (ls : Array Slot), lv_has ls 1 [(0, .int x0)] → m_X9_hex_19 x0 = some res → W p l e (headSpec wsX9_hex (rmX9_hex 0 0)).room s m [.int a0].toArray below meth c s.heap [] 0 0 Q0 (F0 m 19 ls []) := by
    intro x0 ls hl hm
    unfold m_X9_hex_19 at hm
    refine lv_iload_n hx hb dX9_hex_19 rfl (lv_at hl 0 rfl) ?_
    refine lv_bipush (v := 97) hx hb dX9_hex_20 (by decide) ?_
    have j41 : ∀ (x0 : Int32) (ls : Array Slot), lv_has ls 1 [(0, .int x0)] → m_X9_hex_41 x0 = some res → W p l e (headSpec wsX9_hex (rmX9_hex 0 0)).room s m [.int a0].toArray below meth c s.heap [] 0 0 Q0 (F0 m 41 ls []) := by
      intro x0 ls hl hm
      unfold m_X9_hex_41 at hm
      refine lv_iload_n hx hb dX9_hex_41 rfl (lv_at hl 0 rfl) ?_
      refine lv_bipush (v := 65) hx hb dX9_hex_42 (by decide) ?_
      refine lv_icmp_lt (tgt := 63) hx hb dX9_hex_44 (by decide) (fun c1 => ?_) (fun c1 => ?_)
      · have hm := mr_if c1 hm
        refine lv_iconst (v := -1) hx hb dX9_hex_63 (by decide) ?_
        obtain rfl := Option.some.inj hm
        subst hQ0
        exact W.iret (v := (-1)) hx hb hr (fun t ht hW => ⟨rfl, ht⟩) (fun q h => by cases h) dX9_hex_64
      · have hm := mr_un c1 hm
        refine lv_iload_n hx hb dX9_hex_47 rfl (lv_at hl 0 rfl) ?_
        refine lv_bipush (v := 70) hx hb dX9_hex_48 (by decide) ?_
        refine lv_icmp_gt (tgt := 63) hx hb dX9_hex_50 (by decide) (fun c2 => ?_) (fun c2 => ?_)
        · have hm := mr_if c2 hm
          refine lv_iconst (v := -1) hx hb dX9_hex_63 (by decide) ?_
          obtain rfl := Option.some.inj hm
          subst hQ0
          exact W.iret (v := (-1)) hx hb hr (fun t ht hW => ⟨rfl, ht⟩) (fun q h => by cases h) dX9_hex_64
        · have hm := mr_un c2 hm
          refine lv_iload_n hx hb dX9_hex_53 rfl (lv_at hl 0 rfl) ?_
          refine lv_bipush (v := 65) hx hb dX9_hex_54 (by decide) ?_
          refine lv_isub hx hb dX9_hex_56 ?_
          refine lv_bipush (v := 10) hx hb dX9_hex_57 (by decide) ?_
          refine lv_iadd hx hb dX9_hex_59 ?_
          refine lv_goto (tgt := 64) hx hb dX9_hex_60 (by decide) ?_
          obtain rfl := Option.some.inj hm
          subst hQ0
          exact W.iret (v := ((x0 - 65) + 10)) hx hb hr (fun t ht hW => ⟨rfl, ht⟩) (fun q h => by cases h) dX9_hex_64
    refine lv_icmp_lt (tgt := 41) hx hb dX9_hex_22 (by decide) (fun c3 => ?_) (fun c3 => ?_)
    · have hm := mr_if c3 hm
      exact j41 x0 ls (lv_sub hl [0] rfl) hm
    · have hm := mr_un c3 hm
      refine lv_iload_n hx hb dX9_hex_25 rfl (lv_at hl 0 rfl) ?_
      refine lv_bipush (v := 102) hx hb dX9_hex_26 (by decide) ?_
      refine lv_icmp_gt (tgt := 41) hx hb dX9_hex_28 (by decide) (fun c4 => ?_) (fun c4 => ?_)
      · have hm := mr_if c4 hm
        exact j41 x0 ls (lv_sub hl [0] rfl) hm
      · have hm := mr_un c4 hm
        refine lv_iload_n hx hb dX9_hex_31 rfl (lv_at hl 0 rfl) ?_
        refine lv_bipush (v := 97) hx hb dX9_hex_32 (by decide) ?_
        refine lv_isub hx hb dX9_hex_34 ?_
        refine lv_bipush (v := 10) hx hb dX9_hex_35 (by decide) ?_
        refine lv_iadd hx hb dX9_hex_37 ?_
        refine lv_goto (tgt := 64) hx hb dX9_hex_38 (by decide) ?_
        obtain rfl := Option.some.inj hm
        subst hQ0
        exact W.iret (v := ((x0 - 97) + 10)) hx hb hr (fun t ht hW => ⟨rfl, ht⟩) (fun q h => by cases h) dX9_hex_64
  refine lv_icmp_lt (tgt := 19) hx hb dX9_hex_3 (by decide) (fun c5 => ?_) (fun c5 => ?_)
  · have hm := mr_if c5 hm
    exact j19 a0 ls (lv_sub hl [0] rfl) hm
  · have hm := mr_un c5 hm
    refine lv_iload_n hx hb dX9_hex_6 rfl (lv_at hl 0 rfl) ?_
    refine lv_bipush (v := 57) hx hb dX9_hex_7 (by decide) ?_
    refine lv_icmp_gt (tgt := 19) hx hb dX9_hex_9 (by decide) (fun c6 => ?_) (fun c6 => ?_)
    · have hm := mr_if c6 hm
      exact j19 a0 ls (lv_sub hl [0] rfl) hm
    · have hm := mr_un c6 hm
      refine lv_iload_n hx hb dX9_hex_12 rfl (lv_at hl 0 rfl) ?_
      refine lv_bipush (v := 48) hx hb dX9_hex_13 (by decide) ?_
      refine lv_isub hx hb dX9_hex_15 ?_
      refine lv_goto (tgt := 64) hx hb dX9_hex_16 (by decide) ?_
      obtain rfl := Option.some.inj hm
      subst hQ0
      exact W.iret (v := (a0 - 48)) hx hb hr (fun t ht hW => ⟨rfl, ht⟩) (fun q h => by cases h) dX9_hex_64
set_option maxHeartbeats 4000000 in
set_option maxRecDepth 100000 in
theorem kX9_same (l : Launch) (htr : l.stackTraces = false) (dC : Nat → ClassId) (dI : Nat → Nat → Nat) (adK adV : Nat → Nat) (cI cB cJ cZ cQ : ClassId) (ob0 tq_bytes tq_kinds tq_firsts tq_numbers tq_sizes tq_inner tq_nexts tq_letters tq_sorts tq_names tq_wide tq_kids tq_many tq_fallback tq_kidShape tq_kidName tq_kidDefault tq_kidNext tq_finished tq_plain tq_told ob1 oq_bytes oq_kinds oq_firsts oq_numbers oq_sizes oq_inner oq_nexts oq_letters oq_sorts oq_names oq_wide oq_kids oq_many oq_fallback oq_kidShape oq_kidName oq_kidDefault oq_kidNext oq_finished oq_plain oq_told : Nat) (t_length : Int32) (t_at : Int32) (t_deep : Int32) (t_fault : Int32) (t_place : Int32) (t_end : Int32) (t_nodes : Int32) (t_lettered : Int32) (t_shapes : Int32) (t_looked : Int32) (t_kidCount : Int32) (t_done : Int32) (t_root : Int32) (t_plainSize : Int32) (o_length : Int32) (o_at : Int32) (o_deep : Int32) (o_fault : Int32) (o_place : Int32) (o_end : Int32) (o_nodes : Int32) (o_lettered : Int32) (o_shapes : Int32) (o_looked : Int32) (o_kidCount : Int32) (o_done : Int32) (o_root : Int32) (o_plainSize : Int32) (t_numbers : Nat → Int64) (t_sizes : Nat → Int32) (t_letters : Nat → Int32) (o_numbers : Nat → Int64) (o_sizes : Nat → Int32) (o_letters : Nat → Int32) (a0 : Int32) (a2 : Int32) (res : Int32) (hm : m_X9_same t_numbers t_sizes t_letters o_numbers o_sizes o_letters a0 a2 = some res) : Met l yX9_same wsX9_same (rmX9_same 0 0) (pcR (sr_Z adK adV) (dC, dI) srCl [(cI, .int), (cB, .byte), (cJ, .long), (cZ, .boolean), (cQ, .object "SchemaReader$Schema")] [.ref ob0, .int a0, .ref ob1, .int a2] [(ob0, .inr (0, [.ref tq_bytes, .int t_length, .int t_at, .int t_deep, .int t_fault, .int t_place, .int t_end, .int t_nodes, .ref tq_kinds, .ref tq_firsts, .ref tq_numbers, .ref tq_sizes, .ref tq_inner, .ref tq_nexts, .ref tq_letters, .int t_lettered, .int t_shapes, .int t_looked, .ref tq_sorts, .ref tq_names, .ref tq_wide, .ref tq_kids, .ref tq_many, .ref tq_fallback, .int t_kidCount, .ref tq_kidShape, .ref tq_kidName, .ref tq_kidDefault, .ref tq_kidNext, .int t_done, .ref tq_finished, .int t_root, .ref tq_plain, .int t_plainSize, .ref tq_told])), (tq_numbers, .inl (cJ, 4200, .inr (.inl t_numbers))), (tq_sizes, .inl (cI, 4200, .inl t_sizes)), (tq_letters, .inl (cB, 4200, .inl t_letters)), (ob1, .inr (0, [.ref oq_bytes, .int o_length, .int o_at, .int o_deep, .int o_fault, .int o_place, .int o_end, .int o_nodes, .ref oq_kinds, .ref oq_firsts, .ref oq_numbers, .ref oq_sizes, .ref oq_inner, .ref oq_nexts, .ref oq_letters, .int o_lettered, .int o_shapes, .int o_looked, .ref oq_sorts, .ref oq_names, .ref oq_wide, .ref oq_kids, .ref oq_many, .ref oq_fallback, .int o_kidCount, .ref oq_kidShape, .ref oq_kidName, .ref oq_kidDefault, .ref oq_kidNext, .int o_done, .ref oq_finished, .int o_root, .ref oq_plain, .int o_plainSize, .ref oq_told])), (oq_numbers, .inl (cJ, 4200, .inr (.inl o_numbers))), (oq_sizes, .inl (cI, 4200, .inl o_sizes)), (oq_letters, .inl (cB, 4200, .inl o_letters))]) (k2_QcV (.int res)) 0 0 (fun _ => False) := by
  refine Met.ofW (cc := cX9_same) (maxL := 5) (ret := (some .boolean)) (by decide) rfl ?_
  intro p e s m args below meth c s₁ B hml hv
  obtain ⟨rfl, hP, hK, hz0⟩ := hv
  have hx := B.exec
  have hb := B.bytes
  have hr := B.returns
  have hts := atoms_spec (ws := wsX9_same) B.pre
  have hown : s.vm.findClass RX9 = some m.cls := findClass_of_methodNamed B.named
  have hlocks := B.notSynchronized
  have hS : va_S (fun _ => False) s.heap s.heap [] := va_S.rf
  generalize hQ0 : MQ below (k2_QcV (.int res)) [.ref ob0, .int a0, .ref ob1, .int a2].toArray s 0 0 (fun _ => False) = Q0
  have hl := lv_entry [.ref ob0, .int a0, .ref ob1, .int a2] (n := 5) (Nat.le_of_ble_eq_true rfl)
  rw [lg_entry_eq]
  generalize (lg_sl [.ref ob0, .int a0, .ref ob1, .int a2] ++ List.replicate (5 - (lg_sl [.ref ob0, .int a0, .ref ob1, .int a2]).length) Slot.unset).toArray = ls at hl ⊢
  have hl : lv_has ls 5 [(0, .ref ob0), (1, .int a0), (2, .ref ob1), (3, .int a2)] := hl
  unfold m_X9_same at hm
  refine lv_aload_n hx hb dX9_same_0 rfl (lv_at hl 0 rfl) ?_
  refine va_get (D := (dC, dI)) (ci := 0) (v := .ref tq_sizes) (C := RX9) (T := TX9) (N := 35) hx hb hts (inX9 _) hown hK hP 0 rfl rfl 11 (by decide) (hts _ (List.mem_cons_of_mem _ wf9_26)) (fun _ h9 => h9) rfl dX9_same_1 ?_
  refine lv_iload_n hx hb dX9_same_4 rfl (lv_at hl 1 rfl) ?_
  obtain ⟨h1, hm⟩ := mr_bd hm
  refine va_iald hx hb hK hP 2 0 rfl rfl h1 dX9_same_5 ?_
  refine lv_aload_n hx hb dX9_same_6 rfl (lv_at hl 2 rfl) ?_
  refine va_get (D := (dC, dI)) (ci := 0) (v := .ref oq_sizes) (C := RX9) (T := TX9) (N := 35) hx hb hts (inX9 _) hown hK hP 4 rfl rfl 11 (by decide) (hts _ (List.mem_cons_of_mem _ wf9_26)) (fun _ h9 => h9) rfl dX9_same_7 ?_
  refine lv_iload_n hx hb dX9_same_10 rfl (lv_at hl 3 rfl) ?_
  obtain ⟨h2, hm⟩ := mr_bd hm
  refine va_iald hx hb hK hP 6 0 rfl rfl h2 dX9_same_11 ?_
  refine lv_icmp_eq (tgt := 17) hx hb dX9_same_12 (by decide) (fun c3 => ?_) (fun c3 => ?_)
  · have hm := mr_if c3 hm
    refine lv_iconst (v := 0) hx hb dX9_same_17 (by decide) ?_
    have j20 : ∀ (n20 : Nat) (x1 : Int32) (x3 : Int32) (x4 : Int32) (ls : Array Slot), lv_has ls 5 [(0, .ref ob0), (1, .int x1), (2, .ref ob1), (3, .int x3), (4, .int x4)] → m_X9_same_20 t_numbers t_sizes t_letters o_numbers o_sizes o_letters n20 x1 x3 x4 = some res → W p l e (headSpec wsX9_same (rmX9_same 0 0)).room s m [.ref ob0, .int a0, .ref ob1, .int a2].toArray below meth c s.heap [] 0 0 Q0 (F0 m 20 ls []) := by
      intro n20
      induction n20 with
      | zero => intro x1 x3 x4 ls hl hm; exact nomatch (show (none : Option _) = some res from hm)
      | succ n20 ih20 =>
        intro x1 x3 x4 ls hl hm
        rw [m_X9_same_20] at hm
        refine lv_iload hx hb dX9_same_20 (lv_at hl 4 rfl) ?_
        refine lv_aload_n hx hb dX9_same_22 rfl (lv_at hl 0 rfl) ?_
        refine va_get (D := (dC, dI)) (ci := 0) (v := .ref tq_sizes) (C := RX9) (T := TX9) (N := 35) hx hb hts (inX9 _) hown hK hP 0 rfl rfl 11 (by decide) (hts _ (List.mem_cons_of_mem _ wf9_26)) (fun _ h9 => h9) rfl dX9_same_23 ?_
        refine lv_iload_n hx hb dX9_same_26 rfl (lv_at hl 1 rfl) ?_
        obtain ⟨h4, hm⟩ := mr_bd hm
        refine va_iald hx hb hK hP 2 0 rfl rfl h4 dX9_same_27 ?_
        refine lv_icmp_ge (tgt := 72) hx hb dX9_same_28 (by decide) (fun c5 => ?_) (fun c5 => ?_)
        · have hm := mr_if c5 hm
          refine lv_iconst (v := 1) hx hb dX9_same_72 (by decide) ?_
          obtain rfl := Option.some.inj hm
          subst hQ0
          exact W.zret (v := 1) hx hb hr rfl (fun t ht hW => ⟨rfl, ht⟩) (fun q h => by cases h) dX9_same_73
        · have hm := mr_un c5 hm
          refine lv_aload_n hx hb dX9_same_31 rfl (lv_at hl 0 rfl) ?_
          refine va_get (D := (dC, dI)) (ci := 0) (v := .ref tq_letters) (C := RX9) (T := TX9) (N := 35) hx hb hts (inX9 _) hown hK hP 0 rfl rfl 14 (by decide) (hts _ (List.mem_cons_of_mem _ wf9_35)) (fun _ h9 => h9) rfl dX9_same_32 ?_
          refine lv_aload_n hx hb dX9_same_35 rfl (lv_at hl 0 rfl) ?_
          refine va_get (D := (dC, dI)) (ci := 0) (v := .ref tq_numbers) (C := RX9) (T := TX9) (N := 35) hx hb hts (inX9 _) hown hK hP 0 rfl rfl 10 (by decide) (hts _ (List.mem_cons_of_mem _ wf9_22)) (fun _ h9 => h9) rfl dX9_same_36 ?_
          refine lv_iload_n hx hb dX9_same_39 rfl (lv_at hl 1 rfl) ?_
          obtain ⟨h6, hm⟩ := mr_bd hm
          refine va_lald hx hb hK hP 1 2 rfl rfl h6 dX9_same_40 ?_
          refine lv_l2i hx hb dX9_same_41 rfl ?_
          refine lv_iload hx hb dX9_same_42 (lv_at hl 4 rfl) ?_
          refine lv_iadd hx hb dX9_same_44 ?_
          obtain ⟨h7, hm⟩ := mr_bd hm
          refine va_bald hx hb hK hP 3 1 rfl rfl h7 dX9_same_45 ?_
          refine lv_aload_n hx hb dX9_same_46 rfl (lv_at hl 2 rfl) ?_
          refine va_get (D := (dC, dI)) (ci := 0) (v := .ref oq_letters) (C := RX9) (T := TX9) (N := 35) hx hb hts (inX9 _) hown hK hP 4 rfl rfl 14 (by decide) (hts _ (List.mem_cons_of_mem _ wf9_35)) (fun _ h9 => h9) rfl dX9_same_47 ?_
          refine lv_aload_n hx hb dX9_same_50 rfl (lv_at hl 2 rfl) ?_
          refine va_get (D := (dC, dI)) (ci := 0) (v := .ref oq_numbers) (C := RX9) (T := TX9) (N := 35) hx hb hts (inX9 _) hown hK hP 4 rfl rfl 10 (by decide) (hts _ (List.mem_cons_of_mem _ wf9_22)) (fun _ h9 => h9) rfl dX9_same_51 ?_
          refine lv_iload_n hx hb dX9_same_54 rfl (lv_at hl 3 rfl) ?_
          obtain ⟨h8, hm⟩ := mr_bd hm
          refine va_lald hx hb hK hP 5 2 rfl rfl h8 dX9_same_55 ?_
          refine lv_l2i hx hb dX9_same_56 rfl ?_
          refine lv_iload hx hb dX9_same_57 (lv_at hl 4 rfl) ?_
          refine lv_iadd hx hb dX9_same_59 ?_
          obtain ⟨h9, hm⟩ := mr_bd hm
          refine va_bald hx hb hK hP 7 1 rfl rfl h9 dX9_same_60 ?_
          refine lv_icmp_eq (tgt := 66) hx hb dX9_same_61 (by decide) (fun c10 => ?_) (fun c10 => ?_)
          · have hm := mr_if c10 hm
            refine lv_iinc (v := x4 + 1) (lv' := [(4, .int (x4 + 1)), (0, .ref ob0), (1, .int x1), (2, .ref ob1), (3, .int x3)]) hx hb dX9_same_66 hl (k := 4) rfl rfl (by decide) rfl (fun ls hl => ?_)
            refine lv_goto (tgt := 20) hx hb dX9_same_69 (by decide) ?_
            exact ih20 x1 x3 (x4 + 1) ls (lv_sub hl [1, 2, 3, 4, 0] rfl) hm
          · have hm := mr_un c10 hm
            refine lv_iconst (v := 0) hx hb dX9_same_64 (by decide) ?_
            obtain rfl := Option.some.inj hm
            subst hQ0
            exact W.zret (v := 0) hx hb hr rfl (fun t ht hW => ⟨rfl, ht⟩) (fun q h => by cases h) dX9_same_65
    refine lv_istore (lv' := [(4, .int 0), (0, .ref ob0), (1, .int a0), (2, .ref ob1), (3, .int a2)]) hx hb dX9_same_18 hl (by decide) rfl (fun ls hl => ?_)
    exact j20 sr_fuel a0 a2 0 ls (lv_sub hl [1, 2, 3, 4, 0] rfl) hm
  · have hm := mr_un c3 hm
    refine lv_iconst (v := 0) hx hb dX9_same_15 (by decide) ?_
    obtain rfl := Option.some.inj hm
    subst hQ0
    exact W.zret (v := 0) hx hb hr rfl (fun t ht hW => ⟨rfl, ht⟩) (fun q h => by cases h) dX9_same_16
set_option maxHeartbeats 4000000 in
set_option maxRecDepth 100000 in
theorem kX9_isName (l : Launch) (htr : l.stackTraces = false) (dC : Nat → ClassId) (dI : Nat → Nat → Nat) (adK adV : Nat → Nat) (cI cB cJ cZ cQ : ClassId) (ob0 tq_bytes tq_kinds tq_firsts tq_numbers tq_sizes tq_inner tq_nexts tq_letters tq_sorts tq_names tq_wide tq_kids tq_many tq_fallback tq_kidShape tq_kidName tq_kidDefault tq_kidNext tq_finished tq_plain tq_told : Nat) (t_length : Int32) (t_at : Int32) (t_deep : Int32) (t_fault : Int32) (t_place : Int32) (t_end : Int32) (t_nodes : Int32) (t_lettered : Int32) (t_shapes : Int32) (t_looked : Int32) (t_kidCount : Int32) (t_done : Int32) (t_root : Int32) (t_plainSize : Int32) (t_kinds : Nat → Int32) (t_numbers : Nat → Int64) (t_sizes : Nat → Int32) (t_letters : Nat → Int32) (a0 : Int32) (res : Int32) (hm : m_X9_isName t_kinds t_numbers t_sizes t_letters a0 = some res) : Met l yX9_isName wsX9_isName (rmX9_isName 0 0) (pcR (sr_Z adK adV) (dC, dI) srCl [(cI, .int), (cB, .byte), (cJ, .long), (cZ, .boolean), (cQ, .object "SchemaReader$Schema")] [.ref ob0, .int a0] [(ob0, .inr (0, [.ref tq_bytes, .int t_length, .int t_at, .int t_deep, .int t_fault, .int t_place, .int t_end, .int t_nodes, .ref tq_kinds, .ref tq_firsts, .ref tq_numbers, .ref tq_sizes, .ref tq_inner, .ref tq_nexts, .ref tq_letters, .int t_lettered, .int t_shapes, .int t_looked, .ref tq_sorts, .ref tq_names, .ref tq_wide, .ref tq_kids, .ref tq_many, .ref tq_fallback, .int t_kidCount, .ref tq_kidShape, .ref tq_kidName, .ref tq_kidDefault, .ref tq_kidNext, .int t_done, .ref tq_finished, .int t_root, .ref tq_plain, .int t_plainSize, .ref tq_told])), (tq_kinds, .inl (cI, 4200, .inl t_kinds)), (tq_numbers, .inl (cJ, 4200, .inr (.inl t_numbers))), (tq_sizes, .inl (cI, 4200, .inl t_sizes)), (tq_letters, .inl (cB, 4200, .inl t_letters))]) (k2_QcV (.int res)) 0 0 (fun _ => False) := by
  refine Met.ofW (cc := cX9_isName) (maxL := 6) (ret := (some .boolean)) (by decide) rfl ?_
  intro p e s m args below meth c s₁ B hml hv
  obtain ⟨rfl, hP, hK, hz0⟩ := hv
  have hx := B.exec
  have hb := B.bytes
  have hr := B.returns
  have hts := atoms_spec (ws := wsX9_isName) B.pre
  have hown : s.vm.findClass RX9 = some m.cls := findClass_of_methodNamed B.named
  have hlocks := B.notSynchronized
  have hS : va_S (fun _ => False) s.heap s.heap [] := va_S.rf
  generalize hQ0 : MQ below (k2_QcV (.int res)) [.ref ob0, .int a0].toArray s 0 0 (fun _ => False) = Q0
  have hl := lv_entry [.ref ob0, .int a0] (n := 6) (Nat.le_of_ble_eq_true rfl)
  rw [lg_entry_eq]
  generalize (lg_sl [.ref ob0, .int a0] ++ List.replicate (6 - (lg_sl [.ref ob0, .int a0]).length) Slot.unset).toArray = ls at hl ⊢
  have hl : lv_has ls 6 [(0, .ref ob0), (1, .int a0)] := hl
  unfold m_X9_isName at hm
  refine lv_aload_n hx hb dX9_isName_0 rfl (lv_at hl 0 rfl) ?_
  refine va_get (D := (dC, dI)) (ci := 0) (v := .ref tq_kinds) (C := RX9) (T := TX9) (N := 35) hx hb hts (inX9 _) hown hK hP 0 rfl rfl 8 (by decide) (hts _ (List.mem_cons_of_mem _ wf9_15)) (fun _ h9 => h9) rfl dX9_isName_1 ?_
  refine lv_iload_n hx hb dX9_isName_4 rfl (lv_at hl 1 rfl) ?_
  obtain ⟨h1, hm⟩ := mr_bd hm
  refine va_iald hx hb hK hP 1 0 rfl rfl h1 dX9_isName_5 ?_
  refine lv_iconst (v := 2) hx hb dX9_isName_6 (by decide) ?_
  refine lv_icmp_ne (tgt := 34) hx hb dX9_isName_7 (by decide) (fun c2 => ?_) (fun c2 => ?_)
  · have hm := mr_un c2 hm
    refine lv_iconst (v := 0) hx hb dX9_isName_34 (by decide) ?_
    refine lv_istore_n (lv' := [(2, .int 0), (0, .ref ob0), (1, .int a0)]) hx hb dX9_isName_35 rfl hl (by decide) rfl (fun ls hl => ?_)
    refine lv_iconst (v := 0) hx hb dX9_isName_36 (by decide) ?_
    have j38 : ∀ (n38 : Nat) (x1 : Int32) (x2 : Int32) (x3 : Int32) (ls : Array Slot), lv_has ls 6 [(0, .ref ob0), (1, .int x1), (2, .int x2), (3, .int x3)] → m_X9_isName_38 t_kinds t_numbers t_sizes t_letters n38 x1 x2 x3 = some res → W p l e (headSpec wsX9_isName (rmX9_isName 0 0)).room s m [.ref ob0, .int a0].toArray below meth c s.heap [] 0 0 Q0 (F0 m 38 ls []) := by
      intro n38
      induction n38 with
      | zero => intro x1 x2 x3 ls hl hm; exact nomatch (show (none : Option _) = some res from hm)
      | succ n38 ih38 =>
        intro x1 x2 x3 ls hl hm
        rw [m_X9_isName_38] at hm
        refine lv_iload_n hx hb dX9_isName_38 rfl (lv_at hl 3 rfl) ?_
        refine lv_aload_n hx hb dX9_isName_39 rfl (lv_at hl 0 rfl) ?_
        refine va_get (D := (dC, dI)) (ci := 0) (v := .ref tq_sizes) (C := RX9) (T := TX9) (N := 35) hx hb hts (inX9 _) hown hK hP 0 rfl rfl 11 (by decide) (hts _ (List.mem_cons_of_mem _ wf9_26)) (fun _ h9 => h9) rfl dX9_isName_40 ?_
        refine lv_iload_n hx hb dX9_isName_43 rfl (lv_at hl 1 rfl) ?_
        obtain ⟨h3, hm⟩ := mr_bd hm
        refine va_iald hx hb hK hP 3 0 rfl rfl h3 dX9_isName_44 ?_
        refine lv_icmp_ge (tgt := 145) hx hb dX9_isName_45 (by decide) (fun c4 => ?_) (fun c4 => ?_)
        · have hm := mr_if c4 hm
          refine lv_iload_n hx hb dX9_isName_145 rfl (lv_at hl 2 rfl) ?_
          obtain ⟨h5, hm⟩ := mr_bz hm
          obtain rfl := Option.some.inj hm
          subst hQ0
          exact W.zret (v := x2) hx hb hr h5 (fun t ht hW => ⟨rfl, ht⟩) (fun q h => by cases h) dX9_isName_146
        · have hm := mr_un c4 hm
          refine lv_iload_n hx hb dX9_isName_48 rfl (lv_at hl 2 rfl) ?_
          refine lv_if_eq (tgt := 145) hx hb dX9_isName_49 (by decide) (fun c6 => ?_) (fun c6 => ?_)
          · have hm := mr_if c6 hm
            refine lv_iload_n hx hb dX9_isName_145 rfl (lv_at hl 2 rfl) ?_
            obtain ⟨h7, hm⟩ := mr_bz hm
            obtain rfl := Option.some.inj hm
            subst hQ0
            exact W.zret (v := x2) hx hb hr h7 (fun t ht hW => ⟨rfl, ht⟩) (fun q h => by cases h) dX9_isName_146
          · have hm := mr_un c6 hm
            refine lv_aload_n hx hb dX9_isName_52 rfl (lv_at hl 0 rfl) ?_
            refine va_get (D := (dC, dI)) (ci := 0) (v := .ref tq_letters) (C := RX9) (T := TX9) (N := 35) hx hb hts (inX9 _) hown hK hP 0 rfl rfl 14 (by decide) (hts _ (List.mem_cons_of_mem _ wf9_35)) (fun _ h9 => h9) rfl dX9_isName_53 ?_
            refine lv_aload_n hx hb dX9_isName_56 rfl (lv_at hl 0 rfl) ?_
            refine va_get (D := (dC, dI)) (ci := 0) (v := .ref tq_numbers) (C := RX9) (T := TX9) (N := 35) hx hb hts (inX9 _) hown hK hP 0 rfl rfl 10 (by decide) (hts _ (List.mem_cons_of_mem _ wf9_22)) (fun _ h9 => h9) rfl dX9_isName_57 ?_
            refine lv_iload_n hx hb dX9_isName_60 rfl (lv_at hl 1 rfl) ?_
            obtain ⟨h8, hm⟩ := mr_bd hm
            refine va_lald hx hb hK hP 2 2 rfl rfl h8 dX9_isName_61 ?_
            refine lv_l2i hx hb dX9_isName_62 rfl ?_
            refine lv_iload_n hx hb dX9_isName_63 rfl (lv_at hl 3 rfl) ?_
            refine lv_iadd hx hb dX9_isName_64 ?_
            obtain ⟨h9, hm⟩ := mr_bd hm
            refine va_bald hx hb hK hP 4 1 rfl rfl h9 dX9_isName_65 ?_
            refine lv_istore (lv' := [(4, .int (t_letters (((((t_numbers (x1 : Int32).toNatClampNeg) : Int64).toInt32) + x3) : Int32).toNatClampNeg)), (0, .ref ob0), (1, .int x1), (2, .int x2), (3, .int x3)]) hx hb dX9_isName_66 hl (by decide) rfl (fun ls hl => ?_)
            refine lv_iload hx hb dX9_isName_68 (lv_at hl 0 rfl) ?_
            refine lv_bipush (v := 48) hx hb dX9_isName_70 (by decide) ?_
            have j87 : ∀ (x1 : Int32) (x3 : Int32) (x4 : Int32) (y0 : Int32) (ls : Array Slot), lv_has ls 6 [(0, .ref ob0), (1, .int x1), (3, .int x3), (4, .int x4)] → m_X9_isName_87 t_kinds t_numbers t_sizes t_letters (m_X9_isName_38 t_kinds t_numbers t_sizes t_letters n38) x1 x3 x4 y0 = some res → W p l e (headSpec wsX9_isName (rmX9_isName 0 0)).room s m [.ref ob0, .int a0].toArray below meth c s.heap [] 0 0 Q0 (F0 m 87 ls [.int y0]) := by
              intro x1 x3 x4 y0 ls hl hm
              unfold m_X9_isName_87 at hm
              refine lv_istore (lv' := [(5, .int y0), (0, .ref ob0), (1, .int x1), (3, .int x3), (4, .int x4)]) hx hb dX9_isName_87 hl (by decide) rfl (fun ls hl => ?_)
              refine lv_iload hx hb dX9_isName_89 (lv_at hl 4 rfl) ?_
              refine lv_bipush (v := 97) hx hb dX9_isName_91 (by decide) ?_
              have j133 : ∀ (x1 : Int32) (x3 : Int32) (ls : Array Slot), lv_has ls 6 [(0, .ref ob0), (1, .int x1), (3, .int x3)] → m_X9_isName_133 t_kinds t_numbers t_sizes t_letters (m_X9_isName_38 t_kinds t_numbers t_sizes t_letters n38) x1 x3 = some res → W p l e (headSpec wsX9_isName (rmX9_isName 0 0)).room s m [.ref ob0, .int a0].toArray below meth c s.heap [] 0 0 Q0 (F0 m 133 ls []) := by
                intro x1 x3 ls hl hm
                unfold m_X9_isName_133 at hm
                refine lv_iconst (v := 1) hx hb dX9_isName_133 (by decide) ?_
                refine lv_goto (tgt := 138) hx hb dX9_isName_134 (by decide) ?_
                refine lv_istore_n (lv' := [(2, .int 1), (0, .ref ob0), (1, .int x1), (3, .int x3)]) hx hb dX9_isName_138 rfl hl (by decide) rfl (fun ls hl => ?_)
                refine lv_iinc (v := x3 + 1) (lv' := [(3, .int (x3 + 1)), (2, .int 1), (0, .ref ob0), (1, .int x1)]) hx hb dX9_isName_139 hl (k := 3) rfl rfl (by decide) rfl (fun ls hl => ?_)
                refine lv_goto (tgt := 38) hx hb dX9_isName_142 (by decide) ?_
                exact ih38 x1 1 (x3 + 1) ls (lv_sub hl [2, 3, 1, 0] rfl) hm
              have j103 : ∀ (x1 : Int32) (x3 : Int32) (x4 : Int32) (x5 : Int32) (ls : Array Slot), lv_has ls 6 [(0, .ref ob0), (1, .int x1), (3, .int x3), (4, .int x4), (5, .int x5)] → m_X9_isName_103 t_kinds t_numbers t_sizes t_letters (m_X9_isName_38 t_kinds t_numbers t_sizes t_letters n38) x1 x3 x4 x5 = some res → W p l e (headSpec wsX9_isName (rmX9_isName 0 0)).room s m [.ref ob0, .int a0].toArray below meth c s.heap [] 0 0 Q0 (F0 m 103 ls []) := by
                intro x1 x3 x4 x5 ls hl hm
                unfold m_X9_isName_103 at hm
                refine lv_iload hx hb dX9_isName_103 (lv_at hl 3 rfl) ?_
                refine lv_bipush (v := 65) hx hb dX9_isName_105 (by decide) ?_
                have j117 : ∀ (x1 : Int32) (x3 : Int32) (x4 : Int32) (x5 : Int32) (ls : Array Slot), lv_has ls 6 [(0, .ref ob0), (1, .int x1), (3, .int x3), (4, .int x4), (5, .int x5)] → m_X9_isName_117 t_kinds t_numbers t_sizes t_letters (m_X9_isName_38 t_kinds t_numbers t_sizes t_letters n38) x1 x3 x4 x5 = some res → W p l e (headSpec wsX9_isName (rmX9_isName 0 0)).room s m [.ref ob0, .int a0].toArray below meth c s.heap [] 0 0 Q0 (F0 m 117 ls []) := by
                  intro x1 x3 x4 x5 ls hl hm
                  unfold m_X9_isName_117 at hm
                  refine lv_iload hx hb dX9_isName_117 (lv_at hl 3 rfl) ?_
                  refine lv_bipush (v := 95) hx hb dX9_isName_119 (by decide) ?_
                  refine lv_icmp_eq (tgt := 133) hx hb dX9_isName_121 (by decide) (fun c10 => ?_) (fun c10 => ?_)
                  · have hm := mr_if c10 hm
                    exact j133 x1 x3 ls (lv_sub hl [0, 1, 2] rfl) hm
                  · have hm := mr_un c10 hm
                    refine lv_iload hx hb dX9_isName_124 (lv_at hl 4 rfl) ?_
                    refine lv_if_eq (tgt := 137) hx hb dX9_isName_126 (by decide) (fun c11 => ?_) (fun c11 => ?_)
                    · have hm := mr_if c11 hm
                      refine lv_iconst (v := 0) hx hb dX9_isName_137 (by decide) ?_
                      refine lv_istore_n (lv' := [(2, .int 0), (0, .ref ob0), (1, .int x1), (3, .int x3), (4, .int x4), (5, .int x5)]) hx hb dX9_isName_138 rfl hl (by decide) rfl (fun ls hl => ?_)
                      refine lv_iinc (v := x3 + 1) (lv' := [(3, .int (x3 + 1)), (2, .int 0), (0, .ref ob0), (1, .int x1), (4, .int x4), (5, .int x5)]) hx hb dX9_isName_139 hl (k := 3) rfl rfl (by decide) rfl (fun ls hl => ?_)
                      refine lv_goto (tgt := 38) hx hb dX9_isName_142 (by decide) ?_
                      exact ih38 x1 0 (x3 + 1) ls (lv_sub hl [2, 3, 1, 0] rfl) hm
                    · have hm := mr_un c11 hm
                      refine lv_iload_n hx hb dX9_isName_129 rfl (lv_at hl 2 rfl) ?_
                      refine lv_if_le (tgt := 137) hx hb dX9_isName_130 (by decide) (fun c12 => ?_) (fun c12 => ?_)
                      · have hm := mr_if c12 hm
                        refine lv_iconst (v := 0) hx hb dX9_isName_137 (by decide) ?_
                        refine lv_istore_n (lv' := [(2, .int 0), (0, .ref ob0), (1, .int x1), (3, .int x3), (4, .int x4), (5, .int x5)]) hx hb dX9_isName_138 rfl hl (by decide) rfl (fun ls hl => ?_)
                        refine lv_iinc (v := x3 + 1) (lv' := [(3, .int (x3 + 1)), (2, .int 0), (0, .ref ob0), (1, .int x1), (4, .int x4), (5, .int x5)]) hx hb dX9_isName_139 hl (k := 3) rfl rfl (by decide) rfl (fun ls hl => ?_)
                        refine lv_goto (tgt := 38) hx hb dX9_isName_142 (by decide) ?_
                        exact ih38 x1 0 (x3 + 1) ls (lv_sub hl [2, 3, 1, 0] rfl) hm
                      · have hm := mr_un c12 hm
                        exact j133 x1 x3 ls (lv_sub hl [0, 1, 2] rfl) hm
                refine lv_icmp_lt (tgt := 117) hx hb dX9_isName_107 (by decide) (fun c13 => ?_) (fun c13 => ?_)
                · have hm := mr_if c13 hm
                  exact j117 x1 x3 x4 x5 ls (lv_sub hl [0, 1, 2, 3, 4] rfl) hm
                · have hm := mr_un c13 hm
                  refine lv_iload hx hb dX9_isName_110 (lv_at hl 3 rfl) ?_
                  refine lv_bipush (v := 90) hx hb dX9_isName_112 (by decide) ?_
                  refine lv_icmp_le (tgt := 133) hx hb dX9_isName_114 (by decide) (fun c14 => ?_) (fun c14 => ?_)
                  · have hm := mr_if c14 hm
                    exact j133 x1 x3 ls (lv_sub hl [0, 1, 2] rfl) hm
                  · have hm := mr_un c14 hm
                    exact j117 x1 x3 x4 x5 ls (lv_sub hl [0, 1, 2, 3, 4] rfl) hm
              refine lv_icmp_lt (tgt := 103) hx hb dX9_isName_93 (by decide) (fun c15 => ?_) (fun c15 => ?_)
              · have hm := mr_if c15 hm
                exact j103 x1 x3 x4 y0 ls (lv_sub hl [1, 2, 3, 4, 0] rfl) hm
              · have hm := mr_un c15 hm
                refine lv_iload hx hb dX9_isName_96 (lv_at hl 4 rfl) ?_
                refine lv_bipush (v := 122) hx hb dX9_isName_98 (by decide) ?_
                refine lv_icmp_le (tgt := 133) hx hb dX9_isName_100 (by decide) (fun c16 => ?_) (fun c16 => ?_)
                · have hm := mr_if c16 hm
                  exact j133 x1 x3 ls (lv_sub hl [1, 2, 3] rfl) hm
                · have hm := mr_un c16 hm
                  exact j103 x1 x3 x4 y0 ls (lv_sub hl [1, 2, 3, 4, 0] rfl) hm
            have j86 : ∀ (x1 : Int32) (x3 : Int32) (x4 : Int32) (ls : Array Slot), lv_has ls 6 [(0, .ref ob0), (1, .int x1), (3, .int x3), (4, .int x4)] → m_X9_isName_86 t_kinds t_numbers t_sizes t_letters (m_X9_isName_38 t_kinds t_numbers t_sizes t_letters n38) x1 x3 x4 = some res → W p l e (headSpec wsX9_isName (rmX9_isName 0 0)).room s m [.ref ob0, .int a0].toArray below meth c s.heap [] 0 0 Q0 (F0 m 86 ls []) := by
              intro x1 x3 x4 ls hl hm
              unfold m_X9_isName_86 at hm
              refine lv_iconst (v := 0) hx hb dX9_isName_86 (by decide) ?_
              exact j87 x1 x3 x4 0 ls (lv_sub hl [0, 1, 2, 3] rfl) hm
            refine lv_icmp_lt (tgt := 86) hx hb dX9_isName_72 (by decide) (fun c17 => ?_) (fun c17 => ?_)
            · have hm := mr_if c17 hm
              exact j86 x1 x3 (t_letters (((((t_numbers (x1 : Int32).toNatClampNeg) : Int64).toInt32) + x3) : Int32).toNatClampNeg) ls (lv_sub hl [1, 2, 4, 0] rfl) hm
            · have hm := mr_un c17 hm
              refine lv_iload hx hb dX9_isName_75 (lv_at hl 0 rfl) ?_
              refine lv_bipush (v := 57) hx hb dX9_isName_77 (by decide) ?_
              refine lv_icmp_gt (tgt := 86) hx hb dX9_isName_79 (by decide) (fun c18 => ?_) (fun c18 => ?_)
              · have hm := mr_if c18 hm
                exact j86 x1 x3 (t_letters (((((t_numbers (x1 : Int32).toNatClampNeg) : Int64).toInt32) + x3) : Int32).toNatClampNeg) ls (lv_sub hl [1, 2, 4, 0] rfl) hm
              · have hm := mr_un c18 hm
                refine lv_iconst (v := 1) hx hb dX9_isName_82 (by decide) ?_
                refine lv_goto (tgt := 87) hx hb dX9_isName_83 (by decide) ?_
                exact j87 x1 x3 (t_letters (((((t_numbers (x1 : Int32).toNatClampNeg) : Int64).toInt32) + x3) : Int32).toNatClampNeg) 1 ls (lv_sub hl [1, 2, 4, 0] rfl) hm
    refine lv_istore_n (lv' := [(3, .int 0), (2, .int 0), (0, .ref ob0), (1, .int a0)]) hx hb dX9_isName_37 rfl hl (by decide) rfl (fun ls hl => ?_)
    exact j38 sr_fuel a0 0 0 ls (lv_sub hl [2, 3, 1, 0] rfl) hm
  · have hm := mr_if c2 hm
    refine lv_aload_n hx hb dX9_isName_10 rfl (lv_at hl 0 rfl) ?_
    refine va_get (D := (dC, dI)) (ci := 0) (v := .ref tq_sizes) (C := RX9) (T := TX9) (N := 35) hx hb hts (inX9 _) hown hK hP 0 rfl rfl 11 (by decide) (hts _ (List.mem_cons_of_mem _ wf9_26)) (fun _ h9 => h9) rfl dX9_isName_11 ?_
    refine lv_iload_n hx hb dX9_isName_14 rfl (lv_at hl 1 rfl) ?_
    obtain ⟨h19, hm⟩ := mr_bd hm
    refine va_iald hx hb hK hP 3 0 rfl rfl h19 dX9_isName_15 ?_
    refine lv_if_le (tgt := 34) hx hb dX9_isName_16 (by decide) (fun c20 => ?_) (fun c20 => ?_)
    · have hm := mr_if c20 hm
      refine lv_iconst (v := 0) hx hb dX9_isName_34 (by decide) ?_
      refine lv_istore_n (lv' := [(2, .int 0), (0, .ref ob0), (1, .int a0)]) hx hb dX9_isName_35 rfl hl (by decide) rfl (fun ls hl => ?_)
      refine lv_iconst (v := 0) hx hb dX9_isName_36 (by decide) ?_
      have j38 : ∀ (n38 : Nat) (x1 : Int32) (x2 : Int32) (x3 : Int32) (ls : Array Slot), lv_has ls 6 [(0, .ref ob0), (1, .int x1), (2, .int x2), (3, .int x3)] → m_X9_isName_38 t_kinds t_numbers t_sizes t_letters n38 x1 x2 x3 = some res → W p l e (headSpec wsX9_isName (rmX9_isName 0 0)).room s m [.ref ob0, .int a0].toArray below meth c s.heap [] 0 0 Q0 (F0 m 38 ls []) := by
        intro n38
        induction n38 with
        | zero => intro x1 x2 x3 ls hl hm; exact nomatch (show (none : Option _) = some res from hm)
        | succ n38 ih38 =>
          intro x1 x2 x3 ls hl hm
          rw [m_X9_isName_38] at hm
          refine lv_iload_n hx hb dX9_isName_38 rfl (lv_at hl 3 rfl) ?_
          refine lv_aload_n hx hb dX9_isName_39 rfl (lv_at hl 0 rfl) ?_
          refine va_get (D := (dC, dI)) (ci := 0) (v := .ref tq_sizes) (C := RX9) (T := TX9) (N := 35) hx hb hts (inX9 _) hown hK hP 0 rfl rfl 11 (by decide) (hts _ (List.mem_cons_of_mem _ wf9_26)) (fun _ h9 => h9) rfl dX9_isName_40 ?_
          refine lv_iload_n hx hb dX9_isName_43 rfl (lv_at hl 1 rfl) ?_
          obtain ⟨h21, hm⟩ := mr_bd hm
          refine va_iald hx hb hK hP 3 0 rfl rfl h21 dX9_isName_44 ?_
          refine lv_icmp_ge (tgt := 145) hx hb dX9_isName_45 (by decide) (fun c22 => ?_) (fun c22 => ?_)
          · have hm := mr_if c22 hm
            refine lv_iload_n hx hb dX9_isName_145 rfl (lv_at hl 2 rfl) ?_
            obtain ⟨h23, hm⟩ := mr_bz hm
            obtain rfl := Option.some.inj hm
            subst hQ0
            exact W.zret (v := x2) hx hb hr h23 (fun t ht hW => ⟨rfl, ht⟩) (fun q h => by cases h) dX9_isName_146
          · have hm := mr_un c22 hm
            refine lv_iload_n hx hb dX9_isName_48 rfl (lv_at hl 2 rfl) ?_
            refine lv_if_eq (tgt := 145) hx hb dX9_isName_49 (by decide) (fun c24 => ?_) (fun c24 => ?_)
            · have hm := mr_if c24 hm
              refine lv_iload_n hx hb dX9_isName_145 rfl (lv_at hl 2 rfl) ?_
              obtain ⟨h25, hm⟩ := mr_bz hm
              obtain rfl := Option.some.inj hm
              subst hQ0
              exact W.zret (v := x2) hx hb hr h25 (fun t ht hW => ⟨rfl, ht⟩) (fun q h => by cases h) dX9_isName_146
            · have hm := mr_un c24 hm
              refine lv_aload_n hx hb dX9_isName_52 rfl (lv_at hl 0 rfl) ?_
              refine va_get (D := (dC, dI)) (ci := 0) (v := .ref tq_letters) (C := RX9) (T := TX9) (N := 35) hx hb hts (inX9 _) hown hK hP 0 rfl rfl 14 (by decide) (hts _ (List.mem_cons_of_mem _ wf9_35)) (fun _ h9 => h9) rfl dX9_isName_53 ?_
              refine lv_aload_n hx hb dX9_isName_56 rfl (lv_at hl 0 rfl) ?_
              refine va_get (D := (dC, dI)) (ci := 0) (v := .ref tq_numbers) (C := RX9) (T := TX9) (N := 35) hx hb hts (inX9 _) hown hK hP 0 rfl rfl 10 (by decide) (hts _ (List.mem_cons_of_mem _ wf9_22)) (fun _ h9 => h9) rfl dX9_isName_57 ?_
              refine lv_iload_n hx hb dX9_isName_60 rfl (lv_at hl 1 rfl) ?_
              obtain ⟨h26, hm⟩ := mr_bd hm
              refine va_lald hx hb hK hP 2 2 rfl rfl h26 dX9_isName_61 ?_
              refine lv_l2i hx hb dX9_isName_62 rfl ?_
              refine lv_iload_n hx hb dX9_isName_63 rfl (lv_at hl 3 rfl) ?_
              refine lv_iadd hx hb dX9_isName_64 ?_
              obtain ⟨h27, hm⟩ := mr_bd hm
              refine va_bald hx hb hK hP 4 1 rfl rfl h27 dX9_isName_65 ?_
              refine lv_istore (lv' := [(4, .int (t_letters (((((t_numbers (x1 : Int32).toNatClampNeg) : Int64).toInt32) + x3) : Int32).toNatClampNeg)), (0, .ref ob0), (1, .int x1), (2, .int x2), (3, .int x3)]) hx hb dX9_isName_66 hl (by decide) rfl (fun ls hl => ?_)
              refine lv_iload hx hb dX9_isName_68 (lv_at hl 0 rfl) ?_
              refine lv_bipush (v := 48) hx hb dX9_isName_70 (by decide) ?_
              have j87 : ∀ (x1 : Int32) (x3 : Int32) (x4 : Int32) (y0 : Int32) (ls : Array Slot), lv_has ls 6 [(0, .ref ob0), (1, .int x1), (3, .int x3), (4, .int x4)] → m_X9_isName_87 t_kinds t_numbers t_sizes t_letters (m_X9_isName_38 t_kinds t_numbers t_sizes t_letters n38) x1 x3 x4 y0 = some res → W p l e (headSpec wsX9_isName (rmX9_isName 0 0)).room s m [.ref ob0, .int a0].toArray below meth c s.heap [] 0 0 Q0 (F0 m 87 ls [.int y0]) := by
                intro x1 x3 x4 y0 ls hl hm
                unfold m_X9_isName_87 at hm
                refine lv_istore (lv' := [(5, .int y0), (0, .ref ob0), (1, .int x1), (3, .int x3), (4, .int x4)]) hx hb dX9_isName_87 hl (by decide) rfl (fun ls hl => ?_)
                refine lv_iload hx hb dX9_isName_89 (lv_at hl 4 rfl) ?_
                refine lv_bipush (v := 97) hx hb dX9_isName_91 (by decide) ?_
                have j133 : ∀ (x1 : Int32) (x3 : Int32) (ls : Array Slot), lv_has ls 6 [(0, .ref ob0), (1, .int x1), (3, .int x3)] → m_X9_isName_133 t_kinds t_numbers t_sizes t_letters (m_X9_isName_38 t_kinds t_numbers t_sizes t_letters n38) x1 x3 = some res → W p l e (headSpec wsX9_isName (rmX9_isName 0 0)).room s m [.ref ob0, .int a0].toArray below meth c s.heap [] 0 0 Q0 (F0 m 133 ls []) := by
                  intro x1 x3 ls hl hm
                  unfold m_X9_isName_133 at hm
                  refine lv_iconst (v := 1) hx hb dX9_isName_133 (by decide) ?_
                  refine lv_goto (tgt := 138) hx hb dX9_isName_134 (by decide) ?_
                  refine lv_istore_n (lv' := [(2, .int 1), (0, .ref ob0), (1, .int x1), (3, .int x3)]) hx hb dX9_isName_138 rfl hl (by decide) rfl (fun ls hl => ?_)
                  refine lv_iinc (v := x3 + 1) (lv' := [(3, .int (x3 + 1)), (2, .int 1), (0, .ref ob0), (1, .int x1)]) hx hb dX9_isName_139 hl (k := 3) rfl rfl (by decide) rfl (fun ls hl => ?_)
                  refine lv_goto (tgt := 38) hx hb dX9_isName_142 (by decide) ?_
                  exact ih38 x1 1 (x3 + 1) ls (lv_sub hl [2, 3, 1, 0] rfl) hm
                have j103 : ∀ (x1 : Int32) (x3 : Int32) (x4 : Int32) (x5 : Int32) (ls : Array Slot), lv_has ls 6 [(0, .ref ob0), (1, .int x1), (3, .int x3), (4, .int x4), (5, .int x5)] → m_X9_isName_103 t_kinds t_numbers t_sizes t_letters (m_X9_isName_38 t_kinds t_numbers t_sizes t_letters n38) x1 x3 x4 x5 = some res → W p l e (headSpec wsX9_isName (rmX9_isName 0 0)).room s m [.ref ob0, .int a0].toArray below meth c s.heap [] 0 0 Q0 (F0 m 103 ls []) := by
                  intro x1 x3 x4 x5 ls hl hm
                  unfold m_X9_isName_103 at hm
                  refine lv_iload hx hb dX9_isName_103 (lv_at hl 3 rfl) ?_
                  refine lv_bipush (v := 65) hx hb dX9_isName_105 (by decide) ?_
                  have j117 : ∀ (x1 : Int32) (x3 : Int32) (x4 : Int32) (x5 : Int32) (ls : Array Slot), lv_has ls 6 [(0, .ref ob0), (1, .int x1), (3, .int x3), (4, .int x4), (5, .int x5)] → m_X9_isName_117 t_kinds t_numbers t_sizes t_letters (m_X9_isName_38 t_kinds t_numbers t_sizes t_letters n38) x1 x3 x4 x5 = some res → W p l e (headSpec wsX9_isName (rmX9_isName 0 0)).room s m [.ref ob0, .int a0].toArray below meth c s.heap [] 0 0 Q0 (F0 m 117 ls []) := by
                    intro x1 x3 x4 x5 ls hl hm
                    unfold m_X9_isName_117 at hm
                    refine lv_iload hx hb dX9_isName_117 (lv_at hl 3 rfl) ?_
                    refine lv_bipush (v := 95) hx hb dX9_isName_119 (by decide) ?_
                    refine lv_icmp_eq (tgt := 133) hx hb dX9_isName_121 (by decide) (fun c28 => ?_) (fun c28 => ?_)
                    · have hm := mr_if c28 hm
                      exact j133 x1 x3 ls (lv_sub hl [0, 1, 2] rfl) hm
                    · have hm := mr_un c28 hm
                      refine lv_iload hx hb dX9_isName_124 (lv_at hl 4 rfl) ?_
                      refine lv_if_eq (tgt := 137) hx hb dX9_isName_126 (by decide) (fun c29 => ?_) (fun c29 => ?_)
                      · have hm := mr_if c29 hm
                        refine lv_iconst (v := 0) hx hb dX9_isName_137 (by decide) ?_
                        refine lv_istore_n (lv' := [(2, .int 0), (0, .ref ob0), (1, .int x1), (3, .int x3), (4, .int x4), (5, .int x5)]) hx hb dX9_isName_138 rfl hl (by decide) rfl (fun ls hl => ?_)
                        refine lv_iinc (v := x3 + 1) (lv' := [(3, .int (x3 + 1)), (2, .int 0), (0, .ref ob0), (1, .int x1), (4, .int x4), (5, .int x5)]) hx hb dX9_isName_139 hl (k := 3) rfl rfl (by decide) rfl (fun ls hl => ?_)
                        refine lv_goto (tgt := 38) hx hb dX9_isName_142 (by decide) ?_
                        exact ih38 x1 0 (x3 + 1) ls (lv_sub hl [2, 3, 1, 0] rfl) hm
                      · have hm := mr_un c29 hm
                        refine lv_iload_n hx hb dX9_isName_129 rfl (lv_at hl 2 rfl) ?_
                        refine lv_if_le (tgt := 137) hx hb dX9_isName_130 (by decide) (fun c30 => ?_) (fun c30 => ?_)
                        · have hm := mr_if c30 hm
                          refine lv_iconst (v := 0) hx hb dX9_isName_137 (by decide) ?_
                          refine lv_istore_n (lv' := [(2, .int 0), (0, .ref ob0), (1, .int x1), (3, .int x3), (4, .int x4), (5, .int x5)]) hx hb dX9_isName_138 rfl hl (by decide) rfl (fun ls hl => ?_)
                          refine lv_iinc (v := x3 + 1) (lv' := [(3, .int (x3 + 1)), (2, .int 0), (0, .ref ob0), (1, .int x1), (4, .int x4), (5, .int x5)]) hx hb dX9_isName_139 hl (k := 3) rfl rfl (by decide) rfl (fun ls hl => ?_)
                          refine lv_goto (tgt := 38) hx hb dX9_isName_142 (by decide) ?_
                          exact ih38 x1 0 (x3 + 1) ls (lv_sub hl [2, 3, 1, 0] rfl) hm
                        · have hm := mr_un c30 hm
                          exact j133 x1 x3 ls (lv_sub hl [0, 1, 2] rfl) hm
                  refine lv_icmp_lt (tgt := 117) hx hb dX9_isName_107 (by decide) (fun c31 => ?_) (fun c31 => ?_)
                  · have hm := mr_if c31 hm
                    exact j117 x1 x3 x4 x5 ls (lv_sub hl [0, 1, 2, 3, 4] rfl) hm
                  · have hm := mr_un c31 hm
                    refine lv_iload hx hb dX9_isName_110 (lv_at hl 3 rfl) ?_
                    refine lv_bipush (v := 90) hx hb dX9_isName_112 (by decide) ?_
                    refine lv_icmp_le (tgt := 133) hx hb dX9_isName_114 (by decide) (fun c32 => ?_) (fun c32 => ?_)
                    · have hm := mr_if c32 hm
                      exact j133 x1 x3 ls (lv_sub hl [0, 1, 2] rfl) hm
                    · have hm := mr_un c32 hm
                      exact j117 x1 x3 x4 x5 ls (lv_sub hl [0, 1, 2, 3, 4] rfl) hm
                refine lv_icmp_lt (tgt := 103) hx hb dX9_isName_93 (by decide) (fun c33 => ?_) (fun c33 => ?_)
                · have hm := mr_if c33 hm
                  exact j103 x1 x3 x4 y0 ls (lv_sub hl [1, 2, 3, 4, 0] rfl) hm
                · have hm := mr_un c33 hm
                  refine lv_iload hx hb dX9_isName_96 (lv_at hl 4 rfl) ?_
                  refine lv_bipush (v := 122) hx hb dX9_isName_98 (by decide) ?_
                  refine lv_icmp_le (tgt := 133) hx hb dX9_isName_100 (by decide) (fun c34 => ?_) (fun c34 => ?_)
                  · have hm := mr_if c34 hm
                    exact j133 x1 x3 ls (lv_sub hl [1, 2, 3] rfl) hm
                  · have hm := mr_un c34 hm
                    exact j103 x1 x3 x4 y0 ls (lv_sub hl [1, 2, 3, 4, 0] rfl) hm
              have j86 : ∀ (x1 : Int32) (x3 : Int32) (x4 : Int32) (ls : Array Slot), lv_has ls 6 [(0, .ref ob0), (1, .int x1), (3, .int x3), (4, .int x4)] → m_X9_isName_86 t_kinds t_numbers t_sizes t_letters (m_X9_isName_38 t_kinds t_numbers t_sizes t_letters n38) x1 x3 x4 = some res → W p l e (headSpec wsX9_isName (rmX9_isName 0 0)).room s m [.ref ob0, .int a0].toArray below meth c s.heap [] 0 0 Q0 (F0 m 86 ls []) := by
                intro x1 x3 x4 ls hl hm
                unfold m_X9_isName_86 at hm
                refine lv_iconst (v := 0) hx hb dX9_isName_86 (by decide) ?_
                exact j87 x1 x3 x4 0 ls (lv_sub hl [0, 1, 2, 3] rfl) hm
              refine lv_icmp_lt (tgt := 86) hx hb dX9_isName_72 (by decide) (fun c35 => ?_) (fun c35 => ?_)
              · have hm := mr_if c35 hm
                exact j86 x1 x3 (t_letters (((((t_numbers (x1 : Int32).toNatClampNeg) : Int64).toInt32) + x3) : Int32).toNatClampNeg) ls (lv_sub hl [1, 2, 4, 0] rfl) hm
              · have hm := mr_un c35 hm
                refine lv_iload hx hb dX9_isName_75 (lv_at hl 0 rfl) ?_
                refine lv_bipush (v := 57) hx hb dX9_isName_77 (by decide) ?_
                refine lv_icmp_gt (tgt := 86) hx hb dX9_isName_79 (by decide) (fun c36 => ?_) (fun c36 => ?_)
                · have hm := mr_if c36 hm
                  exact j86 x1 x3 (t_letters (((((t_numbers (x1 : Int32).toNatClampNeg) : Int64).toInt32) + x3) : Int32).toNatClampNeg) ls (lv_sub hl [1, 2, 4, 0] rfl) hm
                · have hm := mr_un c36 hm
                  refine lv_iconst (v := 1) hx hb dX9_isName_82 (by decide) ?_
                  refine lv_goto (tgt := 87) hx hb dX9_isName_83 (by decide) ?_
                  exact j87 x1 x3 (t_letters (((((t_numbers (x1 : Int32).toNatClampNeg) : Int64).toInt32) + x3) : Int32).toNatClampNeg) 1 ls (lv_sub hl [1, 2, 4, 0] rfl) hm
      refine lv_istore_n (lv' := [(3, .int 0), (2, .int 0), (0, .ref ob0), (1, .int a0)]) hx hb dX9_isName_37 rfl hl (by decide) rfl (fun ls hl => ?_)
      exact j38 sr_fuel a0 0 0 ls (lv_sub hl [2, 3, 1, 0] rfl) hm
    · have hm := mr_un c20 hm
      refine lv_aload_n hx hb dX9_isName_19 rfl (lv_at hl 0 rfl) ?_
      refine va_get (D := (dC, dI)) (ci := 0) (v := .ref tq_sizes) (C := RX9) (T := TX9) (N := 35) hx hb hts (inX9 _) hown hK hP 0 rfl rfl 11 (by decide) (hts _ (List.mem_cons_of_mem _ wf9_26)) (fun _ h9 => h9) rfl dX9_isName_20 ?_
      refine lv_iload_n hx hb dX9_isName_23 rfl (lv_at hl 1 rfl) ?_
      obtain ⟨h37, hm⟩ := mr_bd hm
      refine va_iald hx hb hK hP 3 0 rfl rfl h37 dX9_isName_24 ?_
      refine lv_bipush (v := 33) hx hb dX9_isName_25 (by decide) ?_
      refine lv_icmp_ge (tgt := 34) hx hb dX9_isName_27 (by decide) (fun c38 => ?_) (fun c38 => ?_)
      · have hm := mr_if c38 hm
        refine lv_iconst (v := 0) hx hb dX9_isName_34 (by decide) ?_
        refine lv_istore_n (lv' := [(2, .int 0), (0, .ref ob0), (1, .int a0)]) hx hb dX9_isName_35 rfl hl (by decide) rfl (fun ls hl => ?_)
        refine lv_iconst (v := 0) hx hb dX9_isName_36 (by decide) ?_
        have j38 : ∀ (n38 : Nat) (x1 : Int32) (x2 : Int32) (x3 : Int32) (ls : Array Slot), lv_has ls 6 [(0, .ref ob0), (1, .int x1), (2, .int x2), (3, .int x3)] → m_X9_isName_38 t_kinds t_numbers t_sizes t_letters n38 x1 x2 x3 = some res → W p l e (headSpec wsX9_isName (rmX9_isName 0 0)).room s m [.ref ob0, .int a0].toArray below meth c s.heap [] 0 0 Q0 (F0 m 38 ls []) := by
          intro n38
          induction n38 with
          | zero => intro x1 x2 x3 ls hl hm; exact nomatch (show (none : Option _) = some res from hm)
          | succ n38 ih38 =>
            intro x1 x2 x3 ls hl hm
            rw [m_X9_isName_38] at hm
            refine lv_iload_n hx hb dX9_isName_38 rfl (lv_at hl 3 rfl) ?_
            refine lv_aload_n hx hb dX9_isName_39 rfl (lv_at hl 0 rfl) ?_
            refine va_get (D := (dC, dI)) (ci := 0) (v := .ref tq_sizes) (C := RX9) (T := TX9) (N := 35) hx hb hts (inX9 _) hown hK hP 0 rfl rfl 11 (by decide) (hts _ (List.mem_cons_of_mem _ wf9_26)) (fun _ h9 => h9) rfl dX9_isName_40 ?_
            refine lv_iload_n hx hb dX9_isName_43 rfl (lv_at hl 1 rfl) ?_
            obtain ⟨h39, hm⟩ := mr_bd hm
            refine va_iald hx hb hK hP 3 0 rfl rfl h39 dX9_isName_44 ?_
            refine lv_icmp_ge (tgt := 145) hx hb dX9_isName_45 (by decide) (fun c40 => ?_) (fun c40 => ?_)
            · have hm := mr_if c40 hm
              refine lv_iload_n hx hb dX9_isName_145 rfl (lv_at hl 2 rfl) ?_
              obtain ⟨h41, hm⟩ := mr_bz hm
              obtain rfl := Option.some.inj hm
              subst hQ0
              exact W.zret (v := x2) hx hb hr h41 (fun t ht hW => ⟨rfl, ht⟩) (fun q h => by cases h) dX9_isName_146
            · have hm := mr_un c40 hm
              refine lv_iload_n hx hb dX9_isName_48 rfl (lv_at hl 2 rfl) ?_
              refine lv_if_eq (tgt := 145) hx hb dX9_isName_49 (by decide) (fun c42 => ?_) (fun c42 => ?_)
              · have hm := mr_if c42 hm
                refine lv_iload_n hx hb dX9_isName_145 rfl (lv_at hl 2 rfl) ?_
                obtain ⟨h43, hm⟩ := mr_bz hm
                obtain rfl := Option.some.inj hm
                subst hQ0
                exact W.zret (v := x2) hx hb hr h43 (fun t ht hW => ⟨rfl, ht⟩) (fun q h => by cases h) dX9_isName_146
              · have hm := mr_un c42 hm
                refine lv_aload_n hx hb dX9_isName_52 rfl (lv_at hl 0 rfl) ?_
                refine va_get (D := (dC, dI)) (ci := 0) (v := .ref tq_letters) (C := RX9) (T := TX9) (N := 35) hx hb hts (inX9 _) hown hK hP 0 rfl rfl 14 (by decide) (hts _ (List.mem_cons_of_mem _ wf9_35)) (fun _ h9 => h9) rfl dX9_isName_53 ?_
                refine lv_aload_n hx hb dX9_isName_56 rfl (lv_at hl 0 rfl) ?_
                refine va_get (D := (dC, dI)) (ci := 0) (v := .ref tq_numbers) (C := RX9) (T := TX9) (N := 35) hx hb hts (inX9 _) hown hK hP 0 rfl rfl 10 (by decide) (hts _ (List.mem_cons_of_mem _ wf9_22)) (fun _ h9 => h9) rfl dX9_isName_57 ?_
                refine lv_iload_n hx hb dX9_isName_60 rfl (lv_at hl 1 rfl) ?_
                obtain ⟨h44, hm⟩ := mr_bd hm
                refine va_lald hx hb hK hP 2 2 rfl rfl h44 dX9_isName_61 ?_
                refine lv_l2i hx hb dX9_isName_62 rfl ?_
                refine lv_iload_n hx hb dX9_isName_63 rfl (lv_at hl 3 rfl) ?_
                refine lv_iadd hx hb dX9_isName_64 ?_
                obtain ⟨h45, hm⟩ := mr_bd hm
                refine va_bald hx hb hK hP 4 1 rfl rfl h45 dX9_isName_65 ?_
                refine lv_istore (lv' := [(4, .int (t_letters (((((t_numbers (x1 : Int32).toNatClampNeg) : Int64).toInt32) + x3) : Int32).toNatClampNeg)), (0, .ref ob0), (1, .int x1), (2, .int x2), (3, .int x3)]) hx hb dX9_isName_66 hl (by decide) rfl (fun ls hl => ?_)
                refine lv_iload hx hb dX9_isName_68 (lv_at hl 0 rfl) ?_
                refine lv_bipush (v := 48) hx hb dX9_isName_70 (by decide) ?_
                have j87 : ∀ (x1 : Int32) (x3 : Int32) (x4 : Int32) (y0 : Int32) (ls : Array Slot), lv_has ls 6 [(0, .ref ob0), (1, .int x1), (3, .int x3), (4, .int x4)] → m_X9_isName_87 t_kinds t_numbers t_sizes t_letters (m_X9_isName_38 t_kinds t_numbers t_sizes t_letters n38) x1 x3 x4 y0 = some res → W p l e (headSpec wsX9_isName (rmX9_isName 0 0)).room s m [.ref ob0, .int a0].toArray below meth c s.heap [] 0 0 Q0 (F0 m 87 ls [.int y0]) := by
                  intro x1 x3 x4 y0 ls hl hm
                  unfold m_X9_isName_87 at hm
                  refine lv_istore (lv' := [(5, .int y0), (0, .ref ob0), (1, .int x1), (3, .int x3), (4, .int x4)]) hx hb dX9_isName_87 hl (by decide) rfl (fun ls hl => ?_)
                  refine lv_iload hx hb dX9_isName_89 (lv_at hl 4 rfl) ?_
                  refine lv_bipush (v := 97) hx hb dX9_isName_91 (by decide) ?_
                  have j133 : ∀ (x1 : Int32) (x3 : Int32) (ls : Array Slot), lv_has ls 6 [(0, .ref ob0), (1, .int x1), (3, .int x3)] → m_X9_isName_133 t_kinds t_numbers t_sizes t_letters (m_X9_isName_38 t_kinds t_numbers t_sizes t_letters n38) x1 x3 = some res → W p l e (headSpec wsX9_isName (rmX9_isName 0 0)).room s m [.ref ob0, .int a0].toArray below meth c s.heap [] 0 0 Q0 (F0 m 133 ls []) := by
                    intro x1 x3 ls hl hm
                    unfold m_X9_isName_133 at hm
                    refine lv_iconst (v := 1) hx hb dX9_isName_133 (by decide) ?_
                    refine lv_goto (tgt := 138) hx hb dX9_isName_134 (by decide) ?_
                    refine lv_istore_n (lv' := [(2, .int 1), (0, .ref ob0), (1, .int x1), (3, .int x3)]) hx hb dX9_isName_138 rfl hl (by decide) rfl (fun ls hl => ?_)
                    refine lv_iinc (v := x3 + 1) (lv' := [(3, .int (x3 + 1)), (2, .int 1), (0, .ref ob0), (1, .int x1)]) hx hb dX9_isName_139 hl (k := 3) rfl rfl (by decide) rfl (fun ls hl => ?_)
                    refine lv_goto (tgt := 38) hx hb dX9_isName_142 (by decide) ?_
                    exact ih38 x1 1 (x3 + 1) ls (lv_sub hl [2, 3, 1, 0] rfl) hm
                  have j103 : ∀ (x1 : Int32) (x3 : Int32) (x4 : Int32) (x5 : Int32) (ls : Array Slot), lv_has ls 6 [(0, .ref ob0), (1, .int x1), (3, .int x3), (4, .int x4), (5, .int x5)] → m_X9_isName_103 t_kinds t_numbers t_sizes t_letters (m_X9_isName_38 t_kinds t_numbers t_sizes t_letters n38) x1 x3 x4 x5 = some res → W p l e (headSpec wsX9_isName (rmX9_isName 0 0)).room s m [.ref ob0, .int a0].toArray below meth c s.heap [] 0 0 Q0 (F0 m 103 ls []) := by
                    intro x1 x3 x4 x5 ls hl hm
                    unfold m_X9_isName_103 at hm
                    refine lv_iload hx hb dX9_isName_103 (lv_at hl 3 rfl) ?_
                    refine lv_bipush (v := 65) hx hb dX9_isName_105 (by decide) ?_
                    have j117 : ∀ (x1 : Int32) (x3 : Int32) (x4 : Int32) (x5 : Int32) (ls : Array Slot), lv_has ls 6 [(0, .ref ob0), (1, .int x1), (3, .int x3), (4, .int x4), (5, .int x5)] → m_X9_isName_117 t_kinds t_numbers t_sizes t_letters (m_X9_isName_38 t_kinds t_numbers t_sizes t_letters n38) x1 x3 x4 x5 = some res → W p l e (headSpec wsX9_isName (rmX9_isName 0 0)).room s m [.ref ob0, .int a0].toArray below meth c s.heap [] 0 0 Q0 (F0 m 117 ls []) := by
                      intro x1 x3 x4 x5 ls hl hm
                      unfold m_X9_isName_117 at hm
                      refine lv_iload hx hb dX9_isName_117 (lv_at hl 3 rfl) ?_
                      refine lv_bipush (v := 95) hx hb dX9_isName_119 (by decide) ?_
                      refine lv_icmp_eq (tgt := 133) hx hb dX9_isName_121 (by decide) (fun c46 => ?_) (fun c46 => ?_)
                      · have hm := mr_if c46 hm
                        exact j133 x1 x3 ls (lv_sub hl [0, 1, 2] rfl) hm
                      · have hm := mr_un c46 hm
                        refine lv_iload hx hb dX9_isName_124 (lv_at hl 4 rfl) ?_
                        refine lv_if_eq (tgt := 137) hx hb dX9_isName_126 (by decide) (fun c47 => ?_) (fun c47 => ?_)
                        · have hm := mr_if c47 hm
                          refine lv_iconst (v := 0) hx hb dX9_isName_137 (by decide) ?_
                          refine lv_istore_n (lv' := [(2, .int 0), (0, .ref ob0), (1, .int x1), (3, .int x3), (4, .int x4), (5, .int x5)]) hx hb dX9_isName_138 rfl hl (by decide) rfl (fun ls hl => ?_)
                          refine lv_iinc (v := x3 + 1) (lv' := [(3, .int (x3 + 1)), (2, .int 0), (0, .ref ob0), (1, .int x1), (4, .int x4), (5, .int x5)]) hx hb dX9_isName_139 hl (k := 3) rfl rfl (by decide) rfl (fun ls hl => ?_)
                          refine lv_goto (tgt := 38) hx hb dX9_isName_142 (by decide) ?_
                          exact ih38 x1 0 (x3 + 1) ls (lv_sub hl [2, 3, 1, 0] rfl) hm
                        · have hm := mr_un c47 hm
                          refine lv_iload_n hx hb dX9_isName_129 rfl (lv_at hl 2 rfl) ?_
                          refine lv_if_le (tgt := 137) hx hb dX9_isName_130 (by decide) (fun c48 => ?_) (fun c48 => ?_)
                          · have hm := mr_if c48 hm
                            refine lv_iconst (v := 0) hx hb dX9_isName_137 (by decide) ?_
                            refine lv_istore_n (lv' := [(2, .int 0), (0, .ref ob0), (1, .int x1), (3, .int x3), (4, .int x4), (5, .int x5)]) hx hb dX9_isName_138 rfl hl (by decide) rfl (fun ls hl => ?_)
                            refine lv_iinc (v := x3 + 1) (lv' := [(3, .int (x3 + 1)), (2, .int 0), (0, .ref ob0), (1, .int x1), (4, .int x4), (5, .int x5)]) hx hb dX9_isName_139 hl (k := 3) rfl rfl (by decide) rfl (fun ls hl => ?_)
                            refine lv_goto (tgt := 38) hx hb dX9_isName_142 (by decide) ?_
                            exact ih38 x1 0 (x3 + 1) ls (lv_sub hl [2, 3, 1, 0] rfl) hm
                          · have hm := mr_un c48 hm
                            exact j133 x1 x3 ls (lv_sub hl [0, 1, 2] rfl) hm
                    refine lv_icmp_lt (tgt := 117) hx hb dX9_isName_107 (by decide) (fun c49 => ?_) (fun c49 => ?_)
                    · have hm := mr_if c49 hm
                      exact j117 x1 x3 x4 x5 ls (lv_sub hl [0, 1, 2, 3, 4] rfl) hm
                    · have hm := mr_un c49 hm
                      refine lv_iload hx hb dX9_isName_110 (lv_at hl 3 rfl) ?_
                      refine lv_bipush (v := 90) hx hb dX9_isName_112 (by decide) ?_
                      refine lv_icmp_le (tgt := 133) hx hb dX9_isName_114 (by decide) (fun c50 => ?_) (fun c50 => ?_)
                      · have hm := mr_if c50 hm
                        exact j133 x1 x3 ls (lv_sub hl [0, 1, 2] rfl) hm
                      · have hm := mr_un c50 hm
                        exact j117 x1 x3 x4 x5 ls (lv_sub hl [0, 1, 2, 3, 4] rfl) hm
                  refine lv_icmp_lt (tgt := 103) hx hb dX9_isName_93 (by decide) (fun c51 => ?_) (fun c51 => ?_)
                  · have hm := mr_if c51 hm
                    exact j103 x1 x3 x4 y0 ls (lv_sub hl [1, 2, 3, 4, 0] rfl) hm
                  · have hm := mr_un c51 hm
                    refine lv_iload hx hb dX9_isName_96 (lv_at hl 4 rfl) ?_
                    refine lv_bipush (v := 122) hx hb dX9_isName_98 (by decide) ?_
                    refine lv_icmp_le (tgt := 133) hx hb dX9_isName_100 (by decide) (fun c52 => ?_) (fun c52 => ?_)
                    · have hm := mr_if c52 hm
                      exact j133 x1 x3 ls (lv_sub hl [1, 2, 3] rfl) hm
                    · have hm := mr_un c52 hm
                      exact j103 x1 x3 x4 y0 ls (lv_sub hl [1, 2, 3, 4, 0] rfl) hm
                have j86 : ∀ (x1 : Int32) (x3 : Int32) (x4 : Int32) (ls : Array Slot), lv_has ls 6 [(0, .ref ob0), (1, .int x1), (3, .int x3), (4, .int x4)] → m_X9_isName_86 t_kinds t_numbers t_sizes t_letters (m_X9_isName_38 t_kinds t_numbers t_sizes t_letters n38) x1 x3 x4 = some res → W p l e (headSpec wsX9_isName (rmX9_isName 0 0)).room s m [.ref ob0, .int a0].toArray below meth c s.heap [] 0 0 Q0 (F0 m 86 ls []) := by
                  intro x1 x3 x4 ls hl hm
                  unfold m_X9_isName_86 at hm
                  refine lv_iconst (v := 0) hx hb dX9_isName_86 (by decide) ?_
                  exact j87 x1 x3 x4 0 ls (lv_sub hl [0, 1, 2, 3] rfl) hm
                refine lv_icmp_lt (tgt := 86) hx hb dX9_isName_72 (by decide) (fun c53 => ?_) (fun c53 => ?_)
                · have hm := mr_if c53 hm
                  exact j86 x1 x3 (t_letters (((((t_numbers (x1 : Int32).toNatClampNeg) : Int64).toInt32) + x3) : Int32).toNatClampNeg) ls (lv_sub hl [1, 2, 4, 0] rfl) hm
                · have hm := mr_un c53 hm
                  refine lv_iload hx hb dX9_isName_75 (lv_at hl 0 rfl) ?_
                  refine lv_bipush (v := 57) hx hb dX9_isName_77 (by decide) ?_
                  refine lv_icmp_gt (tgt := 86) hx hb dX9_isName_79 (by decide) (fun c54 => ?_) (fun c54 => ?_)
                  · have hm := mr_if c54 hm
                    exact j86 x1 x3 (t_letters (((((t_numbers (x1 : Int32).toNatClampNeg) : Int64).toInt32) + x3) : Int32).toNatClampNeg) ls (lv_sub hl [1, 2, 4, 0] rfl) hm
                  · have hm := mr_un c54 hm
                    refine lv_iconst (v := 1) hx hb dX9_isName_82 (by decide) ?_
                    refine lv_goto (tgt := 87) hx hb dX9_isName_83 (by decide) ?_
                    exact j87 x1 x3 (t_letters (((((t_numbers (x1 : Int32).toNatClampNeg) : Int64).toInt32) + x3) : Int32).toNatClampNeg) 1 ls (lv_sub hl [1, 2, 4, 0] rfl) hm
        refine lv_istore_n (lv' := [(3, .int 0), (2, .int 0), (0, .ref ob0), (1, .int a0)]) hx hb dX9_isName_37 rfl hl (by decide) rfl (fun ls hl => ?_)
        exact j38 sr_fuel a0 0 0 ls (lv_sub hl [2, 3, 1, 0] rfl) hm
      · have hm := mr_un c38 hm
        refine lv_iconst (v := 1) hx hb dX9_isName_30 (by decide) ?_
        refine lv_goto (tgt := 35) hx hb dX9_isName_31 (by decide) ?_
        refine lv_istore_n (lv' := [(2, .int 1), (0, .ref ob0), (1, .int a0)]) hx hb dX9_isName_35 rfl hl (by decide) rfl (fun ls hl => ?_)
        refine lv_iconst (v := 0) hx hb dX9_isName_36 (by decide) ?_
        have j38 : ∀ (n38 : Nat) (x1 : Int32) (x2 : Int32) (x3 : Int32) (ls : Array Slot), lv_has ls 6 [(0, .ref ob0), (1, .int x1), (2, .int x2), (3, .int x3)] → m_X9_isName_38 t_kinds t_numbers t_sizes t_letters n38 x1 x2 x3 = some res → W p l e (headSpec wsX9_isName (rmX9_isName 0 0)).room s m [.ref ob0, .int a0].toArray below meth c s.heap [] 0 0 Q0 (F0 m 38 ls []) := by
          intro n38
          induction n38 with
          | zero => intro x1 x2 x3 ls hl hm; exact nomatch (show (none : Option _) = some res from hm)
          | succ n38 ih38 =>
            intro x1 x2 x3 ls hl hm
            rw [m_X9_isName_38] at hm
            refine lv_iload_n hx hb dX9_isName_38 rfl (lv_at hl 3 rfl) ?_
            refine lv_aload_n hx hb dX9_isName_39 rfl (lv_at hl 0 rfl) ?_
            refine va_get (D := (dC, dI)) (ci := 0) (v := .ref tq_sizes) (C := RX9) (T := TX9) (N := 35) hx hb hts (inX9 _) hown hK hP 0 rfl rfl 11 (by decide) (hts _ (List.mem_cons_of_mem _ wf9_26)) (fun _ h9 => h9) rfl dX9_isName_40 ?_
            refine lv_iload_n hx hb dX9_isName_43 rfl (lv_at hl 1 rfl) ?_
            obtain ⟨h55, hm⟩ := mr_bd hm
            refine va_iald hx hb hK hP 3 0 rfl rfl h55 dX9_isName_44 ?_
            refine lv_icmp_ge (tgt := 145) hx hb dX9_isName_45 (by decide) (fun c56 => ?_) (fun c56 => ?_)
            · have hm := mr_if c56 hm
              refine lv_iload_n hx hb dX9_isName_145 rfl (lv_at hl 2 rfl) ?_
              obtain ⟨h57, hm⟩ := mr_bz hm
              obtain rfl := Option.some.inj hm
              subst hQ0
              exact W.zret (v := x2) hx hb hr h57 (fun t ht hW => ⟨rfl, ht⟩) (fun q h => by cases h) dX9_isName_146
            · have hm := mr_un c56 hm
              refine lv_iload_n hx hb dX9_isName_48 rfl (lv_at hl 2 rfl) ?_
              refine lv_if_eq (tgt := 145) hx hb dX9_isName_49 (by decide) (fun c58 => ?_) (fun c58 => ?_)
              · have hm := mr_if c58 hm
                refine lv_iload_n hx hb dX9_isName_145 rfl (lv_at hl 2 rfl) ?_
                obtain ⟨h59, hm⟩ := mr_bz hm
                obtain rfl := Option.some.inj hm
                subst hQ0
                exact W.zret (v := x2) hx hb hr h59 (fun t ht hW => ⟨rfl, ht⟩) (fun q h => by cases h) dX9_isName_146
              · have hm := mr_un c58 hm
                refine lv_aload_n hx hb dX9_isName_52 rfl (lv_at hl 0 rfl) ?_
                refine va_get (D := (dC, dI)) (ci := 0) (v := .ref tq_letters) (C := RX9) (T := TX9) (N := 35) hx hb hts (inX9 _) hown hK hP 0 rfl rfl 14 (by decide) (hts _ (List.mem_cons_of_mem _ wf9_35)) (fun _ h9 => h9) rfl dX9_isName_53 ?_
                refine lv_aload_n hx hb dX9_isName_56 rfl (lv_at hl 0 rfl) ?_
                refine va_get (D := (dC, dI)) (ci := 0) (v := .ref tq_numbers) (C := RX9) (T := TX9) (N := 35) hx hb hts (inX9 _) hown hK hP 0 rfl rfl 10 (by decide) (hts _ (List.mem_cons_of_mem _ wf9_22)) (fun _ h9 => h9) rfl dX9_isName_57 ?_
                refine lv_iload_n hx hb dX9_isName_60 rfl (lv_at hl 1 rfl) ?_
                obtain ⟨h60, hm⟩ := mr_bd hm
                refine va_lald hx hb hK hP 2 2 rfl rfl h60 dX9_isName_61 ?_
                refine lv_l2i hx hb dX9_isName_62 rfl ?_
                refine lv_iload_n hx hb dX9_isName_63 rfl (lv_at hl 3 rfl) ?_
                refine lv_iadd hx hb dX9_isName_64 ?_
                obtain ⟨h61, hm⟩ := mr_bd hm
                refine va_bald hx hb hK hP 4 1 rfl rfl h61 dX9_isName_65 ?_
                refine lv_istore (lv' := [(4, .int (t_letters (((((t_numbers (x1 : Int32).toNatClampNeg) : Int64).toInt32) + x3) : Int32).toNatClampNeg)), (0, .ref ob0), (1, .int x1), (2, .int x2), (3, .int x3)]) hx hb dX9_isName_66 hl (by decide) rfl (fun ls hl => ?_)
                refine lv_iload hx hb dX9_isName_68 (lv_at hl 0 rfl) ?_
                refine lv_bipush (v := 48) hx hb dX9_isName_70 (by decide) ?_
                have j87 : ∀ (x1 : Int32) (x3 : Int32) (x4 : Int32) (y0 : Int32) (ls : Array Slot), lv_has ls 6 [(0, .ref ob0), (1, .int x1), (3, .int x3), (4, .int x4)] → m_X9_isName_87 t_kinds t_numbers t_sizes t_letters (m_X9_isName_38 t_kinds t_numbers t_sizes t_letters n38) x1 x3 x4 y0 = some res → W p l e (headSpec wsX9_isName (rmX9_isName 0 0)).room s m [.ref ob0, .int a0].toArray below meth c s.heap [] 0 0 Q0 (F0 m 87 ls [.int y0]) := by
                  intro x1 x3 x4 y0 ls hl hm
                  unfold m_X9_isName_87 at hm
                  refine lv_istore (lv' := [(5, .int y0), (0, .ref ob0), (1, .int x1), (3, .int x3), (4, .int x4)]) hx hb dX9_isName_87 hl (by decide) rfl (fun ls hl => ?_)
                  refine lv_iload hx hb dX9_isName_89 (lv_at hl 4 rfl) ?_
                  refine lv_bipush (v := 97) hx hb dX9_isName_91 (by decide) ?_
                  have j133 : ∀ (x1 : Int32) (x3 : Int32) (ls : Array Slot), lv_has ls 6 [(0, .ref ob0), (1, .int x1), (3, .int x3)] → m_X9_isName_133 t_kinds t_numbers t_sizes t_letters (m_X9_isName_38 t_kinds t_numbers t_sizes t_letters n38) x1 x3 = some res → W p l e (headSpec wsX9_isName (rmX9_isName 0 0)).room s m [.ref ob0, .int a0].toArray below meth c s.heap [] 0 0 Q0 (F0 m 133 ls []) := by
                    intro x1 x3 ls hl hm
                    unfold m_X9_isName_133 at hm
                    refine lv_iconst (v := 1) hx hb dX9_isName_133 (by decide) ?_
                    refine lv_goto (tgt := 138) hx hb dX9_isName_134 (by decide) ?_
                    refine lv_istore_n (lv' := [(2, .int 1), (0, .ref ob0), (1, .int x1), (3, .int x3)]) hx hb dX9_isName_138 rfl hl (by decide) rfl (fun ls hl => ?_)
                    refine lv_iinc (v := x3 + 1) (lv' := [(3, .int (x3 + 1)), (2, .int 1), (0, .ref ob0), (1, .int x1)]) hx hb dX9_isName_139 hl (k := 3) rfl rfl (by decide) rfl (fun ls hl => ?_)
                    refine lv_goto (tgt := 38) hx hb dX9_isName_142 (by decide) ?_
                    exact ih38 x1 1 (x3 + 1) ls (lv_sub hl [2, 3, 1, 0] rfl) hm
                  have j103 : ∀ (x1 : Int32) (x3 : Int32) (x4 : Int32) (x5 : Int32) (ls : Array Slot), lv_has ls 6 [(0, .ref ob0), (1, .int x1), (3, .int x3), (4, .int x4), (5, .int x5)] → m_X9_isName_103 t_kinds t_numbers t_sizes t_letters (m_X9_isName_38 t_kinds t_numbers t_sizes t_letters n38) x1 x3 x4 x5 = some res → W p l e (headSpec wsX9_isName (rmX9_isName 0 0)).room s m [.ref ob0, .int a0].toArray below meth c s.heap [] 0 0 Q0 (F0 m 103 ls []) := by
                    intro x1 x3 x4 x5 ls hl hm
                    unfold m_X9_isName_103 at hm
                    refine lv_iload hx hb dX9_isName_103 (lv_at hl 3 rfl) ?_
                    refine lv_bipush (v := 65) hx hb dX9_isName_105 (by decide) ?_
                    have j117 : ∀ (x1 : Int32) (x3 : Int32) (x4 : Int32) (x5 : Int32) (ls : Array Slot), lv_has ls 6 [(0, .ref ob0), (1, .int x1), (3, .int x3), (4, .int x4), (5, .int x5)] → m_X9_isName_117 t_kinds t_numbers t_sizes t_letters (m_X9_isName_38 t_kinds t_numbers t_sizes t_letters n38) x1 x3 x4 x5 = some res → W p l e (headSpec wsX9_isName (rmX9_isName 0 0)).room s m [.ref ob0, .int a0].toArray below meth c s.heap [] 0 0 Q0 (F0 m 117 ls []) := by
                      intro x1 x3 x4 x5 ls hl hm
                      unfold m_X9_isName_117 at hm
                      refine lv_iload hx hb dX9_isName_117 (lv_at hl 3 rfl) ?_
                      refine lv_bipush (v := 95) hx hb dX9_isName_119 (by decide) ?_
                      refine lv_icmp_eq (tgt := 133) hx hb dX9_isName_121 (by decide) (fun c62 => ?_) (fun c62 => ?_)
                      · have hm := mr_if c62 hm
                        exact j133 x1 x3 ls (lv_sub hl [0, 1, 2] rfl) hm
                      · have hm := mr_un c62 hm
                        refine lv_iload hx hb dX9_isName_124 (lv_at hl 4 rfl) ?_
                        refine lv_if_eq (tgt := 137) hx hb dX9_isName_126 (by decide) (fun c63 => ?_) (fun c63 => ?_)
                        · have hm := mr_if c63 hm
                          refine lv_iconst (v := 0) hx hb dX9_isName_137 (by decide) ?_
                          refine lv_istore_n (lv' := [(2, .int 0), (0, .ref ob0), (1, .int x1), (3, .int x3), (4, .int x4), (5, .int x5)]) hx hb dX9_isName_138 rfl hl (by decide) rfl (fun ls hl => ?_)
                          refine lv_iinc (v := x3 + 1) (lv' := [(3, .int (x3 + 1)), (2, .int 0), (0, .ref ob0), (1, .int x1), (4, .int x4), (5, .int x5)]) hx hb dX9_isName_139 hl (k := 3) rfl rfl (by decide) rfl (fun ls hl => ?_)
                          refine lv_goto (tgt := 38) hx hb dX9_isName_142 (by decide) ?_
                          exact ih38 x1 0 (x3 + 1) ls (lv_sub hl [2, 3, 1, 0] rfl) hm
                        · have hm := mr_un c63 hm
                          refine lv_iload_n hx hb dX9_isName_129 rfl (lv_at hl 2 rfl) ?_
                          refine lv_if_le (tgt := 137) hx hb dX9_isName_130 (by decide) (fun c64 => ?_) (fun c64 => ?_)
                          · have hm := mr_if c64 hm
                            refine lv_iconst (v := 0) hx hb dX9_isName_137 (by decide) ?_
                            refine lv_istore_n (lv' := [(2, .int 0), (0, .ref ob0), (1, .int x1), (3, .int x3), (4, .int x4), (5, .int x5)]) hx hb dX9_isName_138 rfl hl (by decide) rfl (fun ls hl => ?_)
                            refine lv_iinc (v := x3 + 1) (lv' := [(3, .int (x3 + 1)), (2, .int 0), (0, .ref ob0), (1, .int x1), (4, .int x4), (5, .int x5)]) hx hb dX9_isName_139 hl (k := 3) rfl rfl (by decide) rfl (fun ls hl => ?_)
                            refine lv_goto (tgt := 38) hx hb dX9_isName_142 (by decide) ?_
                            exact ih38 x1 0 (x3 + 1) ls (lv_sub hl [2, 3, 1, 0] rfl) hm
                          · have hm := mr_un c64 hm
                            exact j133 x1 x3 ls (lv_sub hl [0, 1, 2] rfl) hm
                    refine lv_icmp_lt (tgt := 117) hx hb dX9_isName_107 (by decide) (fun c65 => ?_) (fun c65 => ?_)
                    · have hm := mr_if c65 hm
                      exact j117 x1 x3 x4 x5 ls (lv_sub hl [0, 1, 2, 3, 4] rfl) hm
                    · have hm := mr_un c65 hm
                      refine lv_iload hx hb dX9_isName_110 (lv_at hl 3 rfl) ?_
                      refine lv_bipush (v := 90) hx hb dX9_isName_112 (by decide) ?_
                      refine lv_icmp_le (tgt := 133) hx hb dX9_isName_114 (by decide) (fun c66 => ?_) (fun c66 => ?_)
                      · have hm := mr_if c66 hm
                        exact j133 x1 x3 ls (lv_sub hl [0, 1, 2] rfl) hm
                      · have hm := mr_un c66 hm
                        exact j117 x1 x3 x4 x5 ls (lv_sub hl [0, 1, 2, 3, 4] rfl) hm
                  refine lv_icmp_lt (tgt := 103) hx hb dX9_isName_93 (by decide) (fun c67 => ?_) (fun c67 => ?_)
                  · have hm := mr_if c67 hm
                    exact j103 x1 x3 x4 y0 ls (lv_sub hl [1, 2, 3, 4, 0] rfl) hm
                  · have hm := mr_un c67 hm
                    refine lv_iload hx hb dX9_isName_96 (lv_at hl 4 rfl) ?_
                    refine lv_bipush (v := 122) hx hb dX9_isName_98 (by decide) ?_
                    refine lv_icmp_le (tgt := 133) hx hb dX9_isName_100 (by decide) (fun c68 => ?_) (fun c68 => ?_)
                    · have hm := mr_if c68 hm
                      exact j133 x1 x3 ls (lv_sub hl [1, 2, 3] rfl) hm
                    · have hm := mr_un c68 hm
                      exact j103 x1 x3 x4 y0 ls (lv_sub hl [1, 2, 3, 4, 0] rfl) hm
                have j86 : ∀ (x1 : Int32) (x3 : Int32) (x4 : Int32) (ls : Array Slot), lv_has ls 6 [(0, .ref ob0), (1, .int x1), (3, .int x3), (4, .int x4)] → m_X9_isName_86 t_kinds t_numbers t_sizes t_letters (m_X9_isName_38 t_kinds t_numbers t_sizes t_letters n38) x1 x3 x4 = some res → W p l e (headSpec wsX9_isName (rmX9_isName 0 0)).room s m [.ref ob0, .int a0].toArray below meth c s.heap [] 0 0 Q0 (F0 m 86 ls []) := by
                  intro x1 x3 x4 ls hl hm
                  unfold m_X9_isName_86 at hm
                  refine lv_iconst (v := 0) hx hb dX9_isName_86 (by decide) ?_
                  exact j87 x1 x3 x4 0 ls (lv_sub hl [0, 1, 2, 3] rfl) hm
                refine lv_icmp_lt (tgt := 86) hx hb dX9_isName_72 (by decide) (fun c69 => ?_) (fun c69 => ?_)
                · have hm := mr_if c69 hm
                  exact j86 x1 x3 (t_letters (((((t_numbers (x1 : Int32).toNatClampNeg) : Int64).toInt32) + x3) : Int32).toNatClampNeg) ls (lv_sub hl [1, 2, 4, 0] rfl) hm
                · have hm := mr_un c69 hm
                  refine lv_iload hx hb dX9_isName_75 (lv_at hl 0 rfl) ?_
                  refine lv_bipush (v := 57) hx hb dX9_isName_77 (by decide) ?_
                  refine lv_icmp_gt (tgt := 86) hx hb dX9_isName_79 (by decide) (fun c70 => ?_) (fun c70 => ?_)
                  · have hm := mr_if c70 hm
                    exact j86 x1 x3 (t_letters (((((t_numbers (x1 : Int32).toNatClampNeg) : Int64).toInt32) + x3) : Int32).toNatClampNeg) ls (lv_sub hl [1, 2, 4, 0] rfl) hm
                  · have hm := mr_un c70 hm
                    refine lv_iconst (v := 1) hx hb dX9_isName_82 (by decide) ?_
                    refine lv_goto (tgt := 87) hx hb dX9_isName_83 (by decide) ?_
                    exact j87 x1 x3 (t_letters (((((t_numbers (x1 : Int32).toNatClampNeg) : Int64).toInt32) + x3) : Int32).toNatClampNeg) 1 ls (lv_sub hl [1, 2, 4, 0] rfl) hm
        refine lv_istore_n (lv' := [(3, .int 0), (2, .int 1), (0, .ref ob0), (1, .int a0)]) hx hb dX9_isName_37 rfl hl (by decide) rfl (fun ls hl => ?_)
        exact j38 sr_fuel a0 1 0 ls (lv_sub hl [2, 3, 1, 0] rfl) hm
set_option maxHeartbeats 4000000 in
set_option maxRecDepth 100000 in
theorem kX9_memberLike (l : Launch) (htr : l.stackTraces = false) (dC : Nat → ClassId) (dI : Nat → Nat → Nat) (adK adV : Nat → Nat) (cI cB cJ cZ cQ : ClassId) (ob0 tq_bytes tq_kinds tq_firsts tq_numbers tq_sizes tq_inner tq_nexts tq_letters tq_sorts tq_names tq_wide tq_kids tq_many tq_fallback tq_kidShape tq_kidName tq_kidDefault tq_kidNext tq_finished tq_plain tq_told : Nat) (t_length : Int32) (t_at : Int32) (t_deep : Int32) (t_fault : Int32) (t_place : Int32) (t_end : Int32) (t_nodes : Int32) (t_lettered : Int32) (t_shapes : Int32) (t_looked : Int32) (t_kidCount : Int32) (t_done : Int32) (t_root : Int32) (t_plainSize : Int32) (t_numbers : Nat → Int64) (t_sizes : Nat → Int32) (t_inner : Nat → Int32) (t_nexts : Nat → Int32) (t_letters : Nat → Int32) (a0 : Int32) (a1 : Int32) (res : Int32) (hm : m_X9_memberLike t_numbers t_sizes t_inner t_nexts t_letters a0 a1 = some res) : Met l yX9_memberLike wsX9_memberLike (rmX9_memberLike 0 0) (pcR (sr_Z adK adV) (dC, dI) srCl [(cI, .int), (cB, .byte), (cJ, .long), (cZ, .boolean), (cQ, .object "SchemaReader$Schema")] [.ref ob0, .int a0, .int a1] [(ob0, .inr (0, [.ref tq_bytes, .int t_length, .int t_at, .int t_deep, .int t_fault, .int t_place, .int t_end, .int t_nodes, .ref tq_kinds, .ref tq_firsts, .ref tq_numbers, .ref tq_sizes, .ref tq_inner, .ref tq_nexts, .ref tq_letters, .int t_lettered, .int t_shapes, .int t_looked, .ref tq_sorts, .ref tq_names, .ref tq_wide, .ref tq_kids, .ref tq_many, .ref tq_fallback, .int t_kidCount, .ref tq_kidShape, .ref tq_kidName, .ref tq_kidDefault, .ref tq_kidNext, .int t_done, .ref tq_finished, .int t_root, .ref tq_plain, .int t_plainSize, .ref tq_told])), (tq_numbers, .inl (cJ, 4200, .inr (.inl t_numbers))), (tq_sizes, .inl (cI, 4200, .inl t_sizes)), (tq_inner, .inl (cI, 4200, .inl t_inner)), (tq_nexts, .inl (cI, 4200, .inl t_nexts)), (tq_letters, .inl (cB, 4200, .inl t_letters))]) (k2_QcV (.int res)) 0 0 (fun _ => False) := by
  refine Met.ofW (cc := cX9_memberLike) (maxL := 4) (ret := (some .int)) (by decide) rfl ?_
  intro p e s m args below meth c s₁ B hml hv
  obtain ⟨rfl, hP, hK, hz0⟩ := hv
  have hx := B.exec
  have hb := B.bytes
  have hr := B.returns
  have hts := atoms_spec (ws := wsX9_memberLike) B.pre
  have hown : s.vm.findClass RX9 = some m.cls := findClass_of_methodNamed B.named
  have hlocks := B.notSynchronized
  have hS : va_S (fun _ => False) s.heap s.heap [] := va_S.rf
  generalize hQ0 : MQ below (k2_QcV (.int res)) [.ref ob0, .int a0, .int a1].toArray s 0 0 (fun _ => False) = Q0
  have hl := lv_entry [.ref ob0, .int a0, .int a1] (n := 4) (Nat.le_of_ble_eq_true rfl)
  rw [lg_entry_eq]
  generalize (lg_sl [.ref ob0, .int a0, .int a1] ++ List.replicate (4 - (lg_sl [.ref ob0, .int a0, .int a1]).length) Slot.unset).toArray = ls at hl ⊢
  have hl : lv_has ls 4 [(0, .ref ob0), (1, .int a0), (2, .int a1)] := hl
  unfold m_X9_memberLike at hm
  refine lv_aload_n hx hb dX9_memberLike_0 rfl (lv_at hl 0 rfl) ?_
  refine va_get (D := (dC, dI)) (ci := 0) (v := .ref tq_inner) (C := RX9) (T := TX9) (N := 35) hx hb hts (inX9 _) hown hK hP 0 rfl rfl 12 (by decide) (hts _ (List.mem_cons_of_mem _ wf9_29)) (fun _ h9 => h9) rfl dX9_memberLike_1 ?_
  refine lv_iload_n hx hb dX9_memberLike_4 rfl (lv_at hl 1 rfl) ?_
  obtain ⟨h1, hm⟩ := mr_bd hm
  refine va_iald hx hb hK hP 3 0 rfl rfl h1 dX9_memberLike_5 ?_
  have j7 : ∀ (n7 : Nat) (x2 : Int32) (x3 : Int32) (ls : Array Slot), lv_has ls 4 [(0, .ref ob0), (2, .int x2), (3, .int x3)] → m_X9_memberLike_7 t_numbers t_sizes t_inner t_nexts t_letters n7 x2 x3 = some res → W p l e (headSpec wsX9_memberLike (rmX9_memberLike 0 0)).room s m [.ref ob0, .int a0, .int a1].toArray below meth c s.heap [] 0 0 Q0 (F0 m 7 ls []) := by
    intro n7
    induction n7 with
    | zero => intro x2 x3 ls hl hm; exact nomatch (show (none : Option _) = some res from hm)
    | succ n7 ih7 =>
      intro x2 x3 ls hl hm
      rw [m_X9_memberLike_7] at hm
      refine lv_iload_n hx hb dX9_memberLike_7 rfl (lv_at hl 2 rfl) ?_
      refine lv_if_lt (tgt := 43) hx hb dX9_memberLike_8 (by decide) (fun c2 => ?_) (fun c2 => ?_)
      · have hm := mr_if c2 hm
        refine lv_iconst (v := -1) hx hb dX9_memberLike_43 (by decide) ?_
        obtain rfl := Option.some.inj hm
        subst hQ0
        exact W.iret (v := (-1)) hx hb hr (fun t ht hW => ⟨rfl, ht⟩) (fun q h => by cases h) dX9_memberLike_44
      · have hm := mr_un c2 hm
        refine lv_aload_n hx hb dX9_memberLike_11 rfl (lv_at hl 0 rfl) ?_
        refine lv_iload_n hx hb dX9_memberLike_12 rfl (lv_at hl 2 rfl) ?_
        refine lv_aload_n hx hb dX9_memberLike_13 rfl (lv_at hl 0 rfl) ?_
        refine lv_iload_n hx hb dX9_memberLike_14 rfl (lv_at hl 1 rfl) ?_
        obtain ⟨r3, hz3, hm⟩ := mr_bind hm
        refine mr_pV (As := [.int x3, .ref ob0, .int x2]) (rest := []) (sr_okZ adK adV) ⟨hx, hb, hml, hown, hts⟩ (kX9_same l htr dC dI adK adV cI cB cJ cZ cQ ob0 tq_bytes tq_kinds tq_firsts tq_numbers tq_sizes tq_inner tq_nexts tq_letters tq_sorts tq_names tq_wide tq_kids tq_many tq_fallback tq_kidShape tq_kidName tq_kidDefault tq_kidNext tq_finished tq_plain tq_told ob0 tq_bytes tq_kinds tq_firsts tq_numbers tq_sizes tq_inner tq_nexts tq_letters tq_sorts tq_names tq_wide tq_kids tq_many tq_fallback tq_kidShape tq_kidName tq_kidDefault tq_kidNext tq_finished tq_plain tq_told t_length t_at t_deep t_fault t_place t_end t_nodes t_lettered t_shapes t_looked t_kidCount t_done t_root t_plainSize t_length t_at t_deep t_fault t_place t_end t_nodes t_lettered t_shapes t_looked t_kidCount t_done t_root t_plainSize t_numbers t_sizes t_letters t_numbers t_sizes t_letters x3 x2 r3 hz3) (cwV 3 hts (g9_155 _) rfl rfl rfl (by decide +kernel) ⟨(by show 0 + 1 ≤ 1; omega), (by show 8 + (5 + 11) + (0) ≤ 24; omega)⟩) hS hP hK hz0 [0, 1, 2, 5, 0, 1, 2, 5] rfl (va_recv hK hP (ci := 0) (q0 := 0) rfl rfl) rfl rfl hl.1 (Nat.le_of_ble_eq_true rfl) dX9_memberLike_15 ⟨Nat.zero_le _, Nat.zero_le _⟩ ?_
        refine lv_if_eq (tgt := 28) hx hb dX9_memberLike_18 (by decide) (fun c4 => ?_) (fun c4 => ?_)
        · have hm := mr_if c4 hm
          refine lv_aload_n hx hb dX9_memberLike_28 rfl (lv_at hl 0 rfl) ?_
          refine va_get (D := (dC, dI)) (ci := 0) (v := .ref tq_nexts) (C := RX9) (T := TX9) (N := 35) hx hb hts (inX9 _) hown hK hP 0 rfl rfl 13 (by decide) (hts _ (List.mem_cons_of_mem _ wf9_32)) (fun _ h9 => h9) rfl dX9_memberLike_29 ?_
          refine lv_aload_n hx hb dX9_memberLike_32 rfl (lv_at hl 0 rfl) ?_
          refine va_get (D := (dC, dI)) (ci := 0) (v := .ref tq_nexts) (C := RX9) (T := TX9) (N := 35) hx hb hts (inX9 _) hown hK hP 0 rfl rfl 13 (by decide) (hts _ (List.mem_cons_of_mem _ wf9_32)) (fun _ h9 => h9) rfl dX9_memberLike_33 ?_
          refine lv_iload_n hx hb dX9_memberLike_36 rfl (lv_at hl 2 rfl) ?_
          obtain ⟨h5, hm⟩ := mr_bd hm
          refine va_iald hx hb hK hP 4 0 rfl rfl h5 dX9_memberLike_37 ?_
          obtain ⟨h6, hm⟩ := mr_bd hm
          refine va_iald hx hb hK hP 4 0 rfl rfl h6 dX9_memberLike_38 ?_
          refine lv_istore_n (lv' := [(3, .int (t_nexts ((t_nexts (x3 : Int32).toNatClampNeg) : Int32).toNatClampNeg)), (0, .ref ob0), (2, .int x2)]) hx hb dX9_memberLike_39 rfl hl (by decide) rfl (fun ls hl => ?_)
          refine lv_goto (tgt := 7) hx hb dX9_memberLike_40 (by decide) ?_
          exact ih7 x2 (t_nexts ((t_nexts (x3 : Int32).toNatClampNeg) : Int32).toNatClampNeg) ls (lv_sub hl [1, 2, 0] rfl) hm
        · have hm := mr_un c4 hm
          refine lv_aload_n hx hb dX9_memberLike_21 rfl (lv_at hl 0 rfl) ?_
          refine va_get (D := (dC, dI)) (ci := 0) (v := .ref tq_nexts) (C := RX9) (T := TX9) (N := 35) hx hb hts (inX9 _) hown hK hP 0 rfl rfl 13 (by decide) (hts _ (List.mem_cons_of_mem _ wf9_32)) (fun _ h9 => h9) rfl dX9_memberLike_22 ?_
          refine lv_iload_n hx hb dX9_memberLike_25 rfl (lv_at hl 2 rfl) ?_
          obtain ⟨h7, hm⟩ := mr_bd hm
          refine va_iald hx hb hK hP 4 0 rfl rfl h7 dX9_memberLike_26 ?_
          obtain rfl := Option.some.inj hm
          subst hQ0
          exact W.iret (v := (t_nexts (x3 : Int32).toNatClampNeg)) hx hb hr (fun t ht hW => ⟨rfl, ht⟩) (fun q h => by cases h) dX9_memberLike_27
  refine lv_istore_n (lv' := [(3, .int (t_inner (a0 : Int32).toNatClampNeg)), (0, .ref ob0), (1, .int a0), (2, .int a1)]) hx hb dX9_memberLike_6 rfl hl (by decide) rfl (fun ls hl => ?_)
  exact j7 sr_fuel a1 (t_inner (a0 : Int32).toNatClampNeg) ls (lv_sub hl [1, 3, 0] rfl) hm
set_option maxHeartbeats 4000000 in
set_option maxRecDepth 100000 in
theorem kX9_defined (l : Launch) (htr : l.stackTraces = false) (dC : Nat → ClassId) (dI : Nat → Nat → Nat) (adK adV : Nat → Nat) (cI cB cJ cZ cQ : ClassId) (ob0 tq_bytes tq_kinds tq_firsts tq_numbers tq_sizes tq_inner tq_nexts tq_letters tq_sorts tq_names tq_wide tq_kids tq_many tq_fallback tq_kidShape tq_kidName tq_kidDefault tq_kidNext tq_finished tq_plain tq_told : Nat) (t_length : Int32) (t_at : Int32) (t_deep : Int32) (t_fault : Int32) (t_place : Int32) (t_end : Int32) (t_nodes : Int32) (t_lettered : Int32) (t_shapes : Int32) (t_looked : Int32) (t_kidCount : Int32) (t_done : Int32) (t_root : Int32) (t_plainSize : Int32) (t_numbers : Nat → Int64) (t_sizes : Nat → Int32) (t_letters : Nat → Int32) (t_names : Nat → Int32) (a0 : Int32) (res : Int32) (hm : m_X9_defined t_numbers t_sizes t_letters t_shapes t_names a0 = some res) : Met l yX9_defined wsX9_defined (rmX9_defined 0 0) (pcR (sr_Z adK adV) (dC, dI) srCl [(cI, .int), (cB, .byte), (cJ, .long), (cZ, .boolean), (cQ, .object "SchemaReader$Schema")] [.ref ob0, .int a0] [(ob0, .inr (0, [.ref tq_bytes, .int t_length, .int t_at, .int t_deep, .int t_fault, .int t_place, .int t_end, .int t_nodes, .ref tq_kinds, .ref tq_firsts, .ref tq_numbers, .ref tq_sizes, .ref tq_inner, .ref tq_nexts, .ref tq_letters, .int t_lettered, .int t_shapes, .int t_looked, .ref tq_sorts, .ref tq_names, .ref tq_wide, .ref tq_kids, .ref tq_many, .ref tq_fallback, .int t_kidCount, .ref tq_kidShape, .ref tq_kidName, .ref tq_kidDefault, .ref tq_kidNext, .int t_done, .ref tq_finished, .int t_root, .ref tq_plain, .int t_plainSize, .ref tq_told])), (tq_numbers, .inl (cJ, 4200, .inr (.inl t_numbers))), (tq_sizes, .inl (cI, 4200, .inl t_sizes)), (tq_letters, .inl (cB, 4200, .inl t_letters)), (tq_names, .inl (cI, 140, .inl t_names))]) (k2_QcV (.int res)) 0 0 (fun _ => False) := by
  refine Met.ofW (cc := cX9_defined) (maxL := 3) (ret := (some .int)) (by decide) rfl ?_
  intro p e s m args below meth c s₁ B hml hv
  obtain ⟨rfl, hP, hK, hz0⟩ := hv
  have hx := B.exec
  have hb := B.bytes
  have hr := B.returns
  have hts := atoms_spec (ws := wsX9_defined) B.pre
  have hown : s.vm.findClass RX9 = some m.cls := findClass_of_methodNamed B.named
  have hlocks := B.notSynchronized
  have hS : va_S (fun _ => False) s.heap s.heap [] := va_S.rf
  generalize hQ0 : MQ below (k2_QcV (.int res)) [.ref ob0, .int a0].toArray s 0 0 (fun _ => False) = Q0
  have hl := lv_entry [.ref ob0, .int a0] (n := 3) (Nat.le_of_ble_eq_true rfl)
  rw [lg_entry_eq]
  generalize (lg_sl [.ref ob0, .int a0] ++ List.replicate (3 - (lg_sl [.ref ob0, .int a0]).length) Slot.unset).toArray = ls at hl ⊢
  have hl : lv_has ls 3 [(0, .ref ob0), (1, .int a0)] := hl
  unfold m_X9_defined at hm
  refine lv_bipush (v := 6) hx hb dX9_defined_0 (by decide) ?_
  have j3 : ∀ (n3 : Nat) (x1 : Int32) (x2 : Int32) (ls : Array Slot), lv_has ls 3 [(0, .ref ob0), (1, .int x1), (2, .int x2)] → m_X9_defined_3 t_numbers t_sizes t_letters t_shapes t_names n3 x1 x2 = some res → W p l e (headSpec wsX9_defined (rmX9_defined 0 0)).room s m [.ref ob0, .int a0].toArray below meth c s.heap [] 0 0 Q0 (F0 m 3 ls []) := by
    intro n3
    induction n3 with
    | zero => intro x1 x2 ls hl hm; exact nomatch (show (none : Option _) = some res from hm)
    | succ n3 ih3 =>
      intro x1 x2 ls hl hm
      rw [m_X9_defined_3] at hm
      refine lv_iload_n hx hb dX9_defined_3 rfl (lv_at hl 2 rfl) ?_
      refine lv_aload_n hx hb dX9_defined_4 rfl (lv_at hl 0 rfl) ?_
      refine va_get (D := (dC, dI)) (ci := 0) (v := .int t_shapes) (C := RX9) (T := TX9) (N := 35) hx hb hts (inX9 _) hown hK hP 0 rfl rfl 16 (by decide) (hts _ (List.mem_cons_of_mem _ wf9_189)) (fun _ h9 => h9) rfl dX9_defined_5 ?_
      refine lv_icmp_ge (tgt := 43) hx hb dX9_defined_8 (by decide) (fun c1 => ?_) (fun c1 => ?_)
      · have hm := mr_if c1 hm
        refine lv_iconst (v := -1) hx hb dX9_defined_43 (by decide) ?_
        obtain rfl := Option.some.inj hm
        subst hQ0
        exact W.iret (v := (-1)) hx hb hr (fun t ht hW => ⟨rfl, ht⟩) (fun q h => by cases h) dX9_defined_44
      · have hm := mr_un c1 hm
        refine lv_aload_n hx hb dX9_defined_11 rfl (lv_at hl 0 rfl) ?_
        refine va_get (D := (dC, dI)) (ci := 0) (v := .ref tq_names) (C := RX9) (T := TX9) (N := 35) hx hb hts (inX9 _) hown hK hP 0 rfl rfl 19 (by decide) (hts _ (List.mem_cons_of_mem _ wf9_41)) (fun _ h9 => h9) rfl dX9_defined_12 ?_
        refine lv_iload_n hx hb dX9_defined_15 rfl (lv_at hl 2 rfl) ?_
        obtain ⟨h2, hm⟩ := mr_bd hm
        refine va_iald hx hb hK hP 4 0 rfl rfl h2 dX9_defined_16 ?_
        refine lv_if_lt (tgt := 37) hx hb dX9_defined_17 (by decide) (fun c3 => ?_) (fun c3 => ?_)
        · have hm := mr_if c3 hm
          refine lv_iinc (v := x2 + 1) (lv' := [(2, .int (x2 + 1)), (0, .ref ob0), (1, .int x1)]) hx hb dX9_defined_37 hl (k := 2) rfl rfl (by decide) rfl (fun ls hl => ?_)
          refine lv_goto (tgt := 3) hx hb dX9_defined_40 (by decide) ?_
          exact ih3 x1 (x2 + 1) ls (lv_sub hl [1, 2, 0] rfl) hm
        · have hm := mr_un c3 hm
          refine lv_aload_n hx hb dX9_defined_20 rfl (lv_at hl 0 rfl) ?_
          refine lv_aload_n hx hb dX9_defined_21 rfl (lv_at hl 0 rfl) ?_
          refine va_get (D := (dC, dI)) (ci := 0) (v := .ref tq_names) (C := RX9) (T := TX9) (N := 35) hx hb hts (inX9 _) hown hK hP 0 rfl rfl 19 (by decide) (hts _ (List.mem_cons_of_mem _ wf9_41)) (fun _ h9 => h9) rfl dX9_defined_22 ?_
          refine lv_iload_n hx hb dX9_defined_25 rfl (lv_at hl 2 rfl) ?_
          obtain ⟨h4, hm⟩ := mr_bd hm
          refine va_iald hx hb hK hP 4 0 rfl rfl h4 dX9_defined_26 ?_
          refine lv_aload_n hx hb dX9_defined_27 rfl (lv_at hl 0 rfl) ?_
          refine lv_iload_n hx hb dX9_defined_28 rfl (lv_at hl 1 rfl) ?_
          obtain ⟨r5, hz5, hm⟩ := mr_bind hm
          refine mr_pV (As := [.int (t_names (x2 : Int32).toNatClampNeg), .ref ob0, .int x1]) (rest := []) (sr_okZ adK adV) ⟨hx, hb, hml, hown, hts⟩ (kX9_same l htr dC dI adK adV cI cB cJ cZ cQ ob0 tq_bytes tq_kinds tq_firsts tq_numbers tq_sizes tq_inner tq_nexts tq_letters tq_sorts tq_names tq_wide tq_kids tq_many tq_fallback tq_kidShape tq_kidName tq_kidDefault tq_kidNext tq_finished tq_plain tq_told ob0 tq_bytes tq_kinds tq_firsts tq_numbers tq_sizes tq_inner tq_nexts tq_letters tq_sorts tq_names tq_wide tq_kids tq_many tq_fallback tq_kidShape tq_kidName tq_kidDefault tq_kidNext tq_finished tq_plain tq_told t_length t_at t_deep t_fault t_place t_end t_nodes t_lettered t_shapes t_looked t_kidCount t_done t_root t_plainSize t_length t_at t_deep t_fault t_place t_end t_nodes t_lettered t_shapes t_looked t_kidCount t_done t_root t_plainSize t_numbers t_sizes t_letters t_numbers t_sizes t_letters (t_names (x2 : Int32).toNatClampNeg) x1 r5 hz5) (cwV 3 hts (g9_155 _) rfl rfl rfl (by decide +kernel) ⟨(by show 0 + 1 ≤ 1; omega), (by show 8 + (5 + 11) + (0) ≤ 24; omega)⟩) hS hP hK hz0 [0, 1, 2, 3, 0, 1, 2, 3] rfl (va_recv hK hP (ci := 0) (q0 := 0) rfl rfl) rfl rfl hl.1 (Nat.le_of_ble_eq_true rfl) dX9_defined_29 ⟨Nat.zero_le _, Nat.zero_le _⟩ ?_
          refine lv_if_eq (tgt := 37) hx hb dX9_defined_32 (by decide) (fun c6 => ?_) (fun c6 => ?_)
          · have hm := mr_if c6 hm
            refine lv_iinc (v := x2 + 1) (lv' := [(2, .int (x2 + 1)), (0, .ref ob0), (1, .int x1)]) hx hb dX9_defined_37 hl (k := 2) rfl rfl (by decide) rfl (fun ls hl => ?_)
            refine lv_goto (tgt := 3) hx hb dX9_defined_40 (by decide) ?_
            exact ih3 x1 (x2 + 1) ls (lv_sub hl [1, 2, 0] rfl) hm
          · have hm := mr_un c6 hm
            refine lv_iload_n hx hb dX9_defined_35 rfl (lv_at hl 2 rfl) ?_
            obtain rfl := Option.some.inj hm
            subst hQ0
            exact W.iret (v := x2) hx hb hr (fun t ht hW => ⟨rfl, ht⟩) (fun q h => by cases h) dX9_defined_36
  refine lv_istore_n (lv' := [(2, .int 6), (0, .ref ob0), (1, .int a0)]) hx hb dX9_defined_2 rfl hl (by decide) rfl (fun ls hl => ?_)
  exact j3 sr_fuel a0 6 ls (lv_sub hl [1, 2, 0] rfl) hm
set_option maxHeartbeats 4000000 in
set_option maxRecDepth 100000 in
theorem kX9_shape (l : Launch) (htr : l.stackTraces = false) (dC : Nat → ClassId) (dI : Nat → Nat → Nat) (adK adV : Nat → Nat) (cI cB cJ cZ cQ : ClassId) (ob0 tq_bytes tq_kinds tq_firsts tq_numbers tq_sizes tq_inner tq_nexts tq_letters tq_sorts tq_names tq_wide tq_kids tq_many tq_fallback tq_kidShape tq_kidName tq_kidDefault tq_kidNext tq_finished tq_plain tq_told : Nat) (t_length : Int32) (t_at : Int32) (t_deep : Int32) (t_fault : Int32) (t_place : Int32) (t_end : Int32) (t_nodes : Int32) (t_lettered : Int32) (t_shapes : Int32) (t_looked : Int32) (t_kidCount : Int32) (t_done : Int32) (t_root : Int32) (t_plainSize : Int32) (t_sorts : Nat → Int32) (t_names : Nat → Int32) (t_wide : Nat → Int32) (t_kids : Nat → Int32) (t_many : Nat → Int32) (t_fallback : Nat → Int32) (sz : Nat) (a0 : Int32) (res : Int32 × Int32 × (Nat → Int32) × (Nat → Int32) × (Nat → Int32) × (Nat → Int32) × (Nat → Int32) × (Nat → Int32)) (hm : m_X9_shape t_shapes t_sorts t_names t_wide t_kids t_many t_fallback a0 = some res) : Met l yX9_shape wsX9_shape (rmX9_shape 0 0) (pcW (sr_Z adK adV) (dC, dI) srCl [(cI, .int), (cB, .byte), (cJ, .long), (cZ, .boolean), (cQ, .object "SchemaReader$Schema")] [.ref ob0, .int a0] [(ob0, .inr (0, [.ref tq_bytes, .int t_length, .int t_at, .int t_deep, .int t_fault, .int t_place, .int t_end, .int t_nodes, .ref tq_kinds, .ref tq_firsts, .ref tq_numbers, .ref tq_sizes, .ref tq_inner, .ref tq_nexts, .ref tq_letters, .int t_lettered, .int t_shapes, .int t_looked, .ref tq_sorts, .ref tq_names, .ref tq_wide, .ref tq_kids, .ref tq_many, .ref tq_fallback, .int t_kidCount, .ref tq_kidShape, .ref tq_kidName, .ref tq_kidDefault, .ref tq_kidNext, .int t_done, .ref tq_finished, .int t_root, .ref tq_plain, .int t_plainSize, .ref tq_told])), (tq_sorts, .inl (cI, 140, .inl t_sorts)), (tq_names, .inl (cI, 140, .inl t_names)), (tq_wide, .inl (cI, 140, .inl t_wide)), (tq_kids, .inl (cI, 140, .inl t_kids)), (tq_many, .inl (cI, 140, .inl t_many)), (tq_fallback, .inl (cI, 140, .inl t_fallback))] sz) (va_Qi (fun r' u' => r' = res.1 ∧ u' = res.2) (pcB (dC, dI) srCl [(cI, .int), (cB, .byte), (cJ, .long), (cZ, .boolean), (cQ, .object "SchemaReader$Schema")] (fun u : Int32 × (Nat → Int32) × (Nat → Int32) × (Nat → Int32) × (Nat → Int32) × (Nat → Int32) × (Nat → Int32) => [(ob0, .inr (0, [.ref tq_bytes, .int t_length, .int t_at, .int t_deep, .int t_fault, .int t_place, .int t_end, .int t_nodes, .ref tq_kinds, .ref tq_firsts, .ref tq_numbers, .ref tq_sizes, .ref tq_inner, .ref tq_nexts, .ref tq_letters, .int t_lettered, .int u.1, .int t_looked, .ref tq_sorts, .ref tq_names, .ref tq_wide, .ref tq_kids, .ref tq_many, .ref tq_fallback, .int t_kidCount, .ref tq_kidShape, .ref tq_kidName, .ref tq_kidDefault, .ref tq_kidNext, .int t_done, .ref tq_finished, .int t_root, .ref tq_plain, .int t_plainSize, .ref tq_told])), (tq_sorts, .inl (cI, 140, .inl u.2.1)), (tq_names, .inl (cI, 140, .inl u.2.2.1)), (tq_wide, .inl (cI, 140, .inl u.2.2.2.1)), (tq_kids, .inl (cI, 140, .inl u.2.2.2.2.1)), (tq_many, .inl (cI, 140, .inl u.2.2.2.2.2.1)), (tq_fallback, .inl (cI, 140, .inl u.2.2.2.2.2.2))]) (va_A [(ob0, .inr (0, [.ref tq_bytes, .int t_length, .int t_at, .int t_deep, .int t_fault, .int t_place, .int t_end, .int t_nodes, .ref tq_kinds, .ref tq_firsts, .ref tq_numbers, .ref tq_sizes, .ref tq_inner, .ref tq_nexts, .ref tq_letters, .int t_lettered, .int t_shapes, .int t_looked, .ref tq_sorts, .ref tq_names, .ref tq_wide, .ref tq_kids, .ref tq_many, .ref tq_fallback, .int t_kidCount, .ref tq_kidShape, .ref tq_kidName, .ref tq_kidDefault, .ref tq_kidNext, .int t_done, .ref tq_finished, .int t_root, .ref tq_plain, .int t_plainSize, .ref tq_told])), (tq_sorts, .inl (cI, 140, .inl t_sorts)), (tq_names, .inl (cI, 140, .inl t_names)), (tq_wide, .inl (cI, 140, .inl t_wide)), (tq_kids, .inl (cI, 140, .inl t_kids)), (tq_many, .inl (cI, 140, .inl t_many)), (tq_fallback, .inl (cI, 140, .inl t_fallback))] sz)) (va_A [(ob0, .inr (0, [.ref tq_bytes, .int t_length, .int t_at, .int t_deep, .int t_fault, .int t_place, .int t_end, .int t_nodes, .ref tq_kinds, .ref tq_firsts, .ref tq_numbers, .ref tq_sizes, .ref tq_inner, .ref tq_nexts, .ref tq_letters, .int t_lettered, .int t_shapes, .int t_looked, .ref tq_sorts, .ref tq_names, .ref tq_wide, .ref tq_kids, .ref tq_many, .ref tq_fallback, .int t_kidCount, .ref tq_kidShape, .ref tq_kidName, .ref tq_kidDefault, .ref tq_kidNext, .int t_done, .ref tq_finished, .int t_root, .ref tq_plain, .int t_plainSize, .ref tq_told])), (tq_sorts, .inl (cI, 140, .inl t_sorts)), (tq_names, .inl (cI, 140, .inl t_names)), (tq_wide, .inl (cI, 140, .inl t_wide)), (tq_kids, .inl (cI, 140, .inl t_kids)), (tq_many, .inl (cI, 140, .inl t_many)), (tq_fallback, .inl (cI, 140, .inl t_fallback))] sz)) 0 0 (va_A [(ob0, .inr (0, [.ref tq_bytes, .int t_length, .int t_at, .int t_deep, .int t_fault, .int t_place, .int t_end, .int t_nodes, .ref tq_kinds, .ref tq_firsts, .ref tq_numbers, .ref tq_sizes, .ref tq_inner, .ref tq_nexts, .ref tq_letters, .int t_lettered, .int t_shapes, .int t_looked, .ref tq_sorts, .ref tq_names, .ref tq_wide, .ref tq_kids, .ref tq_many, .ref tq_fallback, .int t_kidCount, .ref tq_kidShape, .ref tq_kidName, .ref tq_kidDefault, .ref tq_kidNext, .int t_done, .ref tq_finished, .int t_root, .ref tq_plain, .int t_plainSize, .ref tq_told])), (tq_sorts, .inl (cI, 140, .inl t_sorts)), (tq_names, .inl (cI, 140, .inl t_names)), (tq_wide, .inl (cI, 140, .inl t_wide)), (tq_kids, .inl (cI, 140, .inl t_kids)), (tq_many, .inl (cI, 140, .inl t_many)), (tq_fallback, .inl (cI, 140, .inl t_fallback))] sz) := by
  refine Met.ofW (cc := cX9_shape) (maxL := 2) (ret := (some .int)) (by decide) rfl ?_
  intro p e s m args below meth c s₁ B hml hv
  obtain ⟨rfl, hsz, hP, hK, hD0, hz0⟩ := hv
  have hx := B.exec
  have hb := B.bytes
  have hr := B.returns
  have hts := atoms_spec (ws := wsX9_shape) B.pre
  have hown : s.vm.findClass RX9 = some m.cls := findClass_of_methodNamed B.named
  have hlocks := B.notSynchronized
  subst hsz
  have hD := hD0.self (sz := s.heap.size)
  generalize hAe : va_A [(ob0, .inr (0, [.ref tq_bytes, .int t_length, .int t_at, .int t_deep, .int t_fault, .int t_place, .int t_end, .int t_nodes, .ref tq_kinds, .ref tq_firsts, .ref tq_numbers, .ref tq_sizes, .ref tq_inner, .ref tq_nexts, .ref tq_letters, .int t_lettered, .int t_shapes, .int t_looked, .ref tq_sorts, .ref tq_names, .ref tq_wide, .ref tq_kids, .ref tq_many, .ref tq_fallback, .int t_kidCount, .ref tq_kidShape, .ref tq_kidName, .ref tq_kidDefault, .ref tq_kidNext, .int t_done, .ref tq_finished, .int t_root, .ref tq_plain, .int t_plainSize, .ref tq_told])), (tq_sorts, .inl (cI, 140, .inl t_sorts)), (tq_names, .inl (cI, 140, .inl t_names)), (tq_wide, .inl (cI, 140, .inl t_wide)), (tq_kids, .inl (cI, 140, .inl t_kids)), (tq_many, .inl (cI, 140, .inl t_many)), (tq_fallback, .inl (cI, 140, .inl t_fallback))] s.heap.size = A at hD hz0 ⊢
  have hA : ∀ q : Nat, s.heap.size ≤ q → A q := fun q h => by rw [← hAe]; exact Or.inr h
  have hS : va_S A s.heap s.heap [] := va_S.rf
  generalize hQ0 : MQ below (va_Qi (fun r' u' => r' = res.1 ∧ u' = res.2) (pcB (dC, dI) srCl [(cI, .int), (cB, .byte), (cJ, .long), (cZ, .boolean), (cQ, .object "SchemaReader$Schema")] (fun u : Int32 × (Nat → Int32) × (Nat → Int32) × (Nat → Int32) × (Nat → Int32) × (Nat → Int32) × (Nat → Int32) => [(ob0, .inr (0, [.ref tq_bytes, .int t_length, .int t_at, .int t_deep, .int t_fault, .int t_place, .int t_end, .int t_nodes, .ref tq_kinds, .ref tq_firsts, .ref tq_numbers, .ref tq_sizes, .ref tq_inner, .ref tq_nexts, .ref tq_letters, .int t_lettered, .int u.1, .int t_looked, .ref tq_sorts, .ref tq_names, .ref tq_wide, .ref tq_kids, .ref tq_many, .ref tq_fallback, .int t_kidCount, .ref tq_kidShape, .ref tq_kidName, .ref tq_kidDefault, .ref tq_kidNext, .int t_done, .ref tq_finished, .int t_root, .ref tq_plain, .int t_plainSize, .ref tq_told])), (tq_sorts, .inl (cI, 140, .inl u.2.1)), (tq_names, .inl (cI, 140, .inl u.2.2.1)), (tq_wide, .inl (cI, 140, .inl u.2.2.2.1)), (tq_kids, .inl (cI, 140, .inl u.2.2.2.2.1)), (tq_many, .inl (cI, 140, .inl u.2.2.2.2.2.1)), (tq_fallback, .inl (cI, 140, .inl u.2.2.2.2.2.2))]) A) A) [.ref ob0, .int a0].toArray s 0 0 A = Q0
  have hl := lv_entry [.ref ob0, .int a0] (n := 2) (Nat.le_of_ble_eq_true rfl)
  rw [lg_entry_eq]
  generalize (lg_sl [.ref ob0, .int a0] ++ List.replicate (2 - (lg_sl [.ref ob0, .int a0]).length) Slot.unset).toArray = ls at hl ⊢
  have hl : lv_has ls 2 [(0, .ref ob0), (1, .int a0)] := hl
  unfold m_X9_shape at hm
  refine lv_aload_n hx hb dX9_shape_0 rfl (lv_at hl 0 rfl) ?_
  refine va_get (D := (dC, dI)) (ci := 0) (v := .ref tq_sorts) (C := RX9) (T := TX9) (N := 35) hx hb hts (inX9 _) hown hK hP 0 rfl rfl 18 (by decide) (hts _ (List.mem_cons_of_mem _ wf9_38)) (fun _ h9 => h9) rfl dX9_shape_1 ?_
  refine lv_aload_n hx hb dX9_shape_4 rfl (lv_at hl 0 rfl) ?_
  refine va_get (D := (dC, dI)) (ci := 0) (v := .int t_shapes) (C := RX9) (T := TX9) (N := 35) hx hb hts (inX9 _) hown hK hP 0 rfl rfl 16 (by decide) (hts _ (List.mem_cons_of_mem _ wf9_189)) (fun _ h9 => h9) rfl dX9_shape_5 ?_
  refine lv_iload_n hx hb dX9_shape_8 rfl (lv_at hl 1 rfl) ?_
  obtain ⟨h1, hm⟩ := mr_bd hm
  refine va_iast hx hb hK hP hD hS 1 0 rfl rfl h1 dX9_shape_9 (fun H locs hP hD hS => ?_)
  have hP : va_P (dC, dI) srCl [(ob0, .inr (0, [.ref tq_bytes, .int t_length, .int t_at, .int t_deep, .int t_fault, .int t_place, .int t_end, .int t_nodes, .ref tq_kinds, .ref tq_firsts, .ref tq_numbers, .ref tq_sizes, .ref tq_inner, .ref tq_nexts, .ref tq_letters, .int t_lettered, .int t_shapes, .int t_looked, .ref tq_sorts, .ref tq_names, .ref tq_wide, .ref tq_kids, .ref tq_many, .ref tq_fallback, .int t_kidCount, .ref tq_kidShape, .ref tq_kidName, .ref tq_kidDefault, .ref tq_kidNext, .int t_done, .ref tq_finished, .int t_root, .ref tq_plain, .int t_plainSize, .ref tq_told])), (tq_sorts, .inl (cI, 140, .inl (upd t_sorts (t_shapes : Int32).toNatClampNeg a0))), (tq_names, .inl (cI, 140, .inl t_names)), (tq_wide, .inl (cI, 140, .inl t_wide)), (tq_kids, .inl (cI, 140, .inl t_kids)), (tq_many, .inl (cI, 140, .inl t_many)), (tq_fallback, .inl (cI, 140, .inl t_fallback))] H := hP
  have hD : va_D A [(ob0, .inr (0, [.ref tq_bytes, .int t_length, .int t_at, .int t_deep, .int t_fault, .int t_place, .int t_end, .int t_nodes, .ref tq_kinds, .ref tq_firsts, .ref tq_numbers, .ref tq_sizes, .ref tq_inner, .ref tq_nexts, .ref tq_letters, .int t_lettered, .int t_shapes, .int t_looked, .ref tq_sorts, .ref tq_names, .ref tq_wide, .ref tq_kids, .ref tq_many, .ref tq_fallback, .int t_kidCount, .ref tq_kidShape, .ref tq_kidName, .ref tq_kidDefault, .ref tq_kidNext, .int t_done, .ref tq_finished, .int t_root, .ref tq_plain, .int t_plainSize, .ref tq_told])), (tq_sorts, .inl (cI, 140, .inl (upd t_sorts (t_shapes : Int32).toNatClampNeg a0))), (tq_names, .inl (cI, 140, .inl t_names)), (tq_wide, .inl (cI, 140, .inl t_wide)), (tq_kids, .inl (cI, 140, .inl t_kids)), (tq_many, .inl (cI, 140, .inl t_many)), (tq_fallback, .inl (cI, 140, .inl t_fallback))] := hD
  refine lv_aload_n hx hb dX9_shape_10 rfl (lv_at hl 0 rfl) ?_
  refine va_get (D := (dC, dI)) (ci := 0) (v := .ref tq_names) (C := RX9) (T := TX9) (N := 35) hx hb hts (inX9 _) hown hK hP 0 rfl rfl 19 (by decide) (hts _ (List.mem_cons_of_mem _ wf9_41)) (fun _ h9 => h9) rfl dX9_shape_11 ?_
  refine lv_aload_n hx hb dX9_shape_14 rfl (lv_at hl 0 rfl) ?_
  refine va_get (D := (dC, dI)) (ci := 0) (v := .int t_shapes) (C := RX9) (T := TX9) (N := 35) hx hb hts (inX9 _) hown hK hP 0 rfl rfl 16 (by decide) (hts _ (List.mem_cons_of_mem _ wf9_189)) (fun _ h9 => h9) rfl dX9_shape_15 ?_
  refine lv_iconst (v := -1) hx hb dX9_shape_18 (by decide) ?_
  obtain ⟨h2, hm⟩ := mr_bd hm
  refine va_iast hx hb hK hP hD hS 2 0 rfl rfl h2 dX9_shape_19 (fun H locs hP hD hS => ?_)
  have hP : va_P (dC, dI) srCl [(ob0, .inr (0, [.ref tq_bytes, .int t_length, .int t_at, .int t_deep, .int t_fault, .int t_place, .int t_end, .int t_nodes, .ref tq_kinds, .ref tq_firsts, .ref tq_numbers, .ref tq_sizes, .ref tq_inner, .ref tq_nexts, .ref tq_letters, .int t_lettered, .int t_shapes, .int t_looked, .ref tq_sorts, .ref tq_names, .ref tq_wide, .ref tq_kids, .ref tq_many, .ref tq_fallback, .int t_kidCount, .ref tq_kidShape, .ref tq_kidName, .ref tq_kidDefault, .ref tq_kidNext, .int t_done, .ref tq_finished, .int t_root, .ref tq_plain, .int t_plainSize, .ref tq_told])), (tq_sorts, .inl (cI, 140, .inl (upd t_sorts (t_shapes : Int32).toNatClampNeg a0))), (tq_names, .inl (cI, 140, .inl (upd t_names (t_shapes : Int32).toNatClampNeg (-1)))), (tq_wide, .inl (cI, 140, .inl t_wide)), (tq_kids, .inl (cI, 140, .inl t_kids)), (tq_many, .inl (cI, 140, .inl t_many)), (tq_fallback, .inl (cI, 140, .inl t_fallback))] H := hP
  have hD : va_D A [(ob0, .inr (0, [.ref tq_bytes, .int t_length, .int t_at, .int t_deep, .int t_fault, .int t_place, .int t_end, .int t_nodes, .ref tq_kinds, .ref tq_firsts, .ref tq_numbers, .ref tq_sizes, .ref tq_inner, .ref tq_nexts, .ref tq_letters, .int t_lettered, .int t_shapes, .int t_looked, .ref tq_sorts, .ref tq_names, .ref tq_wide, .ref tq_kids, .ref tq_many, .ref tq_fallback, .int t_kidCount, .ref tq_kidShape, .ref tq_kidName, .ref tq_kidDefault, .ref tq_kidNext, .int t_done, .ref tq_finished, .int t_root, .ref tq_plain, .int t_plainSize, .ref tq_told])), (tq_sorts, .inl (cI, 140, .inl (upd t_sorts (t_shapes : Int32).toNatClampNeg a0))), (tq_names, .inl (cI, 140, .inl (upd t_names (t_shapes : Int32).toNatClampNeg (-1)))), (tq_wide, .inl (cI, 140, .inl t_wide)), (tq_kids, .inl (cI, 140, .inl t_kids)), (tq_many, .inl (cI, 140, .inl t_many)), (tq_fallback, .inl (cI, 140, .inl t_fallback))] := hD
  refine lv_aload_n hx hb dX9_shape_20 rfl (lv_at hl 0 rfl) ?_
  refine va_get (D := (dC, dI)) (ci := 0) (v := .ref tq_wide) (C := RX9) (T := TX9) (N := 35) hx hb hts (inX9 _) hown hK hP 0 rfl rfl 20 (by decide) (hts _ (List.mem_cons_of_mem _ wf9_44)) (fun _ h9 => h9) rfl dX9_shape_21 ?_
  refine lv_aload_n hx hb dX9_shape_24 rfl (lv_at hl 0 rfl) ?_
  refine va_get (D := (dC, dI)) (ci := 0) (v := .int t_shapes) (C := RX9) (T := TX9) (N := 35) hx hb hts (inX9 _) hown hK hP 0 rfl rfl 16 (by decide) (hts _ (List.mem_cons_of_mem _ wf9_189)) (fun _ h9 => h9) rfl dX9_shape_25 ?_
  refine lv_iconst (v := 0) hx hb dX9_shape_28 (by decide) ?_
  obtain ⟨h3, hm⟩ := mr_bd hm
  refine va_iast hx hb hK hP hD hS 3 0 rfl rfl h3 dX9_shape_29 (fun H locs hP hD hS => ?_)
  have hP : va_P (dC, dI) srCl [(ob0, .inr (0, [.ref tq_bytes, .int t_length, .int t_at, .int t_deep, .int t_fault, .int t_place, .int t_end, .int t_nodes, .ref tq_kinds, .ref tq_firsts, .ref tq_numbers, .ref tq_sizes, .ref tq_inner, .ref tq_nexts, .ref tq_letters, .int t_lettered, .int t_shapes, .int t_looked, .ref tq_sorts, .ref tq_names, .ref tq_wide, .ref tq_kids, .ref tq_many, .ref tq_fallback, .int t_kidCount, .ref tq_kidShape, .ref tq_kidName, .ref tq_kidDefault, .ref tq_kidNext, .int t_done, .ref tq_finished, .int t_root, .ref tq_plain, .int t_plainSize, .ref tq_told])), (tq_sorts, .inl (cI, 140, .inl (upd t_sorts (t_shapes : Int32).toNatClampNeg a0))), (tq_names, .inl (cI, 140, .inl (upd t_names (t_shapes : Int32).toNatClampNeg (-1)))), (tq_wide, .inl (cI, 140, .inl (upd t_wide (t_shapes : Int32).toNatClampNeg 0))), (tq_kids, .inl (cI, 140, .inl t_kids)), (tq_many, .inl (cI, 140, .inl t_many)), (tq_fallback, .inl (cI, 140, .inl t_fallback))] H := hP
  have hD : va_D A [(ob0, .inr (0, [.ref tq_bytes, .int t_length, .int t_at, .int t_deep, .int t_fault, .int t_place, .int t_end, .int t_nodes, .ref tq_kinds, .ref tq_firsts, .ref tq_numbers, .ref tq_sizes, .ref tq_inner, .ref tq_nexts, .ref tq_letters, .int t_lettered, .int t_shapes, .int t_looked, .ref tq_sorts, .ref tq_names, .ref tq_wide, .ref tq_kids, .ref tq_many, .ref tq_fallback, .int t_kidCount, .ref tq_kidShape, .ref tq_kidName, .ref tq_kidDefault, .ref tq_kidNext, .int t_done, .ref tq_finished, .int t_root, .ref tq_plain, .int t_plainSize, .ref tq_told])), (tq_sorts, .inl (cI, 140, .inl (upd t_sorts (t_shapes : Int32).toNatClampNeg a0))), (tq_names, .inl (cI, 140, .inl (upd t_names (t_shapes : Int32).toNatClampNeg (-1)))), (tq_wide, .inl (cI, 140, .inl (upd t_wide (t_shapes : Int32).toNatClampNeg 0))), (tq_kids, .inl (cI, 140, .inl t_kids)), (tq_many, .inl (cI, 140, .inl t_many)), (tq_fallback, .inl (cI, 140, .inl t_fallback))] := hD
  refine lv_aload_n hx hb dX9_shape_30 rfl (lv_at hl 0 rfl) ?_
  refine va_get (D := (dC, dI)) (ci := 0) (v := .ref tq_kids) (C := RX9) (T := TX9) (N := 35) hx hb hts (inX9 _) hown hK hP 0 rfl rfl 21 (by decide) (hts _ (List.mem_cons_of_mem _ wf9_47)) (fun _ h9 => h9) rfl dX9_shape_31 ?_
  refine lv_aload_n hx hb dX9_shape_34 rfl (lv_at hl 0 rfl) ?_
  refine va_get (D := (dC, dI)) (ci := 0) (v := .int t_shapes) (C := RX9) (T := TX9) (N := 35) hx hb hts (inX9 _) hown hK hP 0 rfl rfl 16 (by decide) (hts _ (List.mem_cons_of_mem _ wf9_189)) (fun _ h9 => h9) rfl dX9_shape_35 ?_
  refine lv_iconst (v := -1) hx hb dX9_shape_38 (by decide) ?_
  obtain ⟨h4, hm⟩ := mr_bd hm
  refine va_iast hx hb hK hP hD hS 4 0 rfl rfl h4 dX9_shape_39 (fun H locs hP hD hS => ?_)
  have hP : va_P (dC, dI) srCl [(ob0, .inr (0, [.ref tq_bytes, .int t_length, .int t_at, .int t_deep, .int t_fault, .int t_place, .int t_end, .int t_nodes, .ref tq_kinds, .ref tq_firsts, .ref tq_numbers, .ref tq_sizes, .ref tq_inner, .ref tq_nexts, .ref tq_letters, .int t_lettered, .int t_shapes, .int t_looked, .ref tq_sorts, .ref tq_names, .ref tq_wide, .ref tq_kids, .ref tq_many, .ref tq_fallback, .int t_kidCount, .ref tq_kidShape, .ref tq_kidName, .ref tq_kidDefault, .ref tq_kidNext, .int t_done, .ref tq_finished, .int t_root, .ref tq_plain, .int t_plainSize, .ref tq_told])), (tq_sorts, .inl (cI, 140, .inl (upd t_sorts (t_shapes : Int32).toNatClampNeg a0))), (tq_names, .inl (cI, 140, .inl (upd t_names (t_shapes : Int32).toNatClampNeg (-1)))), (tq_wide, .inl (cI, 140, .inl (upd t_wide (t_shapes : Int32).toNatClampNeg 0))), (tq_kids, .inl (cI, 140, .inl (upd t_kids (t_shapes : Int32).toNatClampNeg (-1)))), (tq_many, .inl (cI, 140, .inl t_many)), (tq_fallback, .inl (cI, 140, .inl t_fallback))] H := hP
  have hD : va_D A [(ob0, .inr (0, [.ref tq_bytes, .int t_length, .int t_at, .int t_deep, .int t_fault, .int t_place, .int t_end, .int t_nodes, .ref tq_kinds, .ref tq_firsts, .ref tq_numbers, .ref tq_sizes, .ref tq_inner, .ref tq_nexts, .ref tq_letters, .int t_lettered, .int t_shapes, .int t_looked, .ref tq_sorts, .ref tq_names, .ref tq_wide, .ref tq_kids, .ref tq_many, .ref tq_fallback, .int t_kidCount, .ref tq_kidShape, .ref tq_kidName, .ref tq_kidDefault, .ref tq_kidNext, .int t_done, .ref tq_finished, .int t_root, .ref tq_plain, .int t_plainSize, .ref tq_told])), (tq_sorts, .inl (cI, 140, .inl (upd t_sorts (t_shapes : Int32).toNatClampNeg a0))), (tq_names, .inl (cI, 140, .inl (upd t_names (t_shapes : Int32).toNatClampNeg (-1)))), (tq_wide, .inl (cI, 140, .inl (upd t_wide (t_shapes : Int32).toNatClampNeg 0))), (tq_kids, .inl (cI, 140, .inl (upd t_kids (t_shapes : Int32).toNatClampNeg (-1)))), (tq_many, .inl (cI, 140, .inl t_many)), (tq_fallback, .inl (cI, 140, .inl t_fallback))] := hD
  refine lv_aload_n hx hb dX9_shape_40 rfl (lv_at hl 0 rfl) ?_
  refine va_get (D := (dC, dI)) (ci := 0) (v := .ref tq_many) (C := RX9) (T := TX9) (N := 35) hx hb hts (inX9 _) hown hK hP 0 rfl rfl 22 (by decide) (hts _ (List.mem_cons_of_mem _ wf9_50)) (fun _ h9 => h9) rfl dX9_shape_41 ?_
  refine lv_aload_n hx hb dX9_shape_44 rfl (lv_at hl 0 rfl) ?_
  refine va_get (D := (dC, dI)) (ci := 0) (v := .int t_shapes) (C := RX9) (T := TX9) (N := 35) hx hb hts (inX9 _) hown hK hP 0 rfl rfl 16 (by decide) (hts _ (List.mem_cons_of_mem _ wf9_189)) (fun _ h9 => h9) rfl dX9_shape_45 ?_
  refine lv_iconst (v := 0) hx hb dX9_shape_48 (by decide) ?_
  obtain ⟨h5, hm⟩ := mr_bd hm
  refine va_iast hx hb hK hP hD hS 5 0 rfl rfl h5 dX9_shape_49 (fun H locs hP hD hS => ?_)
  have hP : va_P (dC, dI) srCl [(ob0, .inr (0, [.ref tq_bytes, .int t_length, .int t_at, .int t_deep, .int t_fault, .int t_place, .int t_end, .int t_nodes, .ref tq_kinds, .ref tq_firsts, .ref tq_numbers, .ref tq_sizes, .ref tq_inner, .ref tq_nexts, .ref tq_letters, .int t_lettered, .int t_shapes, .int t_looked, .ref tq_sorts, .ref tq_names, .ref tq_wide, .ref tq_kids, .ref tq_many, .ref tq_fallback, .int t_kidCount, .ref tq_kidShape, .ref tq_kidName, .ref tq_kidDefault, .ref tq_kidNext, .int t_done, .ref tq_finished, .int t_root, .ref tq_plain, .int t_plainSize, .ref tq_told])), (tq_sorts, .inl (cI, 140, .inl (upd t_sorts (t_shapes : Int32).toNatClampNeg a0))), (tq_names, .inl (cI, 140, .inl (upd t_names (t_shapes : Int32).toNatClampNeg (-1)))), (tq_wide, .inl (cI, 140, .inl (upd t_wide (t_shapes : Int32).toNatClampNeg 0))), (tq_kids, .inl (cI, 140, .inl (upd t_kids (t_shapes : Int32).toNatClampNeg (-1)))), (tq_many, .inl (cI, 140, .inl (upd t_many (t_shapes : Int32).toNatClampNeg 0))), (tq_fallback, .inl (cI, 140, .inl t_fallback))] H := hP
  have hD : va_D A [(ob0, .inr (0, [.ref tq_bytes, .int t_length, .int t_at, .int t_deep, .int t_fault, .int t_place, .int t_end, .int t_nodes, .ref tq_kinds, .ref tq_firsts, .ref tq_numbers, .ref tq_sizes, .ref tq_inner, .ref tq_nexts, .ref tq_letters, .int t_lettered, .int t_shapes, .int t_looked, .ref tq_sorts, .ref tq_names, .ref tq_wide, .ref tq_kids, .ref tq_many, .ref tq_fallback, .int t_kidCount, .ref tq_kidShape, .ref tq_kidName, .ref tq_kidDefault, .ref tq_kidNext, .int t_done, .ref tq_finished, .int t_root, .ref tq_plain, .int t_plainSize, .ref tq_told])), (tq_sorts, .inl (cI, 140, .inl (upd t_sorts (t_shapes : Int32).toNatClampNeg a0))), (tq_names, .inl (cI, 140, .inl (upd t_names (t_shapes : Int32).toNatClampNeg (-1)))), (tq_wide, .inl (cI, 140, .inl (upd t_wide (t_shapes : Int32).toNatClampNeg 0))), (tq_kids, .inl (cI, 140, .inl (upd t_kids (t_shapes : Int32).toNatClampNeg (-1)))), (tq_many, .inl (cI, 140, .inl (upd t_many (t_shapes : Int32).toNatClampNeg 0))), (tq_fallback, .inl (cI, 140, .inl t_fallback))] := hD
  refine lv_aload_n hx hb dX9_shape_50 rfl (lv_at hl 0 rfl) ?_
  refine va_get (D := (dC, dI)) (ci := 0) (v := .ref tq_fallback) (C := RX9) (T := TX9) (N := 35) hx hb hts (inX9 _) hown hK hP 0 rfl rfl 23 (by decide) (hts _ (List.mem_cons_of_mem _ wf9_53)) (fun _ h9 => h9) rfl dX9_shape_51 ?_
  refine lv_aload_n hx hb dX9_shape_54 rfl (lv_at hl 0 rfl) ?_
  refine va_get (D := (dC, dI)) (ci := 0) (v := .int t_shapes) (C := RX9) (T := TX9) (N := 35) hx hb hts (inX9 _) hown hK hP 0 rfl rfl 16 (by decide) (hts _ (List.mem_cons_of_mem _ wf9_189)) (fun _ h9 => h9) rfl dX9_shape_55 ?_
  refine lv_iconst (v := -1) hx hb dX9_shape_58 (by decide) ?_
  obtain ⟨h6, hm⟩ := mr_bd hm
  refine va_iast hx hb hK hP hD hS 6 0 rfl rfl h6 dX9_shape_59 (fun H locs hP hD hS => ?_)
  have hP : va_P (dC, dI) srCl [(ob0, .inr (0, [.ref tq_bytes, .int t_length, .int t_at, .int t_deep, .int t_fault, .int t_place, .int t_end, .int t_nodes, .ref tq_kinds, .ref tq_firsts, .ref tq_numbers, .ref tq_sizes, .ref tq_inner, .ref tq_nexts, .ref tq_letters, .int t_lettered, .int t_shapes, .int t_looked, .ref tq_sorts, .ref tq_names, .ref tq_wide, .ref tq_kids, .ref tq_many, .ref tq_fallback, .int t_kidCount, .ref tq_kidShape, .ref tq_kidName, .ref tq_kidDefault, .ref tq_kidNext, .int t_done, .ref tq_finished, .int t_root, .ref tq_plain, .int t_plainSize, .ref tq_told])), (tq_sorts, .inl (cI, 140, .inl (upd t_sorts (t_shapes : Int32).toNatClampNeg a0))), (tq_names, .inl (cI, 140, .inl (upd t_names (t_shapes : Int32).toNatClampNeg (-1)))), (tq_wide, .inl (cI, 140, .inl (upd t_wide (t_shapes : Int32).toNatClampNeg 0))), (tq_kids, .inl (cI, 140, .inl (upd t_kids (t_shapes : Int32).toNatClampNeg (-1)))), (tq_many, .inl (cI, 140, .inl (upd t_many (t_shapes : Int32).toNatClampNeg 0))), (tq_fallback, .inl (cI, 140, .inl (upd t_fallback (t_shapes : Int32).toNatClampNeg (-1))))] H := hP
  have hD : va_D A [(ob0, .inr (0, [.ref tq_bytes, .int t_length, .int t_at, .int t_deep, .int t_fault, .int t_place, .int t_end, .int t_nodes, .ref tq_kinds, .ref tq_firsts, .ref tq_numbers, .ref tq_sizes, .ref tq_inner, .ref tq_nexts, .ref tq_letters, .int t_lettered, .int t_shapes, .int t_looked, .ref tq_sorts, .ref tq_names, .ref tq_wide, .ref tq_kids, .ref tq_many, .ref tq_fallback, .int t_kidCount, .ref tq_kidShape, .ref tq_kidName, .ref tq_kidDefault, .ref tq_kidNext, .int t_done, .ref tq_finished, .int t_root, .ref tq_plain, .int t_plainSize, .ref tq_told])), (tq_sorts, .inl (cI, 140, .inl (upd t_sorts (t_shapes : Int32).toNatClampNeg a0))), (tq_names, .inl (cI, 140, .inl (upd t_names (t_shapes : Int32).toNatClampNeg (-1)))), (tq_wide, .inl (cI, 140, .inl (upd t_wide (t_shapes : Int32).toNatClampNeg 0))), (tq_kids, .inl (cI, 140, .inl (upd t_kids (t_shapes : Int32).toNatClampNeg (-1)))), (tq_many, .inl (cI, 140, .inl (upd t_many (t_shapes : Int32).toNatClampNeg 0))), (tq_fallback, .inl (cI, 140, .inl (upd t_fallback (t_shapes : Int32).toNatClampNeg (-1))))] := hD
  refine lv_aload_n hx hb dX9_shape_60 rfl (lv_at hl 0 rfl) ?_
  refine lv_dup hx hb dX9_shape_61 rfl ?_
  refine va_get (D := (dC, dI)) (ci := 0) (v := .int t_shapes) (C := RX9) (T := TX9) (N := 35) hx hb hts (inX9 _) hown hK hP 0 rfl rfl 16 (by decide) (hts _ (List.mem_cons_of_mem _ wf9_189)) (fun _ h9 => h9) rfl dX9_shape_62 ?_
  refine lv_iconst (v := 1) hx hb dX9_shape_65 (by decide) ?_
  refine lv_iadd hx hb dX9_shape_66 ?_
  refine va_put (D := (dC, dI)) (ci := 0) (v := .int (t_shapes + 1)) (ty := .int) (C := RX9) (T := TX9) (N := 35) hx hb hts (inX9 _) tyX9 tyX9_ok nmX9 hown hK hP hD hS 0 rfl rfl 16 (by decide) (hts _ (List.mem_cons_of_mem _ wf9_189)) (fun _ h9 => h9) rfl (by decide +kernel) rfl rfl (Nat.le_of_ble_eq_true rfl) dX9_shape_67 (fun H locs hP hD hS => ?_)
  have hP : va_P (dC, dI) srCl [(ob0, .inr (0, [.ref tq_bytes, .int t_length, .int t_at, .int t_deep, .int t_fault, .int t_place, .int t_end, .int t_nodes, .ref tq_kinds, .ref tq_firsts, .ref tq_numbers, .ref tq_sizes, .ref tq_inner, .ref tq_nexts, .ref tq_letters, .int t_lettered, .int (t_shapes + 1), .int t_looked, .ref tq_sorts, .ref tq_names, .ref tq_wide, .ref tq_kids, .ref tq_many, .ref tq_fallback, .int t_kidCount, .ref tq_kidShape, .ref tq_kidName, .ref tq_kidDefault, .ref tq_kidNext, .int t_done, .ref tq_finished, .int t_root, .ref tq_plain, .int t_plainSize, .ref tq_told])), (tq_sorts, .inl (cI, 140, .inl (upd t_sorts (t_shapes : Int32).toNatClampNeg a0))), (tq_names, .inl (cI, 140, .inl (upd t_names (t_shapes : Int32).toNatClampNeg (-1)))), (tq_wide, .inl (cI, 140, .inl (upd t_wide (t_shapes : Int32).toNatClampNeg 0))), (tq_kids, .inl (cI, 140, .inl (upd t_kids (t_shapes : Int32).toNatClampNeg (-1)))), (tq_many, .inl (cI, 140, .inl (upd t_many (t_shapes : Int32).toNatClampNeg 0))), (tq_fallback, .inl (cI, 140, .inl (upd t_fallback (t_shapes : Int32).toNatClampNeg (-1))))] H := hP
  have hD : va_D A [(ob0, .inr (0, [.ref tq_bytes, .int t_length, .int t_at, .int t_deep, .int t_fault, .int t_place, .int t_end, .int t_nodes, .ref tq_kinds, .ref tq_firsts, .ref tq_numbers, .ref tq_sizes, .ref tq_inner, .ref tq_nexts, .ref tq_letters, .int t_lettered, .int (t_shapes + 1), .int t_looked, .ref tq_sorts, .ref tq_names, .ref tq_wide, .ref tq_kids, .ref tq_many, .ref tq_fallback, .int t_kidCount, .ref tq_kidShape, .ref tq_kidName, .ref tq_kidDefault, .ref tq_kidNext, .int t_done, .ref tq_finished, .int t_root, .ref tq_plain, .int t_plainSize, .ref tq_told])), (tq_sorts, .inl (cI, 140, .inl (upd t_sorts (t_shapes : Int32).toNatClampNeg a0))), (tq_names, .inl (cI, 140, .inl (upd t_names (t_shapes : Int32).toNatClampNeg (-1)))), (tq_wide, .inl (cI, 140, .inl (upd t_wide (t_shapes : Int32).toNatClampNeg 0))), (tq_kids, .inl (cI, 140, .inl (upd t_kids (t_shapes : Int32).toNatClampNeg (-1)))), (tq_many, .inl (cI, 140, .inl (upd t_many (t_shapes : Int32).toNatClampNeg 0))), (tq_fallback, .inl (cI, 140, .inl (upd t_fallback (t_shapes : Int32).toNatClampNeg (-1))))] := hD
  refine lv_aload_n hx hb dX9_shape_70 rfl (lv_at hl 0 rfl) ?_
  refine va_get (D := (dC, dI)) (ci := 0) (v := .int (t_shapes + 1)) (C := RX9) (T := TX9) (N := 35) hx hb hts (inX9 _) hown hK hP 0 rfl rfl 16 (by decide) (hts _ (List.mem_cons_of_mem _ wf9_189)) (fun _ h9 => h9) rfl dX9_shape_71 ?_
  refine lv_iconst (v := 1) hx hb dX9_shape_74 (by decide) ?_
  refine lv_isub hx hb dX9_shape_75 ?_
  obtain rfl := Option.some.inj hm
  subst hQ0
  exact W.iret (v := ((t_shapes + 1) - 1)) hx hb hr (fun t ht hW => ⟨⟨((t_shapes + 1) - 1), ((t_shapes + 1), (upd t_sorts (t_shapes : Int32).toNatClampNeg a0), (upd t_names (t_shapes : Int32).toNatClampNeg (-1)), (upd t_wide (t_shapes : Int32).toNatClampNeg 0), (upd t_kids (t_shapes : Int32).toNatClampNeg (-1)), (upd t_many (t_shapes : Int32).toNatClampNeg 0), (upd t_fallback (t_shapes : Int32).toNatClampNeg (-1))), rfl, ⟨rfl, rfl⟩, by rw [ht]; exact hP, va_K.moved hW.alike hK, hD⟩, hS.F ht⟩) hS.2.2 dX9_shape_76
set_option maxHeartbeats 4000000 in
set_option maxRecDepth 100000 in
theorem kX9_addKid (l : Launch) (htr : l.stackTraces = false) (dC : Nat → ClassId) (dI : Nat → Nat → Nat) (adK adV : Nat → Nat) (cI cB cJ cZ cQ : ClassId) (ob0 tq_bytes tq_kinds tq_firsts tq_numbers tq_sizes tq_inner tq_nexts tq_letters tq_sorts tq_names tq_wide tq_kids tq_many tq_fallback tq_kidShape tq_kidName tq_kidDefault tq_kidNext tq_finished tq_plain tq_told : Nat) (t_length : Int32) (t_at : Int32) (t_deep : Int32) (t_fault : Int32) (t_place : Int32) (t_end : Int32) (t_nodes : Int32) (t_lettered : Int32) (t_shapes : Int32) (t_looked : Int32) (t_kidCount : Int32) (t_done : Int32) (t_root : Int32) (t_plainSize : Int32) (t_kids : Nat → Int32) (t_many : Nat → Int32) (t_kidShape : Nat → Int32) (t_kidName : Nat → Int32) (t_kidDefault : Nat → Int32) (t_kidNext : Nat → Int32) (sz : Nat) (a0 : Int32) (a1 : Int32) (res : Int32 × (Nat → Int32) × (Nat → Int32) × Int32 × (Nat → Int32) × (Nat → Int32) × (Nat → Int32) × (Nat → Int32)) (hm : m_X9_addKid t_kids t_many t_kidCount t_kidShape t_kidName t_kidDefault t_kidNext a0 a1 = some res) : Met l yX9_addKid wsX9_addKid (rmX9_addKid 0 0) (pcW (sr_Z adK adV) (dC, dI) srCl [(cI, .int), (cB, .byte), (cJ, .long), (cZ, .boolean), (cQ, .object "SchemaReader$Schema")] [.ref ob0, .int a0, .int a1] [(ob0, .inr (0, [.ref tq_bytes, .int t_length, .int t_at, .int t_deep, .int t_fault, .int t_place, .int t_end, .int t_nodes, .ref tq_kinds, .ref tq_firsts, .ref tq_numbers, .ref tq_sizes, .ref tq_inner, .ref tq_nexts, .ref tq_letters, .int t_lettered, .int t_shapes, .int t_looked, .ref tq_sorts, .ref tq_names, .ref tq_wide, .ref tq_kids, .ref tq_many, .ref tq_fallback, .int t_kidCount, .ref tq_kidShape, .ref tq_kidName, .ref tq_kidDefault, .ref tq_kidNext, .int t_done, .ref tq_finished, .int t_root, .ref tq_plain, .int t_plainSize, .ref tq_told])), (tq_kids, .inl (cI, 140, .inl t_kids)), (tq_many, .inl (cI, 140, .inl t_many)), (tq_kidShape, .inl (cI, 2200, .inl t_kidShape)), (tq_kidName, .inl (cI, 2200, .inl t_kidName)), (tq_kidDefault, .inl (cI, 2200, .inl t_kidDefault)), (tq_kidNext, .inl (cI, 2200, .inl t_kidNext))] sz) (va_Qi (fun r' u' => r' = res.1 ∧ u' = res.2) (pcB (dC, dI) srCl [(cI, .int), (cB, .byte), (cJ, .long), (cZ, .boolean), (cQ, .object "SchemaReader$Schema")] (fun u : (Nat → Int32) × (Nat → Int32) × Int32 × (Nat → Int32) × (Nat → Int32) × (Nat → Int32) × (Nat → Int32) => [(ob0, .inr (0, [.ref tq_bytes, .int t_length, .int t_at, .int t_deep, .int t_fault, .int t_place, .int t_end, .int t_nodes, .ref tq_kinds, .ref tq_firsts, .ref tq_numbers, .ref tq_sizes, .ref tq_inner, .ref tq_nexts, .ref tq_letters, .int t_lettered, .int t_shapes, .int t_looked, .ref tq_sorts, .ref tq_names, .ref tq_wide, .ref tq_kids, .ref tq_many, .ref tq_fallback, .int u.2.2.1, .ref tq_kidShape, .ref tq_kidName, .ref tq_kidDefault, .ref tq_kidNext, .int t_done, .ref tq_finished, .int t_root, .ref tq_plain, .int t_plainSize, .ref tq_told])), (tq_kids, .inl (cI, 140, .inl u.1)), (tq_many, .inl (cI, 140, .inl u.2.1)), (tq_kidShape, .inl (cI, 2200, .inl u.2.2.2.1)), (tq_kidName, .inl (cI, 2200, .inl u.2.2.2.2.1)), (tq_kidDefault, .inl (cI, 2200, .inl u.2.2.2.2.2.1)), (tq_kidNext, .inl (cI, 2200, .inl u.2.2.2.2.2.2))]) (va_A [(ob0, .inr (0, [.ref tq_bytes, .int t_length, .int t_at, .int t_deep, .int t_fault, .int t_place, .int t_end, .int t_nodes, .ref tq_kinds, .ref tq_firsts, .ref tq_numbers, .ref tq_sizes, .ref tq_inner, .ref tq_nexts, .ref tq_letters, .int t_lettered, .int t_shapes, .int t_looked, .ref tq_sorts, .ref tq_names, .ref tq_wide, .ref tq_kids, .ref tq_many, .ref tq_fallback, .int t_kidCount, .ref tq_kidShape, .ref tq_kidName, .ref tq_kidDefault, .ref tq_kidNext, .int t_done, .ref tq_finished, .int t_root, .ref tq_plain, .int t_plainSize, .ref tq_told])), (tq_kids, .inl (cI, 140, .inl t_kids)), (tq_many, .inl (cI, 140, .inl t_many)), (tq_kidShape, .inl (cI, 2200, .inl t_kidShape)), (tq_kidName, .inl (cI, 2200, .inl t_kidName)), (tq_kidDefault, .inl (cI, 2200, .inl t_kidDefault)), (tq_kidNext, .inl (cI, 2200, .inl t_kidNext))] sz)) (va_A [(ob0, .inr (0, [.ref tq_bytes, .int t_length, .int t_at, .int t_deep, .int t_fault, .int t_place, .int t_end, .int t_nodes, .ref tq_kinds, .ref tq_firsts, .ref tq_numbers, .ref tq_sizes, .ref tq_inner, .ref tq_nexts, .ref tq_letters, .int t_lettered, .int t_shapes, .int t_looked, .ref tq_sorts, .ref tq_names, .ref tq_wide, .ref tq_kids, .ref tq_many, .ref tq_fallback, .int t_kidCount, .ref tq_kidShape, .ref tq_kidName, .ref tq_kidDefault, .ref tq_kidNext, .int t_done, .ref tq_finished, .int t_root, .ref tq_plain, .int t_plainSize, .ref tq_told])), (tq_kids, .inl (cI, 140, .inl t_kids)), (tq_many, .inl (cI, 140, .inl t_many)), (tq_kidShape, .inl (cI, 2200, .inl t_kidShape)), (tq_kidName, .inl (cI, 2200, .inl t_kidName)), (tq_kidDefault, .inl (cI, 2200, .inl t_kidDefault)), (tq_kidNext, .inl (cI, 2200, .inl t_kidNext))] sz)) 0 0 (va_A [(ob0, .inr (0, [.ref tq_bytes, .int t_length, .int t_at, .int t_deep, .int t_fault, .int t_place, .int t_end, .int t_nodes, .ref tq_kinds, .ref tq_firsts, .ref tq_numbers, .ref tq_sizes, .ref tq_inner, .ref tq_nexts, .ref tq_letters, .int t_lettered, .int t_shapes, .int t_looked, .ref tq_sorts, .ref tq_names, .ref tq_wide, .ref tq_kids, .ref tq_many, .ref tq_fallback, .int t_kidCount, .ref tq_kidShape, .ref tq_kidName, .ref tq_kidDefault, .ref tq_kidNext, .int t_done, .ref tq_finished, .int t_root, .ref tq_plain, .int t_plainSize, .ref tq_told])), (tq_kids, .inl (cI, 140, .inl t_kids)), (tq_many, .inl (cI, 140, .inl t_many)), (tq_kidShape, .inl (cI, 2200, .inl t_kidShape)), (tq_kidName, .inl (cI, 2200, .inl t_kidName)), (tq_kidDefault, .inl (cI, 2200, .inl t_kidDefault)), (tq_kidNext, .inl (cI, 2200, .inl t_kidNext))] sz) := by
  refine Met.ofW (cc := cX9_addKid) (maxL := 4) (ret := (some .int)) (by decide) rfl ?_
  intro p e s m args below meth c s₁ B hml hv
  obtain ⟨rfl, hsz, hP, hK, hD0, hz0⟩ := hv
  have hx := B.exec
  have hb := B.bytes
  have hr := B.returns
  have hts := atoms_spec (ws := wsX9_addKid) B.pre
  have hown : s.vm.findClass RX9 = some m.cls := findClass_of_methodNamed B.named
  have hlocks := B.notSynchronized
  subst hsz
  have hD := hD0.self (sz := s.heap.size)
  generalize hAe : va_A [(ob0, .inr (0, [.ref tq_bytes, .int t_length, .int t_at, .int t_deep, .int t_fault, .int t_place, .int t_end, .int t_nodes, .ref tq_kinds, .ref tq_firsts, .ref tq_numbers, .ref tq_sizes, .ref tq_inner, .ref tq_nexts, .ref tq_letters, .int t_lettered, .int t_shapes, .int t_looked, .ref tq_sorts, .ref tq_names, .ref tq_wide, .ref tq_kids, .ref tq_many, .ref tq_fallback, .int t_kidCount, .ref tq_kidShape, .ref tq_kidName, .ref tq_kidDefault, .ref tq_kidNext, .int t_done, .ref tq_finished, .int t_root, .ref tq_plain, .int t_plainSize, .ref tq_told])), (tq_kids, .inl (cI, 140, .inl t_kids)), (tq_many, .inl (cI, 140, .inl t_many)), (tq_kidShape, .inl (cI, 2200, .inl t_kidShape)), (tq_kidName, .inl (cI, 2200, .inl t_kidName)), (tq_kidDefault, .inl (cI, 2200, .inl t_kidDefault)), (tq_kidNext, .inl (cI, 2200, .inl t_kidNext))] s.heap.size = A at hD hz0 ⊢
  have hA : ∀ q : Nat, s.heap.size ≤ q → A q := fun q h => by rw [← hAe]; exact Or.inr h
  have hS : va_S A s.heap s.heap [] := va_S.rf
  generalize hQ0 : MQ below (va_Qi (fun r' u' => r' = res.1 ∧ u' = res.2) (pcB (dC, dI) srCl [(cI, .int), (cB, .byte), (cJ, .long), (cZ, .boolean), (cQ, .object "SchemaReader$Schema")] (fun u : (Nat → Int32) × (Nat → Int32) × Int32 × (Nat → Int32) × (Nat → Int32) × (Nat → Int32) × (Nat → Int32) => [(ob0, .inr (0, [.ref tq_bytes, .int t_length, .int t_at, .int t_deep, .int t_fault, .int t_place, .int t_end, .int t_nodes, .ref tq_kinds, .ref tq_firsts, .ref tq_numbers, .ref tq_sizes, .ref tq_inner, .ref tq_nexts, .ref tq_letters, .int t_lettered, .int t_shapes, .int t_looked, .ref tq_sorts, .ref tq_names, .ref tq_wide, .ref tq_kids, .ref tq_many, .ref tq_fallback, .int u.2.2.1, .ref tq_kidShape, .ref tq_kidName, .ref tq_kidDefault, .ref tq_kidNext, .int t_done, .ref tq_finished, .int t_root, .ref tq_plain, .int t_plainSize, .ref tq_told])), (tq_kids, .inl (cI, 140, .inl u.1)), (tq_many, .inl (cI, 140, .inl u.2.1)), (tq_kidShape, .inl (cI, 2200, .inl u.2.2.2.1)), (tq_kidName, .inl (cI, 2200, .inl u.2.2.2.2.1)), (tq_kidDefault, .inl (cI, 2200, .inl u.2.2.2.2.2.1)), (tq_kidNext, .inl (cI, 2200, .inl u.2.2.2.2.2.2))]) A) A) [.ref ob0, .int a0, .int a1].toArray s 0 0 A = Q0
  have hl := lv_entry [.ref ob0, .int a0, .int a1] (n := 4) (Nat.le_of_ble_eq_true rfl)
  rw [lg_entry_eq]
  generalize (lg_sl [.ref ob0, .int a0, .int a1] ++ List.replicate (4 - (lg_sl [.ref ob0, .int a0, .int a1]).length) Slot.unset).toArray = ls at hl ⊢
  have hl : lv_has ls 4 [(0, .ref ob0), (1, .int a0), (2, .int a1)] := hl
  unfold m_X9_addKid at hm
  refine lv_aload_n hx hb dX9_addKid_0 rfl (lv_at hl 0 rfl) ?_
  refine va_get (D := (dC, dI)) (ci := 0) (v := .int t_kidCount) (C := RX9) (T := TX9) (N := 35) hx hb hts (inX9 _) hown hK hP 0 rfl rfl 24 (by decide) (hts _ (List.mem_cons_of_mem _ wf9_192)) (fun _ h9 => h9) rfl dX9_addKid_1 ?_
  refine lv_istore_n (lv' := [(3, .int t_kidCount), (0, .ref ob0), (1, .int a0), (2, .int a1)]) hx hb dX9_addKid_4 rfl hl (by decide) rfl (fun ls hl => ?_)
  refine lv_aload_n hx hb dX9_addKid_5 rfl (lv_at hl 1 rfl) ?_
  refine lv_dup hx hb dX9_addKid_6 rfl ?_
  refine va_get (D := (dC, dI)) (ci := 0) (v := .int t_kidCount) (C := RX9) (T := TX9) (N := 35) hx hb hts (inX9 _) hown hK hP 0 rfl rfl 24 (by decide) (hts _ (List.mem_cons_of_mem _ wf9_192)) (fun _ h9 => h9) rfl dX9_addKid_7 ?_
  refine lv_iconst (v := 1) hx hb dX9_addKid_10 (by decide) ?_
  refine lv_iadd hx hb dX9_addKid_11 ?_
  refine va_put (D := (dC, dI)) (ci := 0) (v := .int (t_kidCount + 1)) (ty := .int) (C := RX9) (T := TX9) (N := 35) hx hb hts (inX9 _) tyX9 tyX9_ok nmX9 hown hK hP hD hS 0 rfl rfl 24 (by decide) (hts _ (List.mem_cons_of_mem _ wf9_192)) (fun _ h9 => h9) rfl (by decide +kernel) rfl rfl (Nat.le_of_ble_eq_true rfl) dX9_addKid_12 (fun H locs hP hD hS => ?_)
  have hP : va_P (dC, dI) srCl [(ob0, .inr (0, [.ref tq_bytes, .int t_length, .int t_at, .int t_deep, .int t_fault, .int t_place, .int t_end, .int t_nodes, .ref tq_kinds, .ref tq_firsts, .ref tq_numbers, .ref tq_sizes, .ref tq_inner, .ref tq_nexts, .ref tq_letters, .int t_lettered, .int t_shapes, .int t_looked, .ref tq_sorts, .ref tq_names, .ref tq_wide, .ref tq_kids, .ref tq_many, .ref tq_fallback, .int (t_kidCount + 1), .ref tq_kidShape, .ref tq_kidName, .ref tq_kidDefault, .ref tq_kidNext, .int t_done, .ref tq_finished, .int t_root, .ref tq_plain, .int t_plainSize, .ref tq_told])), (tq_kids, .inl (cI, 140, .inl t_kids)), (tq_many, .inl (cI, 140, .inl t_many)), (tq_kidShape, .inl (cI, 2200, .inl t_kidShape)), (tq_kidName, .inl (cI, 2200, .inl t_kidName)), (tq_kidDefault, .inl (cI, 2200, .inl t_kidDefault)), (tq_kidNext, .inl (cI, 2200, .inl t_kidNext))] H := hP
  have hD : va_D A [(ob0, .inr (0, [.ref tq_bytes, .int t_length, .int t_at, .int t_deep, .int t_fault, .int t_place, .int t_end, .int t_nodes, .ref tq_kinds, .ref tq_firsts, .ref tq_numbers, .ref tq_sizes, .ref tq_inner, .ref tq_nexts, .ref tq_letters, .int t_lettered, .int t_shapes, .int t_looked, .ref tq_sorts, .ref tq_names, .ref tq_wide, .ref tq_kids, .ref tq_many, .ref tq_fallback, .int (t_kidCount + 1), .ref tq_kidShape, .ref tq_kidName, .ref tq_kidDefault, .ref tq_kidNext, .int t_done, .ref tq_finished, .int t_root, .ref tq_plain, .int t_plainSize, .ref tq_told])), (tq_kids, .inl (cI, 140, .inl t_kids)), (tq_many, .inl (cI, 140, .inl t_many)), (tq_kidShape, .inl (cI, 2200, .inl t_kidShape)), (tq_kidName, .inl (cI, 2200, .inl t_kidName)), (tq_kidDefault, .inl (cI, 2200, .inl t_kidDefault)), (tq_kidNext, .inl (cI, 2200, .inl t_kidNext))] := hD
  refine lv_aload_n hx hb dX9_addKid_15 rfl (lv_at hl 1 rfl) ?_
  refine va_get (D := (dC, dI)) (ci := 0) (v := .ref tq_kidShape) (C := RX9) (T := TX9) (N := 35) hx hb hts (inX9 _) hown hK hP 0 rfl rfl 25 (by decide) (hts _ (List.mem_cons_of_mem _ wf9_56)) (fun _ h9 => h9) rfl dX9_addKid_16 ?_
  refine lv_iload_n hx hb dX9_addKid_19 rfl (lv_at hl 0 rfl) ?_
  refine lv_iconst (v := -1) hx hb dX9_addKid_20 (by decide) ?_
  obtain ⟨h1, hm⟩ := mr_bd hm
  refine va_iast hx hb hK hP hD hS 3 0 rfl rfl h1 dX9_addKid_21 (fun H locs hP hD hS => ?_)
  have hP : va_P (dC, dI) srCl [(ob0, .inr (0, [.ref tq_bytes, .int t_length, .int t_at, .int t_deep, .int t_fault, .int t_place, .int t_end, .int t_nodes, .ref tq_kinds, .ref tq_firsts, .ref tq_numbers, .ref tq_sizes, .ref tq_inner, .ref tq_nexts, .ref tq_letters, .int t_lettered, .int t_shapes, .int t_looked, .ref tq_sorts, .ref tq_names, .ref tq_wide, .ref tq_kids, .ref tq_many, .ref tq_fallback, .int (t_kidCount + 1), .ref tq_kidShape, .ref tq_kidName, .ref tq_kidDefault, .ref tq_kidNext, .int t_done, .ref tq_finished, .int t_root, .ref tq_plain, .int t_plainSize, .ref tq_told])), (tq_kids, .inl (cI, 140, .inl t_kids)), (tq_many, .inl (cI, 140, .inl t_many)), (tq_kidShape, .inl (cI, 2200, .inl (upd t_kidShape (t_kidCount : Int32).toNatClampNeg (-1)))), (tq_kidName, .inl (cI, 2200, .inl t_kidName)), (tq_kidDefault, .inl (cI, 2200, .inl t_kidDefault)), (tq_kidNext, .inl (cI, 2200, .inl t_kidNext))] H := hP
  have hD : va_D A [(ob0, .inr (0, [.ref tq_bytes, .int t_length, .int t_at, .int t_deep, .int t_fault, .int t_place, .int t_end, .int t_nodes, .ref tq_kinds, .ref tq_firsts, .ref tq_numbers, .ref tq_sizes, .ref tq_inner, .ref tq_nexts, .ref tq_letters, .int t_lettered, .int t_shapes, .int t_looked, .ref tq_sorts, .ref tq_names, .ref tq_wide, .ref tq_kids, .ref tq_many, .ref tq_fallback, .int (t_kidCount + 1), .ref tq_kidShape, .ref tq_kidName, .ref tq_kidDefault, .ref tq_kidNext, .int t_done, .ref tq_finished, .int t_root, .ref tq_plain, .int t_plainSize, .ref tq_told])), (tq_kids, .inl (cI, 140, .inl t_kids)), (tq_many, .inl (cI, 140, .inl t_many)), (tq_kidShape, .inl (cI, 2200, .inl (upd t_kidShape (t_kidCount : Int32).toNatClampNeg (-1)))), (tq_kidName, .inl (cI, 2200, .inl t_kidName)), (tq_kidDefault, .inl (cI, 2200, .inl t_kidDefault)), (tq_kidNext, .inl (cI, 2200, .inl t_kidNext))] := hD
  refine lv_aload_n hx hb dX9_addKid_22 rfl (lv_at hl 1 rfl) ?_
  refine va_get (D := (dC, dI)) (ci := 0) (v := .ref tq_kidName) (C := RX9) (T := TX9) (N := 35) hx hb hts (inX9 _) hown hK hP 0 rfl rfl 26 (by decide) (hts _ (List.mem_cons_of_mem _ wf9_59)) (fun _ h9 => h9) rfl dX9_addKid_23 ?_
  refine lv_iload_n hx hb dX9_addKid_26 rfl (lv_at hl 0 rfl) ?_
  refine lv_iconst (v := -1) hx hb dX9_addKid_27 (by decide) ?_
  obtain ⟨h2, hm⟩ := mr_bd hm
  refine va_iast hx hb hK hP hD hS 4 0 rfl rfl h2 dX9_addKid_28 (fun H locs hP hD hS => ?_)
  have hP : va_P (dC, dI) srCl [(ob0, .inr (0, [.ref tq_bytes, .int t_length, .int t_at, .int t_deep, .int t_fault, .int t_place, .int t_end, .int t_nodes, .ref tq_kinds, .ref tq_firsts, .ref tq_numbers, .ref tq_sizes, .ref tq_inner, .ref tq_nexts, .ref tq_letters, .int t_lettered, .int t_shapes, .int t_looked, .ref tq_sorts, .ref tq_names, .ref tq_wide, .ref tq_kids, .ref tq_many, .ref tq_fallback, .int (t_kidCount + 1), .ref tq_kidShape, .ref tq_kidName, .ref tq_kidDefault, .ref tq_kidNext, .int t_done, .ref tq_finished, .int t_root, .ref tq_plain, .int t_plainSize, .ref tq_told])), (tq_kids, .inl (cI, 140, .inl t_kids)), (tq_many, .inl (cI, 140, .inl t_many)), (tq_kidShape, .inl (cI, 2200, .inl (upd t_kidShape (t_kidCount : Int32).toNatClampNeg (-1)))), (tq_kidName, .inl (cI, 2200, .inl (upd t_kidName (t_kidCount : Int32).toNatClampNeg (-1)))), (tq_kidDefault, .inl (cI, 2200, .inl t_kidDefault)), (tq_kidNext, .inl (cI, 2200, .inl t_kidNext))] H := hP
  have hD : va_D A [(ob0, .inr (0, [.ref tq_bytes, .int t_length, .int t_at, .int t_deep, .int t_fault, .int t_place, .int t_end, .int t_nodes, .ref tq_kinds, .ref tq_firsts, .ref tq_numbers, .ref tq_sizes, .ref tq_inner, .ref tq_nexts, .ref tq_letters, .int t_lettered, .int t_shapes, .int t_looked, .ref tq_sorts, .ref tq_names, .ref tq_wide, .ref tq_kids, .ref tq_many, .ref tq_fallback, .int (t_kidCount + 1), .ref tq_kidShape, .ref tq_kidName, .ref tq_kidDefault, .ref tq_kidNext, .int t_done, .ref tq_finished, .int t_root, .ref tq_plain, .int t_plainSize, .ref tq_told])), (tq_kids, .inl (cI, 140, .inl t_kids)), (tq_many, .inl (cI, 140, .inl t_many)), (tq_kidShape, .inl (cI, 2200, .inl (upd t_kidShape (t_kidCount : Int32).toNatClampNeg (-1)))), (tq_kidName, .inl (cI, 2200, .inl (upd t_kidName (t_kidCount : Int32).toNatClampNeg (-1)))), (tq_kidDefault, .inl (cI, 2200, .inl t_kidDefault)), (tq_kidNext, .inl (cI, 2200, .inl t_kidNext))] := hD
  refine lv_aload_n hx hb dX9_addKid_29 rfl (lv_at hl 1 rfl) ?_
  refine va_get (D := (dC, dI)) (ci := 0) (v := .ref tq_kidDefault) (C := RX9) (T := TX9) (N := 35) hx hb hts (inX9 _) hown hK hP 0 rfl rfl 27 (by decide) (hts _ (List.mem_cons_of_mem _ wf9_62)) (fun _ h9 => h9) rfl dX9_addKid_30 ?_
  refine lv_iload_n hx hb dX9_addKid_33 rfl (lv_at hl 0 rfl) ?_
  refine lv_iconst (v := -1) hx hb dX9_addKid_34 (by decide) ?_
  obtain ⟨h3, hm⟩ := mr_bd hm
  refine va_iast hx hb hK hP hD hS 5 0 rfl rfl h3 dX9_addKid_35 (fun H locs hP hD hS => ?_)
  have hP : va_P (dC, dI) srCl [(ob0, .inr (0, [.ref tq_bytes, .int t_length, .int t_at, .int t_deep, .int t_fault, .int t_place, .int t_end, .int t_nodes, .ref tq_kinds, .ref tq_firsts, .ref tq_numbers, .ref tq_sizes, .ref tq_inner, .ref tq_nexts, .ref tq_letters, .int t_lettered, .int t_shapes, .int t_looked, .ref tq_sorts, .ref tq_names, .ref tq_wide, .ref tq_kids, .ref tq_many, .ref tq_fallback, .int (t_kidCount + 1), .ref tq_kidShape, .ref tq_kidName, .ref tq_kidDefault, .ref tq_kidNext, .int t_done, .ref tq_finished, .int t_root, .ref tq_plain, .int t_plainSize, .ref tq_told])), (tq_kids, .inl (cI, 140, .inl t_kids)), (tq_many, .inl (cI, 140, .inl t_many)), (tq_kidShape, .inl (cI, 2200, .inl (upd t_kidShape (t_kidCount : Int32).toNatClampNeg (-1)))), (tq_kidName, .inl (cI, 2200, .inl (upd t_kidName (t_kidCount : Int32).toNatClampNeg (-1)))), (tq_kidDefault, .inl (cI, 2200, .inl (upd t_kidDefault (t_kidCount : Int32).toNatClampNeg (-1)))), (tq_kidNext, .inl (cI, 2200, .inl t_kidNext))] H := hP
  have hD : va_D A [(ob0, .inr (0, [.ref tq_bytes, .int t_length, .int t_at, .int t_deep, .int t_fault, .int t_place, .int t_end, .int t_nodes, .ref tq_kinds, .ref tq_firsts, .ref tq_numbers, .ref tq_sizes, .ref tq_inner, .ref tq_nexts, .ref tq_letters, .int t_lettered, .int t_shapes, .int t_looked, .ref tq_sorts, .ref tq_names, .ref tq_wide, .ref tq_kids, .ref tq_many, .ref tq_fallback, .int (t_kidCount + 1), .ref tq_kidShape, .ref tq_kidName, .ref tq_kidDefault, .ref tq_kidNext, .int t_done, .ref tq_finished, .int t_root, .ref tq_plain, .int t_plainSize, .ref tq_told])), (tq_kids, .inl (cI, 140, .inl t_kids)), (tq_many, .inl (cI, 140, .inl t_many)), (tq_kidShape, .inl (cI, 2200, .inl (upd t_kidShape (t_kidCount : Int32).toNatClampNeg (-1)))), (tq_kidName, .inl (cI, 2200, .inl (upd t_kidName (t_kidCount : Int32).toNatClampNeg (-1)))), (tq_kidDefault, .inl (cI, 2200, .inl (upd t_kidDefault (t_kidCount : Int32).toNatClampNeg (-1)))), (tq_kidNext, .inl (cI, 2200, .inl t_kidNext))] := hD
  refine lv_aload_n hx hb dX9_addKid_36 rfl (lv_at hl 1 rfl) ?_
  refine va_get (D := (dC, dI)) (ci := 0) (v := .ref tq_kidNext) (C := RX9) (T := TX9) (N := 35) hx hb hts (inX9 _) hown hK hP 0 rfl rfl 28 (by decide) (hts _ (List.mem_cons_of_mem _ wf9_65)) (fun _ h9 => h9) rfl dX9_addKid_37 ?_
  refine lv_iload_n hx hb dX9_addKid_40 rfl (lv_at hl 0 rfl) ?_
  refine lv_iconst (v := -1) hx hb dX9_addKid_41 (by decide) ?_
  obtain ⟨h4, hm⟩ := mr_bd hm
  refine va_iast hx hb hK hP hD hS 6 0 rfl rfl h4 dX9_addKid_42 (fun H locs hP hD hS => ?_)
  have hP : va_P (dC, dI) srCl [(ob0, .inr (0, [.ref tq_bytes, .int t_length, .int t_at, .int t_deep, .int t_fault, .int t_place, .int t_end, .int t_nodes, .ref tq_kinds, .ref tq_firsts, .ref tq_numbers, .ref tq_sizes, .ref tq_inner, .ref tq_nexts, .ref tq_letters, .int t_lettered, .int t_shapes, .int t_looked, .ref tq_sorts, .ref tq_names, .ref tq_wide, .ref tq_kids, .ref tq_many, .ref tq_fallback, .int (t_kidCount + 1), .ref tq_kidShape, .ref tq_kidName, .ref tq_kidDefault, .ref tq_kidNext, .int t_done, .ref tq_finished, .int t_root, .ref tq_plain, .int t_plainSize, .ref tq_told])), (tq_kids, .inl (cI, 140, .inl t_kids)), (tq_many, .inl (cI, 140, .inl t_many)), (tq_kidShape, .inl (cI, 2200, .inl (upd t_kidShape (t_kidCount : Int32).toNatClampNeg (-1)))), (tq_kidName, .inl (cI, 2200, .inl (upd t_kidName (t_kidCount : Int32).toNatClampNeg (-1)))), (tq_kidDefault, .inl (cI, 2200, .inl (upd t_kidDefault (t_kidCount : Int32).toNatClampNeg (-1)))), (tq_kidNext, .inl (cI, 2200, .inl (upd t_kidNext (t_kidCount : Int32).toNatClampNeg (-1))))] H := hP
  have hD : va_D A [(ob0, .inr (0, [.ref tq_bytes, .int t_length, .int t_at, .int t_deep, .int t_fault, .int t_place, .int t_end, .int t_nodes, .ref tq_kinds, .ref tq_firsts, .ref tq_numbers, .ref tq_sizes, .ref tq_inner, .ref tq_nexts, .ref tq_letters, .int t_lettered, .int t_shapes, .int t_looked, .ref tq_sorts, .ref tq_names, .ref tq_wide, .ref tq_kids, .ref tq_many, .ref tq_fallback, .int (t_kidCount + 1), .ref tq_kidShape, .ref tq_kidName, .ref tq_kidDefault, .ref tq_kidNext, .int t_done, .ref tq_finished, .int t_root, .ref tq_plain, .int t_plainSize, .ref tq_told])), (tq_kids, .inl (cI, 140, .inl t_kids)), (tq_many, .inl (cI, 140, .inl t_many)), (tq_kidShape, .inl (cI, 2200, .inl (upd t_kidShape (t_kidCount : Int32).toNatClampNeg (-1)))), (tq_kidName, .inl (cI, 2200, .inl (upd t_kidName (t_kidCount : Int32).toNatClampNeg (-1)))), (tq_kidDefault, .inl (cI, 2200, .inl (upd t_kidDefault (t_kidCount : Int32).toNatClampNeg (-1)))), (tq_kidNext, .inl (cI, 2200, .inl (upd t_kidNext (t_kidCount : Int32).toNatClampNeg (-1))))] := hD
  refine lv_iload_n hx hb dX9_addKid_43 rfl (lv_at hl 3 rfl) ?_
  refine lv_if_ge (tgt := 57) hx hb dX9_addKid_44 (by decide) (fun c5 => ?_) (fun c5 => ?_)
  · have hm := mr_if c5 hm
    refine lv_aload_n hx hb dX9_addKid_57 rfl (lv_at hl 1 rfl) ?_
    refine va_get (D := (dC, dI)) (ci := 0) (v := .ref tq_kidNext) (C := RX9) (T := TX9) (N := 35) hx hb hts (inX9 _) hown hK hP 0 rfl rfl 28 (by decide) (hts _ (List.mem_cons_of_mem _ wf9_65)) (fun _ h9 => h9) rfl dX9_addKid_58 ?_
    refine lv_iload_n hx hb dX9_addKid_61 rfl (lv_at hl 3 rfl) ?_
    refine lv_iload_n hx hb dX9_addKid_62 rfl (lv_at hl 0 rfl) ?_
    obtain ⟨h6, hm⟩ := mr_bd hm
    refine va_iast hx hb hK hP hD hS 6 0 rfl rfl h6 dX9_addKid_63 (fun H locs hP hD hS => ?_)
    have hP : va_P (dC, dI) srCl [(ob0, .inr (0, [.ref tq_bytes, .int t_length, .int t_at, .int t_deep, .int t_fault, .int t_place, .int t_end, .int t_nodes, .ref tq_kinds, .ref tq_firsts, .ref tq_numbers, .ref tq_sizes, .ref tq_inner, .ref tq_nexts, .ref tq_letters, .int t_lettered, .int t_shapes, .int t_looked, .ref tq_sorts, .ref tq_names, .ref tq_wide, .ref tq_kids, .ref tq_many, .ref tq_fallback, .int (t_kidCount + 1), .ref tq_kidShape, .ref tq_kidName, .ref tq_kidDefault, .ref tq_kidNext, .int t_done, .ref tq_finished, .int t_root, .ref tq_plain, .int t_plainSize, .ref tq_told])), (tq_kids, .inl (cI, 140, .inl t_kids)), (tq_many, .inl (cI, 140, .inl t_many)), (tq_kidShape, .inl (cI, 2200, .inl (upd t_kidShape (t_kidCount : Int32).toNatClampNeg (-1)))), (tq_kidName, .inl (cI, 2200, .inl (upd t_kidName (t_kidCount : Int32).toNatClampNeg (-1)))), (tq_kidDefault, .inl (cI, 2200, .inl (upd t_kidDefault (t_kidCount : Int32).toNatClampNeg (-1)))), (tq_kidNext, .inl (cI, 2200, .inl (upd (upd t_kidNext (t_kidCount : Int32).toNatClampNeg (-1)) (a1 : Int32).toNatClampNeg t_kidCount)))] H := hP
    have hD : va_D A [(ob0, .inr (0, [.ref tq_bytes, .int t_length, .int t_at, .int t_deep, .int t_fault, .int t_place, .int t_end, .int t_nodes, .ref tq_kinds, .ref tq_firsts, .ref tq_numbers, .ref tq_sizes, .ref tq_inner, .ref tq_nexts, .ref tq_letters, .int t_lettered, .int t_shapes, .int t_looked, .ref tq_sorts, .ref tq_names, .ref tq_wide, .ref tq_kids, .ref tq_many, .ref tq_fallback, .int (t_kidCount + 1), .ref tq_kidShape, .ref tq_kidName, .ref tq_kidDefault, .ref tq_kidNext, .int t_done, .ref tq_finished, .int t_root, .ref tq_plain, .int t_plainSize, .ref tq_told])), (tq_kids, .inl (cI, 140, .inl t_kids)), (tq_many, .inl (cI, 140, .inl t_many)), (tq_kidShape, .inl (cI, 2200, .inl (upd t_kidShape (t_kidCount : Int32).toNatClampNeg (-1)))), (tq_kidName, .inl (cI, 2200, .inl (upd t_kidName (t_kidCount : Int32).toNatClampNeg (-1)))), (tq_kidDefault, .inl (cI, 2200, .inl (upd t_kidDefault (t_kidCount : Int32).toNatClampNeg (-1)))), (tq_kidNext, .inl (cI, 2200, .inl (upd (upd t_kidNext (t_kidCount : Int32).toNatClampNeg (-1)) (a1 : Int32).toNatClampNeg t_kidCount)))] := hD
    refine lv_aload_n hx hb dX9_addKid_64 rfl (lv_at hl 1 rfl) ?_
    refine va_get (D := (dC, dI)) (ci := 0) (v := .ref tq_many) (C := RX9) (T := TX9) (N := 35) hx hb hts (inX9 _) hown hK hP 0 rfl rfl 22 (by decide) (hts _ (List.mem_cons_of_mem _ wf9_50)) (fun _ h9 => h9) rfl dX9_addKid_65 ?_
    refine lv_iload_n hx hb dX9_addKid_68 rfl (lv_at hl 2 rfl) ?_
    refine lv_dup2_11 hx hb dX9_addKid_69 rfl rfl ?_
    obtain ⟨h7, hm⟩ := mr_bd hm
    refine va_iald hx hb hK hP 2 0 rfl rfl h7 dX9_addKid_70 ?_
    refine lv_iconst (v := 1) hx hb dX9_addKid_71 (by decide) ?_
    refine lv_iadd hx hb dX9_addKid_72 ?_
    obtain ⟨h8, hm⟩ := mr_bd hm
    refine va_iast hx hb hK hP hD hS 2 0 rfl rfl h8 dX9_addKid_73 (fun H locs hP hD hS => ?_)
    have hP : va_P (dC, dI) srCl [(ob0, .inr (0, [.ref tq_bytes, .int t_length, .int t_at, .int t_deep, .int t_fault, .int t_place, .int t_end, .int t_nodes, .ref tq_kinds, .ref tq_firsts, .ref tq_numbers, .ref tq_sizes, .ref tq_inner, .ref tq_nexts, .ref tq_letters, .int t_lettered, .int t_shapes, .int t_looked, .ref tq_sorts, .ref tq_names, .ref tq_wide, .ref tq_kids, .ref tq_many, .ref tq_fallback, .int (t_kidCount + 1), .ref tq_kidShape, .ref tq_kidName, .ref tq_kidDefault, .ref tq_kidNext, .int t_done, .ref tq_finished, .int t_root, .ref tq_plain, .int t_plainSize, .ref tq_told])), (tq_kids, .inl (cI, 140, .inl t_kids)), (tq_many, .inl (cI, 140, .inl (upd t_many (a0 : Int32).toNatClampNeg ((t_many (a0 : Int32).toNatClampNeg) + 1)))), (tq_kidShape, .inl (cI, 2200, .inl (upd t_kidShape (t_kidCount : Int32).toNatClampNeg (-1)))), (tq_kidName, .inl (cI, 2200, .inl (upd t_kidName (t_kidCount : Int32).toNatClampNeg (-1)))), (tq_kidDefault, .inl (cI, 2200, .inl (upd t_kidDefault (t_kidCount : Int32).toNatClampNeg (-1)))), (tq_kidNext, .inl (cI, 2200, .inl (upd (upd t_kidNext (t_kidCount : Int32).toNatClampNeg (-1)) (a1 : Int32).toNatClampNeg t_kidCount)))] H := hP
    have hD : va_D A [(ob0, .inr (0, [.ref tq_bytes, .int t_length, .int t_at, .int t_deep, .int t_fault, .int t_place, .int t_end, .int t_nodes, .ref tq_kinds, .ref tq_firsts, .ref tq_numbers, .ref tq_sizes, .ref tq_inner, .ref tq_nexts, .ref tq_letters, .int t_lettered, .int t_shapes, .int t_looked, .ref tq_sorts, .ref tq_names, .ref tq_wide, .ref tq_kids, .ref tq_many, .ref tq_fallback, .int (t_kidCount + 1), .ref tq_kidShape, .ref tq_kidName, .ref tq_kidDefault, .ref tq_kidNext, .int t_done, .ref tq_finished, .int t_root, .ref tq_plain, .int t_plainSize, .ref tq_told])), (tq_kids, .inl (cI, 140, .inl t_kids)), (tq_many, .inl (cI, 140, .inl (upd t_many (a0 : Int32).toNatClampNeg ((t_many (a0 : Int32).toNatClampNeg) + 1)))), (tq_kidShape, .inl (cI, 2200, .inl (upd t_kidShape (t_kidCount : Int32).toNatClampNeg (-1)))), (tq_kidName, .inl (cI, 2200, .inl (upd t_kidName (t_kidCount : Int32).toNatClampNeg (-1)))), (tq_kidDefault, .inl (cI, 2200, .inl (upd t_kidDefault (t_kidCount : Int32).toNatClampNeg (-1)))), (tq_kidNext, .inl (cI, 2200, .inl (upd (upd t_kidNext (t_kidCount : Int32).toNatClampNeg (-1)) (a1 : Int32).toNatClampNeg t_kidCount)))] := hD
    refine lv_iload_n hx hb dX9_addKid_74 rfl (lv_at hl 0 rfl) ?_
    obtain rfl := Option.some.inj hm
    subst hQ0
    exact W.iret (v := t_kidCount) hx hb hr (fun t ht hW => ⟨⟨t_kidCount, (t_kids, (upd t_many (a0 : Int32).toNatClampNeg ((t_many (a0 : Int32).toNatClampNeg) + 1)), (t_kidCount + 1), (upd t_kidShape (t_kidCount : Int32).toNatClampNeg (-1)), (upd t_kidName (t_kidCount : Int32).toNatClampNeg (-1)), (upd t_kidDefault (t_kidCount : Int32).toNatClampNeg (-1)), (upd (upd t_kidNext (t_kidCount : Int32).toNatClampNeg (-1)) (a1 : Int32).toNatClampNeg t_kidCount)), rfl, ⟨rfl, rfl⟩, by rw [ht]; exact hP, va_K.moved hW.alike hK, hD⟩, hS.F ht⟩) hS.2.2 dX9_addKid_75
  · have hm := mr_un c5 hm
    refine lv_aload_n hx hb dX9_addKid_47 rfl (lv_at hl 1 rfl) ?_
    refine va_get (D := (dC, dI)) (ci := 0) (v := .ref tq_kids) (C := RX9) (T := TX9) (N := 35) hx hb hts (inX9 _) hown hK hP 0 rfl rfl 21 (by decide) (hts _ (List.mem_cons_of_mem _ wf9_47)) (fun _ h9 => h9) rfl dX9_addKid_48 ?_
    refine lv_iload_n hx hb dX9_addKid_51 rfl (lv_at hl 2 rfl) ?_
    refine lv_iload_n hx hb dX9_addKid_52 rfl (lv_at hl 0 rfl) ?_
    obtain ⟨h9, hm⟩ := mr_bd hm
    refine va_iast hx hb hK hP hD hS 1 0 rfl rfl h9 dX9_addKid_53 (fun H locs hP hD hS => ?_)
    have hP : va_P (dC, dI) srCl [(ob0, .inr (0, [.ref tq_bytes, .int t_length, .int t_at, .int t_deep, .int t_fault, .int t_place, .int t_end, .int t_nodes, .ref tq_kinds, .ref tq_firsts, .ref tq_numbers, .ref tq_sizes, .ref tq_inner, .ref tq_nexts, .ref tq_letters, .int t_lettered, .int t_shapes, .int t_looked, .ref tq_sorts, .ref tq_names, .ref tq_wide, .ref tq_kids, .ref tq_many, .ref tq_fallback, .int (t_kidCount + 1), .ref tq_kidShape, .ref tq_kidName, .ref tq_kidDefault, .ref tq_kidNext, .int t_done, .ref tq_finished, .int t_root, .ref tq_plain, .int t_plainSize, .ref tq_told])), (tq_kids, .inl (cI, 140, .inl (upd t_kids (a0 : Int32).toNatClampNeg t_kidCount))), (tq_many, .inl (cI, 140, .inl t_many)), (tq_kidShape, .inl (cI, 2200, .inl (upd t_kidShape (t_kidCount : Int32).toNatClampNeg (-1)))), (tq_kidName, .inl (cI, 2200, .inl (upd t_kidName (t_kidCount : Int32).toNatClampNeg (-1)))), (tq_kidDefault, .inl (cI, 2200, .inl (upd t_kidDefault (t_kidCount : Int32).toNatClampNeg (-1)))), (tq_kidNext, .inl (cI, 2200, .inl (upd t_kidNext (t_kidCount : Int32).toNatClampNeg (-1))))] H := hP
    have hD : va_D A [(ob0, .inr (0, [.ref tq_bytes, .int t_length, .int t_at, .int t_deep, .int t_fault, .int t_place, .int t_end, .int t_nodes, .ref tq_kinds, .ref tq_firsts, .ref tq_numbers, .ref tq_sizes, .ref tq_inner, .ref tq_nexts, .ref tq_letters, .int t_lettered, .int t_shapes, .int t_looked, .ref tq_sorts, .ref tq_names, .ref tq_wide, .ref tq_kids, .ref tq_many, .ref tq_fallback, .int (t_kidCount + 1), .ref tq_kidShape, .ref tq_kidName, .ref tq_kidDefault, .ref tq_kidNext, .int t_done, .ref tq_finished, .int t_root, .ref tq_plain, .int t_plainSize, .ref tq_told])), (tq_kids, .inl (cI, 140, .inl (upd t_kids (a0 : Int32).toNatClampNeg t_kidCount))), (tq_many, .inl (cI, 140, .inl t_many)), (tq_kidShape, .inl (cI, 2200, .inl (upd t_kidShape (t_kidCount : Int32).toNatClampNeg (-1)))), (tq_kidName, .inl (cI, 2200, .inl (upd t_kidName (t_kidCount : Int32).toNatClampNeg (-1)))), (tq_kidDefault, .inl (cI, 2200, .inl (upd t_kidDefault (t_kidCount : Int32).toNatClampNeg (-1)))), (tq_kidNext, .inl (cI, 2200, .inl (upd t_kidNext (t_kidCount : Int32).toNatClampNeg (-1))))] := hD
    refine lv_goto (tgt := 64) hx hb dX9_addKid_54 (by decide) ?_
    refine lv_aload_n hx hb dX9_addKid_64 rfl (lv_at hl 1 rfl) ?_
    refine va_get (D := (dC, dI)) (ci := 0) (v := .ref tq_many) (C := RX9) (T := TX9) (N := 35) hx hb hts (inX9 _) hown hK hP 0 rfl rfl 22 (by decide) (hts _ (List.mem_cons_of_mem _ wf9_50)) (fun _ h9 => h9) rfl dX9_addKid_65 ?_
    refine lv_iload_n hx hb dX9_addKid_68 rfl (lv_at hl 2 rfl) ?_
    refine lv_dup2_11 hx hb dX9_addKid_69 rfl rfl ?_
    obtain ⟨h10, hm⟩ := mr_bd hm
    refine va_iald hx hb hK hP 2 0 rfl rfl h10 dX9_addKid_70 ?_
    refine lv_iconst (v := 1) hx hb dX9_addKid_71 (by decide) ?_
    refine lv_iadd hx hb dX9_addKid_72 ?_
    obtain ⟨h11, hm⟩ := mr_bd hm
    refine va_iast hx hb hK hP hD hS 2 0 rfl rfl h11 dX9_addKid_73 (fun H locs hP hD hS => ?_)
    have hP : va_P (dC, dI) srCl [(ob0, .inr (0, [.ref tq_bytes, .int t_length, .int t_at, .int t_deep, .int t_fault, .int t_place, .int t_end, .int t_nodes, .ref tq_kinds, .ref tq_firsts, .ref tq_numbers, .ref tq_sizes, .ref tq_inner, .ref tq_nexts, .ref tq_letters, .int t_lettered, .int t_shapes, .int t_looked, .ref tq_sorts, .ref tq_names, .ref tq_wide, .ref tq_kids, .ref tq_many, .ref tq_fallback, .int (t_kidCount + 1), .ref tq_kidShape, .ref tq_kidName, .ref tq_kidDefault, .ref tq_kidNext, .int t_done, .ref tq_finished, .int t_root, .ref tq_plain, .int t_plainSize, .ref tq_told])), (tq_kids, .inl (cI, 140, .inl (upd t_kids (a0 : Int32).toNatClampNeg t_kidCount))), (tq_many, .inl (cI, 140, .inl (upd t_many (a0 : Int32).toNatClampNeg ((t_many (a0 : Int32).toNatClampNeg) + 1)))), (tq_kidShape, .inl (cI, 2200, .inl (upd t_kidShape (t_kidCount : Int32).toNatClampNeg (-1)))), (tq_kidName, .inl (cI, 2200, .inl (upd t_kidName (t_kidCount : Int32).toNatClampNeg (-1)))), (tq_kidDefault, .inl (cI, 2200, .inl (upd t_kidDefault (t_kidCount : Int32).toNatClampNeg (-1)))), (tq_kidNext, .inl (cI, 2200, .inl (upd t_kidNext (t_kidCount : Int32).toNatClampNeg (-1))))] H := hP
    have hD : va_D A [(ob0, .inr (0, [.ref tq_bytes, .int t_length, .int t_at, .int t_deep, .int t_fault, .int t_place, .int t_end, .int t_nodes, .ref tq_kinds, .ref tq_firsts, .ref tq_numbers, .ref tq_sizes, .ref tq_inner, .ref tq_nexts, .ref tq_letters, .int t_lettered, .int t_shapes, .int t_looked, .ref tq_sorts, .ref tq_names, .ref tq_wide, .ref tq_kids, .ref tq_many, .ref tq_fallback, .int (t_kidCount + 1), .ref tq_kidShape, .ref tq_kidName, .ref tq_kidDefault, .ref tq_kidNext, .int t_done, .ref tq_finished, .int t_root, .ref tq_plain, .int t_plainSize, .ref tq_told])), (tq_kids, .inl (cI, 140, .inl (upd t_kids (a0 : Int32).toNatClampNeg t_kidCount))), (tq_many, .inl (cI, 140, .inl (upd t_many (a0 : Int32).toNatClampNeg ((t_many (a0 : Int32).toNatClampNeg) + 1)))), (tq_kidShape, .inl (cI, 2200, .inl (upd t_kidShape (t_kidCount : Int32).toNatClampNeg (-1)))), (tq_kidName, .inl (cI, 2200, .inl (upd t_kidName (t_kidCount : Int32).toNatClampNeg (-1)))), (tq_kidDefault, .inl (cI, 2200, .inl (upd t_kidDefault (t_kidCount : Int32).toNatClampNeg (-1)))), (tq_kidNext, .inl (cI, 2200, .inl (upd t_kidNext (t_kidCount : Int32).toNatClampNeg (-1))))] := hD
    refine lv_iload_n hx hb dX9_addKid_74 rfl (lv_at hl 0 rfl) ?_
    obtain rfl := Option.some.inj hm
    subst hQ0
    exact W.iret (v := t_kidCount) hx hb hr (fun t ht hW => ⟨⟨t_kidCount, ((upd t_kids (a0 : Int32).toNatClampNeg t_kidCount), (upd t_many (a0 : Int32).toNatClampNeg ((t_many (a0 : Int32).toNatClampNeg) + 1)), (t_kidCount + 1), (upd t_kidShape (t_kidCount : Int32).toNatClampNeg (-1)), (upd t_kidName (t_kidCount : Int32).toNatClampNeg (-1)), (upd t_kidDefault (t_kidCount : Int32).toNatClampNeg (-1)), (upd t_kidNext (t_kidCount : Int32).toNatClampNeg (-1))), rfl, ⟨rfl, rfl⟩, by rw [ht]; exact hP, va_K.moved hW.alike hK, hD⟩, hS.F ht⟩) hS.2.2 dX9_addKid_75
set_option maxHeartbeats 4000000 in
set_option maxRecDepth 100000 in
theorem kX9_alike (l : Launch) (htr : l.stackTraces = false) (dC : Nat → ClassId) (dI : Nat → Nat → Nat) (adK adV : Nat → Nat) (cI cB cJ cZ cQ : ClassId) (ob0 tq_bytes tq_kinds tq_firsts tq_numbers tq_sizes tq_inner tq_nexts tq_letters tq_sorts tq_names tq_wide tq_kids tq_many tq_fallback tq_kidShape tq_kidName tq_kidDefault tq_kidNext tq_finished tq_plain tq_told : Nat) (t_length : Int32) (t_at : Int32) (t_deep : Int32) (t_fault : Int32) (t_place : Int32) (t_end : Int32) (t_nodes : Int32) (t_lettered : Int32) (t_shapes : Int32) (t_looked : Int32) (t_kidCount : Int32) (t_done : Int32) (t_root : Int32) (t_plainSize : Int32) (t_sorts : Nat → Int32) (a0 : Int32) (a1 : Int32) (res : Int32) (hm : m_X9_alike t_sorts a0 a1 = some res) : Met l yX9_alike wsX9_alike (rmX9_alike 0 0) (pcR (sr_Z adK adV) (dC, dI) srCl [(cI, .int), (cB, .byte), (cJ, .long), (cZ, .boolean), (cQ, .object "SchemaReader$Schema")] [.ref ob0, .int a0, .int a1] [(ob0, .inr (0, [.ref tq_bytes, .int t_length, .int t_at, .int t_deep, .int t_fault, .int t_place, .int t_end, .int t_nodes, .ref tq_kinds, .ref tq_firsts, .ref tq_numbers, .ref tq_sizes, .ref tq_inner, .ref tq_nexts, .ref tq_letters, .int t_lettered, .int t_shapes, .int t_looked, .ref tq_sorts, .ref tq_names, .ref tq_wide, .ref tq_kids, .ref tq_many, .ref tq_fallback, .int t_kidCount, .ref tq_kidShape, .ref tq_kidName, .ref tq_kidDefault, .ref tq_kidNext, .int t_done, .ref tq_finished, .int t_root, .ref tq_plain, .int t_plainSize, .ref tq_told])), (tq_sorts, .inl (cI, 140, .inl t_sorts))]) (k2_QcV (.int res)) 0 0 (fun _ => False) := by
  refine Met.ofW (cc := cX9_alike) (maxL := 3) (ret := (some .boolean)) (by decide) rfl ?_
  intro p e s m args below meth c s₁ B hml hv
  obtain ⟨rfl, hP, hK, hz0⟩ := hv
  have hx := B.exec
  have hb := B.bytes
  have hr := B.returns
  have hts := atoms_spec (ws := wsX9_alike) B.pre
  have hown : s.vm.findClass RX9 = some m.cls := findClass_of_methodNamed B.named
  have hlocks := B.notSynchronized
  have hS : va_S (fun _ => False) s.heap s.heap [] := va_S.rf
  generalize hQ0 : MQ below (k2_QcV (.int res)) [.ref ob0, .int a0, .int a1].toArray s 0 0 (fun _ => False) = Q0
  have hl := lv_entry [.ref ob0, .int a0, .int a1] (n := 3) (Nat.le_of_ble_eq_true rfl)
  rw [lg_entry_eq]
  generalize (lg_sl [.ref ob0, .int a0, .int a1] ++ List.replicate (3 - (lg_sl [.ref ob0, .int a0, .int a1]).length) Slot.unset).toArray = ls at hl ⊢
  have hl : lv_has ls 3 [(0, .ref ob0), (1, .int a0), (2, .int a1)] := hl
  unfold m_X9_alike at hm
  refine lv_iload_n hx hb dX9_alike_0 rfl (lv_at hl 1 rfl) ?_
  refine lv_iload_n hx hb dX9_alike_1 rfl (lv_at hl 2 rfl) ?_
  refine lv_icmp_ne (tgt := 7) hx hb dX9_alike_2 (by decide) (fun c1 => ?_) (fun c1 => ?_)
  · have hm := mr_un c1 hm
    refine lv_aload_n hx hb dX9_alike_7 rfl (lv_at hl 0 rfl) ?_
    refine va_get (D := (dC, dI)) (ci := 0) (v := .ref tq_sorts) (C := RX9) (T := TX9) (N := 35) hx hb hts (inX9 _) hown hK hP 0 rfl rfl 18 (by decide) (hts _ (List.mem_cons_of_mem _ wf9_38)) (fun _ h9 => h9) rfl dX9_alike_8 ?_
    refine lv_iload_n hx hb dX9_alike_11 rfl (lv_at hl 1 rfl) ?_
    obtain ⟨h2, hm⟩ := mr_bd hm
    refine va_iald hx hb hK hP 1 0 rfl rfl h2 dX9_alike_12 ?_
    refine lv_aload_n hx hb dX9_alike_13 rfl (lv_at hl 0 rfl) ?_
    refine va_get (D := (dC, dI)) (ci := 0) (v := .ref tq_sorts) (C := RX9) (T := TX9) (N := 35) hx hb hts (inX9 _) hown hK hP 0 rfl rfl 18 (by decide) (hts _ (List.mem_cons_of_mem _ wf9_38)) (fun _ h9 => h9) rfl dX9_alike_14 ?_
    refine lv_iload_n hx hb dX9_alike_17 rfl (lv_at hl 2 rfl) ?_
    obtain ⟨h3, hm⟩ := mr_bd hm
    refine va_iald hx hb hK hP 1 0 rfl rfl h3 dX9_alike_18 ?_
    refine lv_icmp_ne (tgt := 48) hx hb dX9_alike_19 (by decide) (fun c4 => ?_) (fun c4 => ?_)
    · have hm := mr_un c4 hm
      refine lv_iconst (v := 0) hx hb dX9_alike_48 (by decide) ?_
      obtain rfl := Option.some.inj hm
      subst hQ0
      exact W.zret (v := 0) hx hb hr rfl (fun t ht hW => ⟨rfl, ht⟩) (fun q h => by cases h) dX9_alike_49
    · have hm := mr_if c4 hm
      refine lv_aload_n hx hb dX9_alike_22 rfl (lv_at hl 0 rfl) ?_
      refine va_get (D := (dC, dI)) (ci := 0) (v := .ref tq_sorts) (C := RX9) (T := TX9) (N := 35) hx hb hts (inX9 _) hown hK hP 0 rfl rfl 18 (by decide) (hts _ (List.mem_cons_of_mem _ wf9_38)) (fun _ h9 => h9) rfl dX9_alike_23 ?_
      refine lv_iload_n hx hb dX9_alike_26 rfl (lv_at hl 1 rfl) ?_
      obtain ⟨h5, hm⟩ := mr_bd hm
      refine va_iald hx hb hK hP 1 0 rfl rfl h5 dX9_alike_27 ?_
      refine lv_bipush (v := 6) hx hb dX9_alike_28 (by decide) ?_
      refine lv_icmp_eq (tgt := 44) hx hb dX9_alike_30 (by decide) (fun c6 => ?_) (fun c6 => ?_)
      · have hm := mr_if c6 hm
        refine lv_iconst (v := 1) hx hb dX9_alike_44 (by decide) ?_
        refine lv_goto (tgt := 49) hx hb dX9_alike_45 (by decide) ?_
        obtain rfl := Option.some.inj hm
        subst hQ0
        exact W.zret (v := 1) hx hb hr rfl (fun t ht hW => ⟨rfl, ht⟩) (fun q h => by cases h) dX9_alike_49
      · have hm := mr_un c6 hm
        refine lv_aload_n hx hb dX9_alike_33 rfl (lv_at hl 0 rfl) ?_
        refine va_get (D := (dC, dI)) (ci := 0) (v := .ref tq_sorts) (C := RX9) (T := TX9) (N := 35) hx hb hts (inX9 _) hown hK hP 0 rfl rfl 18 (by decide) (hts _ (List.mem_cons_of_mem _ wf9_38)) (fun _ h9 => h9) rfl dX9_alike_34 ?_
        refine lv_iload_n hx hb dX9_alike_37 rfl (lv_at hl 1 rfl) ?_
        obtain ⟨h7, hm⟩ := mr_bd hm
        refine va_iald hx hb hK hP 1 0 rfl rfl h7 dX9_alike_38 ?_
        refine lv_bipush (v := 7) hx hb dX9_alike_39 (by decide) ?_
        refine lv_icmp_ne (tgt := 48) hx hb dX9_alike_41 (by decide) (fun c8 => ?_) (fun c8 => ?_)
        · have hm := mr_un c8 hm
          refine lv_iconst (v := 0) hx hb dX9_alike_48 (by decide) ?_
          obtain rfl := Option.some.inj hm
          subst hQ0
          exact W.zret (v := 0) hx hb hr rfl (fun t ht hW => ⟨rfl, ht⟩) (fun q h => by cases h) dX9_alike_49
        · have hm := mr_if c8 hm
          refine lv_iconst (v := 1) hx hb dX9_alike_44 (by decide) ?_
          refine lv_goto (tgt := 49) hx hb dX9_alike_45 (by decide) ?_
          obtain rfl := Option.some.inj hm
          subst hQ0
          exact W.zret (v := 1) hx hb hr rfl (fun t ht hW => ⟨rfl, ht⟩) (fun q h => by cases h) dX9_alike_49
  · have hm := mr_if c1 hm
    refine lv_iconst (v := 1) hx hb dX9_alike_5 (by decide) ?_
    obtain rfl := Option.some.inj hm
    subst hQ0
    exact W.zret (v := 1) hx hb hr rfl (fun t ht hW => ⟨rfl, ht⟩) (fun q h => by cases h) dX9_alike_6
set_option maxHeartbeats 4000000 in
set_option maxRecDepth 100000 in
theorem kX9_symbol (l : Launch) (htr : l.stackTraces = false) (dC : Nat → ClassId) (dI : Nat → Nat → Nat) (adK adV : Nat → Nat) (cI cB cJ cZ cQ : ClassId) (ob0 tq_bytes tq_kinds tq_firsts tq_numbers tq_sizes tq_inner tq_nexts tq_letters tq_sorts tq_names tq_wide tq_kids tq_many tq_fallback tq_kidShape tq_kidName tq_kidDefault tq_kidNext tq_finished tq_plain tq_told ob1 oq_bytes oq_kinds oq_firsts oq_numbers oq_sizes oq_inner oq_nexts oq_letters oq_sorts oq_names oq_wide oq_kids oq_many oq_fallback oq_kidShape oq_kidName oq_kidDefault oq_kidNext oq_finished oq_plain oq_told : Nat) (t_length : Int32) (t_at : Int32) (t_deep : Int32) (t_fault : Int32) (t_place : Int32) (t_end : Int32) (t_nodes : Int32) (t_lettered : Int32) (t_shapes : Int32) (t_looked : Int32) (t_kidCount : Int32) (t_done : Int32) (t_root : Int32) (t_plainSize : Int32) (o_length : Int32) (o_at : Int32) (o_deep : Int32) (o_fault : Int32) (o_place : Int32) (o_end : Int32) (o_nodes : Int32) (o_lettered : Int32) (o_shapes : Int32) (o_looked : Int32) (o_kidCount : Int32) (o_done : Int32) (o_root : Int32) (o_plainSize : Int32) (t_numbers : Nat → Int64) (t_sizes : Nat → Int32) (t_letters : Nat → Int32) (t_kids : Nat → Int32) (t_kidName : Nat → Int32) (t_kidNext : Nat → Int32) (o_numbers : Nat → Int64) (o_sizes : Nat → Int32) (o_letters : Nat → Int32) (a0 : Int32) (a2 : Int32) (res : Int32) (hm : m_X9_symbol t_numbers t_sizes t_letters t_kids t_kidName t_kidNext o_numbers o_sizes o_letters a0 a2 = some res) : Met l yX9_symbol wsX9_symbol (rmX9_symbol 0 0) (pcR (sr_Z adK adV) (dC, dI) srCl [(cI, .int), (cB, .byte), (cJ, .long), (cZ, .boolean), (cQ, .object "SchemaReader$Schema")] [.ref ob0, .int a0, .ref ob1, .int a2] [(ob0, .inr (0, [.ref tq_bytes, .int t_length, .int t_at, .int t_deep, .int t_fault, .int t_place, .int t_end, .int t_nodes, .ref tq_kinds, .ref tq_firsts, .ref tq_numbers, .ref tq_sizes, .ref tq_inner, .ref tq_nexts, .ref tq_letters, .int t_lettered, .int t_shapes, .int t_looked, .ref tq_sorts, .ref tq_names, .ref tq_wide, .ref tq_kids, .ref tq_many, .ref tq_fallback, .int t_kidCount, .ref tq_kidShape, .ref tq_kidName, .ref tq_kidDefault, .ref tq_kidNext, .int t_done, .ref tq_finished, .int t_root, .ref tq_plain, .int t_plainSize, .ref tq_told])), (tq_numbers, .inl (cJ, 4200, .inr (.inl t_numbers))), (tq_sizes, .inl (cI, 4200, .inl t_sizes)), (tq_letters, .inl (cB, 4200, .inl t_letters)), (tq_kids, .inl (cI, 140, .inl t_kids)), (tq_kidName, .inl (cI, 2200, .inl t_kidName)), (tq_kidNext, .inl (cI, 2200, .inl t_kidNext)), (ob1, .inr (0, [.ref oq_bytes, .int o_length, .int o_at, .int o_deep, .int o_fault, .int o_place, .int o_end, .int o_nodes, .ref oq_kinds, .ref oq_firsts, .ref oq_numbers, .ref oq_sizes, .ref oq_inner, .ref oq_nexts, .ref oq_letters, .int o_lettered, .int o_shapes, .int o_looked, .ref oq_sorts, .ref oq_names, .ref oq_wide, .ref oq_kids, .ref oq_many, .ref oq_fallback, .int o_kidCount, .ref oq_kidShape, .ref oq_kidName, .ref oq_kidDefault, .ref oq_kidNext, .int o_done, .ref oq_finished, .int o_root, .ref oq_plain, .int o_plainSize, .ref oq_told])), (oq_numbers, .inl (cJ, 4200, .inr (.inl o_numbers))), (oq_sizes, .inl (cI, 4200, .inl o_sizes)), (oq_letters, .inl (cB, 4200, .inl o_letters))]) (k2_QcV (.int res)) 0 0 (fun _ => False) := by
  refine Met.ofW (cc := cX9_symbol) (maxL := 6) (ret := (some .int)) (by decide) rfl ?_
  intro p e s m args below meth c s₁ B hml hv
  obtain ⟨rfl, hP, hK, hz0⟩ := hv
  have hx := B.exec
  have hb := B.bytes
  have hr := B.returns
  have hts := atoms_spec (ws := wsX9_symbol) B.pre
  have hown : s.vm.findClass RX9 = some m.cls := findClass_of_methodNamed B.named
  have hlocks := B.notSynchronized
  have hS : va_S (fun _ => False) s.heap s.heap [] := va_S.rf
  generalize hQ0 : MQ below (k2_QcV (.int res)) [.ref ob0, .int a0, .ref ob1, .int a2].toArray s 0 0 (fun _ => False) = Q0
  have hl := lv_entry [.ref ob0, .int a0, .ref ob1, .int a2] (n := 6) (Nat.le_of_ble_eq_true rfl)
  rw [lg_entry_eq]
  generalize (lg_sl [.ref ob0, .int a0, .ref ob1, .int a2] ++ List.replicate (6 - (lg_sl [.ref ob0, .int a0, .ref ob1, .int a2]).length) Slot.unset).toArray = ls at hl ⊢
  have hl : lv_has ls 6 [(0, .ref ob0), (1, .int a0), (2, .ref ob1), (3, .int a2)] := hl
  unfold m_X9_symbol at hm
  refine lv_iconst (v := 0) hx hb dX9_symbol_0 (by decide) ?_
  refine lv_istore (lv' := [(4, .int 0), (0, .ref ob0), (1, .int a0), (2, .ref ob1), (3, .int a2)]) hx hb dX9_symbol_1 hl (by decide) rfl (fun ls hl => ?_)
  refine lv_aload_n hx hb dX9_symbol_3 rfl (lv_at hl 1 rfl) ?_
  refine va_get (D := (dC, dI)) (ci := 0) (v := .ref tq_kids) (C := RX9) (T := TX9) (N := 35) hx hb hts (inX9 _) hown hK hP 0 rfl rfl 21 (by decide) (hts _ (List.mem_cons_of_mem _ wf9_47)) (fun _ h9 => h9) rfl dX9_symbol_4 ?_
  refine lv_iload_n hx hb dX9_symbol_7 rfl (lv_at hl 2 rfl) ?_
  obtain ⟨h1, hm⟩ := mr_bd hm
  refine va_iald hx hb hK hP 4 0 rfl rfl h1 dX9_symbol_8 ?_
  have j11 : ∀ (n11 : Nat) (x3 : Int32) (x4 : Int32) (x5 : Int32) (ls : Array Slot), lv_has ls 6 [(0, .ref ob0), (2, .ref ob1), (3, .int x3), (4, .int x4), (5, .int x5)] → m_X9_symbol_11 t_numbers t_sizes t_letters t_kids t_kidName t_kidNext o_numbers o_sizes o_letters n11 x3 x4 x5 = some res → W p l e (headSpec wsX9_symbol (rmX9_symbol 0 0)).room s m [.ref ob0, .int a0, .ref ob1, .int a2].toArray below meth c s.heap [] 0 0 Q0 (F0 m 11 ls []) := by
    intro n11
    induction n11 with
    | zero => intro x3 x4 x5 ls hl hm; exact nomatch (show (none : Option _) = some res from hm)
    | succ n11 ih11 =>
      intro x3 x4 x5 ls hl hm
      rw [m_X9_symbol_11] at hm
      refine lv_iload hx hb dX9_symbol_11 (lv_at hl 4 rfl) ?_
      refine lv_if_lt (tgt := 50) hx hb dX9_symbol_13 (by decide) (fun c2 => ?_) (fun c2 => ?_)
      · have hm := mr_if c2 hm
        refine lv_iconst (v := -1) hx hb dX9_symbol_50 (by decide) ?_
        obtain rfl := Option.some.inj hm
        subst hQ0
        exact W.iret (v := (-1)) hx hb hr (fun t ht hW => ⟨rfl, ht⟩) (fun q h => by cases h) dX9_symbol_51
      · have hm := mr_un c2 hm
        refine lv_aload_n hx hb dX9_symbol_16 rfl (lv_at hl 0 rfl) ?_
        refine lv_aload_n hx hb dX9_symbol_17 rfl (lv_at hl 0 rfl) ?_
        refine va_get (D := (dC, dI)) (ci := 0) (v := .ref tq_kidName) (C := RX9) (T := TX9) (N := 35) hx hb hts (inX9 _) hown hK hP 0 rfl rfl 26 (by decide) (hts _ (List.mem_cons_of_mem _ wf9_59)) (fun _ h9 => h9) rfl dX9_symbol_18 ?_
        refine lv_iload hx hb dX9_symbol_21 (lv_at hl 4 rfl) ?_
        obtain ⟨h3, hm⟩ := mr_bd hm
        refine va_iald hx hb hK hP 5 0 rfl rfl h3 dX9_symbol_23 ?_
        refine lv_aload_n hx hb dX9_symbol_24 rfl (lv_at hl 1 rfl) ?_
        refine lv_iload_n hx hb dX9_symbol_25 rfl (lv_at hl 2 rfl) ?_
        obtain ⟨r4, hz4, hm⟩ := mr_bind hm
        refine mr_pV (As := [.int (t_kidName (x5 : Int32).toNatClampNeg), .ref ob1, .int x3]) (rest := []) (sr_okZ adK adV) ⟨hx, hb, hml, hown, hts⟩ (kX9_same l htr dC dI adK adV cI cB cJ cZ cQ ob0 tq_bytes tq_kinds tq_firsts tq_numbers tq_sizes tq_inner tq_nexts tq_letters tq_sorts tq_names tq_wide tq_kids tq_many tq_fallback tq_kidShape tq_kidName tq_kidDefault tq_kidNext tq_finished tq_plain tq_told ob1 oq_bytes oq_kinds oq_firsts oq_numbers oq_sizes oq_inner oq_nexts oq_letters oq_sorts oq_names oq_wide oq_kids oq_many oq_fallback oq_kidShape oq_kidName oq_kidDefault oq_kidNext oq_finished oq_plain oq_told t_length t_at t_deep t_fault t_place t_end t_nodes t_lettered t_shapes t_looked t_kidCount t_done t_root t_plainSize o_length o_at o_deep o_fault o_place o_end o_nodes o_lettered o_shapes o_looked o_kidCount o_done o_root o_plainSize t_numbers t_sizes t_letters o_numbers o_sizes o_letters (t_kidName (x5 : Int32).toNatClampNeg) x3 r4 hz4) (cwV 3 hts (g9_155 _) rfl rfl rfl (by decide +kernel) ⟨(by show 0 + 1 ≤ 1; omega), (by show 8 + (5 + 11) + (0) ≤ 24; omega)⟩) hS hP hK hz0 [0, 1, 2, 3, 7, 8, 9, 10] rfl (va_recv hK hP (ci := 0) (q0 := 0) rfl rfl) rfl rfl hl.1 (Nat.le_of_ble_eq_true rfl) dX9_symbol_26 ⟨Nat.zero_le _, Nat.zero_le _⟩ ?_
        refine lv_if_eq (tgt := 35) hx hb dX9_symbol_29 (by decide) (fun c5 => ?_) (fun c5 => ?_)
        · have hm := mr_if c5 hm
          refine lv_iinc (v := x4 + 1) (lv' := [(4, .int (x4 + 1)), (0, .ref ob0), (2, .ref ob1), (3, .int x3), (5, .int x5)]) hx hb dX9_symbol_35 hl (k := 3) rfl rfl (by decide) rfl (fun ls hl => ?_)
          refine lv_aload_n hx hb dX9_symbol_38 rfl (lv_at hl 1 rfl) ?_
          refine va_get (D := (dC, dI)) (ci := 0) (v := .ref tq_kidNext) (C := RX9) (T := TX9) (N := 35) hx hb hts (inX9 _) hown hK hP 0 rfl rfl 28 (by decide) (hts _ (List.mem_cons_of_mem _ wf9_65)) (fun _ h9 => h9) rfl dX9_symbol_39 ?_
          refine lv_iload hx hb dX9_symbol_42 (lv_at hl 4 rfl) ?_
          obtain ⟨h6, hm⟩ := mr_bd hm
          refine va_iald hx hb hK hP 6 0 rfl rfl h6 dX9_symbol_44 ?_
          refine lv_istore (lv' := [(5, .int (t_kidNext (x5 : Int32).toNatClampNeg)), (4, .int (x4 + 1)), (0, .ref ob0), (2, .ref ob1), (3, .int x3)]) hx hb dX9_symbol_45 hl (by decide) rfl (fun ls hl => ?_)
          refine lv_goto (tgt := 11) hx hb dX9_symbol_47 (by decide) ?_
          exact ih11 x3 (x4 + 1) (t_kidNext (x5 : Int32).toNatClampNeg) ls (lv_sub hl [2, 3, 4, 1, 0] rfl) hm
        · have hm := mr_un c5 hm
          refine lv_iload hx hb dX9_symbol_32 (lv_at hl 3 rfl) ?_
          obtain rfl := Option.some.inj hm
          subst hQ0
          exact W.iret (v := x4) hx hb hr (fun t ht hW => ⟨rfl, ht⟩) (fun q h => by cases h) dX9_symbol_34
  refine lv_istore (lv' := [(5, .int (t_kids (a0 : Int32).toNatClampNeg)), (4, .int 0), (0, .ref ob0), (1, .int a0), (2, .ref ob1), (3, .int a2)]) hx hb dX9_symbol_9 hl (by decide) rfl (fun ls hl => ?_)
  exact j11 sr_fuel a2 0 (t_kids (a0 : Int32).toNatClampNeg) ls (lv_sub hl [2, 4, 5, 1, 0] rfl) hm
set_option maxHeartbeats 4000000 in
set_option maxRecDepth 100000 in
theorem kX9_figure (l : Launch) (htr : l.stackTraces = false) (dC : Nat → ClassId) (dI : Nat → Nat → Nat) (adK adV : Nat → Nat) (cI cB cJ cZ cQ : ClassId) (ob0 tq_bytes tq_kinds tq_firsts tq_numbers tq_sizes tq_inner tq_nexts tq_letters tq_sorts tq_names tq_wide tq_kids tq_many tq_fallback tq_kidShape tq_kidName tq_kidDefault tq_kidNext tq_finished tq_plain tq_told : Nat) (t_length : Int32) (t_at : Int32) (t_deep : Int32) (t_fault : Int32) (t_place : Int32) (t_end : Int32) (t_nodes : Int32) (t_lettered : Int32) (t_shapes : Int32) (t_looked : Int32) (t_kidCount : Int32) (t_done : Int32) (t_root : Int32) (t_plainSize : Int32) (t_plain : Nat → Int32) (sz : Nat) (a0 : Int32) (res : (Nat → Int32) × Int32) (hm : m_X9_figure t_plain t_plainSize a0 = some res) : Met l yX9_figure wsX9_figure (rmX9_figure 0 0) (pcW (sr_Z adK adV) (dC, dI) srCl [(cI, .int), (cB, .byte), (cJ, .long), (cZ, .boolean), (cQ, .object "SchemaReader$Schema")] [.ref ob0, .int a0] [(ob0, .inr (0, [.ref tq_bytes, .int t_length, .int t_at, .int t_deep, .int t_fault, .int t_place, .int t_end, .int t_nodes, .ref tq_kinds, .ref tq_firsts, .ref tq_numbers, .ref tq_sizes, .ref tq_inner, .ref tq_nexts, .ref tq_letters, .int t_lettered, .int t_shapes, .int t_looked, .ref tq_sorts, .ref tq_names, .ref tq_wide, .ref tq_kids, .ref tq_many, .ref tq_fallback, .int t_kidCount, .ref tq_kidShape, .ref tq_kidName, .ref tq_kidDefault, .ref tq_kidNext, .int t_done, .ref tq_finished, .int t_root, .ref tq_plain, .int t_plainSize, .ref tq_told])), (tq_plain, .inl (cB, 4200, .inl t_plain))] sz) (va_Qv (fun u' => u' = res) (pcB (dC, dI) srCl [(cI, .int), (cB, .byte), (cJ, .long), (cZ, .boolean), (cQ, .object "SchemaReader$Schema")] (fun u : (Nat → Int32) × Int32 => [(ob0, .inr (0, [.ref tq_bytes, .int t_length, .int t_at, .int t_deep, .int t_fault, .int t_place, .int t_end, .int t_nodes, .ref tq_kinds, .ref tq_firsts, .ref tq_numbers, .ref tq_sizes, .ref tq_inner, .ref tq_nexts, .ref tq_letters, .int t_lettered, .int t_shapes, .int t_looked, .ref tq_sorts, .ref tq_names, .ref tq_wide, .ref tq_kids, .ref tq_many, .ref tq_fallback, .int t_kidCount, .ref tq_kidShape, .ref tq_kidName, .ref tq_kidDefault, .ref tq_kidNext, .int t_done, .ref tq_finished, .int t_root, .ref tq_plain, .int u.2, .ref tq_told])), (tq_plain, .inl (cB, 4200, .inl u.1))]) (va_A [(ob0, .inr (0, [.ref tq_bytes, .int t_length, .int t_at, .int t_deep, .int t_fault, .int t_place, .int t_end, .int t_nodes, .ref tq_kinds, .ref tq_firsts, .ref tq_numbers, .ref tq_sizes, .ref tq_inner, .ref tq_nexts, .ref tq_letters, .int t_lettered, .int t_shapes, .int t_looked, .ref tq_sorts, .ref tq_names, .ref tq_wide, .ref tq_kids, .ref tq_many, .ref tq_fallback, .int t_kidCount, .ref tq_kidShape, .ref tq_kidName, .ref tq_kidDefault, .ref tq_kidNext, .int t_done, .ref tq_finished, .int t_root, .ref tq_plain, .int t_plainSize, .ref tq_told])), (tq_plain, .inl (cB, 4200, .inl t_plain))] sz)) (va_A [(ob0, .inr (0, [.ref tq_bytes, .int t_length, .int t_at, .int t_deep, .int t_fault, .int t_place, .int t_end, .int t_nodes, .ref tq_kinds, .ref tq_firsts, .ref tq_numbers, .ref tq_sizes, .ref tq_inner, .ref tq_nexts, .ref tq_letters, .int t_lettered, .int t_shapes, .int t_looked, .ref tq_sorts, .ref tq_names, .ref tq_wide, .ref tq_kids, .ref tq_many, .ref tq_fallback, .int t_kidCount, .ref tq_kidShape, .ref tq_kidName, .ref tq_kidDefault, .ref tq_kidNext, .int t_done, .ref tq_finished, .int t_root, .ref tq_plain, .int t_plainSize, .ref tq_told])), (tq_plain, .inl (cB, 4200, .inl t_plain))] sz)) 0 0 (va_A [(ob0, .inr (0, [.ref tq_bytes, .int t_length, .int t_at, .int t_deep, .int t_fault, .int t_place, .int t_end, .int t_nodes, .ref tq_kinds, .ref tq_firsts, .ref tq_numbers, .ref tq_sizes, .ref tq_inner, .ref tq_nexts, .ref tq_letters, .int t_lettered, .int t_shapes, .int t_looked, .ref tq_sorts, .ref tq_names, .ref tq_wide, .ref tq_kids, .ref tq_many, .ref tq_fallback, .int t_kidCount, .ref tq_kidShape, .ref tq_kidName, .ref tq_kidDefault, .ref tq_kidNext, .int t_done, .ref tq_finished, .int t_root, .ref tq_plain, .int t_plainSize, .ref tq_told])), (tq_plain, .inl (cB, 4200, .inl t_plain))] sz) := by
  refine Met.ofW (cc := cX9_figure) (maxL := 2) (ret := none) (by decide) rfl ?_
  intro p e s m args below meth c s₁ B hml hv
  obtain ⟨rfl, hsz, hP, hK, hD0, hz0⟩ := hv
  have hx := B.exec
  have hb := B.bytes
  have hr := B.returns
  have hts := atoms_spec (ws := wsX9_figure) B.pre
  have hown : s.vm.findClass RX9 = some m.cls := findClass_of_methodNamed B.named
  have hlocks := B.notSynchronized
  subst hsz
  have hD := hD0.self (sz := s.heap.size)
  generalize hAe : va_A [(ob0, .inr (0, [.ref tq_bytes, .int t_length, .int t_at, .int t_deep, .int t_fault, .int t_place, .int t_end, .int t_nodes, .ref tq_kinds, .ref tq_firsts, .ref tq_numbers, .ref tq_sizes, .ref tq_inner, .ref tq_nexts, .ref tq_letters, .int t_lettered, .int t_shapes, .int t_looked, .ref tq_sorts, .ref tq_names, .ref tq_wide, .ref tq_kids, .ref tq_many, .ref tq_fallback, .int t_kidCount, .ref tq_kidShape, .ref tq_kidName, .ref tq_kidDefault, .ref tq_kidNext, .int t_done, .ref tq_finished, .int t_root, .ref tq_plain, .int t_plainSize, .ref tq_told])), (tq_plain, .inl (cB, 4200, .inl t_plain))] s.heap.size = A at hD hz0 ⊢
  have hA : ∀ q : Nat, s.heap.size ≤ q → A q := fun q h => by rw [← hAe]; exact Or.inr h
  have hS : va_S A s.heap s.heap [] := va_S.rf
  generalize hQ0 : MQ below (va_Qv (fun u' => u' = res) (pcB (dC, dI) srCl [(cI, .int), (cB, .byte), (cJ, .long), (cZ, .boolean), (cQ, .object "SchemaReader$Schema")] (fun u : (Nat → Int32) × Int32 => [(ob0, .inr (0, [.ref tq_bytes, .int t_length, .int t_at, .int t_deep, .int t_fault, .int t_place, .int t_end, .int t_nodes, .ref tq_kinds, .ref tq_firsts, .ref tq_numbers, .ref tq_sizes, .ref tq_inner, .ref tq_nexts, .ref tq_letters, .int t_lettered, .int t_shapes, .int t_looked, .ref tq_sorts, .ref tq_names, .ref tq_wide, .ref tq_kids, .ref tq_many, .ref tq_fallback, .int t_kidCount, .ref tq_kidShape, .ref tq_kidName, .ref tq_kidDefault, .ref tq_kidNext, .int t_done, .ref tq_finished, .int t_root, .ref tq_plain, .int u.2, .ref tq_told])), (tq_plain, .inl (cB, 4200, .inl u.1))]) A) A) [.ref ob0, .int a0].toArray s 0 0 A = Q0
  have hl := lv_entry [.ref ob0, .int a0] (n := 2) (Nat.le_of_ble_eq_true rfl)
  rw [lg_entry_eq]
  generalize (lg_sl [.ref ob0, .int a0] ++ List.replicate (2 - (lg_sl [.ref ob0, .int a0]).length) Slot.unset).toArray = ls at hl ⊢
  have hl : lv_has ls 2 [(0, .ref ob0), (1, .int a0)] := hl
  unfold m_X9_figure at hm
  refine lv_aload_n hx hb dX9_figure_0 rfl (lv_at hl 0 rfl) ?_
  refine va_get (D := (dC, dI)) (ci := 0) (v := .ref tq_plain) (C := RX9) (T := TX9) (N := 35) hx hb hts (inX9 _) hown hK hP 0 rfl rfl 32 (by decide) (hts _ (List.mem_cons_of_mem _ wf9_71)) (fun _ h9 => h9) rfl dX9_figure_1 ?_
  refine lv_aload_n hx hb dX9_figure_4 rfl (lv_at hl 0 rfl) ?_
  refine va_get (D := (dC, dI)) (ci := 0) (v := .int t_plainSize) (C := RX9) (T := TX9) (N := 35) hx hb hts (inX9 _) hown hK hP 0 rfl rfl 33 (by decide) (hts _ (List.mem_cons_of_mem _ wf9_280)) (fun _ h9 => h9) rfl dX9_figure_5 ?_
  refine lv_bipush (v := 48) hx hb dX9_figure_8 (by decide) ?_
  refine lv_iload_n hx hb dX9_figure_10 rfl (lv_at hl 1 rfl) ?_
  refine lv_iadd hx hb dX9_figure_11 ?_
  refine lv_i2b hx hb dX9_figure_12 rfl ?_
  obtain ⟨h1, hm⟩ := mr_bd hm
  refine va_bast hx hb hK hP hD hS 1 1 rfl rfl h1 dX9_figure_13 (fun H locs hP hD hS => ?_)
  have hP : va_P (dC, dI) srCl [(ob0, .inr (0, [.ref tq_bytes, .int t_length, .int t_at, .int t_deep, .int t_fault, .int t_place, .int t_end, .int t_nodes, .ref tq_kinds, .ref tq_firsts, .ref tq_numbers, .ref tq_sizes, .ref tq_inner, .ref tq_nexts, .ref tq_letters, .int t_lettered, .int t_shapes, .int t_looked, .ref tq_sorts, .ref tq_names, .ref tq_wide, .ref tq_kids, .ref tq_many, .ref tq_fallback, .int t_kidCount, .ref tq_kidShape, .ref tq_kidName, .ref tq_kidDefault, .ref tq_kidNext, .int t_done, .ref tq_finished, .int t_root, .ref tq_plain, .int t_plainSize, .ref tq_told])), (tq_plain, .inl (cB, 4200, .inl (upd t_plain (t_plainSize : Int32).toNatClampNeg (vp_nar .byte (((48 + a0) : Int32).toInt8.toInt32)))))] H := hP
  have hD : va_D A [(ob0, .inr (0, [.ref tq_bytes, .int t_length, .int t_at, .int t_deep, .int t_fault, .int t_place, .int t_end, .int t_nodes, .ref tq_kinds, .ref tq_firsts, .ref tq_numbers, .ref tq_sizes, .ref tq_inner, .ref tq_nexts, .ref tq_letters, .int t_lettered, .int t_shapes, .int t_looked, .ref tq_sorts, .ref tq_names, .ref tq_wide, .ref tq_kids, .ref tq_many, .ref tq_fallback, .int t_kidCount, .ref tq_kidShape, .ref tq_kidName, .ref tq_kidDefault, .ref tq_kidNext, .int t_done, .ref tq_finished, .int t_root, .ref tq_plain, .int t_plainSize, .ref tq_told])), (tq_plain, .inl (cB, 4200, .inl (upd t_plain (t_plainSize : Int32).toNatClampNeg (vp_nar .byte (((48 + a0) : Int32).toInt8.toInt32)))))] := hD
  refine lv_aload_n hx hb dX9_figure_14 rfl (lv_at hl 0 rfl) ?_
  refine lv_dup hx hb dX9_figure_15 rfl ?_
  refine va_get (D := (dC, dI)) (ci := 0) (v := .int t_plainSize) (C := RX9) (T := TX9) (N := 35) hx hb hts (inX9 _) hown hK hP 0 rfl rfl 33 (by decide) (hts _ (List.mem_cons_of_mem _ wf9_280)) (fun _ h9 => h9) rfl dX9_figure_16 ?_
  refine lv_iconst (v := 1) hx hb dX9_figure_19 (by decide) ?_
  refine lv_iadd hx hb dX9_figure_20 ?_
  refine va_put (D := (dC, dI)) (ci := 0) (v := .int (t_plainSize + 1)) (ty := .int) (C := RX9) (T := TX9) (N := 35) hx hb hts (inX9 _) tyX9 tyX9_ok nmX9 hown hK hP hD hS 0 rfl rfl 33 (by decide) (hts _ (List.mem_cons_of_mem _ wf9_280)) (fun _ h9 => h9) rfl (by decide +kernel) rfl rfl (Nat.le_of_ble_eq_true rfl) dX9_figure_21 (fun H locs hP hD hS => ?_)
  have hP : va_P (dC, dI) srCl [(ob0, .inr (0, [.ref tq_bytes, .int t_length, .int t_at, .int t_deep, .int t_fault, .int t_place, .int t_end, .int t_nodes, .ref tq_kinds, .ref tq_firsts, .ref tq_numbers, .ref tq_sizes, .ref tq_inner, .ref tq_nexts, .ref tq_letters, .int t_lettered, .int t_shapes, .int t_looked, .ref tq_sorts, .ref tq_names, .ref tq_wide, .ref tq_kids, .ref tq_many, .ref tq_fallback, .int t_kidCount, .ref tq_kidShape, .ref tq_kidName, .ref tq_kidDefault, .ref tq_kidNext, .int t_done, .ref tq_finished, .int t_root, .ref tq_plain, .int (t_plainSize + 1), .ref tq_told])), (tq_plain, .inl (cB, 4200, .inl (upd t_plain (t_plainSize : Int32).toNatClampNeg (vp_nar .byte (((48 + a0) : Int32).toInt8.toInt32)))))] H := hP
  have hD : va_D A [(ob0, .inr (0, [.ref tq_bytes, .int t_length, .int t_at, .int t_deep, .int t_fault, .int t_place, .int t_end, .int t_nodes, .ref tq_kinds, .ref tq_firsts, .ref tq_numbers, .ref tq_sizes, .ref tq_inner, .ref tq_nexts, .ref tq_letters, .int t_lettered, .int t_shapes, .int t_looked, .ref tq_sorts, .ref tq_names, .ref tq_wide, .ref tq_kids, .ref tq_many, .ref tq_fallback, .int t_kidCount, .ref tq_kidShape, .ref tq_kidName, .ref tq_kidDefault, .ref tq_kidNext, .int t_done, .ref tq_finished, .int t_root, .ref tq_plain, .int (t_plainSize + 1), .ref tq_told])), (tq_plain, .inl (cB, 4200, .inl (upd t_plain (t_plainSize : Int32).toNatClampNeg (vp_nar .byte (((48 + a0) : Int32).toInt8.toInt32)))))] := hD
  obtain rfl := Option.some.inj hm
  subst hQ0
  exact W.vret hx hb hr (fun t ht hW => ⟨⟨((upd t_plain (t_plainSize : Int32).toNatClampNeg (vp_nar .byte (((48 + a0) : Int32).toInt8.toInt32))), (t_plainSize + 1)), rfl, rfl, by rw [ht]; exact hP, va_K.moved hW.alike hK, hD⟩, hS.F ht⟩) hS.2.2 dX9_figure_24
set_option maxHeartbeats 4000000 in
set_option maxRecDepth 100000 in
theorem kX9_print (l : Launch) (htr : l.stackTraces = false) (dC : Nat → ClassId) (dI : Nat → Nat → Nat) (adK adV : Nat → Nat) (cI cB cJ cZ cQ : ClassId) (ob0 tq_bytes tq_kinds tq_firsts tq_numbers tq_sizes tq_inner tq_nexts tq_letters tq_sorts tq_names tq_wide tq_kids tq_many tq_fallback tq_kidShape tq_kidName tq_kidDefault tq_kidNext tq_finished tq_plain tq_told : Nat) (t_length : Int32) (t_at : Int32) (t_deep : Int32) (t_fault : Int32) (t_place : Int32) (t_end : Int32) (t_nodes : Int32) (t_lettered : Int32) (t_shapes : Int32) (t_looked : Int32) (t_kidCount : Int32) (t_done : Int32) (t_root : Int32) (t_plainSize : Int32) (t_plain : Nat → Int32) (res : Int64) (hm : m_X9_print t_plain t_plainSize = some res) : Met l yX9_print wsX9_print (rmX9_print 0 0) (pcR (sr_Z adK adV) (dC, dI) srCl [(cI, .int), (cB, .byte), (cJ, .long), (cZ, .boolean), (cQ, .object "SchemaReader$Schema")] [.ref ob0] [(ob0, .inr (0, [.ref tq_bytes, .int t_length, .int t_at, .int t_deep, .int t_fault, .int t_place, .int t_end, .int t_nodes, .ref tq_kinds, .ref tq_firsts, .ref tq_numbers, .ref tq_sizes, .ref tq_inner, .ref tq_nexts, .ref tq_letters, .int t_lettered, .int t_shapes, .int t_looked, .ref tq_sorts, .ref tq_names, .ref tq_wide, .ref tq_kids, .ref tq_many, .ref tq_fallback, .int t_kidCount, .ref tq_kidShape, .ref tq_kidName, .ref tq_kidDefault, .ref tq_kidNext, .int t_done, .ref tq_finished, .int t_root, .ref tq_plain, .int t_plainSize, .ref tq_told])), (tq_plain, .inl (cB, 4200, .inl t_plain))]) (k2_QcV (.long res)) 0 0 (fun _ => False) := by
  refine Met.ofW (cc := cX9_print) (maxL := 7) (ret := (some .long)) (by decide) rfl ?_
  intro p e s m args below meth c s₁ B hml hv
  obtain ⟨rfl, hP, hK, hz0⟩ := hv
  have hx := B.exec
  have hb := B.bytes
  have hr := B.returns
  have hts := atoms_spec (ws := wsX9_print) B.pre
  have hown : s.vm.findClass RX9 = some m.cls := findClass_of_methodNamed B.named
  have hlocks := B.notSynchronized
  have hS : va_S (fun _ => False) s.heap s.heap [] := va_S.rf
  generalize hQ0 : MQ below (k2_QcV (.long res)) [.ref ob0].toArray s 0 0 (fun _ => False) = Q0
  have hl := lv_entry [.ref ob0] (n := 7) (Nat.le_of_ble_eq_true rfl)
  rw [lg_entry_eq]
  generalize (lg_sl [.ref ob0] ++ List.replicate (7 - (lg_sl [.ref ob0]).length) Slot.unset).toArray = ls at hl ⊢
  have hl : lv_has ls 7 [(0, .ref ob0)] := hl
  unfold m_X9_print at hm
  refine lv_ldc2 (v := -4513414715797952619) hx hb hown (hts _ (List.mem_cons_of_mem _ wcl9_335)) dX9_print_0 ?_
  refine lv_lstore_n (lv' := [(1, .long (-4513414715797952619)), (0, .ref ob0)]) hx hb dX9_print_3 rfl hl (by decide) rfl (fun ls hl => ?_)
  refine lv_iconst (v := 0) hx hb dX9_print_4 (by decide) ?_
  have j6 : ∀ (n6 : Nat) (x1 : Int64) (x3 : Int32) (ls : Array Slot), lv_has ls 7 [(0, .ref ob0), (1, .long x1), (3, .int x3)] → m_X9_print_6 t_plain t_plainSize n6 x1 x3 = some res → W p l e (headSpec wsX9_print (rmX9_print 0 0)).room s m [.ref ob0].toArray below meth c s.heap [] 0 0 Q0 (F0 m 6 ls []) := by
    intro n6
    induction n6 with
    | zero => intro x1 x3 ls hl hm; exact nomatch (show (none : Option _) = some res from hm)
    | succ n6 ih6 =>
      intro x1 x3 ls hl hm
      rw [m_X9_print_6] at hm
      refine lv_iload_n hx hb dX9_print_6 rfl (lv_at hl 2 rfl) ?_
      refine lv_aload_n hx hb dX9_print_7 rfl (lv_at hl 0 rfl) ?_
      refine va_get (D := (dC, dI)) (ci := 0) (v := .int t_plainSize) (C := RX9) (T := TX9) (N := 35) hx hb hts (inX9 _) hown hK hP 0 rfl rfl 33 (by decide) (hts _ (List.mem_cons_of_mem _ wf9_280)) (fun _ h9 => h9) rfl dX9_print_8 ?_
      refine lv_icmp_ge (tgt := 82) hx hb dX9_print_11 (by decide) (fun c1 => ?_) (fun c1 => ?_)
      · have hm := mr_if c1 hm
        refine lv_lload_n hx hb dX9_print_82 rfl (lv_at hl 1 rfl) ?_
        obtain rfl := Option.some.inj hm
        subst hQ0
        exact W.lret (v := x1) hx hb hr (fun t ht hW => ⟨rfl, ht⟩) (fun q h => by cases h) dX9_print_83
      · have hm := mr_un c1 hm
        refine lv_lload_n hx hb dX9_print_14 rfl (lv_at hl 1 rfl) ?_
        refine lv_aload_n hx hb dX9_print_15 rfl (lv_at hl 0 rfl) ?_
        refine va_get (D := (dC, dI)) (ci := 0) (v := .ref tq_plain) (C := RX9) (T := TX9) (N := 35) hx hb hts (inX9 _) hown hK hP 0 rfl rfl 32 (by decide) (hts _ (List.mem_cons_of_mem _ wf9_71)) (fun _ h9 => h9) rfl dX9_print_16 ?_
        refine lv_iload_n hx hb dX9_print_19 rfl (lv_at hl 2 rfl) ?_
        obtain ⟨h2, hm⟩ := mr_bd hm
        refine va_bald hx hb hK hP 1 1 rfl rfl h2 dX9_print_20 ?_
        refine lv_i2l hx hb dX9_print_21 rfl ?_
        refine lv_lxor hx hb dX9_print_22 ?_
        refine lv_ldc2 (v := 255) hx hb hown (hts _ (List.mem_cons_of_mem _ wcl9_337)) dX9_print_23 ?_
        refine lv_land hx hb dX9_print_26 ?_
        refine lv_lstore (lv' := [(4, .long ((x1 ^^^ (((t_plain (x3 : Int32).toNatClampNeg) : Int32).toInt64)) &&& 255)), (0, .ref ob0), (1, .long x1), (3, .int x3)]) hx hb dX9_print_27 hl (by decide) rfl (fun ls hl => ?_)
        refine lv_iconst (v := 0) hx hb dX9_print_29 (by decide) ?_
        have j32 : ∀ (n32 : Nat) (x1 : Int64) (x3 : Int32) (x4 : Int64) (x6 : Int32) (ls : Array Slot), lv_has ls 7 [(0, .ref ob0), (1, .long x1), (3, .int x3), (4, .long x4), (6, .int x6)] → m_X9_print_32 t_plain t_plainSize (m_X9_print_6 t_plain t_plainSize n6) n32 x1 x3 x4 x6 = some res → W p l e (headSpec wsX9_print (rmX9_print 0 0)).room s m [.ref ob0].toArray below meth c s.heap [] 0 0 Q0 (F0 m 32 ls []) := by
          intro n32
          induction n32 with
          | zero => intro x1 x3 x4 x6 ls hl hm; exact nomatch (show (none : Option _) = some res from hm)
          | succ n32 ih32 =>
            intro x1 x3 x4 x6 ls hl hm
            rw [m_X9_print_32] at hm
            refine lv_iload hx hb dX9_print_32 (lv_at hl 4 rfl) ?_
            refine lv_bipush (v := 8) hx hb dX9_print_34 (by decide) ?_
            refine lv_icmp_ge (tgt := 68) hx hb dX9_print_36 (by decide) (fun c3 => ?_) (fun c3 => ?_)
            · have hm := mr_if c3 hm
              refine lv_lload_n hx hb dX9_print_68 rfl (lv_at hl 1 rfl) ?_
              refine lv_bipush (v := 8) hx hb dX9_print_69 (by decide) ?_
              refine lv_lushr hx hb dX9_print_71 rfl ?_
              refine lv_lload hx hb dX9_print_72 (lv_at hl 3 rfl) ?_
              refine lv_lxor hx hb dX9_print_74 ?_
              refine lv_lstore_n (lv' := [(1, .long ((((x1 : Int64).toUInt64 >>> ((8 : Int32).toInt64.toUInt64 &&& Int64.toUInt64 63)).toInt64) ^^^ x4)), (0, .ref ob0), (3, .int x3), (4, .long x4), (6, .int x6)]) hx hb dX9_print_75 rfl hl (by decide) rfl (fun ls hl => ?_)
              refine lv_iinc (v := x3 + 1) (lv' := [(3, .int (x3 + 1)), (1, .long ((((x1 : Int64).toUInt64 >>> ((8 : Int32).toInt64.toUInt64 &&& Int64.toUInt64 63)).toInt64) ^^^ x4)), (0, .ref ob0), (4, .long x4), (6, .int x6)]) hx hb dX9_print_76 hl (k := 2) rfl rfl (by decide) rfl (fun ls hl => ?_)
              refine lv_goto (tgt := 6) hx hb dX9_print_79 (by decide) ?_
              exact ih6 ((((x1 : Int64).toUInt64 >>> ((8 : Int32).toInt64.toUInt64 &&& Int64.toUInt64 63)).toInt64) ^^^ x4) (x3 + 1) ls (lv_sub hl [2, 1, 0] rfl) hm
            · have hm := mr_un c3 hm
              refine lv_lload hx hb dX9_print_39 (lv_at hl 3 rfl) ?_
              refine lv_iconst (v := 1) hx hb dX9_print_41 (by decide) ?_
              refine lv_lushr hx hb dX9_print_42 rfl ?_
              refine lv_lload hx hb dX9_print_43 (lv_at hl 3 rfl) ?_
              refine lv_lconst (v := 1) hx hb dX9_print_45 (by decide) ?_
              refine lv_land hx hb dX9_print_46 ?_
              refine lv_lconst (v := 1) hx hb dX9_print_47 (by decide) ?_
              refine W.lcmp hx hb dX9_print_48 ?_
              refine lv_if_ne (tgt := 58) hx hb dX9_print_49 (by decide) (fun c4 => ?_) (fun c4 => ?_)
              · have hm := mr_un c4 hm
                refine lv_lconst (v := 0) hx hb dX9_print_58 (by decide) ?_
                refine lv_lxor hx hb dX9_print_59 ?_
                refine lv_lstore (lv' := [(4, .long ((((x4 : Int64).toUInt64 >>> ((1 : Int32).toInt64.toUInt64 &&& Int64.toUInt64 63)).toInt64) ^^^ 0)), (0, .ref ob0), (1, .long x1), (3, .int x3), (6, .int x6)]) hx hb dX9_print_60 hl (by decide) rfl (fun ls hl => ?_)
                refine lv_iinc (v := x6 + 1) (lv' := [(6, .int (x6 + 1)), (4, .long ((((x4 : Int64).toUInt64 >>> ((1 : Int32).toInt64.toUInt64 &&& Int64.toUInt64 63)).toInt64) ^^^ 0)), (0, .ref ob0), (1, .long x1), (3, .int x3)]) hx hb dX9_print_62 hl (k := 4) rfl rfl (by decide) rfl (fun ls hl => ?_)
                refine lv_goto (tgt := 32) hx hb dX9_print_65 (by decide) ?_
                exact ih32 x1 x3 ((((x4 : Int64).toUInt64 >>> ((1 : Int32).toInt64.toUInt64 &&& Int64.toUInt64 63)).toInt64) ^^^ 0) (x6 + 1) ls (lv_sub hl [2, 3, 4, 1, 0] rfl) hm
              · have hm := mr_if c4 hm
                refine lv_ldc2 (v := -4513414715797952619) hx hb hown (hts _ (List.mem_cons_of_mem _ wcl9_335)) dX9_print_52 ?_
                refine lv_goto (tgt := 59) hx hb dX9_print_55 (by decide) ?_
                refine lv_lxor hx hb dX9_print_59 ?_
                refine lv_lstore (lv' := [(4, .long ((((x4 : Int64).toUInt64 >>> ((1 : Int32).toInt64.toUInt64 &&& Int64.toUInt64 63)).toInt64) ^^^ (-4513414715797952619))), (0, .ref ob0), (1, .long x1), (3, .int x3), (6, .int x6)]) hx hb dX9_print_60 hl (by decide) rfl (fun ls hl => ?_)
                refine lv_iinc (v := x6 + 1) (lv' := [(6, .int (x6 + 1)), (4, .long ((((x4 : Int64).toUInt64 >>> ((1 : Int32).toInt64.toUInt64 &&& Int64.toUInt64 63)).toInt64) ^^^ (-4513414715797952619))), (0, .ref ob0), (1, .long x1), (3, .int x3)]) hx hb dX9_print_62 hl (k := 4) rfl rfl (by decide) rfl (fun ls hl => ?_)
                refine lv_goto (tgt := 32) hx hb dX9_print_65 (by decide) ?_
                exact ih32 x1 x3 ((((x4 : Int64).toUInt64 >>> ((1 : Int32).toInt64.toUInt64 &&& Int64.toUInt64 63)).toInt64) ^^^ (-4513414715797952619)) (x6 + 1) ls (lv_sub hl [2, 3, 4, 1, 0] rfl) hm
        refine lv_istore (lv' := [(6, .int 0), (4, .long ((x1 ^^^ (((t_plain (x3 : Int32).toNatClampNeg) : Int32).toInt64)) &&& 255)), (0, .ref ob0), (1, .long x1), (3, .int x3)]) hx hb dX9_print_30 hl (by decide) rfl (fun ls hl => ?_)
        exact j32 sr_fuel x1 x3 ((x1 ^^^ (((t_plain (x3 : Int32).toNatClampNeg) : Int32).toInt64)) &&& 255) 0 ls (lv_sub hl [2, 3, 4, 1, 0] rfl) hm
  refine lv_istore_n (lv' := [(3, .int 0), (1, .long (-4513414715797952619)), (0, .ref ob0)]) hx hb dX9_print_5 rfl hl (by decide) rfl (fun ls hl => ?_)
  exact j6 sr_fuel (-4513414715797952619) 0 ls (lv_sub hl [2, 1, 0] rfl) hm
