set_option maxHeartbeats 4000000 in
set_option maxRecDepth 100000 in
theorem kX7_length (l : Launch) (htr : l.stackTraces = false) (dC : Nat → ClassId) (dI : Nat → Nat → Nat) (adK adV : Nat → Nat) (cI cB cJ cZ cQ : ClassId) (obT tq_tape tq_said tq_inner tq_next tq_amount obK : Nat) (t_length : Int32) (t_wrongPlace : Int32) (res : Int32) (hm : m_X7_length t_length = some res) : Met l yX7_length wsX7_length (rmX7_length 0 0) (pcR (sr_Z adK adV) (dC, dI) srCl [(cI, .int), (cB, .byte), (cJ, .long), (cZ, .boolean), (cQ, .object "SchemaReader$Schema")] [.ref obT] [(obT, .inr (9, [.ref tq_tape, .ref tq_said, .ref tq_inner, .ref tq_next, .ref tq_amount, .ref obK, .int t_length, .int t_wrongPlace]))]) (k2_QcV (.int res)) 0 0 (fun _ => False) := by
  refine Met.ofW (cc := cX7_length) (maxL := 1) (ret := (some .int)) (by decide) rfl ?_
  intro p e s m args below meth c s₁ B hml hv
  obtain ⟨rfl, hP, hK, hz0⟩ := hv
  have hx := B.exec
  have hb := B.bytes
  have hr := B.returns
  have hts := atoms_spec (ws := wsX7_length) B.pre
  have hown : s.vm.findClass RX7 = some m.cls := findClass_of_methodNamed B.named
  have hlocks := B.notSynchronized
  have hS : va_S (fun _ => False) s.heap s.heap [] := va_S.rf
  generalize hQ0 : MQ below (k2_QcV (.int res)) [.ref obT].toArray s 0 0 (fun _ => False) = Q0
  have hl := lv_entry [.ref obT] (n := 1) (Nat.le_of_ble_eq_true rfl)
  rw [lg_entry_eq]
  generalize (lg_sl [.ref obT] ++ List.replicate (1 - (lg_sl [.ref obT]).length) Slot.unset).toArray = ls at hl ⊢
  have hl : lv_has ls 1 [(0, .ref obT)] := hl
  unfold m_X7_length at hm
  refine lv_aload_n hx hb dX7_length_0 rfl (lv_at hl 0 rfl) ?_
  refine va_get (D := (dC, dI)) (ci := 9) (v := .int t_length) (C := RX7) (T := TX7) (N := 8) hx hb hts (inX7 _) hown hK hP 0 rfl rfl 6 (by decide) (hts _ (List.mem_cons_of_mem _ wf7_35)) (fun _ h9 => h9) rfl dX7_length_1 ?_
  obtain rfl := Option.some.inj hm
  subst hQ0
  exact W.iret (v := t_length) hx hb hr (fun t ht hW => ⟨rfl, ht⟩) (fun q h => by cases h) dX7_length_4
set_option maxHeartbeats 4000000 in
set_option maxRecDepth 100000 in
theorem kX7_append (l : Launch) (htr : l.stackTraces = false) (dC : Nat → ClassId) (dI : Nat → Nat → Nat) (adK adV : Nat → Nat) (cI cB cJ cZ cQ : ClassId) (obT tq_tape tq_said tq_inner tq_next tq_amount obK : Nat) (t_length : Int32) (t_wrongPlace : Int32) (t_tape : Nat → Int32) (sz : Nat) (a0 : Int32) (res : (Nat → Int32) × Int32) (hm : m_X7_append t_tape t_length a0 = some res) : Met l yX7_append wsX7_append (rmX7_append 0 0) (pcW (sr_Z adK adV) (dC, dI) srCl [(cI, .int), (cB, .byte), (cJ, .long), (cZ, .boolean), (cQ, .object "SchemaReader$Schema")] [.ref obT, .int a0] [(obT, .inr (9, [.ref tq_tape, .ref tq_said, .ref tq_inner, .ref tq_next, .ref tq_amount, .ref obK, .int t_length, .int t_wrongPlace])), (tq_tape, .inl (cB, 4096, .inl t_tape))] sz) (va_Qv (fun u' => u' = res) (pcB (dC, dI) srCl [(cI, .int), (cB, .byte), (cJ, .long), (cZ, .boolean), (cQ, .object "SchemaReader$Schema")] (fun u : (Nat → Int32) × Int32 => [(obT, .inr (9, [.ref tq_tape, .ref tq_said, .ref tq_inner, .ref tq_next, .ref tq_amount, .ref obK, .int u.2, .int t_wrongPlace])), (tq_tape, .inl (cB, 4096, .inl u.1))]) (va_A [(obT, .inr (9, [.ref tq_tape, .ref tq_said, .ref tq_inner, .ref tq_next, .ref tq_amount, .ref obK, .int t_length, .int t_wrongPlace])), (tq_tape, .inl (cB, 4096, .inl t_tape))] sz)) (va_A [(obT, .inr (9, [.ref tq_tape, .ref tq_said, .ref tq_inner, .ref tq_next, .ref tq_amount, .ref obK, .int t_length, .int t_wrongPlace])), (tq_tape, .inl (cB, 4096, .inl t_tape))] sz)) 0 0 (va_A [(obT, .inr (9, [.ref tq_tape, .ref tq_said, .ref tq_inner, .ref tq_next, .ref tq_amount, .ref obK, .int t_length, .int t_wrongPlace])), (tq_tape, .inl (cB, 4096, .inl t_tape))] sz) := by
  refine Met.ofW (cc := cX7_append) (maxL := 3) (ret := none) (by decide) rfl ?_
  intro p e s m args below meth c s₁ B hml hv
  obtain ⟨rfl, hsz, hP, hK, hD0, hz0⟩ := hv
  have hx := B.exec
  have hb := B.bytes
  have hr := B.returns
  have hts := atoms_spec (ws := wsX7_append) B.pre
  have hown : s.vm.findClass RX7 = some m.cls := findClass_of_methodNamed B.named
  have hlocks := B.notSynchronized
  subst hsz
  have hD := hD0.self (sz := s.heap.size)
  generalize hAe : va_A [(obT, .inr (9, [.ref tq_tape, .ref tq_said, .ref tq_inner, .ref tq_next, .ref tq_amount, .ref obK, .int t_length, .int t_wrongPlace])), (tq_tape, .inl (cB, 4096, .inl t_tape))] s.heap.size = A at hD hz0 ⊢
  have hA : ∀ q : Nat, s.heap.size ≤ q → A q := fun q h => by rw [← hAe]; exact Or.inr h
  have hS : va_S A s.heap s.heap [] := va_S.rf
  generalize hQ0 : MQ below (va_Qv (fun u' => u' = res) (pcB (dC, dI) srCl [(cI, .int), (cB, .byte), (cJ, .long), (cZ, .boolean), (cQ, .object "SchemaReader$Schema")] (fun u : (Nat → Int32) × Int32 => [(obT, .inr (9, [.ref tq_tape, .ref tq_said, .ref tq_inner, .ref tq_next, .ref tq_amount, .ref obK, .int u.2, .int t_wrongPlace])), (tq_tape, .inl (cB, 4096, .inl u.1))]) A) A) [.ref obT, .int a0].toArray s 0 0 A = Q0
  have hl := lv_entry [.ref obT, .int a0] (n := 3) (Nat.le_of_ble_eq_true rfl)
  rw [lg_entry_eq]
  generalize (lg_sl [.ref obT, .int a0] ++ List.replicate (3 - (lg_sl [.ref obT, .int a0]).length) Slot.unset).toArray = ls at hl ⊢
  have hl : lv_has ls 3 [(0, .ref obT), (1, .int a0)] := hl
  unfold m_X7_append at hm
  refine lv_bipush (v := 24) hx hb dX7_append_0 (by decide) ?_
  have j3 : ∀ (n3 : Nat) (t_tape : Nat → Int32) (t_length : Int32) (x1 : Int32) (x2 : Int32) (H : Heap) (locs : List Loc) (ls : Array Slot), va_P (dC, dI) srCl [(obT, .inr (9, [.ref tq_tape, .ref tq_said, .ref tq_inner, .ref tq_next, .ref tq_amount, .ref obK, .int t_length, .int t_wrongPlace])), (tq_tape, .inl (cB, 4096, .inl t_tape))] H → va_D A [(obT, .inr (9, [.ref tq_tape, .ref tq_said, .ref tq_inner, .ref tq_next, .ref tq_amount, .ref obK, .int t_length, .int t_wrongPlace])), (tq_tape, .inl (cB, 4096, .inl t_tape))] → va_S A s.heap H locs → lv_has ls 3 [(0, .ref obT), (1, .int x1), (2, .int x2)] → m_X7_append_3 n3 t_tape t_length x1 x2 = some res → W p l e (headSpec wsX7_append (rmX7_append 0 0)).room s m [.ref obT, .int a0].toArray below meth c H locs 0 0 Q0 (F0 m 3 ls []) := by
    intro n3
    induction n3 with
    | zero => intro t_tape t_length x1 x2 H locs ls hP hD hS hl hm; exact nomatch (show (none : Option _) = some res from hm)
    | succ n3 ih3 =>
      intro t_tape t_length x1 x2 H locs ls hP hD hS hl hm
      rw [m_X7_append_3] at hm
      refine lv_iload_n hx hb dX7_append_3 rfl (lv_at hl 2 rfl) ?_
      refine lv_if_lt (tgt := 48) hx hb dX7_append_4 (by decide) (fun c1 => ?_) (fun c1 => ?_)
      · have hm := mr_if c1 hm
        obtain rfl := Option.some.inj hm
        subst hQ0
        exact W.vret hx hb hr (fun t ht hW => ⟨⟨(t_tape, t_length), rfl, rfl, by rw [ht]; exact hP, va_K.moved hW.alike hK, hD⟩, hS.F ht⟩) hS.2.2 dX7_append_48
      · have hm := mr_un c1 hm
        refine lv_aload_n hx hb dX7_append_7 rfl (lv_at hl 0 rfl) ?_
        refine va_get (D := (dC, dI)) (ci := 9) (v := .int t_length) (C := RX7) (T := TX7) (N := 8) hx hb hts (inX7 _) hown hK hP 0 rfl rfl 6 (by decide) (hts _ (List.mem_cons_of_mem _ wf7_35)) (fun _ h9 => h9) rfl dX7_append_8 ?_
        refine lv_aload_n hx hb dX7_append_11 rfl (lv_at hl 0 rfl) ?_
        refine va_get (D := (dC, dI)) (ci := 9) (v := .ref tq_tape) (C := RX7) (T := TX7) (N := 8) hx hb hts (inX7 _) hown hK hP 0 rfl rfl 0 (by decide) (hts _ (List.mem_cons_of_mem _ wf7_9)) (fun _ h9 => h9) rfl dX7_append_12 ?_
        refine va_alen hx hb hK hP 1 1 rfl rfl rfl dX7_append_15 ?_
        refine lv_icmp_ge (tgt := 48) hx hb dX7_append_16 (by decide) (fun c2 => ?_) (fun c2 => ?_)
        · have hm := mr_if c2 hm
          obtain rfl := Option.some.inj hm
          subst hQ0
          exact W.vret hx hb hr (fun t ht hW => ⟨⟨(t_tape, t_length), rfl, rfl, by rw [ht]; exact hP, va_K.moved hW.alike hK, hD⟩, hS.F ht⟩) hS.2.2 dX7_append_48
        · have hm := mr_un c2 hm
          refine lv_aload_n hx hb dX7_append_19 rfl (lv_at hl 0 rfl) ?_
          refine va_get (D := (dC, dI)) (ci := 9) (v := .ref tq_tape) (C := RX7) (T := TX7) (N := 8) hx hb hts (inX7 _) hown hK hP 0 rfl rfl 0 (by decide) (hts _ (List.mem_cons_of_mem _ wf7_9)) (fun _ h9 => h9) rfl dX7_append_20 ?_
          refine lv_aload_n hx hb dX7_append_23 rfl (lv_at hl 0 rfl) ?_
          refine va_get (D := (dC, dI)) (ci := 9) (v := .int t_length) (C := RX7) (T := TX7) (N := 8) hx hb hts (inX7 _) hown hK hP 0 rfl rfl 6 (by decide) (hts _ (List.mem_cons_of_mem _ wf7_35)) (fun _ h9 => h9) rfl dX7_append_24 ?_
          refine lv_iload_n hx hb dX7_append_27 rfl (lv_at hl 1 rfl) ?_
          refine lv_iload_n hx hb dX7_append_28 rfl (lv_at hl 2 rfl) ?_
          refine lv_iushr hx hb dX7_append_29 rfl ?_
          refine lv_i2b hx hb dX7_append_30 rfl ?_
          obtain ⟨h3, hm⟩ := mr_bd hm
          refine va_bast hx hb hK hP hD hS 1 1 rfl rfl h3 dX7_append_31 (fun H locs hP hD hS => ?_)
          have hP : va_P (dC, dI) srCl [(obT, .inr (9, [.ref tq_tape, .ref tq_said, .ref tq_inner, .ref tq_next, .ref tq_amount, .ref obK, .int t_length, .int t_wrongPlace])), (tq_tape, .inl (cB, 4096, .inl (upd t_tape (t_length : Int32).toNatClampNeg (vp_nar .byte (((((x1 : Int32).toUInt32 >>> ((x2 : Int32).toUInt32 &&& Int32.toUInt32 31)).toInt32) : Int32).toInt8.toInt32)))))] H := hP
          have hD : va_D A [(obT, .inr (9, [.ref tq_tape, .ref tq_said, .ref tq_inner, .ref tq_next, .ref tq_amount, .ref obK, .int t_length, .int t_wrongPlace])), (tq_tape, .inl (cB, 4096, .inl (upd t_tape (t_length : Int32).toNatClampNeg (vp_nar .byte (((((x1 : Int32).toUInt32 >>> ((x2 : Int32).toUInt32 &&& Int32.toUInt32 31)).toInt32) : Int32).toInt8.toInt32)))))] := hD
          refine lv_aload_n hx hb dX7_append_32 rfl (lv_at hl 0 rfl) ?_
          refine lv_dup hx hb dX7_append_33 rfl ?_
          refine va_get (D := (dC, dI)) (ci := 9) (v := .int t_length) (C := RX7) (T := TX7) (N := 8) hx hb hts (inX7 _) hown hK hP 0 rfl rfl 6 (by decide) (hts _ (List.mem_cons_of_mem _ wf7_35)) (fun _ h9 => h9) rfl dX7_append_34 ?_
          refine lv_iconst (v := 1) hx hb dX7_append_37 (by decide) ?_
          refine lv_iadd hx hb dX7_append_38 ?_
          refine va_put (D := (dC, dI)) (ci := 9) (v := .int (t_length + 1)) (ty := .int) (C := RX7) (T := TX7) (N := 8) hx hb hts (inX7 _) tyX7 tyX7_ok nmX7 hown hK hP hD hS 0 rfl rfl 6 (by decide) (hts _ (List.mem_cons_of_mem _ wf7_35)) (fun _ h9 => h9) rfl (by decide +kernel) rfl rfl (Nat.le_of_ble_eq_true rfl) dX7_append_39 (fun H locs hP hD hS => ?_)
          have hP : va_P (dC, dI) srCl [(obT, .inr (9, [.ref tq_tape, .ref tq_said, .ref tq_inner, .ref tq_next, .ref tq_amount, .ref obK, .int (t_length + 1), .int t_wrongPlace])), (tq_tape, .inl (cB, 4096, .inl (upd t_tape (t_length : Int32).toNatClampNeg (vp_nar .byte (((((x1 : Int32).toUInt32 >>> ((x2 : Int32).toUInt32 &&& Int32.toUInt32 31)).toInt32) : Int32).toInt8.toInt32)))))] H := hP
          have hD : va_D A [(obT, .inr (9, [.ref tq_tape, .ref tq_said, .ref tq_inner, .ref tq_next, .ref tq_amount, .ref obK, .int (t_length + 1), .int t_wrongPlace])), (tq_tape, .inl (cB, 4096, .inl (upd t_tape (t_length : Int32).toNatClampNeg (vp_nar .byte (((((x1 : Int32).toUInt32 >>> ((x2 : Int32).toUInt32 &&& Int32.toUInt32 31)).toInt32) : Int32).toInt8.toInt32)))))] := hD
          refine lv_iinc (v := x2 + (-8)) (lv' := [(2, .int (x2 + (-8))), (0, .ref obT), (1, .int x1)]) hx hb dX7_append_42 hl (k := 2) rfl rfl (by decide) rfl (fun ls hl => ?_)
          refine lv_goto (tgt := 3) hx hb dX7_append_45 (by decide) ?_
          exact ih3 (upd t_tape (t_length : Int32).toNatClampNeg (vp_nar .byte (((((x1 : Int32).toUInt32 >>> ((x2 : Int32).toUInt32 &&& Int32.toUInt32 31)).toInt32) : Int32).toInt8.toInt32))) (t_length + 1) x1 (x2 + (-8)) _ _ ls hP hD hS (lv_sub hl [1, 2, 0] rfl) hm
  refine lv_istore_n (lv' := [(2, .int 24), (0, .ref obT), (1, .int a0)]) hx hb dX7_append_2 rfl hl (by decide) rfl (fun ls hl => ?_)
  exact j3 sr_fuel t_tape t_length a0 24 _ _ ls hP hD hS (lv_sub hl [1, 2, 0] rfl) hm
set_option maxHeartbeats 4000000 in
set_option maxRecDepth 100000 in
theorem kX7_cut (l : Launch) (htr : l.stackTraces = false) (dC : Nat → ClassId) (dI : Nat → Nat → Nat) (adK adV : Nat → Nat) (cI cB cJ cZ cQ : ClassId) (obT tq_tape tq_said tq_inner tq_next tq_amount obK : Nat) (t_length : Int32) (t_wrongPlace : Int32) (sz : Nat) (a0 : Int32) (res : Int32) (hm : m_X7_cut t_length a0 = some res) : Met l yX7_cut wsX7_cut (rmX7_cut 0 0) (pcW (sr_Z adK adV) (dC, dI) srCl [(cI, .int), (cB, .byte), (cJ, .long), (cZ, .boolean), (cQ, .object "SchemaReader$Schema")] [.ref obT, .int a0] [(obT, .inr (9, [.ref tq_tape, .ref tq_said, .ref tq_inner, .ref tq_next, .ref tq_amount, .ref obK, .int t_length, .int t_wrongPlace]))] sz) (va_Qv (fun u' => u' = res) (pcB (dC, dI) srCl [(cI, .int), (cB, .byte), (cJ, .long), (cZ, .boolean), (cQ, .object "SchemaReader$Schema")] (fun u : Int32 => [(obT, .inr (9, [.ref tq_tape, .ref tq_said, .ref tq_inner, .ref tq_next, .ref tq_amount, .ref obK, .int u, .int t_wrongPlace]))]) (va_A [(obT, .inr (9, [.ref tq_tape, .ref tq_said, .ref tq_inner, .ref tq_next, .ref tq_amount, .ref obK, .int t_length, .int t_wrongPlace]))] sz)) (va_A [(obT, .inr (9, [.ref tq_tape, .ref tq_said, .ref tq_inner, .ref tq_next, .ref tq_amount, .ref obK, .int t_length, .int t_wrongPlace]))] sz)) 0 0 (va_A [(obT, .inr (9, [.ref tq_tape, .ref tq_said, .ref tq_inner, .ref tq_next, .ref tq_amount, .ref obK, .int t_length, .int t_wrongPlace]))] sz) := by
  refine Met.ofW (cc := cX7_cut) (maxL := 2) (ret := none) (by decide) rfl ?_
  intro p e s m args below meth c s₁ B hml hv
  obtain ⟨rfl, hsz, hP, hK, hD0, hz0⟩ := hv
  have hx := B.exec
  have hb := B.bytes
  have hr := B.returns
  have hts := atoms_spec (ws := wsX7_cut) B.pre
  have hown : s.vm.findClass RX7 = some m.cls := findClass_of_methodNamed B.named
  have hlocks := B.notSynchronized
  subst hsz
  have hD := hD0.self (sz := s.heap.size)
  generalize hAe : va_A [(obT, .inr (9, [.ref tq_tape, .ref tq_said, .ref tq_inner, .ref tq_next, .ref tq_amount, .ref obK, .int t_length, .int t_wrongPlace]))] s.heap.size = A at hD hz0 ⊢
  have hA : ∀ q : Nat, s.heap.size ≤ q → A q := fun q h => by rw [← hAe]; exact Or.inr h
  have hS : va_S A s.heap s.heap [] := va_S.rf
  generalize hQ0 : MQ below (va_Qv (fun u' => u' = res) (pcB (dC, dI) srCl [(cI, .int), (cB, .byte), (cJ, .long), (cZ, .boolean), (cQ, .object "SchemaReader$Schema")] (fun u : Int32 => [(obT, .inr (9, [.ref tq_tape, .ref tq_said, .ref tq_inner, .ref tq_next, .ref tq_amount, .ref obK, .int u, .int t_wrongPlace]))]) A) A) [.ref obT, .int a0].toArray s 0 0 A = Q0
  have hl := lv_entry [.ref obT, .int a0] (n := 2) (Nat.le_of_ble_eq_true rfl)
  rw [lg_entry_eq]
  generalize (lg_sl [.ref obT, .int a0] ++ List.replicate (2 - (lg_sl [.ref obT, .int a0]).length) Slot.unset).toArray = ls at hl ⊢
  have hl : lv_has ls 2 [(0, .ref obT), (1, .int a0)] := hl
  unfold m_X7_cut at hm
  refine lv_iload_n hx hb dX7_cut_0 rfl (lv_at hl 1 rfl) ?_
  refine lv_if_lt (tgt := 17) hx hb dX7_cut_1 (by decide) (fun c1 => ?_) (fun c1 => ?_)
  · have hm := mr_if c1 hm
    obtain rfl := Option.some.inj hm
    subst hQ0
    exact W.vret hx hb hr (fun t ht hW => ⟨⟨t_length, rfl, rfl, by rw [ht]; exact hP, va_K.moved hW.alike hK, hD⟩, hS.F ht⟩) hS.2.2 dX7_cut_17
  · have hm := mr_un c1 hm
    refine lv_iload_n hx hb dX7_cut_4 rfl (lv_at hl 1 rfl) ?_
    refine lv_aload_n hx hb dX7_cut_5 rfl (lv_at hl 0 rfl) ?_
    refine va_get (D := (dC, dI)) (ci := 9) (v := .int t_length) (C := RX7) (T := TX7) (N := 8) hx hb hts (inX7 _) hown hK hP 0 rfl rfl 6 (by decide) (hts _ (List.mem_cons_of_mem _ wf7_35)) (fun _ h9 => h9) rfl dX7_cut_6 ?_
    refine lv_icmp_gt (tgt := 17) hx hb dX7_cut_9 (by decide) (fun c2 => ?_) (fun c2 => ?_)
    · have hm := mr_if c2 hm
      obtain rfl := Option.some.inj hm
      subst hQ0
      exact W.vret hx hb hr (fun t ht hW => ⟨⟨t_length, rfl, rfl, by rw [ht]; exact hP, va_K.moved hW.alike hK, hD⟩, hS.F ht⟩) hS.2.2 dX7_cut_17
    · have hm := mr_un c2 hm
      refine lv_aload_n hx hb dX7_cut_12 rfl (lv_at hl 0 rfl) ?_
      refine lv_iload_n hx hb dX7_cut_13 rfl (lv_at hl 1 rfl) ?_
      refine va_put (D := (dC, dI)) (ci := 9) (v := .int a0) (ty := .int) (C := RX7) (T := TX7) (N := 8) hx hb hts (inX7 _) tyX7 tyX7_ok nmX7 hown hK hP hD hS 0 rfl rfl 6 (by decide) (hts _ (List.mem_cons_of_mem _ wf7_35)) (fun _ h9 => h9) rfl (by decide +kernel) rfl rfl (Nat.le_of_ble_eq_true rfl) dX7_cut_14 (fun H locs hP hD hS => ?_)
      have hP : va_P (dC, dI) srCl [(obT, .inr (9, [.ref tq_tape, .ref tq_said, .ref tq_inner, .ref tq_next, .ref tq_amount, .ref obK, .int a0, .int t_wrongPlace]))] H := hP
      have hD : va_D A [(obT, .inr (9, [.ref tq_tape, .ref tq_said, .ref tq_inner, .ref tq_next, .ref tq_amount, .ref obK, .int a0, .int t_wrongPlace]))] := hD
      obtain rfl := Option.some.inj hm
      subst hQ0
      exact W.vret hx hb hr (fun t ht hW => ⟨⟨a0, rfl, rfl, by rw [ht]; exact hP, va_K.moved hW.alike hK, hD⟩, hS.F ht⟩) hS.2.2 dX7_cut_17
set_option maxHeartbeats 4000000 in
set_option maxRecDepth 100000 in
theorem kX7_wrongPlace (l : Launch) (htr : l.stackTraces = false) (dC : Nat → ClassId) (dI : Nat → Nat → Nat) (adK adV : Nat → Nat) (cI cB cJ cZ cQ : ClassId) (obT tq_tape tq_said tq_inner tq_next tq_amount obK : Nat) (t_length : Int32) (t_wrongPlace : Int32) (res : Int32) (hm : m_X7_wrongPlace t_wrongPlace = some res) : Met l yX7_wrongPlace wsX7_wrongPlace (rmX7_wrongPlace 0 0) (pcR (sr_Z adK adV) (dC, dI) srCl [(cI, .int), (cB, .byte), (cJ, .long), (cZ, .boolean), (cQ, .object "SchemaReader$Schema")] [.ref obT] [(obT, .inr (9, [.ref tq_tape, .ref tq_said, .ref tq_inner, .ref tq_next, .ref tq_amount, .ref obK, .int t_length, .int t_wrongPlace]))]) (k2_QcV (.int res)) 0 0 (fun _ => False) := by
  refine Met.ofW (cc := cX7_wrongPlace) (maxL := 1) (ret := (some .int)) (by decide) rfl ?_
  intro p e s m args below meth c s₁ B hml hv
  obtain ⟨rfl, hP, hK, hz0⟩ := hv
  have hx := B.exec
  have hb := B.bytes
  have hr := B.returns
  have hts := atoms_spec (ws := wsX7_wrongPlace) B.pre
  have hown : s.vm.findClass RX7 = some m.cls := findClass_of_methodNamed B.named
  have hlocks := B.notSynchronized
  have hS : va_S (fun _ => False) s.heap s.heap [] := va_S.rf
  generalize hQ0 : MQ below (k2_QcV (.int res)) [.ref obT].toArray s 0 0 (fun _ => False) = Q0
  have hl := lv_entry [.ref obT] (n := 1) (Nat.le_of_ble_eq_true rfl)
  rw [lg_entry_eq]
  generalize (lg_sl [.ref obT] ++ List.replicate (1 - (lg_sl [.ref obT]).length) Slot.unset).toArray = ls at hl ⊢
  have hl : lv_has ls 1 [(0, .ref obT)] := hl
  unfold m_X7_wrongPlace at hm
  refine lv_aload_n hx hb dX7_wrongPlace_0 rfl (lv_at hl 0 rfl) ?_
  refine va_get (D := (dC, dI)) (ci := 9) (v := .int t_wrongPlace) (C := RX7) (T := TX7) (N := 8) hx hb hts (inX7 _) hown hK hP 0 rfl rfl 7 (by decide) (hts _ (List.mem_cons_of_mem _ wf7_39)) (fun _ h9 => h9) rfl dX7_wrongPlace_1 ?_
  obtain rfl := Option.some.inj hm
  subst hQ0
  exact W.iret (v := t_wrongPlace) hx hb hr (fun t ht hW => ⟨rfl, ht⟩) (fun q h => by cases h) dX7_wrongPlace_4
set_option maxHeartbeats 4000000 in
set_option maxRecDepth 100000 in
theorem kX7_byteAt (l : Launch) (htr : l.stackTraces = false) (dC : Nat → ClassId) (dI : Nat → Nat → Nat) (adK adV : Nat → Nat) (cI cB cJ cZ cQ : ClassId) (obT tq_tape tq_said tq_inner tq_next tq_amount obK : Nat) (t_length : Int32) (t_wrongPlace : Int32) (t_tape : Nat → Int32) (a0 : Int32) (res : Int32) (hm : m_X7_byteAt t_tape t_length a0 = some res) : Met l yX7_byteAt wsX7_byteAt (rmX7_byteAt 0 0) (pcR (sr_Z adK adV) (dC, dI) srCl [(cI, .int), (cB, .byte), (cJ, .long), (cZ, .boolean), (cQ, .object "SchemaReader$Schema")] [.ref obT, .int a0] [(obT, .inr (9, [.ref tq_tape, .ref tq_said, .ref tq_inner, .ref tq_next, .ref tq_amount, .ref obK, .int t_length, .int t_wrongPlace])), (tq_tape, .inl (cB, 4096, .inl t_tape))]) (k2_QcV (.int res)) 0 0 (fun _ => False) := by
  refine Met.ofW (cc := cX7_byteAt) (maxL := 2) (ret := (some .int)) (by decide) rfl ?_
  intro p e s m args below meth c s₁ B hml hv
  obtain ⟨rfl, hP, hK, hz0⟩ := hv
  have hx := B.exec
  have hb := B.bytes
  have hr := B.returns
  have hts := atoms_spec (ws := wsX7_byteAt) B.pre
  have hown : s.vm.findClass RX7 = some m.cls := findClass_of_methodNamed B.named
  have hlocks := B.notSynchronized
  have hS : va_S (fun _ => False) s.heap s.heap [] := va_S.rf
  generalize hQ0 : MQ below (k2_QcV (.int res)) [.ref obT, .int a0].toArray s 0 0 (fun _ => False) = Q0
  have hl := lv_entry [.ref obT, .int a0] (n := 2) (Nat.le_of_ble_eq_true rfl)
  rw [lg_entry_eq]
  generalize (lg_sl [.ref obT, .int a0] ++ List.replicate (2 - (lg_sl [.ref obT, .int a0]).length) Slot.unset).toArray = ls at hl ⊢
  have hl : lv_has ls 2 [(0, .ref obT), (1, .int a0)] := hl
  unfold m_X7_byteAt at hm
  refine lv_iload_n hx hb dX7_byteAt_0 rfl (lv_at hl 1 rfl) ?_
  refine lv_if_lt (tgt := 25) hx hb dX7_byteAt_1 (by decide) (fun c1 => ?_) (fun c1 => ?_)
  · have hm := mr_if c1 hm
    refine lv_iconst (v := -1) hx hb dX7_byteAt_25 (by decide) ?_
    obtain rfl := Option.some.inj hm
    subst hQ0
    exact W.iret (v := (-1)) hx hb hr (fun t ht hW => ⟨rfl, ht⟩) (fun q h => by cases h) dX7_byteAt_26
  · have hm := mr_un c1 hm
    refine lv_iload_n hx hb dX7_byteAt_4 rfl (lv_at hl 1 rfl) ?_
    refine lv_aload_n hx hb dX7_byteAt_5 rfl (lv_at hl 0 rfl) ?_
    refine va_get (D := (dC, dI)) (ci := 9) (v := .int t_length) (C := RX7) (T := TX7) (N := 8) hx hb hts (inX7 _) hown hK hP 0 rfl rfl 6 (by decide) (hts _ (List.mem_cons_of_mem _ wf7_35)) (fun _ h9 => h9) rfl dX7_byteAt_6 ?_
    refine lv_icmp_ge (tgt := 25) hx hb dX7_byteAt_9 (by decide) (fun c2 => ?_) (fun c2 => ?_)
    · have hm := mr_if c2 hm
      refine lv_iconst (v := -1) hx hb dX7_byteAt_25 (by decide) ?_
      obtain rfl := Option.some.inj hm
      subst hQ0
      exact W.iret (v := (-1)) hx hb hr (fun t ht hW => ⟨rfl, ht⟩) (fun q h => by cases h) dX7_byteAt_26
    · have hm := mr_un c2 hm
      refine lv_aload_n hx hb dX7_byteAt_12 rfl (lv_at hl 0 rfl) ?_
      refine va_get (D := (dC, dI)) (ci := 9) (v := .ref tq_tape) (C := RX7) (T := TX7) (N := 8) hx hb hts (inX7 _) hown hK hP 0 rfl rfl 0 (by decide) (hts _ (List.mem_cons_of_mem _ wf7_9)) (fun _ h9 => h9) rfl dX7_byteAt_13 ?_
      refine lv_iload_n hx hb dX7_byteAt_16 rfl (lv_at hl 1 rfl) ?_
      obtain ⟨h3, hm⟩ := mr_bd hm
      refine va_bald hx hb hK hP 1 1 rfl rfl h3 dX7_byteAt_17 ?_
      refine lv_sipush (v := 255) hx hb dX7_byteAt_18 (by decide) ?_
      refine lv_iand hx hb dX7_byteAt_21 ?_
      refine lv_goto (tgt := 26) hx hb dX7_byteAt_22 (by decide) ?_
      obtain rfl := Option.some.inj hm
      subst hQ0
      exact W.iret (v := ((t_tape (a0 : Int32).toNatClampNeg) &&& 255)) hx hb hr (fun t ht hW => ⟨rfl, ht⟩) (fun q h => by cases h) dX7_byteAt_26
set_option maxHeartbeats 4000000 in
set_option maxRecDepth 100000 in
theorem kX7_isString (l : Launch) (htr : l.stackTraces = false) (dC : Nat → ClassId) (dI : Nat → Nat → Nat) (adK adV : Nat → Nat) (cI cB cJ cZ cQ : ClassId) (obT tq_tape tq_said tq_inner tq_next tq_amount obK : Nat) (t_length : Int32) (t_wrongPlace : Int32) (t_tape : Nat → Int32) (a0 : Int32) (res : Int32) (hm : m_X7_isString t_tape t_length a0 = some res) : Met l yX7_isString wsX7_isString (rmX7_isString 0 0) (pcR (sr_Z adK adV) (dC, dI) srCl [(cI, .int), (cB, .byte), (cJ, .long), (cZ, .boolean), (cQ, .object "SchemaReader$Schema")] [.ref obT, .int a0] [(obT, .inr (9, [.ref tq_tape, .ref tq_said, .ref tq_inner, .ref tq_next, .ref tq_amount, .ref obK, .int t_length, .int t_wrongPlace])), (tq_tape, .inl (cB, 4096, .inl t_tape))]) (k2_QcV (.int res)) 0 0 (fun _ => False) := by
  refine Met.ofW (cc := cX7_isString) (maxL := 2) (ret := (some .boolean)) (by decide) rfl ?_
  intro p e s m args below meth c s₁ B hml hv
  obtain ⟨rfl, hP, hK, hz0⟩ := hv
  have hx := B.exec
  have hb := B.bytes
  have hr := B.returns
  have hts := atoms_spec (ws := wsX7_isString) B.pre
  have hown : s.vm.findClass RX7 = some m.cls := findClass_of_methodNamed B.named
  have hlocks := B.notSynchronized
  have hS : va_S (fun _ => False) s.heap s.heap [] := va_S.rf
  generalize hQ0 : MQ below (k2_QcV (.int res)) [.ref obT, .int a0].toArray s 0 0 (fun _ => False) = Q0
  have hl := lv_entry [.ref obT, .int a0] (n := 2) (Nat.le_of_ble_eq_true rfl)
  rw [lg_entry_eq]
  generalize (lg_sl [.ref obT, .int a0] ++ List.replicate (2 - (lg_sl [.ref obT, .int a0]).length) Slot.unset).toArray = ls at hl ⊢
  have hl : lv_has ls 2 [(0, .ref obT), (1, .int a0)] := hl
  unfold m_X7_isString at hm
  refine lv_aload_n hx hb dX7_isString_0 rfl (lv_at hl 0 rfl) ?_
  refine lv_iload_n hx hb dX7_isString_1 rfl (lv_at hl 1 rfl) ?_
  obtain ⟨r1, hz1, hm⟩ := mr_bind hm
  refine mr_pV (As := [.int a0]) (rest := []) (sr_okZ adK adV) ⟨hx, hb, hml, hown, hts⟩ (kX7_byteAt l htr dC dI adK adV cI cB cJ cZ cQ obT tq_tape tq_said tq_inner tq_next tq_amount obK t_length t_wrongPlace t_tape a0 r1 hz1) (cwV 1 hts (g7_42 _) rfl rfl rfl (by decide +kernel) ⟨(by show 0 + 1 ≤ 1; omega), (by show 8 + (2 + 11) + (0) ≤ 21; omega)⟩) hS hP hK hz0 [0, 1] rfl (va_recv hK hP (ci := 9) (q0 := 0) rfl rfl) rfl rfl hl.1 (Nat.le_of_ble_eq_true rfl) dX7_isString_2 ⟨Nat.zero_le _, Nat.zero_le _⟩ ?_
  refine lv_bipush (v := 34) hx hb dX7_isString_5 (by decide) ?_
  refine lv_icmp_ne (tgt := 14) hx hb dX7_isString_7 (by decide) (fun c2 => ?_) (fun c2 => ?_)
  · have hm := mr_un c2 hm
    refine lv_iconst (v := 0) hx hb dX7_isString_14 (by decide) ?_
    obtain rfl := Option.some.inj hm
    subst hQ0
    exact W.zret (v := 0) hx hb hr rfl (fun t ht hW => ⟨rfl, ht⟩) (fun q h => by cases h) dX7_isString_15
  · have hm := mr_if c2 hm
    refine lv_iconst (v := 1) hx hb dX7_isString_10 (by decide) ?_
    refine lv_goto (tgt := 15) hx hb dX7_isString_11 (by decide) ?_
    obtain rfl := Option.some.inj hm
    subst hQ0
    exact W.zret (v := 1) hx hb hr rfl (fun t ht hW => ⟨rfl, ht⟩) (fun q h => by cases h) dX7_isString_15
set_option maxHeartbeats 4000000 in
set_option maxRecDepth 100000 in
theorem kX7_isList (l : Launch) (htr : l.stackTraces = false) (dC : Nat → ClassId) (dI : Nat → Nat → Nat) (adK adV : Nat → Nat) (cI cB cJ cZ cQ : ClassId) (obT tq_tape tq_said tq_inner tq_next tq_amount obK : Nat) (t_length : Int32) (t_wrongPlace : Int32) (t_tape : Nat → Int32) (a0 : Int32) (res : Int32) (hm : m_X7_isList t_tape t_length a0 = some res) : Met l yX7_isList wsX7_isList (rmX7_isList 0 0) (pcR (sr_Z adK adV) (dC, dI) srCl [(cI, .int), (cB, .byte), (cJ, .long), (cZ, .boolean), (cQ, .object "SchemaReader$Schema")] [.ref obT, .int a0] [(obT, .inr (9, [.ref tq_tape, .ref tq_said, .ref tq_inner, .ref tq_next, .ref tq_amount, .ref obK, .int t_length, .int t_wrongPlace])), (tq_tape, .inl (cB, 4096, .inl t_tape))]) (k2_QcV (.int res)) 0 0 (fun _ => False) := by
  refine Met.ofW (cc := cX7_isList) (maxL := 2) (ret := (some .boolean)) (by decide) rfl ?_
  intro p e s m args below meth c s₁ B hml hv
  obtain ⟨rfl, hP, hK, hz0⟩ := hv
  have hx := B.exec
  have hb := B.bytes
  have hr := B.returns
  have hts := atoms_spec (ws := wsX7_isList) B.pre
  have hown : s.vm.findClass RX7 = some m.cls := findClass_of_methodNamed B.named
  have hlocks := B.notSynchronized
  have hS : va_S (fun _ => False) s.heap s.heap [] := va_S.rf
  generalize hQ0 : MQ below (k2_QcV (.int res)) [.ref obT, .int a0].toArray s 0 0 (fun _ => False) = Q0
  have hl := lv_entry [.ref obT, .int a0] (n := 2) (Nat.le_of_ble_eq_true rfl)
  rw [lg_entry_eq]
  generalize (lg_sl [.ref obT, .int a0] ++ List.replicate (2 - (lg_sl [.ref obT, .int a0]).length) Slot.unset).toArray = ls at hl ⊢
  have hl : lv_has ls 2 [(0, .ref obT), (1, .int a0)] := hl
  unfold m_X7_isList at hm
  refine lv_aload_n hx hb dX7_isList_0 rfl (lv_at hl 0 rfl) ?_
  refine lv_iload_n hx hb dX7_isList_1 rfl (lv_at hl 1 rfl) ?_
  obtain ⟨r1, hz1, hm⟩ := mr_bind hm
  refine mr_pV (As := [.int a0]) (rest := []) (sr_okZ adK adV) ⟨hx, hb, hml, hown, hts⟩ (kX7_byteAt l htr dC dI adK adV cI cB cJ cZ cQ obT tq_tape tq_said tq_inner tq_next tq_amount obK t_length t_wrongPlace t_tape a0 r1 hz1) (cwV 1 hts (g7_42 _) rfl rfl rfl (by decide +kernel) ⟨(by show 0 + 1 ≤ 1; omega), (by show 8 + (2 + 11) + (0) ≤ 21; omega)⟩) hS hP hK hz0 [0, 1] rfl (va_recv hK hP (ci := 9) (q0 := 0) rfl rfl) rfl rfl hl.1 (Nat.le_of_ble_eq_true rfl) dX7_isList_2 ⟨Nat.zero_le _, Nat.zero_le _⟩ ?_
  refine lv_bipush (v := 91) hx hb dX7_isList_5 (by decide) ?_
  refine lv_icmp_ne (tgt := 14) hx hb dX7_isList_7 (by decide) (fun c2 => ?_) (fun c2 => ?_)
  · have hm := mr_un c2 hm
    refine lv_iconst (v := 0) hx hb dX7_isList_14 (by decide) ?_
    obtain rfl := Option.some.inj hm
    subst hQ0
    exact W.zret (v := 0) hx hb hr rfl (fun t ht hW => ⟨rfl, ht⟩) (fun q h => by cases h) dX7_isList_15
  · have hm := mr_if c2 hm
    refine lv_iconst (v := 1) hx hb dX7_isList_10 (by decide) ?_
    refine lv_goto (tgt := 15) hx hb dX7_isList_11 (by decide) ?_
    obtain rfl := Option.some.inj hm
    subst hQ0
    exact W.zret (v := 1) hx hb hr rfl (fun t ht hW => ⟨rfl, ht⟩) (fun q h => by cases h) dX7_isList_15
set_option maxHeartbeats 4000000 in
set_option maxRecDepth 100000 in
theorem kX7_isObject (l : Launch) (htr : l.stackTraces = false) (dC : Nat → ClassId) (dI : Nat → Nat → Nat) (adK adV : Nat → Nat) (cI cB cJ cZ cQ : ClassId) (obT tq_tape tq_said tq_inner tq_next tq_amount obK : Nat) (t_length : Int32) (t_wrongPlace : Int32) (t_tape : Nat → Int32) (a0 : Int32) (res : Int32) (hm : m_X7_isObject t_tape t_length a0 = some res) : Met l yX7_isObject wsX7_isObject (rmX7_isObject 0 0) (pcR (sr_Z adK adV) (dC, dI) srCl [(cI, .int), (cB, .byte), (cJ, .long), (cZ, .boolean), (cQ, .object "SchemaReader$Schema")] [.ref obT, .int a0] [(obT, .inr (9, [.ref tq_tape, .ref tq_said, .ref tq_inner, .ref tq_next, .ref tq_amount, .ref obK, .int t_length, .int t_wrongPlace])), (tq_tape, .inl (cB, 4096, .inl t_tape))]) (k2_QcV (.int res)) 0 0 (fun _ => False) := by
  refine Met.ofW (cc := cX7_isObject) (maxL := 2) (ret := (some .boolean)) (by decide) rfl ?_
  intro p e s m args below meth c s₁ B hml hv
  obtain ⟨rfl, hP, hK, hz0⟩ := hv
  have hx := B.exec
  have hb := B.bytes
  have hr := B.returns
  have hts := atoms_spec (ws := wsX7_isObject) B.pre
  have hown : s.vm.findClass RX7 = some m.cls := findClass_of_methodNamed B.named
  have hlocks := B.notSynchronized
  have hS : va_S (fun _ => False) s.heap s.heap [] := va_S.rf
  generalize hQ0 : MQ below (k2_QcV (.int res)) [.ref obT, .int a0].toArray s 0 0 (fun _ => False) = Q0
  have hl := lv_entry [.ref obT, .int a0] (n := 2) (Nat.le_of_ble_eq_true rfl)
  rw [lg_entry_eq]
  generalize (lg_sl [.ref obT, .int a0] ++ List.replicate (2 - (lg_sl [.ref obT, .int a0]).length) Slot.unset).toArray = ls at hl ⊢
  have hl : lv_has ls 2 [(0, .ref obT), (1, .int a0)] := hl
  unfold m_X7_isObject at hm
  refine lv_aload_n hx hb dX7_isObject_0 rfl (lv_at hl 0 rfl) ?_
  refine lv_iload_n hx hb dX7_isObject_1 rfl (lv_at hl 1 rfl) ?_
  obtain ⟨r1, hz1, hm⟩ := mr_bind hm
  refine mr_pV (As := [.int a0]) (rest := []) (sr_okZ adK adV) ⟨hx, hb, hml, hown, hts⟩ (kX7_byteAt l htr dC dI adK adV cI cB cJ cZ cQ obT tq_tape tq_said tq_inner tq_next tq_amount obK t_length t_wrongPlace t_tape a0 r1 hz1) (cwV 1 hts (g7_42 _) rfl rfl rfl (by decide +kernel) ⟨(by show 0 + 1 ≤ 1; omega), (by show 8 + (2 + 11) + (0) ≤ 21; omega)⟩) hS hP hK hz0 [0, 1] rfl (va_recv hK hP (ci := 9) (q0 := 0) rfl rfl) rfl rfl hl.1 (Nat.le_of_ble_eq_true rfl) dX7_isObject_2 ⟨Nat.zero_le _, Nat.zero_le _⟩ ?_
  refine lv_bipush (v := 123) hx hb dX7_isObject_5 (by decide) ?_
  refine lv_icmp_ne (tgt := 14) hx hb dX7_isObject_7 (by decide) (fun c2 => ?_) (fun c2 => ?_)
  · have hm := mr_un c2 hm
    refine lv_iconst (v := 0) hx hb dX7_isObject_14 (by decide) ?_
    obtain rfl := Option.some.inj hm
    subst hQ0
    exact W.zret (v := 0) hx hb hr rfl (fun t ht hW => ⟨rfl, ht⟩) (fun q h => by cases h) dX7_isObject_15
  · have hm := mr_if c2 hm
    refine lv_iconst (v := 1) hx hb dX7_isObject_10 (by decide) ?_
    refine lv_goto (tgt := 15) hx hb dX7_isObject_11 (by decide) ?_
    obtain rfl := Option.some.inj hm
    subst hQ0
    exact W.zret (v := 1) hx hb hr rfl (fun t ht hW => ⟨rfl, ht⟩) (fun q h => by cases h) dX7_isObject_15
set_option maxHeartbeats 4000000 in
set_option maxRecDepth 100000 in
theorem kX7_isNumber (l : Launch) (htr : l.stackTraces = false) (dC : Nat → ClassId) (dI : Nat → Nat → Nat) (adK adV : Nat → Nat) (cI cB cJ cZ cQ : ClassId) (obT tq_tape tq_said tq_inner tq_next tq_amount obK : Nat) (t_length : Int32) (t_wrongPlace : Int32) (t_tape : Nat → Int32) (a0 : Int32) (res : Int32) (hm : m_X7_isNumber t_tape t_length a0 = some res) : Met l yX7_isNumber wsX7_isNumber (rmX7_isNumber 0 0) (pcR (sr_Z adK adV) (dC, dI) srCl [(cI, .int), (cB, .byte), (cJ, .long), (cZ, .boolean), (cQ, .object "SchemaReader$Schema")] [.ref obT, .int a0] [(obT, .inr (9, [.ref tq_tape, .ref tq_said, .ref tq_inner, .ref tq_next, .ref tq_amount, .ref obK, .int t_length, .int t_wrongPlace])), (tq_tape, .inl (cB, 4096, .inl t_tape))]) (k2_QcV (.int res)) 0 0 (fun _ => False) := by
  refine Met.ofW (cc := cX7_isNumber) (maxL := 3) (ret := (some .boolean)) (by decide) rfl ?_
  intro p e s m args below meth c s₁ B hml hv
  obtain ⟨rfl, hP, hK, hz0⟩ := hv
  have hx := B.exec
  have hb := B.bytes
  have hr := B.returns
  have hts := atoms_spec (ws := wsX7_isNumber) B.pre
  have hown : s.vm.findClass RX7 = some m.cls := findClass_of_methodNamed B.named
  have hlocks := B.notSynchronized
  have hS : va_S (fun _ => False) s.heap s.heap [] := va_S.rf
  generalize hQ0 : MQ below (k2_QcV (.int res)) [.ref obT, .int a0].toArray s 0 0 (fun _ => False) = Q0
  have hl := lv_entry [.ref obT, .int a0] (n := 3) (Nat.le_of_ble_eq_true rfl)
  rw [lg_entry_eq]
  generalize (lg_sl [.ref obT, .int a0] ++ List.replicate (3 - (lg_sl [.ref obT, .int a0]).length) Slot.unset).toArray = ls at hl ⊢
  have hl : lv_has ls 3 [(0, .ref obT), (1, .int a0)] := hl
  unfold m_X7_isNumber at hm
  refine lv_aload_n hx hb dX7_isNumber_0 rfl (lv_at hl 0 rfl) ?_
  refine lv_iload_n hx hb dX7_isNumber_1 rfl (lv_at hl 1 rfl) ?_
  obtain ⟨r1, hz1, hm⟩ := mr_bind hm
  refine mr_pV (As := [.int a0]) (rest := []) (sr_okZ adK adV) ⟨hx, hb, hml, hown, hts⟩ (kX7_byteAt l htr dC dI adK adV cI cB cJ cZ cQ obT tq_tape tq_said tq_inner tq_next tq_amount obK t_length t_wrongPlace t_tape a0 r1 hz1) (cwV 1 hts (g7_42 _) rfl rfl rfl (by decide +kernel) ⟨(by show 0 + 1 ≤ 1; omega), (by show 8 + (2 + 11) + (0) ≤ 21; omega)⟩) hS hP hK hz0 [0, 1] rfl (va_recv hK hP (ci := 9) (q0 := 0) rfl rfl) rfl rfl hl.1 (Nat.le_of_ble_eq_true rfl) dX7_isNumber_2 ⟨Nat.zero_le _, Nat.zero_le _⟩ ?_
  refine lv_istore_n (lv' := [(2, .int r1), (0, .ref obT), (1, .int a0)]) hx hb dX7_isNumber_5 rfl hl (by decide) rfl (fun ls hl => ?_)
  refine lv_iload_n hx hb dX7_isNumber_6 rfl (lv_at hl 0 rfl) ?_
  refine lv_bipush (v := 45) hx hb dX7_isNumber_7 (by decide) ?_
  refine lv_icmp_eq (tgt := 19) hx hb dX7_isNumber_9 (by decide) (fun c2 => ?_) (fun c2 => ?_)
  · have hm := mr_if c2 hm
    refine lv_iconst (v := 1) hx hb dX7_isNumber_19 (by decide) ?_
    refine lv_goto (tgt := 24) hx hb dX7_isNumber_20 (by decide) ?_
    obtain rfl := Option.some.inj hm
    subst hQ0
    exact W.zret (v := 1) hx hb hr rfl (fun t ht hW => ⟨rfl, ht⟩) (fun q h => by cases h) dX7_isNumber_24
  · have hm := mr_un c2 hm
    refine lv_iload_n hx hb dX7_isNumber_12 rfl (lv_at hl 0 rfl) ?_
    obtain ⟨r3, hz3, hm⟩ := mr_bind hm
    refine mr_pSN (As := [.int r1]) (rest := []) (sr_okZ adK adV) ⟨hx, hb, hml, hown, hts⟩ (kX8_isDigit l htr dC dI adK adV cI cB cJ cZ cQ  r1 r3 hz3) (sr_cnS 1 hts rfl gn7_46.1 (hz0.2.2.2.2.2.2.1 _ gn7_46.2) rfl rfl (by decide +kernel) ⟨(by show 0 + 1 ≤ 1; omega), (by show 8 + (1 + 11) + (0) ≤ 21; omega)⟩) hS hP hK hz0 [] rfl rfl rfl hl.1 (Nat.le_of_ble_eq_true rfl) dX7_isNumber_13 ⟨Nat.zero_le _, Nat.zero_le _⟩ ?_
    refine lv_if_eq (tgt := 23) hx hb dX7_isNumber_16 (by decide) (fun c4 => ?_) (fun c4 => ?_)
    · have hm := mr_if c4 hm
      refine lv_iconst (v := 0) hx hb dX7_isNumber_23 (by decide) ?_
      obtain rfl := Option.some.inj hm
      subst hQ0
      exact W.zret (v := 0) hx hb hr rfl (fun t ht hW => ⟨rfl, ht⟩) (fun q h => by cases h) dX7_isNumber_24
    · have hm := mr_un c4 hm
      refine lv_iconst (v := 1) hx hb dX7_isNumber_19 (by decide) ?_
      refine lv_goto (tgt := 24) hx hb dX7_isNumber_20 (by decide) ?_
      obtain rfl := Option.some.inj hm
      subst hQ0
      exact W.zret (v := 1) hx hb hr rfl (fun t ht hW => ⟨rfl, ht⟩) (fun q h => by cases h) dX7_isNumber_24
set_option maxHeartbeats 4000000 in
set_option maxRecDepth 100000 in
theorem kX7_inner (l : Launch) (htr : l.stackTraces = false) (dC : Nat → ClassId) (dI : Nat → Nat → Nat) (adK adV : Nat → Nat) (cI cB cJ cZ cQ : ClassId) (obT tq_tape tq_said tq_inner tq_next tq_amount obK : Nat) (t_length : Int32) (t_wrongPlace : Int32) (t_inner : Nat → Int32) (a0 : Int32) (res : Int32) (hm : m_X7_inner t_inner a0 = some res) : Met l yX7_inner wsX7_inner (rmX7_inner 0 0) (pcR (sr_Z adK adV) (dC, dI) srCl [(cI, .int), (cB, .byte), (cJ, .long), (cZ, .boolean), (cQ, .object "SchemaReader$Schema")] [.ref obT, .int a0] [(obT, .inr (9, [.ref tq_tape, .ref tq_said, .ref tq_inner, .ref tq_next, .ref tq_amount, .ref obK, .int t_length, .int t_wrongPlace])), (tq_inner, .inl (cI, 4096, .inl t_inner))]) (k2_QcV (.int res)) 0 0 (fun _ => False) := by
  refine Met.ofW (cc := cX7_inner) (maxL := 2) (ret := (some .int)) (by decide) rfl ?_
  intro p e s m args below meth c s₁ B hml hv
  obtain ⟨rfl, hP, hK, hz0⟩ := hv
  have hx := B.exec
  have hb := B.bytes
  have hr := B.returns
  have hts := atoms_spec (ws := wsX7_inner) B.pre
  have hown : s.vm.findClass RX7 = some m.cls := findClass_of_methodNamed B.named
  have hlocks := B.notSynchronized
  have hS : va_S (fun _ => False) s.heap s.heap [] := va_S.rf
  generalize hQ0 : MQ below (k2_QcV (.int res)) [.ref obT, .int a0].toArray s 0 0 (fun _ => False) = Q0
  have hl := lv_entry [.ref obT, .int a0] (n := 2) (Nat.le_of_ble_eq_true rfl)
  rw [lg_entry_eq]
  generalize (lg_sl [.ref obT, .int a0] ++ List.replicate (2 - (lg_sl [.ref obT, .int a0]).length) Slot.unset).toArray = ls at hl ⊢
  have hl : lv_has ls 2 [(0, .ref obT), (1, .int a0)] := hl
  unfold m_X7_inner at hm
  refine lv_aload_n hx hb dX7_inner_0 rfl (lv_at hl 0 rfl) ?_
  refine va_get (D := (dC, dI)) (ci := 9) (v := .ref tq_inner) (C := RX7) (T := TX7) (N := 8) hx hb hts (inX7 _) hown hK hP 0 rfl rfl 2 (by decide) (hts _ (List.mem_cons_of_mem _ wf7_18)) (fun _ h9 => h9) rfl dX7_inner_1 ?_
  refine lv_iload_n hx hb dX7_inner_4 rfl (lv_at hl 1 rfl) ?_
  obtain ⟨r1, hz1, hm⟩ := mr_bind hm
  refine mr_pSN (As := [.ref tq_inner, .int a0]) (rest := []) (sr_okZ adK adV) ⟨hx, hb, hml, hown, hts⟩ (kX8_entry l htr dC dI adK adV cI cB cJ cZ cQ tq_inner t_inner 4096 a0 r1 hz1) (sr_cnS 2 hts rfl gn7_50.1 (hz0.2.2.2.2.2.2.1 _ gn7_50.2) rfl rfl (by decide +kernel) ⟨(by show 0 + 1 ≤ 1; omega), (by show 8 + (2 + 11) + (0) ≤ 21; omega)⟩) hS hP hK hz0 [1] rfl rfl rfl hl.1 (Nat.le_of_ble_eq_true rfl) dX7_inner_5 ⟨Nat.zero_le _, Nat.zero_le _⟩ ?_
  obtain rfl := Option.some.inj hm
  subst hQ0
  exact W.iret (v := r1) hx hb hr (fun t ht hW => ⟨rfl, ht⟩) (fun q h => by cases h) dX7_inner_8
set_option maxHeartbeats 4000000 in
set_option maxRecDepth 100000 in
theorem kX7_next (l : Launch) (htr : l.stackTraces = false) (dC : Nat → ClassId) (dI : Nat → Nat → Nat) (adK adV : Nat → Nat) (cI cB cJ cZ cQ : ClassId) (obT tq_tape tq_said tq_inner tq_next tq_amount obK : Nat) (t_length : Int32) (t_wrongPlace : Int32) (t_next : Nat → Int32) (a0 : Int32) (res : Int32) (hm : m_X7_next t_next a0 = some res) : Met l yX7_next wsX7_next (rmX7_next 0 0) (pcR (sr_Z adK adV) (dC, dI) srCl [(cI, .int), (cB, .byte), (cJ, .long), (cZ, .boolean), (cQ, .object "SchemaReader$Schema")] [.ref obT, .int a0] [(obT, .inr (9, [.ref tq_tape, .ref tq_said, .ref tq_inner, .ref tq_next, .ref tq_amount, .ref obK, .int t_length, .int t_wrongPlace])), (tq_next, .inl (cI, 4096, .inl t_next))]) (k2_QcV (.int res)) 0 0 (fun _ => False) := by
  refine Met.ofW (cc := cX7_next) (maxL := 2) (ret := (some .int)) (by decide) rfl ?_
  intro p e s m args below meth c s₁ B hml hv
  obtain ⟨rfl, hP, hK, hz0⟩ := hv
  have hx := B.exec
  have hb := B.bytes
  have hr := B.returns
  have hts := atoms_spec (ws := wsX7_next) B.pre
  have hown : s.vm.findClass RX7 = some m.cls := findClass_of_methodNamed B.named
  have hlocks := B.notSynchronized
  have hS : va_S (fun _ => False) s.heap s.heap [] := va_S.rf
  generalize hQ0 : MQ below (k2_QcV (.int res)) [.ref obT, .int a0].toArray s 0 0 (fun _ => False) = Q0
  have hl := lv_entry [.ref obT, .int a0] (n := 2) (Nat.le_of_ble_eq_true rfl)
  rw [lg_entry_eq]
  generalize (lg_sl [.ref obT, .int a0] ++ List.replicate (2 - (lg_sl [.ref obT, .int a0]).length) Slot.unset).toArray = ls at hl ⊢
  have hl : lv_has ls 2 [(0, .ref obT), (1, .int a0)] := hl
  unfold m_X7_next at hm
  refine lv_aload_n hx hb dX7_next_0 rfl (lv_at hl 0 rfl) ?_
  refine va_get (D := (dC, dI)) (ci := 9) (v := .ref tq_next) (C := RX7) (T := TX7) (N := 8) hx hb hts (inX7 _) hown hK hP 0 rfl rfl 3 (by decide) (hts _ (List.mem_cons_of_mem _ wf7_22)) (fun _ h9 => h9) rfl dX7_next_1 ?_
  refine lv_iload_n hx hb dX7_next_4 rfl (lv_at hl 1 rfl) ?_
  obtain ⟨r1, hz1, hm⟩ := mr_bind hm
  refine mr_pSN (As := [.ref tq_next, .int a0]) (rest := []) (sr_okZ adK adV) ⟨hx, hb, hml, hown, hts⟩ (kX8_entry l htr dC dI adK adV cI cB cJ cZ cQ tq_next t_next 4096 a0 r1 hz1) (sr_cnS 2 hts rfl gn7_50.1 (hz0.2.2.2.2.2.2.1 _ gn7_50.2) rfl rfl (by decide +kernel) ⟨(by show 0 + 1 ≤ 1; omega), (by show 8 + (2 + 11) + (0) ≤ 21; omega)⟩) hS hP hK hz0 [1] rfl rfl rfl hl.1 (Nat.le_of_ble_eq_true rfl) dX7_next_5 ⟨Nat.zero_le _, Nat.zero_le _⟩ ?_
  obtain rfl := Option.some.inj hm
  subst hQ0
  exact W.iret (v := r1) hx hb hr (fun t ht hW => ⟨rfl, ht⟩) (fun q h => by cases h) dX7_next_8
set_option maxHeartbeats 4000000 in
set_option maxRecDepth 100000 in
theorem kX7_amount (l : Launch) (htr : l.stackTraces = false) (dC : Nat → ClassId) (dI : Nat → Nat → Nat) (adK adV : Nat → Nat) (cI cB cJ cZ cQ : ClassId) (obT tq_tape tq_said tq_inner tq_next tq_amount obK : Nat) (t_length : Int32) (t_wrongPlace : Int32) (t_amount : Nat → Int32) (a0 : Int32) (res : Int32) (hm : m_X7_amount t_amount a0 = some res) : Met l yX7_amount wsX7_amount (rmX7_amount 0 0) (pcR (sr_Z adK adV) (dC, dI) srCl [(cI, .int), (cB, .byte), (cJ, .long), (cZ, .boolean), (cQ, .object "SchemaReader$Schema")] [.ref obT, .int a0] [(obT, .inr (9, [.ref tq_tape, .ref tq_said, .ref tq_inner, .ref tq_next, .ref tq_amount, .ref obK, .int t_length, .int t_wrongPlace])), (tq_amount, .inl (cI, 4096, .inl t_amount))]) (k2_QcV (.int res)) 0 0 (fun _ => False) := by
  refine Met.ofW (cc := cX7_amount) (maxL := 2) (ret := (some .int)) (by decide) rfl ?_
  intro p e s m args below meth c s₁ B hml hv
  obtain ⟨rfl, hP, hK, hz0⟩ := hv
  have hx := B.exec
  have hb := B.bytes
  have hr := B.returns
  have hts := atoms_spec (ws := wsX7_amount) B.pre
  have hown : s.vm.findClass RX7 = some m.cls := findClass_of_methodNamed B.named
  have hlocks := B.notSynchronized
  have hS : va_S (fun _ => False) s.heap s.heap [] := va_S.rf
  generalize hQ0 : MQ below (k2_QcV (.int res)) [.ref obT, .int a0].toArray s 0 0 (fun _ => False) = Q0
  have hl := lv_entry [.ref obT, .int a0] (n := 2) (Nat.le_of_ble_eq_true rfl)
  rw [lg_entry_eq]
  generalize (lg_sl [.ref obT, .int a0] ++ List.replicate (2 - (lg_sl [.ref obT, .int a0]).length) Slot.unset).toArray = ls at hl ⊢
  have hl : lv_has ls 2 [(0, .ref obT), (1, .int a0)] := hl
  unfold m_X7_amount at hm
  refine lv_aload_n hx hb dX7_amount_0 rfl (lv_at hl 0 rfl) ?_
  refine va_get (D := (dC, dI)) (ci := 9) (v := .ref tq_amount) (C := RX7) (T := TX7) (N := 8) hx hb hts (inX7 _) hown hK hP 0 rfl rfl 4 (by decide) (hts _ (List.mem_cons_of_mem _ wf7_25)) (fun _ h9 => h9) rfl dX7_amount_1 ?_
  refine lv_iload_n hx hb dX7_amount_4 rfl (lv_at hl 1 rfl) ?_
  obtain ⟨r1, hz1, hm⟩ := mr_bind hm
  refine mr_pSN (As := [.ref tq_amount, .int a0]) (rest := []) (sr_okZ adK adV) ⟨hx, hb, hml, hown, hts⟩ (kX8_entry l htr dC dI adK adV cI cB cJ cZ cQ tq_amount t_amount 4096 a0 r1 hz1) (sr_cnS 2 hts rfl gn7_50.1 (hz0.2.2.2.2.2.2.1 _ gn7_50.2) rfl rfl (by decide +kernel) ⟨(by show 0 + 1 ≤ 1; omega), (by show 8 + (2 + 11) + (0) ≤ 21; omega)⟩) hS hP hK hz0 [1] rfl rfl rfl hl.1 (Nat.le_of_ble_eq_true rfl) dX7_amount_5 ⟨Nat.zero_le _, Nat.zero_le _⟩ ?_
  obtain rfl := Option.some.inj hm
  subst hQ0
  exact W.iret (v := r1) hx hb hr (fun t ht hW => ⟨rfl, ht⟩) (fun q h => by cases h) dX7_amount_8
set_option maxHeartbeats 4000000 in
set_option maxRecDepth 100000 in
theorem kX7_saidAt (l : Launch) (htr : l.stackTraces = false) (dC : Nat → ClassId) (dI : Nat → Nat → Nat) (adK adV : Nat → Nat) (cI cB cJ cZ cQ : ClassId) (obT tq_tape tq_said tq_inner tq_next tq_amount obK : Nat) (t_length : Int32) (t_wrongPlace : Int32) (t_said : Nat → Int32) (a0 : Int32) (res : Int32) (hm : m_X7_saidAt t_said a0 = some res) : Met l yX7_saidAt wsX7_saidAt (rmX7_saidAt 0 0) (pcR (sr_Z adK adV) (dC, dI) srCl [(cI, .int), (cB, .byte), (cJ, .long), (cZ, .boolean), (cQ, .object "SchemaReader$Schema")] [.ref obT, .int a0] [(obT, .inr (9, [.ref tq_tape, .ref tq_said, .ref tq_inner, .ref tq_next, .ref tq_amount, .ref obK, .int t_length, .int t_wrongPlace])), (tq_said, .inl (cB, 4096, .inl t_said))]) (k2_QcV (.int res)) 0 0 (fun _ => False) := by
  refine Met.ofW (cc := cX7_saidAt) (maxL := 2) (ret := (some .int)) (by decide) rfl ?_
  intro p e s m args below meth c s₁ B hml hv
  obtain ⟨rfl, hP, hK, hz0⟩ := hv
  have hx := B.exec
  have hb := B.bytes
  have hr := B.returns
  have hts := atoms_spec (ws := wsX7_saidAt) B.pre
  have hown : s.vm.findClass RX7 = some m.cls := findClass_of_methodNamed B.named
  have hlocks := B.notSynchronized
  have hS : va_S (fun _ => False) s.heap s.heap [] := va_S.rf
  generalize hQ0 : MQ below (k2_QcV (.int res)) [.ref obT, .int a0].toArray s 0 0 (fun _ => False) = Q0
  have hl := lv_entry [.ref obT, .int a0] (n := 2) (Nat.le_of_ble_eq_true rfl)
  rw [lg_entry_eq]
  generalize (lg_sl [.ref obT, .int a0] ++ List.replicate (2 - (lg_sl [.ref obT, .int a0]).length) Slot.unset).toArray = ls at hl ⊢
  have hl : lv_has ls 2 [(0, .ref obT), (1, .int a0)] := hl
  unfold m_X7_saidAt at hm
  refine lv_iload_n hx hb dX7_saidAt_0 rfl (lv_at hl 1 rfl) ?_
  refine lv_if_lt (tgt := 26) hx hb dX7_saidAt_1 (by decide) (fun c1 => ?_) (fun c1 => ?_)
  · have hm := mr_if c1 hm
    refine lv_iconst (v := -1) hx hb dX7_saidAt_26 (by decide) ?_
    obtain rfl := Option.some.inj hm
    subst hQ0
    exact W.iret (v := (-1)) hx hb hr (fun t ht hW => ⟨rfl, ht⟩) (fun q h => by cases h) dX7_saidAt_27
  · have hm := mr_un c1 hm
    refine lv_iload_n hx hb dX7_saidAt_4 rfl (lv_at hl 1 rfl) ?_
    refine lv_aload_n hx hb dX7_saidAt_5 rfl (lv_at hl 0 rfl) ?_
    refine va_get (D := (dC, dI)) (ci := 9) (v := .ref tq_said) (C := RX7) (T := TX7) (N := 8) hx hb hts (inX7 _) hown hK hP 0 rfl rfl 1 (by decide) (hts _ (List.mem_cons_of_mem _ wf7_15)) (fun _ h9 => h9) rfl dX7_saidAt_6 ?_
    refine va_alen hx hb hK hP 1 1 rfl rfl rfl dX7_saidAt_9 ?_
    refine lv_icmp_ge (tgt := 26) hx hb dX7_saidAt_10 (by decide) (fun c2 => ?_) (fun c2 => ?_)
    · have hm := mr_if c2 hm
      refine lv_iconst (v := -1) hx hb dX7_saidAt_26 (by decide) ?_
      obtain rfl := Option.some.inj hm
      subst hQ0
      exact W.iret (v := (-1)) hx hb hr (fun t ht hW => ⟨rfl, ht⟩) (fun q h => by cases h) dX7_saidAt_27
    · have hm := mr_un c2 hm
      refine lv_aload_n hx hb dX7_saidAt_13 rfl (lv_at hl 0 rfl) ?_
      refine va_get (D := (dC, dI)) (ci := 9) (v := .ref tq_said) (C := RX7) (T := TX7) (N := 8) hx hb hts (inX7 _) hown hK hP 0 rfl rfl 1 (by decide) (hts _ (List.mem_cons_of_mem _ wf7_15)) (fun _ h9 => h9) rfl dX7_saidAt_14 ?_
      refine lv_iload_n hx hb dX7_saidAt_17 rfl (lv_at hl 1 rfl) ?_
      obtain ⟨h3, hm⟩ := mr_bd hm
      refine va_bald hx hb hK hP 1 1 rfl rfl h3 dX7_saidAt_18 ?_
      refine lv_sipush (v := 255) hx hb dX7_saidAt_19 (by decide) ?_
      refine lv_iand hx hb dX7_saidAt_22 ?_
      refine lv_goto (tgt := 27) hx hb dX7_saidAt_23 (by decide) ?_
      obtain rfl := Option.some.inj hm
      subst hQ0
      exact W.iret (v := ((t_said (a0 : Int32).toNatClampNeg) &&& 255)) hx hb hr (fun t ht hW => ⟨rfl, ht⟩) (fun q h => by cases h) dX7_saidAt_27
set_option maxHeartbeats 4000000 in
set_option maxRecDepth 100000 in
theorem kX7_says (l : Launch) (htr : l.stackTraces = false) (dC : Nat → ClassId) (dI : Nat → Nat → Nat) (adK adV : Nat → Nat) (cI cB cJ cZ cQ : ClassId) (obT tq_tape tq_said tq_inner tq_next tq_amount obK : Nat) (t_length : Int32) (t_wrongPlace : Int32) (t_tape : Nat → Int32) (t_said : Nat → Int32) (t_amount : Nat → Int32) (a0 : Int32) (a1 : Nat) (res : Int32) (hm : m_X7_says t_tape t_said t_amount t_length a0 a1 = some res) : Met l yX7_says wsX7_says (rmX7_says 0 0) (pcR (sr_Z adK adV) (dC, dI) srCl [(cI, .int), (cB, .byte), (cJ, .long), (cZ, .boolean), (cQ, .object "SchemaReader$Schema")] [.ref obT, .int a0, .ref (adK a1)] [(obT, .inr (9, [.ref tq_tape, .ref tq_said, .ref tq_inner, .ref tq_next, .ref tq_amount, .ref obK, .int t_length, .int t_wrongPlace])), (tq_tape, .inl (cB, 4096, .inl t_tape)), (tq_said, .inl (cB, 4096, .inl t_said)), (tq_amount, .inl (cI, 4096, .inl t_amount))]) (k2_QcV (.int res)) 0 0 (fun _ => False) := by
  refine Met.ofW (cc := cX7_says) (maxL := 4) (ret := (some .boolean)) (by decide) rfl ?_
  intro p e s m args below meth c s₁ B hml hv
  obtain ⟨rfl, hP, hK, hz0⟩ := hv
  have hx := B.exec
  have hb := B.bytes
  have hr := B.returns
  have hts := atoms_spec (ws := wsX7_says) B.pre
  have hown : s.vm.findClass RX7 = some m.cls := findClass_of_methodNamed B.named
  have hlocks := B.notSynchronized
  have hS : va_S (fun _ => False) s.heap s.heap [] := va_S.rf
  generalize hQ0 : MQ below (k2_QcV (.int res)) [.ref obT, .int a0, .ref (adK a1)].toArray s 0 0 (fun _ => False) = Q0
  have hl := lv_entry [.ref obT, .int a0, .ref (adK a1)] (n := 4) (Nat.le_of_ble_eq_true rfl)
  rw [lg_entry_eq]
  generalize (lg_sl [.ref obT, .int a0, .ref (adK a1)] ++ List.replicate (4 - (lg_sl [.ref obT, .int a0, .ref (adK a1)]).length) Slot.unset).toArray = ls at hl ⊢
  have hl : lv_has ls 4 [(0, .ref obT), (1, .int a0), (2, .ref (adK a1))] := hl
  unfold m_X7_says at hm
  refine lv_aload_n hx hb dX7_says_0 rfl (lv_at hl 0 rfl) ?_
  refine lv_iload_n hx hb dX7_says_1 rfl (lv_at hl 1 rfl) ?_
  obtain ⟨r1, hz1, hm⟩ := mr_bind hm
  refine mr_pV (As := [.int a0]) (rest := []) (sr_okZ adK adV) ⟨hx, hb, hml, hown, hts⟩ (kX7_byteAt l htr dC dI adK adV cI cB cJ cZ cQ obT tq_tape tq_said tq_inner tq_next tq_amount obK t_length t_wrongPlace t_tape a0 r1 hz1) (cwV 1 hts (g7_42 _) rfl rfl rfl (by decide +kernel) ⟨(by show 0 + 1 ≤ 4; omega), (by show 8 + (2 + 11) + (0) ≤ 85; omega)⟩) hS hP hK hz0 [0, 1] rfl (va_recv hK hP (ci := 9) (q0 := 0) rfl rfl) rfl rfl hl.1 (Nat.le_of_ble_eq_true rfl) dX7_says_2 ⟨Nat.zero_le _, Nat.zero_le _⟩ ?_
  refine lv_bipush (v := 34) hx hb dX7_says_5 (by decide) ?_
  refine lv_icmp_ne (tgt := 25) hx hb dX7_says_7 (by decide) (fun c2 => ?_) (fun c2 => ?_)
  · have hm := mr_un c2 hm
    refine lv_iconst (v := 0) hx hb dX7_says_25 (by decide) ?_
    obtain rfl := Option.some.inj hm
    subst hQ0
    exact W.zret (v := 0) hx hb hr rfl (fun t ht hW => ⟨rfl, ht⟩) (fun q h => by cases h) dX7_says_26
  · have hm := mr_if c2 hm
    refine lv_aload_n hx hb dX7_says_10 rfl (lv_at hl 0 rfl) ?_
    refine va_get (D := (dC, dI)) (ci := 9) (v := .ref tq_amount) (C := RX7) (T := TX7) (N := 8) hx hb hts (inX7 _) hown hK hP 0 rfl rfl 4 (by decide) (hts _ (List.mem_cons_of_mem _ wf7_25)) (fun _ h9 => h9) rfl dX7_says_11 ?_
    refine lv_iload_n hx hb dX7_says_14 rfl (lv_at hl 1 rfl) ?_
    obtain ⟨r3, hz3, hm⟩ := mr_bind hm
    refine mr_pSN (As := [.ref tq_amount, .int a0]) (rest := []) (sr_okZ adK adV) ⟨hx, hb, hml, hown, hts⟩ (kX8_entry l htr dC dI adK adV cI cB cJ cZ cQ tq_amount t_amount 4096 a0 r3 hz3) (sr_cnS 2 hts rfl gn7_50.1 (hz0.2.2.2.2.2.2.1 _ gn7_50.2) rfl rfl (by decide +kernel) ⟨(by show 0 + 1 ≤ 4; omega), (by show 8 + (2 + 11) + (0) ≤ 85; omega)⟩) hS hP hK hz0 [3] rfl rfl rfl hl.1 (Nat.le_of_ble_eq_true rfl) dX7_says_15 ⟨Nat.zero_le _, Nat.zero_le _⟩ ?_
    refine lv_aload_n hx hb dX7_says_18 rfl (lv_at hl 2 rfl) ?_
    obtain ⟨h5, hm⟩ := mr_bs hm
    obtain ⟨r4, hz4, hm⟩ := mr_bind hm
    refine mr_pV (As := []) (rest := [.int r3]) (sr_okZ adK adV) ⟨hx, hb, hml, hown, hts⟩ (kX20_length l htr dC dI adK adV cI cB cJ cZ cQ  a1 r4 hz4) (cwV 0 hts (g7_54 _) rfl rfl rfl (by decide +kernel) ⟨(by show 1 + 1 ≤ 4; omega), (by show 8 + (1 + 11) + (20) ≤ 85; omega)⟩) hS hP hK hz0 [] rfl (sr_recv (hz0.1 a1 h5).1.1 hS) rfl rfl hl.1 (Nat.le_of_ble_eq_true rfl) dX7_says_19 ⟨Nat.zero_le _, Nat.zero_le _⟩ ?_
    refine lv_icmp_eq (tgt := 27) hx hb dX7_says_22 (by decide) (fun c6 => ?_) (fun c6 => ?_)
    · have hm := mr_if c6 hm
      refine lv_iconst (v := 0) hx hb dX7_says_27 (by decide) ?_
      have j29 : ∀ (n29 : Nat) (x1 : Int32) (x2 : Nat) (x3 : Int32) (ls : Array Slot), lv_has ls 4 [(0, .ref obT), (1, .int x1), (2, .ref (adK x2)), (3, .int x3)] → m_X7_says_29 t_tape t_said t_amount t_length n29 x1 x2 x3 = some res → W p l e (headSpec wsX7_says (rmX7_says 0 0)).room s m [.ref obT, .int a0, .ref (adK a1)].toArray below meth c s.heap [] 0 0 Q0 (F0 m 29 ls []) := by
        intro n29
        induction n29 with
        | zero => intro x1 x2 x3 ls hl hm; exact nomatch (show (none : Option _) = some res from hm)
        | succ n29 ih29 =>
          intro x1 x2 x3 ls hl hm
          rw [m_X7_says_29] at hm
          refine lv_iload_n hx hb dX7_says_29 rfl (lv_at hl 3 rfl) ?_
          refine lv_aload_n hx hb dX7_says_30 rfl (lv_at hl 2 rfl) ?_
          obtain ⟨h8, hm⟩ := mr_bs hm
          obtain ⟨r7, hz7, hm⟩ := mr_bind hm
          refine mr_pV (As := []) (rest := [.int x3]) (sr_okZ adK adV) ⟨hx, hb, hml, hown, hts⟩ (kX20_length l htr dC dI adK adV cI cB cJ cZ cQ  x2 r7 hz7) (cwV 0 hts (g7_54 _) rfl rfl rfl (by decide +kernel) ⟨(by show 1 + 1 ≤ 4; omega), (by show 8 + (1 + 11) + (20) ≤ 85; omega)⟩) hS hP hK hz0 [] rfl (sr_recv (hz0.1 x2 h8).1.1 hS) rfl rfl hl.1 (Nat.le_of_ble_eq_true rfl) dX7_says_31 ⟨Nat.zero_le _, Nat.zero_le _⟩ ?_
          refine lv_icmp_ge (tgt := 60) hx hb dX7_says_34 (by decide) (fun c9 => ?_) (fun c9 => ?_)
          · have hm := mr_if c9 hm
            refine lv_iconst (v := 1) hx hb dX7_says_60 (by decide) ?_
            obtain rfl := Option.some.inj hm
            subst hQ0
            exact W.zret (v := 1) hx hb hr rfl (fun t ht hW => ⟨rfl, ht⟩) (fun q h => by cases h) dX7_says_61
          · have hm := mr_un c9 hm
            refine lv_aload_n hx hb dX7_says_37 rfl (lv_at hl 0 rfl) ?_
            refine lv_iload_n hx hb dX7_says_38 rfl (lv_at hl 1 rfl) ?_
            refine lv_iload_n hx hb dX7_says_39 rfl (lv_at hl 3 rfl) ?_
            refine lv_iadd hx hb dX7_says_40 ?_
            obtain ⟨r10, hz10, hm⟩ := mr_bind hm
            refine mr_pV (As := [.int (x1 + x3)]) (rest := []) (sr_okZ adK adV) ⟨hx, hb, hml, hown, hts⟩ (kX7_saidAt l htr dC dI adK adV cI cB cJ cZ cQ obT tq_tape tq_said tq_inner tq_next tq_amount obK t_length t_wrongPlace t_said (x1 + x3) r10 hz10) (cwV 1 hts (g7_59 _) rfl rfl rfl (by decide +kernel) ⟨(by show 0 + 1 ≤ 4; omega), (by show 8 + (2 + 11) + (0) ≤ 85; omega)⟩) hS hP hK hz0 [0, 2] rfl (va_recv hK hP (ci := 9) (q0 := 0) rfl rfl) rfl rfl hl.1 (Nat.le_of_ble_eq_true rfl) dX7_says_41 ⟨Nat.zero_le _, Nat.zero_le _⟩ ?_
            refine lv_aload_n hx hb dX7_says_44 rfl (lv_at hl 2 rfl) ?_
            refine lv_iload_n hx hb dX7_says_45 rfl (lv_at hl 3 rfl) ?_
            obtain ⟨h12, hm⟩ := mr_bs hm
            obtain ⟨r11, hz11, hm⟩ := mr_bind hm
            refine mr_pV (As := [.int x3]) (rest := [.int r10]) (sr_okZ adK adV) ⟨hx, hb, hml, hown, hts⟩ (kX20_charAt l htr dC dI adK adV cI cB cJ cZ cQ  x2 x3 r11 hz11) (cwV 1 hts (g7_62 _) rfl rfl rfl (by decide +kernel) ⟨(by show 3 + 1 ≤ 4; omega), (by show 8 + (2 + 11) + (64) ≤ 85; omega)⟩) hS hP hK hz0 [] rfl (sr_recv (hz0.1 x2 h12).1.1 hS) rfl rfl hl.1 (Nat.le_of_ble_eq_true rfl) dX7_says_46 ⟨Nat.zero_le _, Nat.zero_le _⟩ ?_
            refine lv_icmp_eq (tgt := 54) hx hb dX7_says_49 (by decide) (fun c13 => ?_) (fun c13 => ?_)
            · have hm := mr_if c13 hm
              refine lv_iinc (v := x3 + 1) (lv' := [(3, .int (x3 + 1)), (0, .ref obT), (1, .int x1), (2, .ref (adK x2))]) hx hb dX7_says_54 hl (k := 3) rfl rfl (by decide) rfl (fun ls hl => ?_)
              refine lv_goto (tgt := 29) hx hb dX7_says_57 (by decide) ?_
              exact ih29 x1 x2 (x3 + 1) ls (lv_sub hl [1, 2, 3, 0] rfl) hm
            · have hm := mr_un c13 hm
              refine lv_iconst (v := 0) hx hb dX7_says_52 (by decide) ?_
              obtain rfl := Option.some.inj hm
              subst hQ0
              exact W.zret (v := 0) hx hb hr rfl (fun t ht hW => ⟨rfl, ht⟩) (fun q h => by cases h) dX7_says_53
      refine lv_istore_n (lv' := [(3, .int 0), (0, .ref obT), (1, .int a0), (2, .ref (adK a1))]) hx hb dX7_says_28 rfl hl (by decide) rfl (fun ls hl => ?_)
      exact j29 sr_fuel a0 a1 0 ls (lv_sub hl [1, 2, 3, 0] rfl) hm
    · have hm := mr_un c6 hm
      refine lv_iconst (v := 0) hx hb dX7_says_25 (by decide) ?_
      obtain rfl := Option.some.inj hm
      subst hQ0
      exact W.zret (v := 0) hx hb hr rfl (fun t ht hW => ⟨rfl, ht⟩) (fun q h => by cases h) dX7_says_26
set_option maxHeartbeats 4000000 in
set_option maxRecDepth 100000 in
theorem kX7_saysSame (l : Launch) (htr : l.stackTraces = false) (dC : Nat → ClassId) (dI : Nat → Nat → Nat) (adK adV : Nat → Nat) (cI cB cJ cZ cQ : ClassId) (obT tq_tape tq_said tq_inner tq_next tq_amount obK : Nat) (t_length : Int32) (t_wrongPlace : Int32) (t_said : Nat → Int32) (t_amount : Nat → Int32) (a0 : Int32) (a1 : Int32) (res : Int32) (hm : m_X7_saysSame t_said t_amount a0 a1 = some res) : Met l yX7_saysSame wsX7_saysSame (rmX7_saysSame 0 0) (pcR (sr_Z adK adV) (dC, dI) srCl [(cI, .int), (cB, .byte), (cJ, .long), (cZ, .boolean), (cQ, .object "SchemaReader$Schema")] [.ref obT, .int a0, .int a1] [(obT, .inr (9, [.ref tq_tape, .ref tq_said, .ref tq_inner, .ref tq_next, .ref tq_amount, .ref obK, .int t_length, .int t_wrongPlace])), (tq_said, .inl (cB, 4096, .inl t_said)), (tq_amount, .inl (cI, 4096, .inl t_amount))]) (k2_QcV (.int res)) 0 0 (fun _ => False) := by
  refine Met.ofW (cc := cX7_saysSame) (maxL := 5) (ret := (some .boolean)) (by decide) rfl ?_
  intro p e s m args below meth c s₁ B hml hv
  obtain ⟨rfl, hP, hK, hz0⟩ := hv
  have hx := B.exec
  have hb := B.bytes
  have hr := B.returns
  have hts := atoms_spec (ws := wsX7_saysSame) B.pre
  have hown : s.vm.findClass RX7 = some m.cls := findClass_of_methodNamed B.named
  have hlocks := B.notSynchronized
  have hS : va_S (fun _ => False) s.heap s.heap [] := va_S.rf
  generalize hQ0 : MQ below (k2_QcV (.int res)) [.ref obT, .int a0, .int a1].toArray s 0 0 (fun _ => False) = Q0
  have hl := lv_entry [.ref obT, .int a0, .int a1] (n := 5) (Nat.le_of_ble_eq_true rfl)
  rw [lg_entry_eq]
  generalize (lg_sl [.ref obT, .int a0, .int a1] ++ List.replicate (5 - (lg_sl [.ref obT, .int a0, .int a1]).length) Slot.unset).toArray = ls at hl ⊢
  have hl : lv_has ls 5 [(0, .ref obT), (1, .int a0), (2, .int a1)] := hl
  unfold m_X7_saysSame at hm
  refine lv_aload_n hx hb dX7_saysSame_0 rfl (lv_at hl 0 rfl) ?_
  refine va_get (D := (dC, dI)) (ci := 9) (v := .ref tq_amount) (C := RX7) (T := TX7) (N := 8) hx hb hts (inX7 _) hown hK hP 0 rfl rfl 4 (by decide) (hts _ (List.mem_cons_of_mem _ wf7_25)) (fun _ h9 => h9) rfl dX7_saysSame_1 ?_
  refine lv_iload_n hx hb dX7_saysSame_4 rfl (lv_at hl 1 rfl) ?_
  obtain ⟨r1, hz1, hm⟩ := mr_bind hm
  refine mr_pSN (As := [.ref tq_amount, .int a0]) (rest := []) (sr_okZ adK adV) ⟨hx, hb, hml, hown, hts⟩ (kX8_entry l htr dC dI adK adV cI cB cJ cZ cQ tq_amount t_amount 4096 a0 r1 hz1) (sr_cnS 2 hts rfl gn7_50.1 (hz0.2.2.2.2.2.2.1 _ gn7_50.2) rfl rfl (by decide +kernel) ⟨(by show 0 + 1 ≤ 1; omega), (by show 8 + (2 + 11) + (0) ≤ 21; omega)⟩) hS hP hK hz0 [2] rfl rfl rfl hl.1 (Nat.le_of_ble_eq_true rfl) dX7_saysSame_5 ⟨Nat.zero_le _, Nat.zero_le _⟩ ?_
  refine lv_istore_n (lv' := [(3, .int r1), (0, .ref obT), (1, .int a0), (2, .int a1)]) hx hb dX7_saysSame_8 rfl hl (by decide) rfl (fun ls hl => ?_)
  refine lv_iload_n hx hb dX7_saysSame_9 rfl (lv_at hl 0 rfl) ?_
  refine lv_aload_n hx hb dX7_saysSame_10 rfl (lv_at hl 1 rfl) ?_
  refine va_get (D := (dC, dI)) (ci := 9) (v := .ref tq_amount) (C := RX7) (T := TX7) (N := 8) hx hb hts (inX7 _) hown hK hP 0 rfl rfl 4 (by decide) (hts _ (List.mem_cons_of_mem _ wf7_25)) (fun _ h9 => h9) rfl dX7_saysSame_11 ?_
  refine lv_iload_n hx hb dX7_saysSame_14 rfl (lv_at hl 3 rfl) ?_
  obtain ⟨r2, hz2, hm⟩ := mr_bind hm
  refine mr_pSN (As := [.ref tq_amount, .int a1]) (rest := [.int r1]) (sr_okZ adK adV) ⟨hx, hb, hml, hown, hts⟩ (kX8_entry l htr dC dI adK adV cI cB cJ cZ cQ tq_amount t_amount 4096 a1 r2 hz2) (sr_cnS 2 hts rfl gn7_50.1 (hz0.2.2.2.2.2.2.1 _ gn7_50.2) rfl rfl (by decide +kernel) ⟨(by show 0 + 1 ≤ 1; omega), (by show 8 + (2 + 11) + (0) ≤ 21; omega)⟩) hS hP hK hz0 [2] rfl rfl rfl hl.1 (Nat.le_of_ble_eq_true rfl) dX7_saysSame_15 ⟨Nat.zero_le _, Nat.zero_le _⟩ ?_
  refine lv_icmp_eq (tgt := 23) hx hb dX7_saysSame_18 (by decide) (fun c3 => ?_) (fun c3 => ?_)
  · have hm := mr_if c3 hm
    refine lv_iconst (v := 0) hx hb dX7_saysSame_23 (by decide) ?_
    have j26 : ∀ (n26 : Nat) (x1 : Int32) (x2 : Int32) (x3 : Int32) (x4 : Int32) (ls : Array Slot), lv_has ls 5 [(0, .ref obT), (1, .int x1), (2, .int x2), (3, .int x3), (4, .int x4)] → m_X7_saysSame_26 t_said t_amount n26 x1 x2 x3 x4 = some res → W p l e (headSpec wsX7_saysSame (rmX7_saysSame 0 0)).room s m [.ref obT, .int a0, .int a1].toArray below meth c s.heap [] 0 0 Q0 (F0 m 26 ls []) := by
      intro n26
      induction n26 with
      | zero => intro x1 x2 x3 x4 ls hl hm; exact nomatch (show (none : Option _) = some res from hm)
      | succ n26 ih26 =>
        intro x1 x2 x3 x4 ls hl hm
        rw [m_X7_saysSame_26] at hm
        refine lv_iload hx hb dX7_saysSame_26 (lv_at hl 4 rfl) ?_
        refine lv_iload_n hx hb dX7_saysSame_28 rfl (lv_at hl 3 rfl) ?_
        refine lv_icmp_ge (tgt := 59) hx hb dX7_saysSame_29 (by decide) (fun c4 => ?_) (fun c4 => ?_)
        · have hm := mr_if c4 hm
          refine lv_iconst (v := 1) hx hb dX7_saysSame_59 (by decide) ?_
          obtain rfl := Option.some.inj hm
          subst hQ0
          exact W.zret (v := 1) hx hb hr rfl (fun t ht hW => ⟨rfl, ht⟩) (fun q h => by cases h) dX7_saysSame_60
        · have hm := mr_un c4 hm
          refine lv_aload_n hx hb dX7_saysSame_32 rfl (lv_at hl 0 rfl) ?_
          refine lv_iload_n hx hb dX7_saysSame_33 rfl (lv_at hl 1 rfl) ?_
          refine lv_iload hx hb dX7_saysSame_34 (lv_at hl 4 rfl) ?_
          refine lv_iadd hx hb dX7_saysSame_36 ?_
          obtain ⟨r5, hz5, hm⟩ := mr_bind hm
          refine mr_pV (As := [.int (x1 + x4)]) (rest := []) (sr_okZ adK adV) ⟨hx, hb, hml, hown, hts⟩ (kX7_saidAt l htr dC dI adK adV cI cB cJ cZ cQ obT tq_tape tq_said tq_inner tq_next tq_amount obK t_length t_wrongPlace t_said (x1 + x4) r5 hz5) (cwV 1 hts (g7_59 _) rfl rfl rfl (by decide +kernel) ⟨(by show 0 + 1 ≤ 1; omega), (by show 8 + (2 + 11) + (0) ≤ 21; omega)⟩) hS hP hK hz0 [0, 1] rfl (va_recv hK hP (ci := 9) (q0 := 0) rfl rfl) rfl rfl hl.1 (Nat.le_of_ble_eq_true rfl) dX7_saysSame_37 ⟨Nat.zero_le _, Nat.zero_le _⟩ ?_
          refine lv_aload_n hx hb dX7_saysSame_40 rfl (lv_at hl 0 rfl) ?_
          refine lv_iload_n hx hb dX7_saysSame_41 rfl (lv_at hl 2 rfl) ?_
          refine lv_iload hx hb dX7_saysSame_42 (lv_at hl 4 rfl) ?_
          refine lv_iadd hx hb dX7_saysSame_44 ?_
          obtain ⟨r6, hz6, hm⟩ := mr_bind hm
          refine mr_pV (As := [.int (x2 + x4)]) (rest := [.int r5]) (sr_okZ adK adV) ⟨hx, hb, hml, hown, hts⟩ (kX7_saidAt l htr dC dI adK adV cI cB cJ cZ cQ obT tq_tape tq_said tq_inner tq_next tq_amount obK t_length t_wrongPlace t_said (x2 + x4) r6 hz6) (cwV 1 hts (g7_59 _) rfl rfl rfl (by decide +kernel) ⟨(by show 0 + 1 ≤ 1; omega), (by show 8 + (2 + 11) + (0) ≤ 21; omega)⟩) hS hP hK hz0 [0, 1] rfl (va_recv hK hP (ci := 9) (q0 := 0) rfl rfl) rfl rfl hl.1 (Nat.le_of_ble_eq_true rfl) dX7_saysSame_45 ⟨Nat.zero_le _, Nat.zero_le _⟩ ?_
          refine lv_icmp_eq (tgt := 53) hx hb dX7_saysSame_48 (by decide) (fun c7 => ?_) (fun c7 => ?_)
          · have hm := mr_if c7 hm
            refine lv_iinc (v := x4 + 1) (lv' := [(4, .int (x4 + 1)), (0, .ref obT), (1, .int x1), (2, .int x2), (3, .int x3)]) hx hb dX7_saysSame_53 hl (k := 4) rfl rfl (by decide) rfl (fun ls hl => ?_)
            refine lv_goto (tgt := 26) hx hb dX7_saysSame_56 (by decide) ?_
            exact ih26 x1 x2 x3 (x4 + 1) ls (lv_sub hl [1, 2, 3, 4, 0] rfl) hm
          · have hm := mr_un c7 hm
            refine lv_iconst (v := 0) hx hb dX7_saysSame_51 (by decide) ?_
            obtain rfl := Option.some.inj hm
            subst hQ0
            exact W.zret (v := 0) hx hb hr rfl (fun t ht hW => ⟨rfl, ht⟩) (fun q h => by cases h) dX7_saysSame_52
    refine lv_istore (lv' := [(4, .int 0), (3, .int r1), (0, .ref obT), (1, .int a0), (2, .int a1)]) hx hb dX7_saysSame_24 hl (by decide) rfl (fun ls hl => ?_)
    exact j26 sr_fuel a0 a1 r1 0 ls (lv_sub hl [2, 3, 4, 1, 0] rfl) hm
  · have hm := mr_un c3 hm
    refine lv_iconst (v := 0) hx hb dX7_saysSame_21 (by decide) ?_
    obtain rfl := Option.some.inj hm
    subst hQ0
    exact W.zret (v := 0) hx hb hr rfl (fun t ht hW => ⟨rfl, ht⟩) (fun q h => by cases h) dX7_saysSame_22
set_option maxHeartbeats 4000000 in
set_option maxRecDepth 100000 in
theorem kX7_hash (l : Launch) (htr : l.stackTraces = false) (dC : Nat → ClassId) (dI : Nat → Nat → Nat) (adK adV : Nat → Nat) (cI cB cJ cZ cQ : ClassId) (obT tq_tape tq_said tq_inner tq_next tq_amount obK : Nat) (t_length : Int32) (t_wrongPlace : Int32) (t_said : Nat → Int32) (t_amount : Nat → Int32) (a0 : Int32) (res : Int32) (hm : m_X7_hash t_said t_amount a0 = some res) : Met l yX7_hash wsX7_hash (rmX7_hash 0 0) (pcR (sr_Z adK adV) (dC, dI) srCl [(cI, .int), (cB, .byte), (cJ, .long), (cZ, .boolean), (cQ, .object "SchemaReader$Schema")] [.ref obT, .int a0] [(obT, .inr (9, [.ref tq_tape, .ref tq_said, .ref tq_inner, .ref tq_next, .ref tq_amount, .ref obK, .int t_length, .int t_wrongPlace])), (tq_said, .inl (cB, 4096, .inl t_said)), (tq_amount, .inl (cI, 4096, .inl t_amount))]) (k2_QcV (.int res)) 0 0 (fun _ => False) := by
  refine Met.ofW (cc := cX7_hash) (maxL := 5) (ret := (some .int)) (by decide) rfl ?_
  intro p e s m args below meth c s₁ B hml hv
  obtain ⟨rfl, hP, hK, hz0⟩ := hv
  have hx := B.exec
  have hb := B.bytes
  have hr := B.returns
  have hts := atoms_spec (ws := wsX7_hash) B.pre
  have hown : s.vm.findClass RX7 = some m.cls := findClass_of_methodNamed B.named
  have hlocks := B.notSynchronized
  have hS : va_S (fun _ => False) s.heap s.heap [] := va_S.rf
  generalize hQ0 : MQ below (k2_QcV (.int res)) [.ref obT, .int a0].toArray s 0 0 (fun _ => False) = Q0
  have hl := lv_entry [.ref obT, .int a0] (n := 5) (Nat.le_of_ble_eq_true rfl)
  rw [lg_entry_eq]
  generalize (lg_sl [.ref obT, .int a0] ++ List.replicate (5 - (lg_sl [.ref obT, .int a0]).length) Slot.unset).toArray = ls at hl ⊢
  have hl : lv_has ls 5 [(0, .ref obT), (1, .int a0)] := hl
  unfold m_X7_hash at hm
  refine lv_aload_n hx hb dX7_hash_0 rfl (lv_at hl 0 rfl) ?_
  refine va_get (D := (dC, dI)) (ci := 9) (v := .ref tq_amount) (C := RX7) (T := TX7) (N := 8) hx hb hts (inX7 _) hown hK hP 0 rfl rfl 4 (by decide) (hts _ (List.mem_cons_of_mem _ wf7_25)) (fun _ h9 => h9) rfl dX7_hash_1 ?_
  refine lv_iload_n hx hb dX7_hash_4 rfl (lv_at hl 1 rfl) ?_
  obtain ⟨r1, hz1, hm⟩ := mr_bind hm
  refine mr_pSN (As := [.ref tq_amount, .int a0]) (rest := []) (sr_okZ adK adV) ⟨hx, hb, hml, hown, hts⟩ (kX8_entry l htr dC dI adK adV cI cB cJ cZ cQ tq_amount t_amount 4096 a0 r1 hz1) (sr_cnS 2 hts rfl gn7_50.1 (hz0.2.2.2.2.2.2.1 _ gn7_50.2) rfl rfl (by decide +kernel) ⟨(by show 0 + 1 ≤ 1; omega), (by show 8 + (2 + 11) + (0) ≤ 21; omega)⟩) hS hP hK hz0 [2] rfl rfl rfl hl.1 (Nat.le_of_ble_eq_true rfl) dX7_hash_5 ⟨Nat.zero_le _, Nat.zero_le _⟩ ?_
  refine lv_istore_n (lv' := [(2, .int r1), (0, .ref obT), (1, .int a0)]) hx hb dX7_hash_8 rfl hl (by decide) rfl (fun ls hl => ?_)
  refine lv_iload_n hx hb dX7_hash_9 rfl (lv_at hl 0 rfl) ?_
  refine lv_istore_n (lv' := [(3, .int r1), (2, .int r1), (0, .ref obT), (1, .int a0)]) hx hb dX7_hash_10 rfl hl (by decide) rfl (fun ls hl => ?_)
  refine lv_iconst (v := 0) hx hb dX7_hash_11 (by decide) ?_
  have j14 : ∀ (n14 : Nat) (x1 : Int32) (x2 : Int32) (x3 : Int32) (x4 : Int32) (ls : Array Slot), lv_has ls 5 [(0, .ref obT), (1, .int x1), (2, .int x2), (3, .int x3), (4, .int x4)] → m_X7_hash_14 t_said t_amount n14 x1 x2 x3 x4 = some res → W p l e (headSpec wsX7_hash (rmX7_hash 0 0)).room s m [.ref obT, .int a0].toArray below meth c s.heap [] 0 0 Q0 (F0 m 14 ls []) := by
    intro n14
    induction n14 with
    | zero => intro x1 x2 x3 x4 ls hl hm; exact nomatch (show (none : Option _) = some res from hm)
    | succ n14 ih14 =>
      intro x1 x2 x3 x4 ls hl hm
      rw [m_X7_hash_14] at hm
      refine lv_iload hx hb dX7_hash_14 (lv_at hl 4 rfl) ?_
      refine lv_iload_n hx hb dX7_hash_16 rfl (lv_at hl 2 rfl) ?_
      refine lv_icmp_ge (tgt := 40) hx hb dX7_hash_17 (by decide) (fun c2 => ?_) (fun c2 => ?_)
      · have hm := mr_if c2 hm
        refine lv_iload_n hx hb dX7_hash_40 rfl (lv_at hl 3 rfl) ?_
        obtain rfl := Option.some.inj hm
        subst hQ0
        exact W.iret (v := x3) hx hb hr (fun t ht hW => ⟨rfl, ht⟩) (fun q h => by cases h) dX7_hash_41
      · have hm := mr_un c2 hm
        refine lv_iload_n hx hb dX7_hash_20 rfl (lv_at hl 3 rfl) ?_
        refine lv_bipush (v := 31) hx hb dX7_hash_21 (by decide) ?_
        refine lv_imul hx hb dX7_hash_23 ?_
        refine lv_aload_n hx hb dX7_hash_24 rfl (lv_at hl 0 rfl) ?_
        refine lv_iload_n hx hb dX7_hash_25 rfl (lv_at hl 1 rfl) ?_
        refine lv_iload hx hb dX7_hash_26 (lv_at hl 4 rfl) ?_
        refine lv_iadd hx hb dX7_hash_28 ?_
        obtain ⟨r3, hz3, hm⟩ := mr_bind hm
        refine mr_pV (As := [.int (x1 + x4)]) (rest := [.int (x3 * 31)]) (sr_okZ adK adV) ⟨hx, hb, hml, hown, hts⟩ (kX7_saidAt l htr dC dI adK adV cI cB cJ cZ cQ obT tq_tape tq_said tq_inner tq_next tq_amount obK t_length t_wrongPlace t_said (x1 + x4) r3 hz3) (cwV 1 hts (g7_59 _) rfl rfl rfl (by decide +kernel) ⟨(by show 0 + 1 ≤ 1; omega), (by show 8 + (2 + 11) + (0) ≤ 21; omega)⟩) hS hP hK hz0 [0, 1] rfl (va_recv hK hP (ci := 9) (q0 := 0) rfl rfl) rfl rfl hl.1 (Nat.le_of_ble_eq_true rfl) dX7_hash_29 ⟨Nat.zero_le _, Nat.zero_le _⟩ ?_
        refine lv_iadd hx hb dX7_hash_32 ?_
        refine lv_istore_n (lv' := [(3, .int ((x3 * 31) + r3)), (0, .ref obT), (1, .int x1), (2, .int x2), (4, .int x4)]) hx hb dX7_hash_33 rfl hl (by decide) rfl (fun ls hl => ?_)
        refine lv_iinc (v := x4 + 1) (lv' := [(4, .int (x4 + 1)), (3, .int ((x3 * 31) + r3)), (0, .ref obT), (1, .int x1), (2, .int x2)]) hx hb dX7_hash_34 hl (k := 4) rfl rfl (by decide) rfl (fun ls hl => ?_)
        refine lv_goto (tgt := 14) hx hb dX7_hash_37 (by decide) ?_
        exact ih14 x1 x2 ((x3 * 31) + r3) (x4 + 1) ls (lv_sub hl [2, 3, 4, 1, 0] rfl) hm
  refine lv_istore (lv' := [(4, .int 0), (3, .int r1), (2, .int r1), (0, .ref obT), (1, .int a0)]) hx hb dX7_hash_12 hl (by decide) rfl (fun ls hl => ?_)
  exact j14 sr_fuel a0 r1 r1 0 ls (lv_sub hl [3, 4, 2, 1, 0] rfl) hm
set_option maxHeartbeats 4000000 in
set_option maxRecDepth 100000 in
theorem kX7_saysName (l : Launch) (htr : l.stackTraces = false) (dC : Nat → ClassId) (dI : Nat → Nat → Nat) (adK adV : Nat → Nat) (cI cB cJ cZ cQ : ClassId) (obT tq_tape tq_said tq_inner tq_next tq_amount obK : Nat) (t_length : Int32) (t_wrongPlace : Int32) (t_tape : Nat → Int32) (t_said : Nat → Int32) (t_amount : Nat → Int32) (a0 : Int32) (res : Int32) (hm : m_X7_saysName t_tape t_said t_amount t_length a0 = some res) : Met l yX7_saysName wsX7_saysName (rmX7_saysName 0 0) (pcR (sr_Z adK adV) (dC, dI) srCl [(cI, .int), (cB, .byte), (cJ, .long), (cZ, .boolean), (cQ, .object "SchemaReader$Schema")] [.ref obT, .int a0] [(obT, .inr (9, [.ref tq_tape, .ref tq_said, .ref tq_inner, .ref tq_next, .ref tq_amount, .ref obK, .int t_length, .int t_wrongPlace])), (tq_tape, .inl (cB, 4096, .inl t_tape)), (tq_said, .inl (cB, 4096, .inl t_said)), (tq_amount, .inl (cI, 4096, .inl t_amount))]) (k2_QcV (.int res)) 0 0 (fun _ => False) := by
  refine Met.ofW (cc := cX7_saysName) (maxL := 5) (ret := (some .boolean)) (by decide) rfl ?_
  intro p e s m args below meth c s₁ B hml hv
  obtain ⟨rfl, hP, hK, hz0⟩ := hv
  have hx := B.exec
  have hb := B.bytes
  have hr := B.returns
  have hts := atoms_spec (ws := wsX7_saysName) B.pre
  have hown : s.vm.findClass RX7 = some m.cls := findClass_of_methodNamed B.named
  have hlocks := B.notSynchronized
  have hS : va_S (fun _ => False) s.heap s.heap [] := va_S.rf
  generalize hQ0 : MQ below (k2_QcV (.int res)) [.ref obT, .int a0].toArray s 0 0 (fun _ => False) = Q0
  have hl := lv_entry [.ref obT, .int a0] (n := 5) (Nat.le_of_ble_eq_true rfl)
  rw [lg_entry_eq]
  generalize (lg_sl [.ref obT, .int a0] ++ List.replicate (5 - (lg_sl [.ref obT, .int a0]).length) Slot.unset).toArray = ls at hl ⊢
  have hl : lv_has ls 5 [(0, .ref obT), (1, .int a0)] := hl
  unfold m_X7_saysName at hm
  refine lv_aload_n hx hb dX7_saysName_0 rfl (lv_at hl 0 rfl) ?_
  refine lv_iload_n hx hb dX7_saysName_1 rfl (lv_at hl 1 rfl) ?_
  obtain ⟨r1, hz1, hm⟩ := mr_bind hm
  refine mr_pV (As := [.int a0]) (rest := []) (sr_okZ adK adV) ⟨hx, hb, hml, hown, hts⟩ (kX7_amount l htr dC dI adK adV cI cB cJ cZ cQ obT tq_tape tq_said tq_inner tq_next tq_amount obK t_length t_wrongPlace t_amount a0 r1 hz1) (cwV 1 hts (g7_66 _) rfl rfl rfl (by decide +kernel) ⟨(by show 1 + 1 ≤ 2; omega), (by show 8 + (2 + 11) + (21) ≤ 42; omega)⟩) hS hP hK hz0 [0, 3] rfl (va_recv hK hP (ci := 9) (q0 := 0) rfl rfl) rfl rfl hl.1 (Nat.le_of_ble_eq_true rfl) dX7_saysName_2 ⟨Nat.zero_le _, Nat.zero_le _⟩ ?_
  refine lv_istore_n (lv' := [(2, .int r1), (0, .ref obT), (1, .int a0)]) hx hb dX7_saysName_5 rfl hl (by decide) rfl (fun ls hl => ?_)
  refine lv_aload_n hx hb dX7_saysName_6 rfl (lv_at hl 1 rfl) ?_
  refine lv_iload_n hx hb dX7_saysName_7 rfl (lv_at hl 2 rfl) ?_
  obtain ⟨r2, hz2, hm⟩ := mr_bind hm
  refine mr_pV (As := [.int a0]) (rest := []) (sr_okZ adK adV) ⟨hx, hb, hml, hown, hts⟩ (kX7_isString l htr dC dI adK adV cI cB cJ cZ cQ obT tq_tape tq_said tq_inner tq_next tq_amount obK t_length t_wrongPlace t_tape a0 r2 hz2) (cwV 1 hts (g7_68 _) rfl rfl rfl (by decide +kernel) ⟨(by show 1 + 1 ≤ 2; omega), (by show 8 + (2 + 11) + (21) ≤ 42; omega)⟩) hS hP hK hz0 [0, 1] rfl (va_recv hK hP (ci := 9) (q0 := 0) rfl rfl) rfl rfl hl.1 (Nat.le_of_ble_eq_true rfl) dX7_saysName_8 ⟨Nat.zero_le _, Nat.zero_le _⟩ ?_
  refine lv_if_eq (tgt := 36) hx hb dX7_saysName_11 (by decide) (fun c3 => ?_) (fun c3 => ?_)
  · have hm := mr_if c3 hm
    refine lv_iconst (v := 0) hx hb dX7_saysName_36 (by decide) ?_
    obtain rfl := Option.some.inj hm
    subst hQ0
    exact W.zret (v := 0) hx hb hr rfl (fun t ht hW => ⟨rfl, ht⟩) (fun q h => by cases h) dX7_saysName_37
  · have hm := mr_un c3 hm
    refine lv_iload_n hx hb dX7_saysName_14 rfl (lv_at hl 0 rfl) ?_
    refine lv_iconst (v := 1) hx hb dX7_saysName_15 (by decide) ?_
    refine lv_icmp_lt (tgt := 36) hx hb dX7_saysName_16 (by decide) (fun c4 => ?_) (fun c4 => ?_)
    · have hm := mr_if c4 hm
      refine lv_iconst (v := 0) hx hb dX7_saysName_36 (by decide) ?_
      obtain rfl := Option.some.inj hm
      subst hQ0
      exact W.zret (v := 0) hx hb hr rfl (fun t ht hW => ⟨rfl, ht⟩) (fun q h => by cases h) dX7_saysName_37
    · have hm := mr_un c4 hm
      refine lv_iload_n hx hb dX7_saysName_19 rfl (lv_at hl 0 rfl) ?_
      refine lv_bipush (v := 32) hx hb dX7_saysName_20 (by decide) ?_
      refine lv_icmp_gt (tgt := 36) hx hb dX7_saysName_22 (by decide) (fun c5 => ?_) (fun c5 => ?_)
      · have hm := mr_if c5 hm
        refine lv_iconst (v := 0) hx hb dX7_saysName_36 (by decide) ?_
        obtain rfl := Option.some.inj hm
        subst hQ0
        exact W.zret (v := 0) hx hb hr rfl (fun t ht hW => ⟨rfl, ht⟩) (fun q h => by cases h) dX7_saysName_37
      · have hm := mr_un c5 hm
        refine lv_aload_n hx hb dX7_saysName_25 rfl (lv_at hl 1 rfl) ?_
        refine lv_iload_n hx hb dX7_saysName_26 rfl (lv_at hl 2 rfl) ?_
        obtain ⟨r6, hz6, hm⟩ := mr_bind hm
        refine mr_pV (As := [.int a0]) (rest := []) (sr_okZ adK adV) ⟨hx, hb, hml, hown, hts⟩ (kX7_saidAt l htr dC dI adK adV cI cB cJ cZ cQ obT tq_tape tq_said tq_inner tq_next tq_amount obK t_length t_wrongPlace t_said a0 r6 hz6) (cwV 1 hts (g7_59 _) rfl rfl rfl (by decide +kernel) ⟨(by show 0 + 1 ≤ 2; omega), (by show 8 + (2 + 11) + (0) ≤ 42; omega)⟩) hS hP hK hz0 [0, 2] rfl (va_recv hK hP (ci := 9) (q0 := 0) rfl rfl) rfl rfl hl.1 (Nat.le_of_ble_eq_true rfl) dX7_saysName_27 ⟨Nat.zero_le _, Nat.zero_le _⟩ ?_
        obtain ⟨r7, hz7, hm⟩ := mr_bind hm
        refine mr_pSN (As := [.int r6]) (rest := []) (sr_okZ adK adV) ⟨hx, hb, hml, hown, hts⟩ (kX8_isDigit l htr dC dI adK adV cI cB cJ cZ cQ  r6 r7 hz7) (sr_cnS 1 hts rfl gn7_46.1 (hz0.2.2.2.2.2.2.1 _ gn7_46.2) rfl rfl (by decide +kernel) ⟨(by show 0 + 1 ≤ 2; omega), (by show 8 + (1 + 11) + (0) ≤ 42; omega)⟩) hS hP hK hz0 [] rfl rfl rfl hl.1 (Nat.le_of_ble_eq_true rfl) dX7_saysName_30 ⟨Nat.zero_le _, Nat.zero_le _⟩ ?_
        refine lv_if_eq (tgt := 38) hx hb dX7_saysName_33 (by decide) (fun c8 => ?_) (fun c8 => ?_)
        · have hm := mr_if c8 hm
          refine lv_iconst (v := 0) hx hb dX7_saysName_38 (by decide) ?_
          have j40 : ∀ (n40 : Nat) (x1 : Int32) (x2 : Int32) (x3 : Int32) (ls : Array Slot), lv_has ls 5 [(0, .ref obT), (1, .int x1), (2, .int x2), (3, .int x3)] → m_X7_saysName_40 t_tape t_said t_amount t_length n40 x1 x2 x3 = some res → W p l e (headSpec wsX7_saysName (rmX7_saysName 0 0)).room s m [.ref obT, .int a0].toArray below meth c s.heap [] 0 0 Q0 (F0 m 40 ls []) := by
            intro n40
            induction n40 with
            | zero => intro x1 x2 x3 ls hl hm; exact nomatch (show (none : Option _) = some res from hm)
            | succ n40 ih40 =>
              intro x1 x2 x3 ls hl hm
              rw [m_X7_saysName_40] at hm
              refine lv_iload_n hx hb dX7_saysName_40 rfl (lv_at hl 3 rfl) ?_
              refine lv_iload_n hx hb dX7_saysName_41 rfl (lv_at hl 2 rfl) ?_
              refine lv_icmp_ge (tgt := 85) hx hb dX7_saysName_42 (by decide) (fun c9 => ?_) (fun c9 => ?_)
              · have hm := mr_if c9 hm
                refine lv_iconst (v := 1) hx hb dX7_saysName_85 (by decide) ?_
                obtain rfl := Option.some.inj hm
                subst hQ0
                exact W.zret (v := 1) hx hb hr rfl (fun t ht hW => ⟨rfl, ht⟩) (fun q h => by cases h) dX7_saysName_86
              · have hm := mr_un c9 hm
                refine lv_aload_n hx hb dX7_saysName_45 rfl (lv_at hl 0 rfl) ?_
                refine lv_iload_n hx hb dX7_saysName_46 rfl (lv_at hl 1 rfl) ?_
                refine lv_iload_n hx hb dX7_saysName_47 rfl (lv_at hl 3 rfl) ?_
                refine lv_iadd hx hb dX7_saysName_48 ?_
                obtain ⟨r10, hz10, hm⟩ := mr_bind hm
                refine mr_pV (As := [.int (x1 + x3)]) (rest := []) (sr_okZ adK adV) ⟨hx, hb, hml, hown, hts⟩ (kX7_saidAt l htr dC dI adK adV cI cB cJ cZ cQ obT tq_tape tq_said tq_inner tq_next tq_amount obK t_length t_wrongPlace t_said (x1 + x3) r10 hz10) (cwV 1 hts (g7_59 _) rfl rfl rfl (by decide +kernel) ⟨(by show 0 + 1 ≤ 2; omega), (by show 8 + (2 + 11) + (0) ≤ 42; omega)⟩) hS hP hK hz0 [0, 2] rfl (va_recv hK hP (ci := 9) (q0 := 0) rfl rfl) rfl rfl hl.1 (Nat.le_of_ble_eq_true rfl) dX7_saysName_49 ⟨Nat.zero_le _, Nat.zero_le _⟩ ?_
                refine lv_istore (lv' := [(4, .int r10), (0, .ref obT), (1, .int x1), (2, .int x2), (3, .int x3)]) hx hb dX7_saysName_52 hl (by decide) rfl (fun ls hl => ?_)
                refine lv_iload hx hb dX7_saysName_54 (lv_at hl 0 rfl) ?_
                obtain ⟨r11, hz11, hm⟩ := mr_bind hm
                refine mr_pSN (As := [.int r10]) (rest := []) (sr_okZ adK adV) ⟨hx, hb, hml, hown, hts⟩ (kX8_isLetter l htr dC dI adK adV cI cB cJ cZ cQ  r10 r11 hz11) (sr_cnS 1 hts rfl gn7_71.1 (hz0.2.2.2.2.2.2.1 _ gn7_71.2) rfl rfl (by decide +kernel) ⟨(by show 0 + 1 ≤ 2; omega), (by show 8 + (1 + 11) + (0) ≤ 42; omega)⟩) hS hP hK hz0 [] rfl rfl rfl hl.1 (Nat.le_of_ble_eq_true rfl) dX7_saysName_56 ⟨Nat.zero_le _, Nat.zero_le _⟩ ?_
                refine lv_if_ne (tgt := 79) hx hb dX7_saysName_59 (by decide) (fun c12 => ?_) (fun c12 => ?_)
                · have hm := mr_un c12 hm
                  refine lv_iinc (v := x3 + 1) (lv' := [(3, .int (x3 + 1)), (4, .int r10), (0, .ref obT), (1, .int x1), (2, .int x2)]) hx hb dX7_saysName_79 hl (k := 4) rfl rfl (by decide) rfl (fun ls hl => ?_)
                  refine lv_goto (tgt := 40) hx hb dX7_saysName_82 (by decide) ?_
                  exact ih40 x1 x2 (x3 + 1) ls (lv_sub hl [2, 3, 4, 0] rfl) hm
                · have hm := mr_if c12 hm
                  refine lv_iload hx hb dX7_saysName_62 (lv_at hl 0 rfl) ?_
                  obtain ⟨r13, hz13, hm⟩ := mr_bind hm
                  refine mr_pSN (As := [.int r10]) (rest := []) (sr_okZ adK adV) ⟨hx, hb, hml, hown, hts⟩ (kX8_isDigit l htr dC dI adK adV cI cB cJ cZ cQ  r10 r13 hz13) (sr_cnS 1 hts rfl gn7_46.1 (hz0.2.2.2.2.2.2.1 _ gn7_46.2) rfl rfl (by decide +kernel) ⟨(by show 0 + 1 ≤ 2; omega), (by show 8 + (1 + 11) + (0) ≤ 42; omega)⟩) hS hP hK hz0 [] rfl rfl rfl hl.1 (Nat.le_of_ble_eq_true rfl) dX7_saysName_64 ⟨Nat.zero_le _, Nat.zero_le _⟩ ?_
                  refine lv_if_ne (tgt := 79) hx hb dX7_saysName_67 (by decide) (fun c14 => ?_) (fun c14 => ?_)
                  · have hm := mr_un c14 hm
                    refine lv_iinc (v := x3 + 1) (lv' := [(3, .int (x3 + 1)), (4, .int r10), (0, .ref obT), (1, .int x1), (2, .int x2)]) hx hb dX7_saysName_79 hl (k := 4) rfl rfl (by decide) rfl (fun ls hl => ?_)
                    refine lv_goto (tgt := 40) hx hb dX7_saysName_82 (by decide) ?_
                    exact ih40 x1 x2 (x3 + 1) ls (lv_sub hl [2, 3, 4, 0] rfl) hm
                  · have hm := mr_if c14 hm
                    refine lv_iload hx hb dX7_saysName_70 (lv_at hl 0 rfl) ?_
                    refine lv_bipush (v := 95) hx hb dX7_saysName_72 (by decide) ?_
                    refine lv_icmp_eq (tgt := 79) hx hb dX7_saysName_74 (by decide) (fun c15 => ?_) (fun c15 => ?_)
                    · have hm := mr_if c15 hm
                      refine lv_iinc (v := x3 + 1) (lv' := [(3, .int (x3 + 1)), (4, .int r10), (0, .ref obT), (1, .int x1), (2, .int x2)]) hx hb dX7_saysName_79 hl (k := 4) rfl rfl (by decide) rfl (fun ls hl => ?_)
                      refine lv_goto (tgt := 40) hx hb dX7_saysName_82 (by decide) ?_
                      exact ih40 x1 x2 (x3 + 1) ls (lv_sub hl [2, 3, 4, 0] rfl) hm
                    · have hm := mr_un c15 hm
                      refine lv_iconst (v := 0) hx hb dX7_saysName_77 (by decide) ?_
                      obtain rfl := Option.some.inj hm
                      subst hQ0
                      exact W.zret (v := 0) hx hb hr rfl (fun t ht hW => ⟨rfl, ht⟩) (fun q h => by cases h) dX7_saysName_78
          refine lv_istore_n (lv' := [(3, .int 0), (2, .int r1), (0, .ref obT), (1, .int a0)]) hx hb dX7_saysName_39 rfl hl (by decide) rfl (fun ls hl => ?_)
          exact j40 sr_fuel a0 r1 0 ls (lv_sub hl [2, 3, 1, 0] rfl) hm
        · have hm := mr_un c8 hm
          refine lv_iconst (v := 0) hx hb dX7_saysName_36 (by decide) ?_
          obtain rfl := Option.some.inj hm
          subst hQ0
          exact W.zret (v := 0) hx hb hr rfl (fun t ht hW => ⟨rfl, ht⟩) (fun q h => by cases h) dX7_saysName_37
set_option maxHeartbeats 4000000 in
set_option maxRecDepth 100000 in
theorem kX7_member (l : Launch) (htr : l.stackTraces = false) (dC : Nat → ClassId) (dI : Nat → Nat → Nat) (adK adV : Nat → Nat) (cI cB cJ cZ cQ : ClassId) (obT tq_tape tq_said tq_inner tq_next tq_amount obK : Nat) (t_length : Int32) (t_wrongPlace : Int32) (t_tape : Nat → Int32) (t_said : Nat → Int32) (t_inner : Nat → Int32) (t_next : Nat → Int32) (t_amount : Nat → Int32) (a0 : Int32) (a1 : Nat) (res : Int32) (hm : m_X7_member t_tape t_said t_inner t_next t_amount t_length a0 a1 = some res) : Met l yX7_member wsX7_member (rmX7_member 0 0) (pcR (sr_Z adK adV) (dC, dI) srCl [(cI, .int), (cB, .byte), (cJ, .long), (cZ, .boolean), (cQ, .object "SchemaReader$Schema")] [.ref obT, .int a0, .ref (adK a1)] [(obT, .inr (9, [.ref tq_tape, .ref tq_said, .ref tq_inner, .ref tq_next, .ref tq_amount, .ref obK, .int t_length, .int t_wrongPlace])), (tq_tape, .inl (cB, 4096, .inl t_tape)), (tq_said, .inl (cB, 4096, .inl t_said)), (tq_inner, .inl (cI, 4096, .inl t_inner)), (tq_next, .inl (cI, 4096, .inl t_next)), (tq_amount, .inl (cI, 4096, .inl t_amount))]) (k2_QcV (.int res)) 0 0 (fun _ => False) := by
  refine Met.ofW (cc := cX7_member) (maxL := 5) (ret := (some .int)) (by decide) rfl ?_
  intro p e s m args below meth c s₁ B hml hv
  obtain ⟨rfl, hP, hK, hz0⟩ := hv
  have hx := B.exec
  have hb := B.bytes
  have hr := B.returns
  have hts := atoms_spec (ws := wsX7_member) B.pre
  have hown : s.vm.findClass RX7 = some m.cls := findClass_of_methodNamed B.named
  have hlocks := B.notSynchronized
  have hS : va_S (fun _ => False) s.heap s.heap [] := va_S.rf
  generalize hQ0 : MQ below (k2_QcV (.int res)) [.ref obT, .int a0, .ref (adK a1)].toArray s 0 0 (fun _ => False) = Q0
  have hl := lv_entry [.ref obT, .int a0, .ref (adK a1)] (n := 5) (Nat.le_of_ble_eq_true rfl)
  rw [lg_entry_eq]
  generalize (lg_sl [.ref obT, .int a0, .ref (adK a1)] ++ List.replicate (5 - (lg_sl [.ref obT, .int a0, .ref (adK a1)]).length) Slot.unset).toArray = ls at hl ⊢
  have hl : lv_has ls 5 [(0, .ref obT), (1, .int a0), (2, .ref (adK a1))] := hl
  unfold m_X7_member at hm
  refine lv_aload_n hx hb dX7_member_0 rfl (lv_at hl 0 rfl) ?_
  refine lv_iload_n hx hb dX7_member_1 rfl (lv_at hl 1 rfl) ?_
  obtain ⟨r1, hz1, hm⟩ := mr_bind hm
  refine mr_pV (As := [.int a0]) (rest := []) (sr_okZ adK adV) ⟨hx, hb, hml, hown, hts⟩ (kX7_inner l htr dC dI adK adV cI cB cJ cZ cQ obT tq_tape tq_said tq_inner tq_next tq_amount obK t_length t_wrongPlace t_inner a0 r1 hz1) (cwV 1 hts (g7_74 _) rfl rfl rfl (by decide +kernel) ⟨(by show 1 + 1 ≤ 5; omega), (by show 8 + (2 + 11) + (21) ≤ 108; omega)⟩) hS hP hK hz0 [0, 3] rfl (va_recv hK hP (ci := 9) (q0 := 0) rfl rfl) rfl rfl hl.1 (Nat.le_of_ble_eq_true rfl) dX7_member_2 ⟨Nat.zero_le _, Nat.zero_le _⟩ ?_
  refine lv_istore_n (lv' := [(3, .int r1), (0, .ref obT), (1, .int a0), (2, .ref (adK a1))]) hx hb dX7_member_5 rfl hl (by decide) rfl (fun ls hl => ?_)
  refine lv_iconst (v := 0) hx hb dX7_member_6 (by decide) ?_
  have j9 : ∀ (n9 : Nat) (x1 : Int32) (x2 : Nat) (x3 : Int32) (x4 : Int32) (ls : Array Slot), lv_has ls 5 [(0, .ref obT), (1, .int x1), (2, .ref (adK x2)), (3, .int x3), (4, .int x4)] → m_X7_member_9 t_tape t_said t_inner t_next t_amount t_length n9 x1 x2 x3 x4 = some res → W p l e (headSpec wsX7_member (rmX7_member 0 0)).room s m [.ref obT, .int a0, .ref (adK a1)].toArray below meth c s.heap [] 0 0 Q0 (F0 m 9 ls []) := by
    intro n9
    induction n9 with
    | zero => intro x1 x2 x3 x4 ls hl hm; exact nomatch (show (none : Option _) = some res from hm)
    | succ n9 ih9 =>
      intro x1 x2 x3 x4 ls hl hm
      rw [m_X7_member_9] at hm
      refine lv_iload hx hb dX7_member_9 (lv_at hl 4 rfl) ?_
      refine lv_aload_n hx hb dX7_member_11 rfl (lv_at hl 0 rfl) ?_
      refine lv_iload_n hx hb dX7_member_12 rfl (lv_at hl 1 rfl) ?_
      obtain ⟨r2, hz2, hm⟩ := mr_bind hm
      refine mr_pV (As := [.int x1]) (rest := [.int x4]) (sr_okZ adK adV) ⟨hx, hb, hml, hown, hts⟩ (kX7_amount l htr dC dI adK adV cI cB cJ cZ cQ obT tq_tape tq_said tq_inner tq_next tq_amount obK t_length t_wrongPlace t_amount x1 r2 hz2) (cwV 1 hts (g7_66 _) rfl rfl rfl (by decide +kernel) ⟨(by show 1 + 1 ≤ 5; omega), (by show 8 + (2 + 11) + (21) ≤ 108; omega)⟩) hS hP hK hz0 [0, 5] rfl (va_recv hK hP (ci := 9) (q0 := 0) rfl rfl) rfl rfl hl.1 (Nat.le_of_ble_eq_true rfl) dX7_member_13 ⟨Nat.zero_le _, Nat.zero_le _⟩ ?_
      refine lv_icmp_ge (tgt := 46) hx hb dX7_member_16 (by decide) (fun c3 => ?_) (fun c3 => ?_)
      · have hm := mr_if c3 hm
        refine lv_iconst (v := -1) hx hb dX7_member_46 (by decide) ?_
        obtain rfl := Option.some.inj hm
        subst hQ0
        exact W.iret (v := (-1)) hx hb hr (fun t ht hW => ⟨rfl, ht⟩) (fun q h => by cases h) dX7_member_47
      · have hm := mr_un c3 hm
        refine lv_aload_n hx hb dX7_member_19 rfl (lv_at hl 0 rfl) ?_
        refine lv_iload_n hx hb dX7_member_20 rfl (lv_at hl 3 rfl) ?_
        refine lv_aload_n hx hb dX7_member_21 rfl (lv_at hl 2 rfl) ?_
        obtain ⟨r4, hz4, hm⟩ := mr_bind hm
        refine mr_pV (As := [.int x3, .ref (adK x2)]) (rest := []) (sr_okZ adK adV) ⟨hx, hb, hml, hown, hts⟩ (kX7_says l htr dC dI adK adV cI cB cJ cZ cQ obT tq_tape tq_said tq_inner tq_next tq_amount obK t_length t_wrongPlace t_tape t_said t_amount x3 x2 r4 hz4) (cwV 2 hts (g7_76 _) rfl rfl rfl (by decide +kernel) ⟨(by show 4 + 1 ≤ 5; omega), (by show 8 + (4 + 11) + (85) ≤ 108; omega)⟩) hS hP hK hz0 [0, 1, 2, 5] rfl (va_recv hK hP (ci := 9) (q0 := 0) rfl rfl) rfl rfl hl.1 (Nat.le_of_ble_eq_true rfl) dX7_member_22 ⟨Nat.zero_le _, Nat.zero_le _⟩ ?_
        refine lv_if_eq (tgt := 34) hx hb dX7_member_25 (by decide) (fun c5 => ?_) (fun c5 => ?_)
        · have hm := mr_if c5 hm
          refine lv_aload_n hx hb dX7_member_34 rfl (lv_at hl 0 rfl) ?_
          refine lv_iload_n hx hb dX7_member_35 rfl (lv_at hl 3 rfl) ?_
          obtain ⟨r6, hz6, hm⟩ := mr_bind hm
          refine mr_pV (As := [.int x3]) (rest := []) (sr_okZ adK adV) ⟨hx, hb, hml, hown, hts⟩ (kX7_next l htr dC dI adK adV cI cB cJ cZ cQ obT tq_tape tq_said tq_inner tq_next tq_amount obK t_length t_wrongPlace t_next x3 r6 hz6) (cwV 1 hts (g7_80 _) rfl rfl rfl (by decide +kernel) ⟨(by show 1 + 1 ≤ 5; omega), (by show 8 + (2 + 11) + (21) ≤ 108; omega)⟩) hS hP hK hz0 [0, 4] rfl (va_recv hK hP (ci := 9) (q0 := 0) rfl rfl) rfl rfl hl.1 (Nat.le_of_ble_eq_true rfl) dX7_member_36 ⟨Nat.zero_le _, Nat.zero_le _⟩ ?_
          refine lv_istore_n (lv' := [(3, .int r6), (0, .ref obT), (1, .int x1), (2, .ref (adK x2)), (4, .int x4)]) hx hb dX7_member_39 rfl hl (by decide) rfl (fun ls hl => ?_)
          refine lv_iinc (v := x4 + 1) (lv' := [(4, .int (x4 + 1)), (3, .int r6), (0, .ref obT), (1, .int x1), (2, .ref (adK x2))]) hx hb dX7_member_40 hl (k := 4) rfl rfl (by decide) rfl (fun ls hl => ?_)
          refine lv_goto (tgt := 9) hx hb dX7_member_43 (by decide) ?_
          exact ih9 x1 x2 r6 (x4 + 1) ls (lv_sub hl [2, 3, 4, 1, 0] rfl) hm
        · have hm := mr_un c5 hm
          refine lv_aload_n hx hb dX7_member_28 rfl (lv_at hl 0 rfl) ?_
          refine lv_iload_n hx hb dX7_member_29 rfl (lv_at hl 3 rfl) ?_
          obtain ⟨r7, hz7, hm⟩ := mr_bind hm
          refine mr_pV (As := [.int x3]) (rest := []) (sr_okZ adK adV) ⟨hx, hb, hml, hown, hts⟩ (kX7_inner l htr dC dI adK adV cI cB cJ cZ cQ obT tq_tape tq_said tq_inner tq_next tq_amount obK t_length t_wrongPlace t_inner x3 r7 hz7) (cwV 1 hts (g7_74 _) rfl rfl rfl (by decide +kernel) ⟨(by show 1 + 1 ≤ 5; omega), (by show 8 + (2 + 11) + (21) ≤ 108; omega)⟩) hS hP hK hz0 [0, 3] rfl (va_recv hK hP (ci := 9) (q0 := 0) rfl rfl) rfl rfl hl.1 (Nat.le_of_ble_eq_true rfl) dX7_member_30 ⟨Nat.zero_le _, Nat.zero_le _⟩ ?_
          obtain rfl := Option.some.inj hm
          subst hQ0
          exact W.iret (v := r7) hx hb hr (fun t ht hW => ⟨rfl, ht⟩) (fun q h => by cases h) dX7_member_33
  refine lv_istore (lv' := [(4, .int 0), (3, .int r1), (0, .ref obT), (1, .int a0), (2, .ref (adK a1))]) hx hb dX7_member_7 hl (by decide) rfl (fun ls hl => ?_)
  exact j9 sr_fuel a0 a1 r1 0 ls (lv_sub hl [2, 3, 4, 1, 0] rfl) hm
set_option maxHeartbeats 4000000 in
set_option maxRecDepth 100000 in
theorem kX7_numberAt (l : Launch) (htr : l.stackTraces = false) (dC : Nat → ClassId) (dI : Nat → Nat → Nat) (adK adV : Nat → Nat) (cI cB cJ cZ cQ : ClassId) (obT tq_tape tq_said tq_inner tq_next tq_amount obK : Nat) (t_length : Int32) (t_wrongPlace : Int32) (t_tape : Nat → Int32) (a0 : Int32) (res : Int64) (hm : m_X7_numberAt t_tape t_length a0 = some res) : Met l yX7_numberAt wsX7_numberAt (rmX7_numberAt 0 0) (pcR (sr_Z adK adV) (dC, dI) srCl [(cI, .int), (cB, .byte), (cJ, .long), (cZ, .boolean), (cQ, .object "SchemaReader$Schema")] [.ref obT, .int a0] [(obT, .inr (9, [.ref tq_tape, .ref tq_said, .ref tq_inner, .ref tq_next, .ref tq_amount, .ref obK, .int t_length, .int t_wrongPlace])), (tq_tape, .inl (cB, 4096, .inl t_tape))]) (k2_QcV (.long res)) 0 0 (fun _ => False) := by
  refine Met.ofW (cc := cX7_numberAt) (maxL := 6) (ret := (some .long)) (by decide) rfl ?_
  intro p e s m args below meth c s₁ B hml hv
  obtain ⟨rfl, hP, hK, hz0⟩ := hv
  have hx := B.exec
  have hb := B.bytes
  have hr := B.returns
  have hts := atoms_spec (ws := wsX7_numberAt) B.pre
  have hown : s.vm.findClass RX7 = some m.cls := findClass_of_methodNamed B.named
  have hlocks := B.notSynchronized
  have hS : va_S (fun _ => False) s.heap s.heap [] := va_S.rf
  generalize hQ0 : MQ below (k2_QcV (.long res)) [.ref obT, .int a0].toArray s 0 0 (fun _ => False) = Q0
  have hl := lv_entry [.ref obT, .int a0] (n := 6) (Nat.le_of_ble_eq_true rfl)
  rw [lg_entry_eq]
  generalize (lg_sl [.ref obT, .int a0] ++ List.replicate (6 - (lg_sl [.ref obT, .int a0]).length) Slot.unset).toArray = ls at hl ⊢
  have hl : lv_has ls 6 [(0, .ref obT), (1, .int a0)] := hl
  unfold m_X7_numberAt at hm
  refine lv_aload_n hx hb dX7_numberAt_0 rfl (lv_at hl 0 rfl) ?_
  refine lv_iload_n hx hb dX7_numberAt_1 rfl (lv_at hl 1 rfl) ?_
  obtain ⟨r1, hz1, hm⟩ := mr_bind hm
  refine mr_pV (As := [.int a0]) (rest := []) (sr_okZ adK adV) ⟨hx, hb, hml, hown, hts⟩ (kX7_byteAt l htr dC dI adK adV cI cB cJ cZ cQ obT tq_tape tq_said tq_inner tq_next tq_amount obK t_length t_wrongPlace t_tape a0 r1 hz1) (cwV 1 hts (g7_42 _) rfl rfl rfl (by decide +kernel) ⟨(by show 0 + 1 ≤ 1; omega), (by show 8 + (2 + 11) + (0) ≤ 21; omega)⟩) hS hP hK hz0 [0, 1] rfl (va_recv hK hP (ci := 9) (q0 := 0) rfl rfl) rfl rfl hl.1 (Nat.le_of_ble_eq_true rfl) dX7_numberAt_2 ⟨Nat.zero_le _, Nat.zero_le _⟩ ?_
  refine lv_bipush (v := 45) hx hb dX7_numberAt_5 (by decide) ?_
  have j15 : ∀ (x1 : Int32) (y0 : Int32) (ls : Array Slot), lv_has ls 6 [(0, .ref obT), (1, .int x1)] → m_X7_numberAt_15 t_tape t_length x1 y0 = some res → W p l e (headSpec wsX7_numberAt (rmX7_numberAt 0 0)).room s m [.ref obT, .int a0].toArray below meth c s.heap [] 0 0 Q0 (F0 m 15 ls [.int y0]) := by
    intro x1 y0 ls hl hm
    unfold m_X7_numberAt_15 at hm
    refine lv_istore_n (lv' := [(2, .int y0), (0, .ref obT), (1, .int x1)]) hx hb dX7_numberAt_15 rfl hl (by decide) rfl (fun ls hl => ?_)
    refine lv_lconst (v := 0) hx hb dX7_numberAt_16 (by decide) ?_
    refine lv_lstore_n (lv' := [(3, .long 0), (2, .int y0), (0, .ref obT), (1, .int x1)]) hx hb dX7_numberAt_17 rfl hl (by decide) rfl (fun ls hl => ?_)
    refine lv_iload_n hx hb dX7_numberAt_18 rfl (lv_at hl 1 rfl) ?_
    refine lv_if_eq (tgt := 28) hx hb dX7_numberAt_19 (by decide) (fun c2 => ?_) (fun c2 => ?_)
    · have hm := mr_if c2 hm
      refine lv_iload_n hx hb dX7_numberAt_28 rfl (lv_at hl 3 rfl) ?_
      have j31 : ∀ (n31 : Nat) (x2 : Int32) (x3 : Int64) (x5 : Int32) (ls : Array Slot), lv_has ls 6 [(0, .ref obT), (2, .int x2), (3, .long x3), (5, .int x5)] → m_X7_numberAt_31 t_tape t_length n31 x2 x3 x5 = some res → W p l e (headSpec wsX7_numberAt (rmX7_numberAt 0 0)).room s m [.ref obT, .int a0].toArray below meth c s.heap [] 0 0 Q0 (F0 m 31 ls []) := by
        intro n31
        induction n31 with
        | zero => intro x2 x3 x5 ls hl hm; exact nomatch (show (none : Option _) = some res from hm)
        | succ n31 ih31 =>
          intro x2 x3 x5 ls hl hm
          rw [m_X7_numberAt_31] at hm
          refine lv_iload hx hb dX7_numberAt_31 (lv_at hl 3 rfl) ?_
          refine lv_aload_n hx hb dX7_numberAt_33 rfl (lv_at hl 0 rfl) ?_
          refine va_get (D := (dC, dI)) (ci := 9) (v := .int t_length) (C := RX7) (T := TX7) (N := 8) hx hb hts (inX7 _) hown hK hP 0 rfl rfl 6 (by decide) (hts _ (List.mem_cons_of_mem _ wf7_35)) (fun _ h9 => h9) rfl dX7_numberAt_34 ?_
          refine lv_icmp_ge (tgt := 75) hx hb dX7_numberAt_37 (by decide) (fun c3 => ?_) (fun c3 => ?_)
          · have hm := mr_if c3 hm
            refine lv_iload_n hx hb dX7_numberAt_75 rfl (lv_at hl 1 rfl) ?_
            refine lv_if_eq (tgt := 83) hx hb dX7_numberAt_76 (by decide) (fun c4 => ?_) (fun c4 => ?_)
            · have hm := mr_if c4 hm
              refine lv_lload_n hx hb dX7_numberAt_83 rfl (lv_at hl 2 rfl) ?_
              refine lv_lneg hx hb dX7_numberAt_84 ?_
              obtain rfl := Option.some.inj hm
              subst hQ0
              exact W.lret (v := (-x3)) hx hb hr (fun t ht hW => ⟨rfl, ht⟩) (fun q h => by cases h) dX7_numberAt_85
            · have hm := mr_un c4 hm
              refine lv_lload_n hx hb dX7_numberAt_79 rfl (lv_at hl 2 rfl) ?_
              refine lv_goto (tgt := 85) hx hb dX7_numberAt_80 (by decide) ?_
              obtain rfl := Option.some.inj hm
              subst hQ0
              exact W.lret (v := x3) hx hb hr (fun t ht hW => ⟨rfl, ht⟩) (fun q h => by cases h) dX7_numberAt_85
          · have hm := mr_un c3 hm
            refine lv_aload_n hx hb dX7_numberAt_40 rfl (lv_at hl 0 rfl) ?_
            refine lv_iload hx hb dX7_numberAt_41 (lv_at hl 3 rfl) ?_
            obtain ⟨r5, hz5, hm⟩ := mr_bind hm
            refine mr_pV (As := [.int x5]) (rest := []) (sr_okZ adK adV) ⟨hx, hb, hml, hown, hts⟩ (kX7_byteAt l htr dC dI adK adV cI cB cJ cZ cQ obT tq_tape tq_said tq_inner tq_next tq_amount obK t_length t_wrongPlace t_tape x5 r5 hz5) (cwV 1 hts (g7_42 _) rfl rfl rfl (by decide +kernel) ⟨(by show 0 + 1 ≤ 1; omega), (by show 8 + (2 + 11) + (0) ≤ 21; omega)⟩) hS hP hK hz0 [0, 1] rfl (va_recv hK hP (ci := 9) (q0 := 0) rfl rfl) rfl rfl hl.1 (Nat.le_of_ble_eq_true rfl) dX7_numberAt_43 ⟨Nat.zero_le _, Nat.zero_le _⟩ ?_
            obtain ⟨r6, hz6, hm⟩ := mr_bind hm
            refine mr_pSN (As := [.int r5]) (rest := []) (sr_okZ adK adV) ⟨hx, hb, hml, hown, hts⟩ (kX8_isDigit l htr dC dI adK adV cI cB cJ cZ cQ  r5 r6 hz6) (sr_cnS 1 hts rfl gn7_46.1 (hz0.2.2.2.2.2.2.1 _ gn7_46.2) rfl rfl (by decide +kernel) ⟨(by show 0 + 1 ≤ 1; omega), (by show 8 + (1 + 11) + (0) ≤ 21; omega)⟩) hS hP hK hz0 [] rfl rfl rfl hl.1 (Nat.le_of_ble_eq_true rfl) dX7_numberAt_46 ⟨Nat.zero_le _, Nat.zero_le _⟩ ?_
            refine lv_if_eq (tgt := 75) hx hb dX7_numberAt_49 (by decide) (fun c7 => ?_) (fun c7 => ?_)
            · have hm := mr_if c7 hm
              refine lv_iload_n hx hb dX7_numberAt_75 rfl (lv_at hl 1 rfl) ?_
              refine lv_if_eq (tgt := 83) hx hb dX7_numberAt_76 (by decide) (fun c8 => ?_) (fun c8 => ?_)
              · have hm := mr_if c8 hm
                refine lv_lload_n hx hb dX7_numberAt_83 rfl (lv_at hl 2 rfl) ?_
                refine lv_lneg hx hb dX7_numberAt_84 ?_
                obtain rfl := Option.some.inj hm
                subst hQ0
                exact W.lret (v := (-x3)) hx hb hr (fun t ht hW => ⟨rfl, ht⟩) (fun q h => by cases h) dX7_numberAt_85
              · have hm := mr_un c8 hm
                refine lv_lload_n hx hb dX7_numberAt_79 rfl (lv_at hl 2 rfl) ?_
                refine lv_goto (tgt := 85) hx hb dX7_numberAt_80 (by decide) ?_
                obtain rfl := Option.some.inj hm
                subst hQ0
                exact W.lret (v := x3) hx hb hr (fun t ht hW => ⟨rfl, ht⟩) (fun q h => by cases h) dX7_numberAt_85
            · have hm := mr_un c7 hm
              refine lv_lload_n hx hb dX7_numberAt_52 rfl (lv_at hl 2 rfl) ?_
              refine lv_ldc2 (v := 10) hx hb hown (hts _ (List.mem_cons_of_mem _ wcl7_82)) dX7_numberAt_53 ?_
              refine lv_lmul hx hb dX7_numberAt_56 ?_
              refine lv_aload_n hx hb dX7_numberAt_57 rfl (lv_at hl 0 rfl) ?_
              refine lv_iload hx hb dX7_numberAt_58 (lv_at hl 3 rfl) ?_
              obtain ⟨r9, hz9, hm⟩ := mr_bind hm
              refine mr_pV (As := [.int x5]) (rest := [.long (x3 * 10)]) (sr_okZ adK adV) ⟨hx, hb, hml, hown, hts⟩ (kX7_byteAt l htr dC dI adK adV cI cB cJ cZ cQ obT tq_tape tq_said tq_inner tq_next tq_amount obK t_length t_wrongPlace t_tape x5 r9 hz9) (cwV 1 hts (g7_42 _) rfl rfl rfl (by decide +kernel) ⟨(by show 0 + 1 ≤ 1; omega), (by show 8 + (2 + 11) + (0) ≤ 21; omega)⟩) hS hP hK hz0 [0, 1] rfl (va_recv hK hP (ci := 9) (q0 := 0) rfl rfl) rfl rfl hl.1 (Nat.le_of_ble_eq_true rfl) dX7_numberAt_60 ⟨Nat.zero_le _, Nat.zero_le _⟩ ?_
              refine lv_bipush (v := 48) hx hb dX7_numberAt_63 (by decide) ?_
              refine lv_isub hx hb dX7_numberAt_65 ?_
              refine lv_i2l hx hb dX7_numberAt_66 rfl ?_
              refine lv_lsub hx hb dX7_numberAt_67 ?_
              refine lv_lstore_n (lv' := [(3, .long ((x3 * 10) - (((r9 - 48) : Int32).toInt64))), (0, .ref obT), (2, .int x2), (5, .int x5)]) hx hb dX7_numberAt_68 rfl hl (by decide) rfl (fun ls hl => ?_)
              refine lv_iinc (v := x5 + 1) (lv' := [(5, .int (x5 + 1)), (3, .long ((x3 * 10) - (((r9 - 48) : Int32).toInt64))), (0, .ref obT), (2, .int x2)]) hx hb dX7_numberAt_69 hl (k := 3) rfl rfl (by decide) rfl (fun ls hl => ?_)
              refine lv_goto (tgt := 31) hx hb dX7_numberAt_72 (by decide) ?_
              exact ih31 x2 ((x3 * 10) - (((r9 - 48) : Int32).toInt64)) (x5 + 1) ls (lv_sub hl [2, 3, 1, 0] rfl) hm
      refine lv_istore (lv' := [(5, .int x1), (3, .long 0), (2, .int y0), (0, .ref obT), (1, .int x1)]) hx hb dX7_numberAt_29 hl (by decide) rfl (fun ls hl => ?_)
      exact j31 sr_fuel y0 0 x1 ls (lv_sub hl [3, 2, 1, 0] rfl) hm
    · have hm := mr_un c2 hm
      refine lv_iload_n hx hb dX7_numberAt_22 rfl (lv_at hl 3 rfl) ?_
      refine lv_iconst (v := 1) hx hb dX7_numberAt_23 (by decide) ?_
      refine lv_iadd hx hb dX7_numberAt_24 ?_
      refine lv_goto (tgt := 29) hx hb dX7_numberAt_25 (by decide) ?_
      have j31 : ∀ (n31 : Nat) (x2 : Int32) (x3 : Int64) (x5 : Int32) (ls : Array Slot), lv_has ls 6 [(0, .ref obT), (2, .int x2), (3, .long x3), (5, .int x5)] → m_X7_numberAt_31 t_tape t_length n31 x2 x3 x5 = some res → W p l e (headSpec wsX7_numberAt (rmX7_numberAt 0 0)).room s m [.ref obT, .int a0].toArray below meth c s.heap [] 0 0 Q0 (F0 m 31 ls []) := by
        intro n31
        induction n31 with
        | zero => intro x2 x3 x5 ls hl hm; exact nomatch (show (none : Option _) = some res from hm)
        | succ n31 ih31 =>
          intro x2 x3 x5 ls hl hm
          rw [m_X7_numberAt_31] at hm
          refine lv_iload hx hb dX7_numberAt_31 (lv_at hl 3 rfl) ?_
          refine lv_aload_n hx hb dX7_numberAt_33 rfl (lv_at hl 0 rfl) ?_
          refine va_get (D := (dC, dI)) (ci := 9) (v := .int t_length) (C := RX7) (T := TX7) (N := 8) hx hb hts (inX7 _) hown hK hP 0 rfl rfl 6 (by decide) (hts _ (List.mem_cons_of_mem _ wf7_35)) (fun _ h9 => h9) rfl dX7_numberAt_34 ?_
          refine lv_icmp_ge (tgt := 75) hx hb dX7_numberAt_37 (by decide) (fun c10 => ?_) (fun c10 => ?_)
          · have hm := mr_if c10 hm
            refine lv_iload_n hx hb dX7_numberAt_75 rfl (lv_at hl 1 rfl) ?_
            refine lv_if_eq (tgt := 83) hx hb dX7_numberAt_76 (by decide) (fun c11 => ?_) (fun c11 => ?_)
            · have hm := mr_if c11 hm
              refine lv_lload_n hx hb dX7_numberAt_83 rfl (lv_at hl 2 rfl) ?_
              refine lv_lneg hx hb dX7_numberAt_84 ?_
              obtain rfl := Option.some.inj hm
              subst hQ0
              exact W.lret (v := (-x3)) hx hb hr (fun t ht hW => ⟨rfl, ht⟩) (fun q h => by cases h) dX7_numberAt_85
            · have hm := mr_un c11 hm
              refine lv_lload_n hx hb dX7_numberAt_79 rfl (lv_at hl 2 rfl) ?_
              refine lv_goto (tgt := 85) hx hb dX7_numberAt_80 (by decide) ?_
              obtain rfl := Option.some.inj hm
              subst hQ0
              exact W.lret (v := x3) hx hb hr (fun t ht hW => ⟨rfl, ht⟩) (fun q h => by cases h) dX7_numberAt_85
          · have hm := mr_un c10 hm
            refine lv_aload_n hx hb dX7_numberAt_40 rfl (lv_at hl 0 rfl) ?_
            refine lv_iload hx hb dX7_numberAt_41 (lv_at hl 3 rfl) ?_
            obtain ⟨r12, hz12, hm⟩ := mr_bind hm
            refine mr_pV (As := [.int x5]) (rest := []) (sr_okZ adK adV) ⟨hx, hb, hml, hown, hts⟩ (kX7_byteAt l htr dC dI adK adV cI cB cJ cZ cQ obT tq_tape tq_said tq_inner tq_next tq_amount obK t_length t_wrongPlace t_tape x5 r12 hz12) (cwV 1 hts (g7_42 _) rfl rfl rfl (by decide +kernel) ⟨(by show 0 + 1 ≤ 1; omega), (by show 8 + (2 + 11) + (0) ≤ 21; omega)⟩) hS hP hK hz0 [0, 1] rfl (va_recv hK hP (ci := 9) (q0 := 0) rfl rfl) rfl rfl hl.1 (Nat.le_of_ble_eq_true rfl) dX7_numberAt_43 ⟨Nat.zero_le _, Nat.zero_le _⟩ ?_
            obtain ⟨r13, hz13, hm⟩ := mr_bind hm
            refine mr_pSN (As := [.int r12]) (rest := []) (sr_okZ adK adV) ⟨hx, hb, hml, hown, hts⟩ (kX8_isDigit l htr dC dI adK adV cI cB cJ cZ cQ  r12 r13 hz13) (sr_cnS 1 hts rfl gn7_46.1 (hz0.2.2.2.2.2.2.1 _ gn7_46.2) rfl rfl (by decide +kernel) ⟨(by show 0 + 1 ≤ 1; omega), (by show 8 + (1 + 11) + (0) ≤ 21; omega)⟩) hS hP hK hz0 [] rfl rfl rfl hl.1 (Nat.le_of_ble_eq_true rfl) dX7_numberAt_46 ⟨Nat.zero_le _, Nat.zero_le _⟩ ?_
            refine lv_if_eq (tgt := 75) hx hb dX7_numberAt_49 (by decide) (fun c14 => ?_) (fun c14 => ?_)
            · have hm := mr_if c14 hm
              refine lv_iload_n hx hb dX7_numberAt_75 rfl (lv_at hl 1 rfl) ?_
              refine lv_if_eq (tgt := 83) hx hb dX7_numberAt_76 (by decide) (fun c15 => ?_) (fun c15 => ?_)
              · have hm := mr_if c15 hm
                refine lv_lload_n hx hb dX7_numberAt_83 rfl (lv_at hl 2 rfl) ?_
                refine lv_lneg hx hb dX7_numberAt_84 ?_
                obtain rfl := Option.some.inj hm
                subst hQ0
                exact W.lret (v := (-x3)) hx hb hr (fun t ht hW => ⟨rfl, ht⟩) (fun q h => by cases h) dX7_numberAt_85
              · have hm := mr_un c15 hm
                refine lv_lload_n hx hb dX7_numberAt_79 rfl (lv_at hl 2 rfl) ?_
                refine lv_goto (tgt := 85) hx hb dX7_numberAt_80 (by decide) ?_
                obtain rfl := Option.some.inj hm
                subst hQ0
                exact W.lret (v := x3) hx hb hr (fun t ht hW => ⟨rfl, ht⟩) (fun q h => by cases h) dX7_numberAt_85
            · have hm := mr_un c14 hm
              refine lv_lload_n hx hb dX7_numberAt_52 rfl (lv_at hl 2 rfl) ?_
              refine lv_ldc2 (v := 10) hx hb hown (hts _ (List.mem_cons_of_mem _ wcl7_82)) dX7_numberAt_53 ?_
              refine lv_lmul hx hb dX7_numberAt_56 ?_
              refine lv_aload_n hx hb dX7_numberAt_57 rfl (lv_at hl 0 rfl) ?_
              refine lv_iload hx hb dX7_numberAt_58 (lv_at hl 3 rfl) ?_
              obtain ⟨r16, hz16, hm⟩ := mr_bind hm
              refine mr_pV (As := [.int x5]) (rest := [.long (x3 * 10)]) (sr_okZ adK adV) ⟨hx, hb, hml, hown, hts⟩ (kX7_byteAt l htr dC dI adK adV cI cB cJ cZ cQ obT tq_tape tq_said tq_inner tq_next tq_amount obK t_length t_wrongPlace t_tape x5 r16 hz16) (cwV 1 hts (g7_42 _) rfl rfl rfl (by decide +kernel) ⟨(by show 0 + 1 ≤ 1; omega), (by show 8 + (2 + 11) + (0) ≤ 21; omega)⟩) hS hP hK hz0 [0, 1] rfl (va_recv hK hP (ci := 9) (q0 := 0) rfl rfl) rfl rfl hl.1 (Nat.le_of_ble_eq_true rfl) dX7_numberAt_60 ⟨Nat.zero_le _, Nat.zero_le _⟩ ?_
              refine lv_bipush (v := 48) hx hb dX7_numberAt_63 (by decide) ?_
              refine lv_isub hx hb dX7_numberAt_65 ?_
              refine lv_i2l hx hb dX7_numberAt_66 rfl ?_
              refine lv_lsub hx hb dX7_numberAt_67 ?_
              refine lv_lstore_n (lv' := [(3, .long ((x3 * 10) - (((r16 - 48) : Int32).toInt64))), (0, .ref obT), (2, .int x2), (5, .int x5)]) hx hb dX7_numberAt_68 rfl hl (by decide) rfl (fun ls hl => ?_)
              refine lv_iinc (v := x5 + 1) (lv' := [(5, .int (x5 + 1)), (3, .long ((x3 * 10) - (((r16 - 48) : Int32).toInt64))), (0, .ref obT), (2, .int x2)]) hx hb dX7_numberAt_69 hl (k := 3) rfl rfl (by decide) rfl (fun ls hl => ?_)
              refine lv_goto (tgt := 31) hx hb dX7_numberAt_72 (by decide) ?_
              exact ih31 x2 ((x3 * 10) - (((r16 - 48) : Int32).toInt64)) (x5 + 1) ls (lv_sub hl [2, 3, 1, 0] rfl) hm
      refine lv_istore (lv' := [(5, .int (x1 + 1)), (3, .long 0), (2, .int y0), (0, .ref obT), (1, .int x1)]) hx hb dX7_numberAt_29 hl (by decide) rfl (fun ls hl => ?_)
      exact j31 sr_fuel y0 0 (x1 + 1) ls (lv_sub hl [3, 2, 1, 0] rfl) hm
  refine lv_icmp_ne (tgt := 14) hx hb dX7_numberAt_7 (by decide) (fun c17 => ?_) (fun c17 => ?_)
  · have hm := mr_un c17 hm
    refine lv_iconst (v := 0) hx hb dX7_numberAt_14 (by decide) ?_
    exact j15 a0 0 ls (lv_sub hl [0, 1] rfl) hm
  · have hm := mr_if c17 hm
    refine lv_iconst (v := 1) hx hb dX7_numberAt_10 (by decide) ?_
    refine lv_goto (tgt := 15) hx hb dX7_numberAt_11 (by decide) ?_
    exact j15 a0 1 ls (lv_sub hl [0, 1] rfl) hm
set_option maxHeartbeats 4000000 in
set_option maxRecDepth 100000 in
theorem kX7_refuse (l : Launch) (htr : l.stackTraces = false) (dC : Nat → ClassId) (dI : Nat → Nat → Nat) (adK adV : Nat → Nat) (cI cB cJ cZ cQ : ClassId) (obT tq_tape tq_said tq_inner tq_next tq_amount obK : Nat) (t_length : Int32) (t_wrongPlace : Int32) (sz : Nat) (a0 : Int32) (res : Int32 × Int32) (hm : m_X7_refuse t_wrongPlace a0 = some res) : Met l yX7_refuse wsX7_refuse (rmX7_refuse 0 0) (pcW (sr_Z adK adV) (dC, dI) srCl [(cI, .int), (cB, .byte), (cJ, .long), (cZ, .boolean), (cQ, .object "SchemaReader$Schema")] [.ref obT, .int a0] [(obT, .inr (9, [.ref tq_tape, .ref tq_said, .ref tq_inner, .ref tq_next, .ref tq_amount, .ref obK, .int t_length, .int t_wrongPlace]))] sz) (va_Qi (fun r' u' => r' = res.1 ∧ u' = res.2) (pcB (dC, dI) srCl [(cI, .int), (cB, .byte), (cJ, .long), (cZ, .boolean), (cQ, .object "SchemaReader$Schema")] (fun u : Int32 => [(obT, .inr (9, [.ref tq_tape, .ref tq_said, .ref tq_inner, .ref tq_next, .ref tq_amount, .ref obK, .int t_length, .int u]))]) (va_A [(obT, .inr (9, [.ref tq_tape, .ref tq_said, .ref tq_inner, .ref tq_next, .ref tq_amount, .ref obK, .int t_length, .int t_wrongPlace]))] sz)) (va_A [(obT, .inr (9, [.ref tq_tape, .ref tq_said, .ref tq_inner, .ref tq_next, .ref tq_amount, .ref obK, .int t_length, .int t_wrongPlace]))] sz)) 0 0 (va_A [(obT, .inr (9, [.ref tq_tape, .ref tq_said, .ref tq_inner, .ref tq_next, .ref tq_amount, .ref obK, .int t_length, .int t_wrongPlace]))] sz) := by
  refine Met.ofW (cc := cX7_refuse) (maxL := 2) (ret := (some .int)) (by decide) rfl ?_
  intro p e s m args below meth c s₁ B hml hv
  obtain ⟨rfl, hsz, hP, hK, hD0, hz0⟩ := hv
  have hx := B.exec
  have hb := B.bytes
  have hr := B.returns
  have hts := atoms_spec (ws := wsX7_refuse) B.pre
  have hown : s.vm.findClass RX7 = some m.cls := findClass_of_methodNamed B.named
  have hlocks := B.notSynchronized
  subst hsz
  have hD := hD0.self (sz := s.heap.size)
  generalize hAe : va_A [(obT, .inr (9, [.ref tq_tape, .ref tq_said, .ref tq_inner, .ref tq_next, .ref tq_amount, .ref obK, .int t_length, .int t_wrongPlace]))] s.heap.size = A at hD hz0 ⊢
  have hA : ∀ q : Nat, s.heap.size ≤ q → A q := fun q h => by rw [← hAe]; exact Or.inr h
  have hS : va_S A s.heap s.heap [] := va_S.rf
  generalize hQ0 : MQ below (va_Qi (fun r' u' => r' = res.1 ∧ u' = res.2) (pcB (dC, dI) srCl [(cI, .int), (cB, .byte), (cJ, .long), (cZ, .boolean), (cQ, .object "SchemaReader$Schema")] (fun u : Int32 => [(obT, .inr (9, [.ref tq_tape, .ref tq_said, .ref tq_inner, .ref tq_next, .ref tq_amount, .ref obK, .int t_length, .int u]))]) A) A) [.ref obT, .int a0].toArray s 0 0 A = Q0
  have hl := lv_entry [.ref obT, .int a0] (n := 2) (Nat.le_of_ble_eq_true rfl)
  rw [lg_entry_eq]
  generalize (lg_sl [.ref obT, .int a0] ++ List.replicate (2 - (lg_sl [.ref obT, .int a0]).length) Slot.unset).toArray = ls at hl ⊢
  have hl : lv_has ls 2 [(0, .ref obT), (1, .int a0)] := hl
  unfold m_X7_refuse at hm
  refine lv_aload_n hx hb dX7_refuse_0 rfl (lv_at hl 0 rfl) ?_
  refine lv_iload_n hx hb dX7_refuse_1 rfl (lv_at hl 1 rfl) ?_
  refine va_put (D := (dC, dI)) (ci := 9) (v := .int a0) (ty := .int) (C := RX7) (T := TX7) (N := 8) hx hb hts (inX7 _) tyX7 tyX7_ok nmX7 hown hK hP hD hS 0 rfl rfl 7 (by decide) (hts _ (List.mem_cons_of_mem _ wf7_39)) (fun _ h9 => h9) rfl (by decide +kernel) rfl rfl (Nat.le_of_ble_eq_true rfl) dX7_refuse_2 (fun H locs hP hD hS => ?_)
  have hP : va_P (dC, dI) srCl [(obT, .inr (9, [.ref tq_tape, .ref tq_said, .ref tq_inner, .ref tq_next, .ref tq_amount, .ref obK, .int t_length, .int a0]))] H := hP
  have hD : va_D A [(obT, .inr (9, [.ref tq_tape, .ref tq_said, .ref tq_inner, .ref tq_next, .ref tq_amount, .ref obK, .int t_length, .int a0]))] := hD
  refine lv_iconst (v := -1) hx hb dX7_refuse_5 (by decide) ?_
  obtain rfl := Option.some.inj hm
  subst hQ0
  exact W.iret (v := (-1)) hx hb hr (fun t ht hW => ⟨⟨(-1), a0, rfl, ⟨rfl, rfl⟩, by rw [ht]; exact hP, va_K.moved hW.alike hK, hD⟩, hS.F ht⟩) hS.2.2 dX7_refuse_6
set_option maxHeartbeats 4000000 in
set_option maxRecDepth 100000 in
theorem kX7_isBlank (l : Launch) (htr : l.stackTraces = false) (dC : Nat → ClassId) (dI : Nat → Nat → Nat) (adK adV : Nat → Nat) (cI cB cJ cZ cQ : ClassId) (a0 : Int32) (res : Int32) (hm : m_X7_isBlank a0 = some res) : Met l yX7_isBlank wsX7_isBlank (rmX7_isBlank 0 0) (pcR (sr_Z adK adV) (dC, dI) srCl [(cI, .int), (cB, .byte), (cJ, .long), (cZ, .boolean), (cQ, .object "SchemaReader$Schema")] [.int a0] []) (k2_QcV (.int res)) 0 0 (fun _ => False) := by
  refine Met.ofW (cc := cX7_isBlank) (maxL := 1) (ret := (some .boolean)) (by decide) rfl ?_
  intro p e s m args below meth c s₁ B hml hv
  obtain ⟨rfl, hP, hK, hz0⟩ := hv
  have hx := B.exec
  have hb := B.bytes
  have hr := B.returns
  have hts := atoms_spec (ws := wsX7_isBlank) B.pre
  have hown : s.vm.findClass RX7 = some m.cls := findClass_of_methodNamed B.named
  have hlocks := B.notSynchronized
  have hS : va_S (fun _ => False) s.heap s.heap [] := va_S.rf
  generalize hQ0 : MQ below (k2_QcV (.int res)) [.int a0].toArray s 0 0 (fun _ => False) = Q0
  have hl := lv_entry [.int a0] (n := 1) (Nat.le_of_ble_eq_true rfl)
  rw [lg_entry_eq]
  generalize (lg_sl [.int a0] ++ List.replicate (1 - (lg_sl [.int a0]).length) Slot.unset).toArray = ls at hl ⊢
  have hl : lv_has ls 1 [(0, .int a0)] := hl
  unfold m_X7_isBlank at hm
  refine lv_iload_n hx hb dX7_isBlank_0 rfl (lv_at hl 0 rfl) ?_
  refine lv_bipush (v := 32) hx hb dX7_isBlank_1 (by decide) ?_
  refine lv_icmp_eq (tgt := 24) hx hb dX7_isBlank_3 (by decide) (fun c1 => ?_) (fun c1 => ?_)
  · have hm := mr_if c1 hm
    refine lv_iconst (v := 1) hx hb dX7_isBlank_24 (by decide) ?_
    refine lv_goto (tgt := 29) hx hb dX7_isBlank_25 (by decide) ?_
    obtain rfl := Option.some.inj hm
    subst hQ0
    exact W.zret (v := 1) hx hb hr rfl (fun t ht hW => ⟨rfl, ht⟩) (fun q h => by cases h) dX7_isBlank_29
  · have hm := mr_un c1 hm
    refine lv_iload_n hx hb dX7_isBlank_6 rfl (lv_at hl 0 rfl) ?_
    refine lv_bipush (v := 10) hx hb dX7_isBlank_7 (by decide) ?_
    refine lv_icmp_eq (tgt := 24) hx hb dX7_isBlank_9 (by decide) (fun c2 => ?_) (fun c2 => ?_)
    · have hm := mr_if c2 hm
      refine lv_iconst (v := 1) hx hb dX7_isBlank_24 (by decide) ?_
      refine lv_goto (tgt := 29) hx hb dX7_isBlank_25 (by decide) ?_
      obtain rfl := Option.some.inj hm
      subst hQ0
      exact W.zret (v := 1) hx hb hr rfl (fun t ht hW => ⟨rfl, ht⟩) (fun q h => by cases h) dX7_isBlank_29
    · have hm := mr_un c2 hm
      refine lv_iload_n hx hb dX7_isBlank_12 rfl (lv_at hl 0 rfl) ?_
      refine lv_bipush (v := 13) hx hb dX7_isBlank_13 (by decide) ?_
      refine lv_icmp_eq (tgt := 24) hx hb dX7_isBlank_15 (by decide) (fun c3 => ?_) (fun c3 => ?_)
      · have hm := mr_if c3 hm
        refine lv_iconst (v := 1) hx hb dX7_isBlank_24 (by decide) ?_
        refine lv_goto (tgt := 29) hx hb dX7_isBlank_25 (by decide) ?_
        obtain rfl := Option.some.inj hm
        subst hQ0
        exact W.zret (v := 1) hx hb hr rfl (fun t ht hW => ⟨rfl, ht⟩) (fun q h => by cases h) dX7_isBlank_29
      · have hm := mr_un c3 hm
        refine lv_iload_n hx hb dX7_isBlank_18 rfl (lv_at hl 0 rfl) ?_
        refine lv_bipush (v := 9) hx hb dX7_isBlank_19 (by decide) ?_
        refine lv_icmp_ne (tgt := 28) hx hb dX7_isBlank_21 (by decide) (fun c4 => ?_) (fun c4 => ?_)
        · have hm := mr_un c4 hm
          refine lv_iconst (v := 0) hx hb dX7_isBlank_28 (by decide) ?_
          obtain rfl := Option.some.inj hm
          subst hQ0
          exact W.zret (v := 0) hx hb hr rfl (fun t ht hW => ⟨rfl, ht⟩) (fun q h => by cases h) dX7_isBlank_29
        · have hm := mr_if c4 hm
          refine lv_iconst (v := 1) hx hb dX7_isBlank_24 (by decide) ?_
          refine lv_goto (tgt := 29) hx hb dX7_isBlank_25 (by decide) ?_
          obtain rfl := Option.some.inj hm
          subst hQ0
          exact W.zret (v := 1) hx hb hr rfl (fun t ht hW => ⟨rfl, ht⟩) (fun q h => by cases h) dX7_isBlank_29
set_option maxHeartbeats 4000000 in
set_option maxRecDepth 100000 in
theorem kX7_behindBlanks (l : Launch) (htr : l.stackTraces = false) (dC : Nat → ClassId) (dI : Nat → Nat → Nat) (adK adV : Nat → Nat) (cI cB cJ cZ cQ : ClassId) (obT tq_tape tq_said tq_inner tq_next tq_amount obK : Nat) (t_length : Int32) (t_wrongPlace : Int32) (t_tape : Nat → Int32) (a0 : Int32) (res : Int32) (hm : m_X7_behindBlanks t_tape t_length a0 = some res) : Met l yX7_behindBlanks wsX7_behindBlanks (rmX7_behindBlanks 0 0) (pcR (sr_Z adK adV) (dC, dI) srCl [(cI, .int), (cB, .byte), (cJ, .long), (cZ, .boolean), (cQ, .object "SchemaReader$Schema")] [.ref obT, .int a0] [(obT, .inr (9, [.ref tq_tape, .ref tq_said, .ref tq_inner, .ref tq_next, .ref tq_amount, .ref obK, .int t_length, .int t_wrongPlace])), (tq_tape, .inl (cB, 4096, .inl t_tape))]) (k2_QcV (.int res)) 0 0 (fun _ => False) := by
  refine Met.ofW (cc := cX7_behindBlanks) (maxL := 3) (ret := (some .int)) (by decide) rfl ?_
  intro p e s m args below meth c s₁ B hml hv
  obtain ⟨rfl, hP, hK, hz0⟩ := hv
  have hx := B.exec
  have hb := B.bytes
  have hr := B.returns
  have hts := atoms_spec (ws := wsX7_behindBlanks) B.pre
  have hown : s.vm.findClass RX7 = some m.cls := findClass_of_methodNamed B.named
  have hlocks := B.notSynchronized
  have hS : va_S (fun _ => False) s.heap s.heap [] := va_S.rf
  generalize hQ0 : MQ below (k2_QcV (.int res)) [.ref obT, .int a0].toArray s 0 0 (fun _ => False) = Q0
  have hl := lv_entry [.ref obT, .int a0] (n := 3) (Nat.le_of_ble_eq_true rfl)
  rw [lg_entry_eq]
  generalize (lg_sl [.ref obT, .int a0] ++ List.replicate (3 - (lg_sl [.ref obT, .int a0]).length) Slot.unset).toArray = ls at hl ⊢
  have hl : lv_has ls 3 [(0, .ref obT), (1, .int a0)] := hl
  unfold m_X7_behindBlanks at hm
  refine lv_iload_n hx hb dX7_behindBlanks_0 rfl (lv_at hl 1 rfl) ?_
  have j2 : ∀ (n2 : Nat) (x2 : Int32) (ls : Array Slot), lv_has ls 3 [(0, .ref obT), (2, .int x2)] → m_X7_behindBlanks_2 t_tape t_length n2 x2 = some res → W p l e (headSpec wsX7_behindBlanks (rmX7_behindBlanks 0 0)).room s m [.ref obT, .int a0].toArray below meth c s.heap [] 0 0 Q0 (F0 m 2 ls []) := by
    intro n2
    induction n2 with
    | zero => intro x2 ls hl hm; exact nomatch (show (none : Option _) = some res from hm)
    | succ n2 ih2 =>
      intro x2 ls hl hm
      rw [m_X7_behindBlanks_2] at hm
      refine lv_iload_n hx hb dX7_behindBlanks_2 rfl (lv_at hl 1 rfl) ?_
      refine lv_aload_n hx hb dX7_behindBlanks_3 rfl (lv_at hl 0 rfl) ?_
      refine va_get (D := (dC, dI)) (ci := 9) (v := .int t_length) (C := RX7) (T := TX7) (N := 8) hx hb hts (inX7 _) hown hK hP 0 rfl rfl 6 (by decide) (hts _ (List.mem_cons_of_mem _ wf7_35)) (fun _ h9 => h9) rfl dX7_behindBlanks_4 ?_
      refine lv_icmp_ge (tgt := 27) hx hb dX7_behindBlanks_7 (by decide) (fun c1 => ?_) (fun c1 => ?_)
      · have hm := mr_if c1 hm
        refine lv_iload_n hx hb dX7_behindBlanks_27 rfl (lv_at hl 1 rfl) ?_
        obtain rfl := Option.some.inj hm
        subst hQ0
        exact W.iret (v := x2) hx hb hr (fun t ht hW => ⟨rfl, ht⟩) (fun q h => by cases h) dX7_behindBlanks_28
      · have hm := mr_un c1 hm
        refine lv_aload_n hx hb dX7_behindBlanks_10 rfl (lv_at hl 0 rfl) ?_
        refine lv_iload_n hx hb dX7_behindBlanks_11 rfl (lv_at hl 1 rfl) ?_
        obtain ⟨r2, hz2, hm⟩ := mr_bind hm
        refine mr_pV (As := [.int x2]) (rest := []) (sr_okZ adK adV) ⟨hx, hb, hml, hown, hts⟩ (kX7_byteAt l htr dC dI adK adV cI cB cJ cZ cQ obT tq_tape tq_said tq_inner tq_next tq_amount obK t_length t_wrongPlace t_tape x2 r2 hz2) (cwV 1 hts (g7_42 _) rfl rfl rfl (by decide +kernel) ⟨(by show 0 + 1 ≤ 1; omega), (by show 8 + (2 + 11) + (0) ≤ 21; omega)⟩) hS hP hK hz0 [0, 1] rfl (va_recv hK hP (ci := 9) (q0 := 0) rfl rfl) rfl rfl hl.1 (Nat.le_of_ble_eq_true rfl) dX7_behindBlanks_12 ⟨Nat.zero_le _, Nat.zero_le _⟩ ?_
        obtain ⟨r3, hz3, hm⟩ := mr_bind hm
        refine mr_pS (As := [.int r2]) (rest := []) (sr_okZ adK adV) ⟨hx, hb, hml, hown, hts⟩ (kX7_isBlank l htr dC dI adK adV cI cB cJ cZ cQ  r2 r3 hz3) (va_cwS 1 hts (g7_97 _) rfl rfl rfl (by decide +kernel) ⟨(by show 0 + 1 ≤ 1; omega), (by show 8 + (1 + 11) + (0) ≤ 21; omega)⟩) hS hP hK hz0 [] rfl rfl rfl hl.1 (Nat.le_of_ble_eq_true rfl) dX7_behindBlanks_15 ⟨Nat.zero_le _, Nat.zero_le _⟩ ?_
        refine lv_if_eq (tgt := 27) hx hb dX7_behindBlanks_18 (by decide) (fun c4 => ?_) (fun c4 => ?_)
        · have hm := mr_if c4 hm
          refine lv_iload_n hx hb dX7_behindBlanks_27 rfl (lv_at hl 1 rfl) ?_
          obtain rfl := Option.some.inj hm
          subst hQ0
          exact W.iret (v := x2) hx hb hr (fun t ht hW => ⟨rfl, ht⟩) (fun q h => by cases h) dX7_behindBlanks_28
        · have hm := mr_un c4 hm
          refine lv_iinc (v := x2 + 1) (lv' := [(2, .int (x2 + 1)), (0, .ref obT)]) hx hb dX7_behindBlanks_21 hl (k := 1) rfl rfl (by decide) rfl (fun ls hl => ?_)
          refine lv_goto (tgt := 2) hx hb dX7_behindBlanks_24 (by decide) ?_
          exact ih2 (x2 + 1) ls (lv_sub hl [1, 0] rfl) hm
  refine lv_istore_n (lv' := [(2, .int a0), (0, .ref obT), (1, .int a0)]) hx hb dX7_behindBlanks_1 rfl hl (by decide) rfl (fun ls hl => ?_)
  exact j2 sr_fuel a0 ls (lv_sub hl [1, 0] rfl) hm
