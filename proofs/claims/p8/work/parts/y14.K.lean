-- the start: the classes and array classes
theorem lt_i : ∀ w ∈ ([.instantiable RX9 35, .instantiable RX10 13, .instantiable RX8 9, .instantiable RX11 3, .instantiable RX0 2, .instantiable RX2 5, .instantiable RX4 5, .instantiable RX5 3, .instantiable RX6 12, .instantiable RX7 8] : List Cond), w ∈ sr_G := sr_ins (by decide +kernel)
theorem lt_a : ∀ w ∈ ([.arrayClass .int, .arrayClass .byte, .arrayClass .long, .arrayClass .boolean] : List Cond), w ∈ sr_G := sr_ins (by decide +kernel)
theorem lt_arr {args : Array Value} {s : State} {ty : FieldType} (h : (Cond.arrayClass ty).before args s = true) : ∃ cA : ClassId, ArrOfT s cA ty ∧ s.vm.findClass ("[" ++ ty.toString) = some cA := by
  obtain ⟨c, k, comp, h1, h2, h3⟩ := Cond.arrayClass_spec (args := args) (first := s) (o := none) (s := s) (idx := []) h
  exact ⟨c, fun n z => ⟨fun k h => (by cases h), k, h2, comp, h3⟩, h1⟩
theorem lt_K {args : Array Value} {s : State} {c0 : Cond} (hts : ∀ w ∈ c0 :: sr_G, w.before args s = true) (hov : va_AO "SchemaReader$Schema" s) : ∃ (dC : Nat → ClassId) (dI : Nat → Nat → Nat) (cI cB cJ cZ cQ : ClassId), va_K (dC, dI) srCl (lw_ty cI cB cJ cZ cQ) s := by
  obtain ⟨c9, i9, h9⟩ := u_known hts (inX9 _) (hts _ (List.mem_cons_of_mem _ (lt_i _ (List.mem_of_getElem? (i := 0) rfl))))
  obtain ⟨c10, i10, h10⟩ := u_known hts (inX10 _) (hts _ (List.mem_cons_of_mem _ (lt_i _ (List.mem_of_getElem? (i := 1) rfl))))
  obtain ⟨c8, i8, h8⟩ := u_known hts (inX8 _) (hts _ (List.mem_cons_of_mem _ (lt_i _ (List.mem_of_getElem? (i := 2) rfl))))
  obtain ⟨c11, i11, h11⟩ := u_known hts (inX11 _) (hts _ (List.mem_cons_of_mem _ (lt_i _ (List.mem_of_getElem? (i := 3) rfl))))
  obtain ⟨c0, i0, h0⟩ := u_known hts (inX0 _) (hts _ (List.mem_cons_of_mem _ (lt_i _ (List.mem_of_getElem? (i := 4) rfl))))
  obtain ⟨c2, i2, h2⟩ := u_known hts (inX2 _) (hts _ (List.mem_cons_of_mem _ (lt_i _ (List.mem_of_getElem? (i := 5) rfl))))
  obtain ⟨c4, i4, h4⟩ := u_known hts (inX4 _) (hts _ (List.mem_cons_of_mem _ (lt_i _ (List.mem_of_getElem? (i := 6) rfl))))
  obtain ⟨c5, i5, h5⟩ := u_known hts (inX5 _) (hts _ (List.mem_cons_of_mem _ (lt_i _ (List.mem_of_getElem? (i := 7) rfl))))
  obtain ⟨c6, i6, h6⟩ := u_known hts (inX6 _) (hts _ (List.mem_cons_of_mem _ (lt_i _ (List.mem_of_getElem? (i := 8) rfl))))
  obtain ⟨c7, i7, h7⟩ := u_known hts (inX7 _) (hts _ (List.mem_cons_of_mem _ (lt_i _ (List.mem_of_getElem? (i := 9) rfl))))
  obtain ⟨cI, a1, b1⟩ := lt_arr (hts _ (List.mem_cons_of_mem _ (lt_a _ (List.mem_of_getElem? (i := 0) rfl))))
  obtain ⟨cB, a2, b2⟩ := lt_arr (hts _ (List.mem_cons_of_mem _ (lt_a _ (List.mem_of_getElem? (i := 1) rfl))))
  obtain ⟨cJ, a3, b3⟩ := lt_arr (hts _ (List.mem_cons_of_mem _ (lt_a _ (List.mem_of_getElem? (i := 2) rfl))))
  obtain ⟨cZ, a4, b4⟩ := lt_arr (hts _ (List.mem_cons_of_mem _ (lt_a _ (List.mem_of_getElem? (i := 3) rfl))))
  obtain ⟨comp, cQ, kQ, g1, g2, g3, g4, g5⟩ := Cond.arrayOver_spec (args := #[]) (first := s) (o := none) (s := s) (idx := []) hov
  refine ⟨fun k => [c9, c10, c8, c11, c0, c2, c4, c5, c6, c7].getD k c9, fun k => [i9, i10, i8, i11, i0, i2, i4, i5, i6, i7].getD k i9, cI, cB, cJ, cZ, cQ, fun c q hq => ?_, fun k q hk => ?_⟩
  · have hc : c < 10 := (List.getElem?_eq_some_iff.mp hq).1
    match c, hc, hq with
    | 0, _, hq =>
      obtain rfl : (RX9, TX9, 35) = q := Option.some.inj hq
      exact h9
    | 1, _, hq =>
      obtain rfl : (RX10, TX10, 13) = q := Option.some.inj hq
      exact h10
    | 2, _, hq =>
      obtain rfl : (RX8, TX8, 9) = q := Option.some.inj hq
      exact h8
    | 3, _, hq =>
      obtain rfl : (RX11, TX11, 3) = q := Option.some.inj hq
      exact h11
    | 4, _, hq =>
      obtain rfl : (RX0, TX0, 2) = q := Option.some.inj hq
      exact h0
    | 5, _, hq =>
      obtain rfl : (RX2, TX2, 5) = q := Option.some.inj hq
      exact h2
    | 6, _, hq =>
      obtain rfl : (RX4, TX4, 5) = q := Option.some.inj hq
      exact h4
    | 7, _, hq =>
      obtain rfl : (RX5, TX5, 3) = q := Option.some.inj hq
      exact h5
    | 8, _, hq =>
      obtain rfl : (RX6, TX6, 12) = q := Option.some.inj hq
      exact h6
    | 9, _, hq =>
      obtain rfl : (RX7, TX7, 8) = q := Option.some.inj hq
      exact h7
    | n + 10, hc, _ => omega
  · have hc : k < 5 := (List.getElem?_eq_some_iff.mp hk).1
    match k, hc, hk with
    | 0, _, hk =>
      obtain rfl : (cI, FieldType.int) = q := Option.some.inj hk
      exact ⟨a1, b1⟩
    | 1, _, hk =>
      obtain rfl : (cB, FieldType.byte) = q := Option.some.inj hk
      exact ⟨a2, b2⟩
    | 2, _, hk =>
      obtain rfl : (cJ, FieldType.long) = q := Option.some.inj hk
      exact ⟨a3, b3⟩
    | 3, _, hk =>
      obtain rfl : (cZ, FieldType.boolean) = q := Option.some.inj hk
      exact ⟨a4, b4⟩
    | 4, _, hk =>
      obtain rfl : (cQ, FieldType.object "SchemaReader$Schema") = q := Option.some.inj hk
      exact ⟨fun n z => ⟨fun k h => (by cases h), kQ, g3, comp, g4⟩, kQ, comp, g3, g4, g1, g5⟩
    | n + 5, hc, _ => omega
