-- the law from its start
theorem arL : ∀ w ∈ ([.arrayClass .long] : List Cond), w ∈ sr_G := sr_ins (by decide +kernel)
theorem whole_begin {p : Program} {e : Env} {s : State} {m : MethodId} {below : List Frame} {meth : Method} {c : Code} (l : Launch) (htr : l.stackTraces = false) {b L : Nat} {xs : Nat → Int32} (hL : L ≤ 3072) (C0 : lw_At p s m meth c b L xs) : W p l e room_1 s m #[Value.ref b] below meth c s.heap [] 0 0 (lw_Z below #[Value.ref b] s) (entryFrame m ([Value.ref b] : List Value).toArray 7) := by
  obtain ⟨hx, hb, hr, hml, hown0, hts0, hX, hbl, hlocks, hgv⟩ := C0
  have hown : s.vm.findClass RX12 = some m.cls := hown0
  have hn : narrow_1.before #[Value.ref b] s = true := by
    rw [Cond.before_and, Bool.and_eq_true] at hgv
    exact hgv.2
  have hts : ∀ w ∈ (Cond.arrayClass .long) :: sr_G, w.before #[Value.ref b] s = true := by
    intro w hw
    rcases List.mem_cons.mp hw with q | q
    · rw [q]
      exact hts0 _ (List.mem_filter.mp (arL _ List.mem_cons_self)).1
    · exact hts0 _ (List.mem_filter.mp q).1
  obtain ⟨adK, adV, hz⟩ := lt_Z hn hts0
  obtain ⟨dC, dI, cI, cB, cJ, cZ, cQ, hK⟩ := lt_K hts hz.1.2.2.2.2.2.2.2
  have hl := lv_entry [.ref b] (n := 7) (Nat.le_of_ble_eq_true rfl)
  rw [lg_entry_eq]
  generalize (lg_sl [.ref b] ++ List.replicate (7 - (lg_sl [.ref b]).length) Slot.unset).toArray = ls at hl ⊢
  have hl : lv_has ls 7 [(0, .ref b)] := hl
  have hA : ∀ q, s.heap.size ≤ q → lw_A s q := fun _ h => h
  refine law_s1 htr hx hb hml hown hts hK hz hl (fun obX wX ls H locs hl hC hw => ?_)
  refine law_s2 htr hx hb hml hown hts hK hz hl hw (fun obM wM ls H locs sz hsz hl hM hw => ?_)
  refine lv_iconst (v := 1) hx hb dL_16 (by decide) ?_
  refine mr_newa (ty := .long) (N' := 1) (a0 := (1, .inr (.inl (fun _ => 0)))) hx hb (hts _ (List.mem_cons_of_mem _ (arL _ List.mem_cons_self))) rfl (fun C h => by cases h) hK hw.1 hw.2.1 hw.2.2 hA (fun _ => rfl) (by decide) (by decide) (by decide) (Nat.le_of_ble_eq_true rfl) (Nat.le_of_ble_eq_true rfl) dL_17 2 rfl (fun oq H hP hD hS => ?_)
  refine lv_astore_n (lv' := [(3, .ref oq), (2, .ref obM), (1, .ref obX), (0, .ref b)]) hx hb dL_19 rfl hl (by decide) rfl (fun ls hl => ?_)
  refine lv_iconst (v := 0) hx hb dL_20 (by decide) ?_
  refine lv_istore (lv' := [(4, .int 0), (3, .ref oq), (2, .ref obM), (1, .ref obX), (0, .ref b)]) hx hb dL_21 hl (by decide) rfl (fun ls hl => ?_)
  obtain ⟨wX', hC', ht⟩ := hC oq (fun _ => 0)
  have hw2 : lw_w dC dI s H locs ((wM ++ wX) ++ [lw_o oq cJ (fun _ => 0)]) := ⟨hP, hD, hS⟩
  have hw3 : lw_w dC dI s H locs (wX' ++ wM) := hw2.p (fun f => by simp only [sr_tot_app, sr_tot, ht f]; omega)
  have hl2 : lv_has ls 7 [(4, .int (nI (6 * 0))), (0, .ref b), (1, .ref obX), (2, .ref obM), (3, .ref oq)] := lv_sub hl [0, 4, 3, 2, 1] rfl
  exact law_loop hr hlocks ⟨hx, hb, hml, hown, hts, hK, hz, htr, hX, hbl, hL⟩ L 0 ls H locs _ _ (by omega) (by omega) ⟨fun _ => 0, 0, 0, wX', wM, _, _, _, _, _, _, _, _, _, _, hC', hM, hw3, by omega, by omega, ⟨fun _ h => absurd h (Nat.not_lt_zero _), fun _ h => absurd h (Nat.not_lt_zero _), fun _ h => absurd h (Nat.not_lt_zero _), rfl⟩, ⟨rfl, fun i hi => ⟨fun _ => by rw [hsz i hi]; decide, fun _ => rfl⟩, by rw [cK_none hsz 8 (Nat.le_refl _), nI_0]⟩, ⟨fun _ => rfl, fun _ => rfl⟩⟩ hl2
