section
set_option maxHeartbeats 4000000 in
set_option maxRecDepth 100000 in
theorem kX7_readGroup (l : Launch) (htr : l.stackTraces = false) (dC : Nat → ClassId) (dI : Nat → Nat → Nat) (adK adV : Nat → Nat) (cI cB cJ cZ cQ : ClassId) (obT tq_tape tq_said tq_inner tq_next tq_amount obK kq_heads kq_places kq_owners kq_nexts : Nat) (f_readValue : (Nat → Int32) → (Nat → Int32) → (Nat → Int32) → (Nat → Int32) → (Nat → Int32) → Int32 → Int32 → (Nat → Int32) → (Nat → Int32) → (Nat → Int32) → (Nat → Int32) → Int32 → Int32 → Int32 → Option (Int32 × (Nat → Int32) × (Nat → Int32) × (Nat → Int32) × (Nat → Int32) × Int32 × (Nat → Int32) × (Nat → Int32) × (Nat → Int32) × (Nat → Int32) × Int32)) (d : Nat) (hrec : ∀ (t_length : Int32) (t_wrongPlace : Int32) (k_count : Int32) (t_tape : Nat → Int32) (t_said : Nat → Int32) (t_inner : Nat → Int32) (t_next : Nat → Int32) (t_amount : Nat → Int32) (k_heads : Nat → Int32) (k_places : Nat → Int32) (k_owners : Nat → Int32) (k_nexts : Nat → Int32) (sz : Nat) (a0 : Int32) (a1 : Int32) (res : Int32 × (Nat → Int32) × (Nat → Int32) × (Nat → Int32) × (Nat → Int32) × Int32 × (Nat → Int32) × (Nat → Int32) × (Nat → Int32) × (Nat → Int32) × Int32), f_readValue t_tape t_said t_inner t_next t_amount t_length t_wrongPlace k_heads k_places k_owners k_nexts k_count a0 a1 = some res → Met l yX7_readValue wsX7_readValue (rmX7_readValue d 0 0) (pcW (sr_Z adK adV) (dC, dI) srCl [(cI, .int), (cB, .byte), (cJ, .long), (cZ, .boolean), (cQ, .object "SchemaReader$Schema")] [.ref obT, .int a0, .int a1] [(obT, .inr (9, [.ref tq_tape, .ref tq_said, .ref tq_inner, .ref tq_next, .ref tq_amount, .ref obK, .int t_length, .int t_wrongPlace])), (tq_tape, .inl (cB, 4096, .inl t_tape)), (tq_said, .inl (cB, 4096, .inl t_said)), (tq_inner, .inl (cI, 4096, .inl t_inner)), (tq_next, .inl (cI, 4096, .inl t_next)), (tq_amount, .inl (cI, 4096, .inl t_amount)), (obK, .inr (5, [.ref kq_heads, .ref kq_places, .ref kq_owners, .ref kq_nexts, .int k_count])), (kq_heads, .inl (cI, 256, .inl k_heads)), (kq_places, .inl (cI, 1024, .inl k_places)), (kq_owners, .inl (cI, 1024, .inl k_owners)), (kq_nexts, .inl (cI, 1024, .inl k_nexts))] sz) (va_Qi (fun r' u' => r' = res.1 ∧ u' = res.2) (pcB (dC, dI) srCl [(cI, .int), (cB, .byte), (cJ, .long), (cZ, .boolean), (cQ, .object "SchemaReader$Schema")] (fun u : (Nat → Int32) × (Nat → Int32) × (Nat → Int32) × (Nat → Int32) × Int32 × (Nat → Int32) × (Nat → Int32) × (Nat → Int32) × (Nat → Int32) × Int32 => [(obT, .inr (9, [.ref tq_tape, .ref tq_said, .ref tq_inner, .ref tq_next, .ref tq_amount, .ref obK, .int t_length, .int u.2.2.2.2.1])), (tq_tape, .inl (cB, 4096, .inl t_tape)), (tq_said, .inl (cB, 4096, .inl u.1)), (tq_inner, .inl (cI, 4096, .inl u.2.1)), (tq_next, .inl (cI, 4096, .inl u.2.2.1)), (tq_amount, .inl (cI, 4096, .inl u.2.2.2.1)), (obK, .inr (5, [.ref kq_heads, .ref kq_places, .ref kq_owners, .ref kq_nexts, .int u.2.2.2.2.2.2.2.2.2])), (kq_heads, .inl (cI, 256, .inl u.2.2.2.2.2.1)), (kq_places, .inl (cI, 1024, .inl u.2.2.2.2.2.2.1)), (kq_owners, .inl (cI, 1024, .inl u.2.2.2.2.2.2.2.1)), (kq_nexts, .inl (cI, 1024, .inl u.2.2.2.2.2.2.2.2.1))]) (va_A [(obT, .inr (9, [.ref tq_tape, .ref tq_said, .ref tq_inner, .ref tq_next, .ref tq_amount, .ref obK, .int t_length, .int t_wrongPlace])), (tq_tape, .inl (cB, 4096, .inl t_tape)), (tq_said, .inl (cB, 4096, .inl t_said)), (tq_inner, .inl (cI, 4096, .inl t_inner)), (tq_next, .inl (cI, 4096, .inl t_next)), (tq_amount, .inl (cI, 4096, .inl t_amount)), (obK, .inr (5, [.ref kq_heads, .ref kq_places, .ref kq_owners, .ref kq_nexts, .int k_count])), (kq_heads, .inl (cI, 256, .inl k_heads)), (kq_places, .inl (cI, 1024, .inl k_places)), (kq_owners, .inl (cI, 1024, .inl k_owners)), (kq_nexts, .inl (cI, 1024, .inl k_nexts))] sz)) (va_A [(obT, .inr (9, [.ref tq_tape, .ref tq_said, .ref tq_inner, .ref tq_next, .ref tq_amount, .ref obK, .int t_length, .int t_wrongPlace])), (tq_tape, .inl (cB, 4096, .inl t_tape)), (tq_said, .inl (cB, 4096, .inl t_said)), (tq_inner, .inl (cI, 4096, .inl t_inner)), (tq_next, .inl (cI, 4096, .inl t_next)), (tq_amount, .inl (cI, 4096, .inl t_amount)), (obK, .inr (5, [.ref kq_heads, .ref kq_places, .ref kq_owners, .ref kq_nexts, .int k_count])), (kq_heads, .inl (cI, 256, .inl k_heads)), (kq_places, .inl (cI, 1024, .inl k_places)), (kq_owners, .inl (cI, 1024, .inl k_owners)), (kq_nexts, .inl (cI, 1024, .inl k_nexts))] sz)) 0 0 (va_A [(obT, .inr (9, [.ref tq_tape, .ref tq_said, .ref tq_inner, .ref tq_next, .ref tq_amount, .ref obK, .int t_length, .int t_wrongPlace])), (tq_tape, .inl (cB, 4096, .inl t_tape)), (tq_said, .inl (cB, 4096, .inl t_said)), (tq_inner, .inl (cI, 4096, .inl t_inner)), (tq_next, .inl (cI, 4096, .inl t_next)), (tq_amount, .inl (cI, 4096, .inl t_amount)), (obK, .inr (5, [.ref kq_heads, .ref kq_places, .ref kq_owners, .ref kq_nexts, .int k_count])), (kq_heads, .inl (cI, 256, .inl k_heads)), (kq_places, .inl (cI, 1024, .inl k_places)), (kq_owners, .inl (cI, 1024, .inl k_owners)), (kq_nexts, .inl (cI, 1024, .inl k_nexts))] sz)) (t_length : Int32) (t_wrongPlace : Int32) (k_count : Int32) (t_tape : Nat → Int32) (t_said : Nat → Int32) (t_inner : Nat → Int32) (t_next : Nat → Int32) (t_amount : Nat → Int32) (k_heads : Nat → Int32) (k_places : Nat → Int32) (k_owners : Nat → Int32) (k_nexts : Nat → Int32) (sz : Nat) (a0 : Int32) (a1 : Int32) (res : Int32 × (Nat → Int32) × (Nat → Int32) × (Nat → Int32) × (Nat → Int32) × Int32 × (Nat → Int32) × (Nat → Int32) × (Nat → Int32) × (Nat → Int32) × Int32) (hm : m_X7_readGroup f_readValue t_tape t_said t_inner t_next t_amount t_length t_wrongPlace k_heads k_places k_owners k_nexts k_count a0 a1 = some res) : Met l yX7_readGroup wsX7_readGroup (rmX7_readGroup d 0 0) (pcW (sr_Z adK adV) (dC, dI) srCl [(cI, .int), (cB, .byte), (cJ, .long), (cZ, .boolean), (cQ, .object "SchemaReader$Schema")] [.ref obT, .int a0, .int a1] [(obT, .inr (9, [.ref tq_tape, .ref tq_said, .ref tq_inner, .ref tq_next, .ref tq_amount, .ref obK, .int t_length, .int t_wrongPlace])), (tq_tape, .inl (cB, 4096, .inl t_tape)), (tq_said, .inl (cB, 4096, .inl t_said)), (tq_inner, .inl (cI, 4096, .inl t_inner)), (tq_next, .inl (cI, 4096, .inl t_next)), (tq_amount, .inl (cI, 4096, .inl t_amount)), (obK, .inr (5, [.ref kq_heads, .ref kq_places, .ref kq_owners, .ref kq_nexts, .int k_count])), (kq_heads, .inl (cI, 256, .inl k_heads)), (kq_places, .inl (cI, 1024, .inl k_places)), (kq_owners, .inl (cI, 1024, .inl k_owners)), (kq_nexts, .inl (cI, 1024, .inl k_nexts))] sz) (va_Qi (fun r' u' => r' = res.1 ∧ u' = res.2) (pcB (dC, dI) srCl [(cI, .int), (cB, .byte), (cJ, .long), (cZ, .boolean), (cQ, .object "SchemaReader$Schema")] (fun u : (Nat → Int32) × (Nat → Int32) × (Nat → Int32) × (Nat → Int32) × Int32 × (Nat → Int32) × (Nat → Int32) × (Nat → Int32) × (Nat → Int32) × Int32 => [(obT, .inr (9, [.ref tq_tape, .ref tq_said, .ref tq_inner, .ref tq_next, .ref tq_amount, .ref obK, .int t_length, .int u.2.2.2.2.1])), (tq_tape, .inl (cB, 4096, .inl t_tape)), (tq_said, .inl (cB, 4096, .inl u.1)), (tq_inner, .inl (cI, 4096, .inl u.2.1)), (tq_next, .inl (cI, 4096, .inl u.2.2.1)), (tq_amount, .inl (cI, 4096, .inl u.2.2.2.1)), (obK, .inr (5, [.ref kq_heads, .ref kq_places, .ref kq_owners, .ref kq_nexts, .int u.2.2.2.2.2.2.2.2.2])), (kq_heads, .inl (cI, 256, .inl u.2.2.2.2.2.1)), (kq_places, .inl (cI, 1024, .inl u.2.2.2.2.2.2.1)), (kq_owners, .inl (cI, 1024, .inl u.2.2.2.2.2.2.2.1)), (kq_nexts, .inl (cI, 1024, .inl u.2.2.2.2.2.2.2.2.1))]) (va_A [(obT, .inr (9, [.ref tq_tape, .ref tq_said, .ref tq_inner, .ref tq_next, .ref tq_amount, .ref obK, .int t_length, .int t_wrongPlace])), (tq_tape, .inl (cB, 4096, .inl t_tape)), (tq_said, .inl (cB, 4096, .inl t_said)), (tq_inner, .inl (cI, 4096, .inl t_inner)), (tq_next, .inl (cI, 4096, .inl t_next)), (tq_amount, .inl (cI, 4096, .inl t_amount)), (obK, .inr (5, [.ref kq_heads, .ref kq_places, .ref kq_owners, .ref kq_nexts, .int k_count])), (kq_heads, .inl (cI, 256, .inl k_heads)), (kq_places, .inl (cI, 1024, .inl k_places)), (kq_owners, .inl (cI, 1024, .inl k_owners)), (kq_nexts, .inl (cI, 1024, .inl k_nexts))] sz)) (va_A [(obT, .inr (9, [.ref tq_tape, .ref tq_said, .ref tq_inner, .ref tq_next, .ref tq_amount, .ref obK, .int t_length, .int t_wrongPlace])), (tq_tape, .inl (cB, 4096, .inl t_tape)), (tq_said, .inl (cB, 4096, .inl t_said)), (tq_inner, .inl (cI, 4096, .inl t_inner)), (tq_next, .inl (cI, 4096, .inl t_next)), (tq_amount, .inl (cI, 4096, .inl t_amount)), (obK, .inr (5, [.ref kq_heads, .ref kq_places, .ref kq_owners, .ref kq_nexts, .int k_count])), (kq_heads, .inl (cI, 256, .inl k_heads)), (kq_places, .inl (cI, 1024, .inl k_places)), (kq_owners, .inl (cI, 1024, .inl k_owners)), (kq_nexts, .inl (cI, 1024, .inl k_nexts))] sz)) 0 0 (va_A [(obT, .inr (9, [.ref tq_tape, .ref tq_said, .ref tq_inner, .ref tq_next, .ref tq_amount, .ref obK, .int t_length, .int t_wrongPlace])), (tq_tape, .inl (cB, 4096, .inl t_tape)), (tq_said, .inl (cB, 4096, .inl t_said)), (tq_inner, .inl (cI, 4096, .inl t_inner)), (tq_next, .inl (cI, 4096, .inl t_next)), (tq_amount, .inl (cI, 4096, .inl t_amount)), (obK, .inr (5, [.ref kq_heads, .ref kq_places, .ref kq_owners, .ref kq_nexts, .int k_count])), (kq_heads, .inl (cI, 256, .inl k_heads)), (kq_places, .inl (cI, 1024, .inl k_places)), (kq_owners, .inl (cI, 1024, .inl k_owners)), (kq_nexts, .inl (cI, 1024, .inl k_nexts))] sz) := by
  refine Met.ofW (cc := cX7_readGroup) (maxL := 10) (ret := (some .int)) (by decide) rfl ?_
  intro p e s m args below meth c s₁ B hml hv
  obtain ⟨rfl, hsz, hP, hK, hD0, hz0⟩ := hv
  have hx := B.exec
  have hb := B.bytes
  have hr := B.returns
  have hts := atoms_spec (ws := wsX7_readGroup) B.pre
  have hown : s.vm.findClass RX7 = some m.cls := findClass_of_methodNamed B.named
  have hlocks := B.notSynchronized
  subst hsz
  have hD := hD0.self (sz := s.heap.size)
  generalize hAe : va_A [(obT, .inr (9, [.ref tq_tape, .ref tq_said, .ref tq_inner, .ref tq_next, .ref tq_amount, .ref obK, .int t_length, .int t_wrongPlace])), (tq_tape, .inl (cB, 4096, .inl t_tape)), (tq_said, .inl (cB, 4096, .inl t_said)), (tq_inner, .inl (cI, 4096, .inl t_inner)), (tq_next, .inl (cI, 4096, .inl t_next)), (tq_amount, .inl (cI, 4096, .inl t_amount)), (obK, .inr (5, [.ref kq_heads, .ref kq_places, .ref kq_owners, .ref kq_nexts, .int k_count])), (kq_heads, .inl (cI, 256, .inl k_heads)), (kq_places, .inl (cI, 1024, .inl k_places)), (kq_owners, .inl (cI, 1024, .inl k_owners)), (kq_nexts, .inl (cI, 1024, .inl k_nexts))] s.heap.size = A at hD hz0 ⊢
  have hA : ∀ q : Nat, s.heap.size ≤ q → A q := fun q h => by rw [← hAe]; exact Or.inr h
  have hS : va_S A s.heap s.heap [] := va_S.rf
  generalize hQ0 : MQ below (va_Qi (fun r' u' => r' = res.1 ∧ u' = res.2) (pcB (dC, dI) srCl [(cI, .int), (cB, .byte), (cJ, .long), (cZ, .boolean), (cQ, .object "SchemaReader$Schema")] (fun u : (Nat → Int32) × (Nat → Int32) × (Nat → Int32) × (Nat → Int32) × Int32 × (Nat → Int32) × (Nat → Int32) × (Nat → Int32) × (Nat → Int32) × Int32 => [(obT, .inr (9, [.ref tq_tape, .ref tq_said, .ref tq_inner, .ref tq_next, .ref tq_amount, .ref obK, .int t_length, .int u.2.2.2.2.1])), (tq_tape, .inl (cB, 4096, .inl t_tape)), (tq_said, .inl (cB, 4096, .inl u.1)), (tq_inner, .inl (cI, 4096, .inl u.2.1)), (tq_next, .inl (cI, 4096, .inl u.2.2.1)), (tq_amount, .inl (cI, 4096, .inl u.2.2.2.1)), (obK, .inr (5, [.ref kq_heads, .ref kq_places, .ref kq_owners, .ref kq_nexts, .int u.2.2.2.2.2.2.2.2.2])), (kq_heads, .inl (cI, 256, .inl u.2.2.2.2.2.1)), (kq_places, .inl (cI, 1024, .inl u.2.2.2.2.2.2.1)), (kq_owners, .inl (cI, 1024, .inl u.2.2.2.2.2.2.2.1)), (kq_nexts, .inl (cI, 1024, .inl u.2.2.2.2.2.2.2.2.1))]) A) A) [.ref obT, .int a0, .int a1].toArray s 0 0 A = Q0
  have hl := lv_entry [.ref obT, .int a0, .int a1] (n := 10) (Nat.le_of_ble_eq_true rfl)
  rw [lg_entry_eq]
  generalize (lg_sl [.ref obT, .int a0, .int a1] ++ List.replicate (10 - (lg_sl [.ref obT, .int a0, .int a1]).length) Slot.unset).toArray = ls at hl ⊢
  have hl : lv_has ls 10 [(0, .ref obT), (1, .int a0), (2, .int a1)] := hl
  unfold m_X7_readGroup at hm
  refine lv_iload_n hx hb dX7_readGroup_0 rfl (lv_at hl 2 rfl) ?_
  refine lv_bipush (v := 24) hx hb dX7_readGroup_1 (by decide) ?_
  refine lv_icmp_lt (tgt := 12) hx hb dX7_readGroup_3 (by decide) (fun c1 => ?_) (fun c1 => ?_)
  · have hm := mr_if c1 hm
    refine lv_aload_n hx hb dX7_readGroup_12 rfl (lv_at hl 0 rfl) ?_
    refine lv_iload_n hx hb dX7_readGroup_13 rfl (lv_at hl 1 rfl) ?_
    obtain ⟨r2, hz2, hm⟩ := mr_bind hm
    refine mr_pV (As := [.int a0]) (rest := []) (sr_okZ adK adV) ⟨hx, hb, hml, hown, hts⟩ (kX7_isObject l htr dC dI adK adV cI cB cJ cZ cQ obT tq_tape tq_said tq_inner tq_next tq_amount obK t_length t_wrongPlace t_tape a0 r2 hz2) (cwV 1 hts (g7_122 _) rfl rfl rfl (by decide +kernel) ⟨(by show 1 + 1 ≤ 2 * d + 6; omega), (by show 8 + (2 + 11) + (21) ≤ 51 * d + 130; omega)⟩) hS hP hK hz0 [0, 1] rfl (va_recv hK hP (ci := 9) (q0 := 0) rfl rfl) rfl rfl hl.1 (Nat.le_of_ble_eq_true rfl) dX7_readGroup_14 ⟨Nat.zero_le _, Nat.zero_le _⟩ ?_
    have j27 : ∀ (t_said : Nat → Int32) (t_inner : Nat → Int32) (t_next : Nat → Int32) (t_amount : Nat → Int32) (t_wrongPlace : Int32) (k_heads : Nat → Int32) (k_places : Nat → Int32) (k_owners : Nat → Int32) (k_nexts : Nat → Int32) (k_count : Int32) (x1 : Int32) (x2 : Int32) (y0 : Int32) (H : Heap) (locs : List Loc) (ls : Array Slot), va_P (dC, dI) srCl [(obT, .inr (9, [.ref tq_tape, .ref tq_said, .ref tq_inner, .ref tq_next, .ref tq_amount, .ref obK, .int t_length, .int t_wrongPlace])), (tq_tape, .inl (cB, 4096, .inl t_tape)), (tq_said, .inl (cB, 4096, .inl t_said)), (tq_inner, .inl (cI, 4096, .inl t_inner)), (tq_next, .inl (cI, 4096, .inl t_next)), (tq_amount, .inl (cI, 4096, .inl t_amount)), (obK, .inr (5, [.ref kq_heads, .ref kq_places, .ref kq_owners, .ref kq_nexts, .int k_count])), (kq_heads, .inl (cI, 256, .inl k_heads)), (kq_places, .inl (cI, 1024, .inl k_places)), (kq_owners, .inl (cI, 1024, .inl k_owners)), (kq_nexts, .inl (cI, 1024, .inl k_nexts))] H → va_D A [(obT, .inr (9, [.ref tq_tape, .ref tq_said, .ref tq_inner, .ref tq_next, .ref tq_amount, .ref obK, .int t_length, .int t_wrongPlace])), (tq_tape, .inl (cB, 4096, .inl t_tape)), (tq_said, .inl (cB, 4096, .inl t_said)), (tq_inner, .inl (cI, 4096, .inl t_inner)), (tq_next, .inl (cI, 4096, .inl t_next)), (tq_amount, .inl (cI, 4096, .inl t_amount)), (obK, .inr (5, [.ref kq_heads, .ref kq_places, .ref kq_owners, .ref kq_nexts, .int k_count])), (kq_heads, .inl (cI, 256, .inl k_heads)), (kq_places, .inl (cI, 1024, .inl k_places)), (kq_owners, .inl (cI, 1024, .inl k_owners)), (kq_nexts, .inl (cI, 1024, .inl k_nexts))] → va_S A s.heap H locs → lv_has ls 10 [(0, .ref obT), (1, .int x1), (2, .int x2)] → m_X7_readGroup_27 f_readValue t_tape t_length t_said t_inner t_next t_amount t_wrongPlace k_heads k_places k_owners k_nexts k_count x1 x2 y0 = some res → W p l e (headSpec wsX7_readGroup (rmX7_readGroup d 0 0)).room s m [.ref obT, .int a0, .int a1].toArray below meth c H locs 0 0 Q0 (F0 m 27 ls [.int y0]) := by
      intro t_said t_inner t_next t_amount t_wrongPlace k_heads k_places k_owners k_nexts k_count x1 x2 y0 H locs ls hP hD hS hl hm
      unfold m_X7_readGroup_27 at hm
      refine lv_istore_n (lv' := [(3, .int y0), (0, .ref obT), (1, .int x1), (2, .int x2)]) hx hb dX7_readGroup_27 rfl hl (by decide) rfl (fun ls hl => ?_)
      refine lv_aload_n hx hb dX7_readGroup_28 rfl (lv_at hl 1 rfl) ?_
      refine va_get (D := (dC, dI)) (ci := 9) (v := .ref tq_amount) (C := RX7) (T := TX7) (N := 8) hx hb hts (inX7 _) hown hK hP 0 rfl rfl 4 (by decide) (hts _ (List.mem_cons_of_mem _ wf7_25)) (fun _ h9 => h9) rfl dX7_readGroup_29 ?_
      refine lv_iload_n hx hb dX7_readGroup_32 rfl (lv_at hl 2 rfl) ?_
      refine lv_iconst (v := 0) hx hb dX7_readGroup_33 (by decide) ?_
      obtain ⟨t_amount_3, hz3, hm⟩ := mr_bind hm
      try dsimp only at hm
      refine mr_wSNv (As := [.ref tq_amount, .int x1, .int 0]) (rest := []) (sr_okZ adK adV) ⟨hx, hb, hml, hown, hts⟩ (kX8_enter l htr dC dI adK adV cI cB cJ cZ cQ tq_amount t_amount _ 4096 x1 0 _ hz3) (sr_cnS 3 hts rfl gn7_125.1 (hz0.2.2.2.2.2.2.1 _ gn7_125.2) rfl rfl (by decide +kernel) ⟨(by show 0 + 1 ≤ 2 * d + 6; omega), (by show 8 + (3 + 11) + (0) ≤ 51 * d + 130; omega)⟩) hS hA hP hD hK hz0 (wr := [(obT, .inr (9, [.ref tq_tape, .ref tq_said, .ref tq_inner, .ref tq_next, .ref tq_amount, .ref obK, .int t_length, .int t_wrongPlace])), (tq_tape, .inl (cB, 4096, .inl t_tape)), (tq_said, .inl (cB, 4096, .inl t_said)), (tq_inner, .inl (cI, 4096, .inl t_inner)), (tq_next, .inl (cI, 4096, .inl t_next)), (obK, .inr (5, [.ref kq_heads, .ref kq_places, .ref kq_owners, .ref kq_nexts, .int k_count])), (kq_heads, .inl (cI, 256, .inl k_heads)), (kq_places, .inl (cI, 1024, .inl k_places)), (kq_owners, .inl (cI, 1024, .inl k_owners)), (kq_nexts, .inl (cI, 1024, .inl k_nexts))]) (w1 := [(obT, .inr (9, [.ref tq_tape, .ref tq_said, .ref tq_inner, .ref tq_next, .ref tq_amount, .ref obK, .int t_length, .int t_wrongPlace])), (tq_tape, .inl (cB, 4096, .inl t_tape)), (tq_said, .inl (cB, 4096, .inl t_said)), (tq_inner, .inl (cI, 4096, .inl t_inner)), (tq_next, .inl (cI, 4096, .inl t_next)), (tq_amount, .inl (cI, 4096, .inl t_amount_3)), (obK, .inr (5, [.ref kq_heads, .ref kq_places, .ref kq_owners, .ref kq_nexts, .int k_count])), (kq_heads, .inl (cI, 256, .inl k_heads)), (kq_places, .inl (cI, 1024, .inl k_places)), (kq_owners, .inl (cI, 1024, .inl k_owners)), (kq_nexts, .inl (cI, 1024, .inl k_nexts))]) [5] [0, 1, 2, 3, 4, 6, 7, 8, 9, 10] [0, 1, 2, 3, 4, 10, 5, 6, 7, 8, 9] rfl rfl rfl rfl rfl (by decide) rfl rfl rfl rfl rfl hl.1 (Nat.le_of_ble_eq_true rfl) dX7_readGroup_34 ⟨Nat.zero_le _, Nat.zero_le _⟩ (fun H locs hP hD hS => ?_)
      refine lv_aload_n hx hb dX7_readGroup_37 rfl (lv_at hl 1 rfl) ?_
      refine va_get (D := (dC, dI)) (ci := 9) (v := .ref tq_inner) (C := RX7) (T := TX7) (N := 8) hx hb hts (inX7 _) hown hK hP 0 rfl rfl 2 (by decide) (hts _ (List.mem_cons_of_mem _ wf7_18)) (fun _ h9 => h9) rfl dX7_readGroup_38 ?_
      refine lv_iload_n hx hb dX7_readGroup_41 rfl (lv_at hl 2 rfl) ?_
      refine lv_iconst (v := -1) hx hb dX7_readGroup_42 (by decide) ?_
      obtain ⟨t_inner_4, hz4, hm⟩ := mr_bind hm
      try dsimp only at hm
      refine mr_wSNv (As := [.ref tq_inner, .int x1, .int (-1)]) (rest := []) (sr_okZ adK adV) ⟨hx, hb, hml, hown, hts⟩ (kX8_enter l htr dC dI adK adV cI cB cJ cZ cQ tq_inner t_inner _ 4096 x1 (-1) _ hz4) (sr_cnS 3 hts rfl gn7_125.1 (hz0.2.2.2.2.2.2.1 _ gn7_125.2) rfl rfl (by decide +kernel) ⟨(by show 0 + 1 ≤ 2 * d + 6; omega), (by show 8 + (3 + 11) + (0) ≤ 51 * d + 130; omega)⟩) hS hA hP hD hK hz0 (wr := [(obT, .inr (9, [.ref tq_tape, .ref tq_said, .ref tq_inner, .ref tq_next, .ref tq_amount, .ref obK, .int t_length, .int t_wrongPlace])), (tq_tape, .inl (cB, 4096, .inl t_tape)), (tq_said, .inl (cB, 4096, .inl t_said)), (tq_next, .inl (cI, 4096, .inl t_next)), (tq_amount, .inl (cI, 4096, .inl t_amount_3)), (obK, .inr (5, [.ref kq_heads, .ref kq_places, .ref kq_owners, .ref kq_nexts, .int k_count])), (kq_heads, .inl (cI, 256, .inl k_heads)), (kq_places, .inl (cI, 1024, .inl k_places)), (kq_owners, .inl (cI, 1024, .inl k_owners)), (kq_nexts, .inl (cI, 1024, .inl k_nexts))]) (w1 := [(obT, .inr (9, [.ref tq_tape, .ref tq_said, .ref tq_inner, .ref tq_next, .ref tq_amount, .ref obK, .int t_length, .int t_wrongPlace])), (tq_tape, .inl (cB, 4096, .inl t_tape)), (tq_said, .inl (cB, 4096, .inl t_said)), (tq_inner, .inl (cI, 4096, .inl t_inner_4)), (tq_next, .inl (cI, 4096, .inl t_next)), (tq_amount, .inl (cI, 4096, .inl t_amount_3)), (obK, .inr (5, [.ref kq_heads, .ref kq_places, .ref kq_owners, .ref kq_nexts, .int k_count])), (kq_heads, .inl (cI, 256, .inl k_heads)), (kq_places, .inl (cI, 1024, .inl k_places)), (kq_owners, .inl (cI, 1024, .inl k_owners)), (kq_nexts, .inl (cI, 1024, .inl k_nexts))]) [3] [0, 1, 2, 4, 5, 6, 7, 8, 9, 10] [0, 1, 2, 10, 3, 4, 5, 6, 7, 8, 9] rfl rfl rfl rfl rfl (by decide) rfl rfl rfl rfl rfl hl.1 (Nat.le_of_ble_eq_true rfl) dX7_readGroup_43 ⟨Nat.zero_le _, Nat.zero_le _⟩ (fun H locs hP hD hS => ?_)
      refine lv_aload_n hx hb dX7_readGroup_46 rfl (lv_at hl 1 rfl) ?_
      refine lv_iload_n hx hb dX7_readGroup_47 rfl (lv_at hl 2 rfl) ?_
      refine lv_iconst (v := 1) hx hb dX7_readGroup_48 (by decide) ?_
      refine lv_iadd hx hb dX7_readGroup_49 ?_
      obtain ⟨r5, hz5, hm⟩ := mr_bind hm
      refine mr_pV (As := [.int (x1 + 1)]) (rest := []) (sr_okZ adK adV) ⟨hx, hb, hml, hown, hts⟩ (kX7_behindBlanks l htr dC dI adK adV cI cB cJ cZ cQ obT tq_tape tq_said tq_inner tq_next tq_amount obK t_length t_wrongPlace t_tape (x1 + 1) r5 hz5) (cwV 1 hts (g7_87 _) rfl rfl rfl (by decide +kernel) ⟨(by show 1 + 1 ≤ 2 * d + 6; omega), (by show 8 + (3 + 11) + (21) ≤ 51 * d + 130; omega)⟩) hS hP hK hz0 [0, 1] rfl (va_recv hK hP (ci := 9) (q0 := 0) rfl rfl) rfl rfl hl.1 (Nat.le_of_ble_eq_true rfl) dX7_readGroup_50 ⟨Nat.zero_le _, Nat.zero_le _⟩ ?_
      refine lv_istore (lv' := [(4, .int r5), (3, .int y0), (0, .ref obT), (1, .int x1), (2, .int x2)]) hx hb dX7_readGroup_53 hl (by decide) rfl (fun ls hl => ?_)
      refine lv_aload_n hx hb dX7_readGroup_55 rfl (lv_at hl 2 rfl) ?_
      refine lv_iload hx hb dX7_readGroup_56 (lv_at hl 0 rfl) ?_
      obtain ⟨r6, hz6, hm⟩ := mr_bind hm
      refine mr_pV (As := [.int r5]) (rest := []) (sr_okZ adK adV) ⟨hx, hb, hml, hown, hts⟩ (kX7_byteAt l htr dC dI adK adV cI cB cJ cZ cQ obT tq_tape tq_said tq_inner tq_next tq_amount obK t_length t_wrongPlace t_tape r5 r6 hz6) (cwV 1 hts (g7_42 _) rfl rfl rfl (by decide +kernel) ⟨(by show 0 + 1 ≤ 2 * d + 6; omega), (by show 8 + (2 + 11) + (0) ≤ 51 * d + 130; omega)⟩) hS hP hK hz0 [0, 1] rfl (va_recv hK hP (ci := 9) (q0 := 0) rfl rfl) rfl rfl hl.1 (Nat.le_of_ble_eq_true rfl) dX7_readGroup_58 ⟨Nat.zero_le _, Nat.zero_le _⟩ ?_
      refine lv_iload_n hx hb dX7_readGroup_61 rfl (lv_at hl 1 rfl) ?_
      refine lv_icmp_ne (tgt := 70) hx hb dX7_readGroup_62 (by decide) (fun c7 => ?_) (fun c7 => ?_)
      · have hm := mr_un c7 hm
        refine lv_iconst (v := -1) hx hb dX7_readGroup_70 (by decide) ?_
        refine lv_istore (lv' := [(5, .int (-1)), (4, .int r5), (3, .int y0), (0, .ref obT), (1, .int x1), (2, .int x2)]) hx hb dX7_readGroup_71 hl (by decide) rfl (fun ls hl => ?_)
        refine lv_iconst (v := 1) hx hb dX7_readGroup_73 (by decide) ?_
        have j76 : ∀ (n76 : Nat) (t_said : Nat → Int32) (t_inner : Nat → Int32) (t_next : Nat → Int32) (t_amount : Nat → Int32) (t_wrongPlace : Int32) (k_heads : Nat → Int32) (k_places : Nat → Int32) (k_owners : Nat → Int32) (k_nexts : Nat → Int32) (k_count : Int32) (x1 : Int32) (x2 : Int32) (x3 : Int32) (x4 : Int32) (x5 : Int32) (x6 : Int32) (H : Heap) (locs : List Loc) (ls : Array Slot), va_P (dC, dI) srCl [(obT, .inr (9, [.ref tq_tape, .ref tq_said, .ref tq_inner, .ref tq_next, .ref tq_amount, .ref obK, .int t_length, .int t_wrongPlace])), (tq_tape, .inl (cB, 4096, .inl t_tape)), (tq_said, .inl (cB, 4096, .inl t_said)), (tq_inner, .inl (cI, 4096, .inl t_inner)), (tq_next, .inl (cI, 4096, .inl t_next)), (tq_amount, .inl (cI, 4096, .inl t_amount)), (obK, .inr (5, [.ref kq_heads, .ref kq_places, .ref kq_owners, .ref kq_nexts, .int k_count])), (kq_heads, .inl (cI, 256, .inl k_heads)), (kq_places, .inl (cI, 1024, .inl k_places)), (kq_owners, .inl (cI, 1024, .inl k_owners)), (kq_nexts, .inl (cI, 1024, .inl k_nexts))] H → va_D A [(obT, .inr (9, [.ref tq_tape, .ref tq_said, .ref tq_inner, .ref tq_next, .ref tq_amount, .ref obK, .int t_length, .int t_wrongPlace])), (tq_tape, .inl (cB, 4096, .inl t_tape)), (tq_said, .inl (cB, 4096, .inl t_said)), (tq_inner, .inl (cI, 4096, .inl t_inner)), (tq_next, .inl (cI, 4096, .inl t_next)), (tq_amount, .inl (cI, 4096, .inl t_amount)), (obK, .inr (5, [.ref kq_heads, .ref kq_places, .ref kq_owners, .ref kq_nexts, .int k_count])), (kq_heads, .inl (cI, 256, .inl k_heads)), (kq_places, .inl (cI, 1024, .inl k_places)), (kq_owners, .inl (cI, 1024, .inl k_owners)), (kq_nexts, .inl (cI, 1024, .inl k_nexts))] → va_S A s.heap H locs → lv_has ls 10 [(0, .ref obT), (1, .int x1), (2, .int x2), (3, .int x3), (4, .int x4), (5, .int x5), (6, .int x6)] → m_X7_readGroup_76 f_readValue t_tape t_length n76 t_said t_inner t_next t_amount t_wrongPlace k_heads k_places k_owners k_nexts k_count x1 x2 x3 x4 x5 x6 = some res → W p l e (headSpec wsX7_readGroup (rmX7_readGroup d 0 0)).room s m [.ref obT, .int a0, .int a1].toArray below meth c H locs 0 0 Q0 (F0 m 76 ls []) := by
          intro n76
          induction n76 with
          | zero => intro t_said t_inner t_next t_amount t_wrongPlace k_heads k_places k_owners k_nexts k_count x1 x2 x3 x4 x5 x6 H locs ls hP hD hS hl hm; exact nomatch (show (none : Option _) = some res from hm)
          | succ n76 ih76 =>
            intro t_said t_inner t_next t_amount t_wrongPlace k_heads k_places k_owners k_nexts k_count x1 x2 x3 x4 x5 x6 H locs ls hP hD hS hl hm
            rw [m_X7_readGroup_76] at hm
            refine lv_iload hx hb dX7_readGroup_76 (lv_at hl 6 rfl) ?_
            refine lv_aload_n hx hb dX7_readGroup_78 rfl (lv_at hl 0 rfl) ?_
            refine va_get (D := (dC, dI)) (ci := 9) (v := .int t_length) (C := RX7) (T := TX7) (N := 8) hx hb hts (inX7 _) hown hK hP 0 rfl rfl 6 (by decide) (hts _ (List.mem_cons_of_mem _ wf7_35)) (fun _ h9 => h9) rfl dX7_readGroup_79 ?_
            refine lv_icmp_gt (tgt := 216) hx hb dX7_readGroup_82 (by decide) (fun c8 => ?_) (fun c8 => ?_)
            · have hm := mr_if c8 hm
              refine lv_aload_n hx hb dX7_readGroup_216 rfl (lv_at hl 0 rfl) ?_
              refine lv_aload_n hx hb dX7_readGroup_217 rfl (lv_at hl 0 rfl) ?_
              refine va_get (D := (dC, dI)) (ci := 9) (v := .int t_length) (C := RX7) (T := TX7) (N := 8) hx hb hts (inX7 _) hown hK hP 0 rfl rfl 6 (by decide) (hts _ (List.mem_cons_of_mem _ wf7_35)) (fun _ h9 => h9) rfl dX7_readGroup_218 ?_
              obtain ⟨⟨r9, t_wrongPlace_9⟩, hz9, hm⟩ := mr_bind hm
              try dsimp only at hm
              refine mr_wVi (As := [.int t_length]) (rest := []) (sr_okZ adK adV) ⟨hx, hb, hml, hown, hts⟩ (kX7_refuse l htr dC dI adK adV cI cB cJ cZ cQ obT tq_tape tq_said tq_inner tq_next tq_amount obK t_length t_wrongPlace _ t_length _ hz9) (cwV 1 hts (g7_94 _) rfl rfl rfl (by decide +kernel) ⟨(by show 0 + 1 ≤ 2 * d + 6; omega), (by show 8 + (2 + 11) + (0) ≤ 51 * d + 130; omega)⟩) hS hA hP hD hK hz0 (wr := [(tq_tape, .inl (cB, 4096, .inl t_tape)), (tq_said, .inl (cB, 4096, .inl t_said)), (tq_inner, .inl (cI, 4096, .inl t_inner)), (tq_next, .inl (cI, 4096, .inl t_next)), (tq_amount, .inl (cI, 4096, .inl t_amount)), (obK, .inr (5, [.ref kq_heads, .ref kq_places, .ref kq_owners, .ref kq_nexts, .int k_count])), (kq_heads, .inl (cI, 256, .inl k_heads)), (kq_places, .inl (cI, 1024, .inl k_places)), (kq_owners, .inl (cI, 1024, .inl k_owners)), (kq_nexts, .inl (cI, 1024, .inl k_nexts))]) (w1 := [(obT, .inr (9, [.ref tq_tape, .ref tq_said, .ref tq_inner, .ref tq_next, .ref tq_amount, .ref obK, .int t_length, .int t_wrongPlace_9])), (tq_tape, .inl (cB, 4096, .inl t_tape)), (tq_said, .inl (cB, 4096, .inl t_said)), (tq_inner, .inl (cI, 4096, .inl t_inner)), (tq_next, .inl (cI, 4096, .inl t_next)), (tq_amount, .inl (cI, 4096, .inl t_amount)), (obK, .inr (5, [.ref kq_heads, .ref kq_places, .ref kq_owners, .ref kq_nexts, .int k_count])), (kq_heads, .inl (cI, 256, .inl k_heads)), (kq_places, .inl (cI, 1024, .inl k_places)), (kq_owners, .inl (cI, 1024, .inl k_owners)), (kq_nexts, .inl (cI, 1024, .inl k_nexts))]) [0] [1, 2, 3, 4, 5, 6, 7, 8, 9, 10] [10, 0, 1, 2, 3, 4, 5, 6, 7, 8, 9] rfl rfl rfl rfl rfl (by decide) rfl rfl rfl (va_recv hK hP (ci := 9) (q0 := 0) rfl rfl) rfl rfl hl.1 (Nat.le_of_ble_eq_true rfl) dX7_readGroup_221 ⟨Nat.zero_le _, Nat.zero_le _⟩ (fun H locs hP hD hS => ?_)
              obtain rfl := Option.some.inj hm
              subst hQ0
              exact W.iret (v := r9) hx hb hr (fun t ht hW => ⟨⟨r9, (t_said, t_inner, t_next, t_amount, t_wrongPlace_9, k_heads, k_places, k_owners, k_nexts, k_count), rfl, ⟨rfl, rfl⟩, by rw [ht]; exact hP, va_K.moved hW.alike hK, hD⟩, hS.F ht⟩) hS.2.2 dX7_readGroup_224
            · have hm := mr_un c8 hm
              refine lv_aload_n hx hb dX7_readGroup_85 rfl (lv_at hl 0 rfl) ?_
              refine lv_iload_n hx hb dX7_readGroup_86 rfl (lv_at hl 1 rfl) ?_
              obtain ⟨r10, hz10, hm⟩ := mr_bind hm
              refine mr_pV (As := [.int x1]) (rest := []) (sr_okZ adK adV) ⟨hx, hb, hml, hown, hts⟩ (kX7_isObject l htr dC dI adK adV cI cB cJ cZ cQ obT tq_tape tq_said tq_inner tq_next tq_amount obK t_length t_wrongPlace t_tape x1 r10 hz10) (cwV 1 hts (g7_122 _) rfl rfl rfl (by decide +kernel) ⟨(by show 1 + 1 ≤ 2 * d + 6; omega), (by show 8 + (2 + 11) + (21) ≤ 51 * d + 130; omega)⟩) hS hP hK hz0 [0, 1] rfl (va_recv hK hP (ci := 9) (q0 := 0) rfl rfl) rfl rfl hl.1 (Nat.le_of_ble_eq_true rfl) dX7_readGroup_87 ⟨Nat.zero_le _, Nat.zero_le _⟩ ?_
              have j105 : ∀ (t_said : Nat → Int32) (t_inner : Nat → Int32) (t_next : Nat → Int32) (t_amount : Nat → Int32) (t_wrongPlace : Int32) (k_heads : Nat → Int32) (k_places : Nat → Int32) (k_owners : Nat → Int32) (k_nexts : Nat → Int32) (k_count : Int32) (x1 : Int32) (x2 : Int32) (x3 : Int32) (x4 : Int32) (x5 : Int32) (x6 : Int32) (y0 : Int32) (H : Heap) (locs : List Loc) (ls : Array Slot), va_P (dC, dI) srCl [(obT, .inr (9, [.ref tq_tape, .ref tq_said, .ref tq_inner, .ref tq_next, .ref tq_amount, .ref obK, .int t_length, .int t_wrongPlace])), (tq_tape, .inl (cB, 4096, .inl t_tape)), (tq_said, .inl (cB, 4096, .inl t_said)), (tq_inner, .inl (cI, 4096, .inl t_inner)), (tq_next, .inl (cI, 4096, .inl t_next)), (tq_amount, .inl (cI, 4096, .inl t_amount)), (obK, .inr (5, [.ref kq_heads, .ref kq_places, .ref kq_owners, .ref kq_nexts, .int k_count])), (kq_heads, .inl (cI, 256, .inl k_heads)), (kq_places, .inl (cI, 1024, .inl k_places)), (kq_owners, .inl (cI, 1024, .inl k_owners)), (kq_nexts, .inl (cI, 1024, .inl k_nexts))] H → va_D A [(obT, .inr (9, [.ref tq_tape, .ref tq_said, .ref tq_inner, .ref tq_next, .ref tq_amount, .ref obK, .int t_length, .int t_wrongPlace])), (tq_tape, .inl (cB, 4096, .inl t_tape)), (tq_said, .inl (cB, 4096, .inl t_said)), (tq_inner, .inl (cI, 4096, .inl t_inner)), (tq_next, .inl (cI, 4096, .inl t_next)), (tq_amount, .inl (cI, 4096, .inl t_amount)), (obK, .inr (5, [.ref kq_heads, .ref kq_places, .ref kq_owners, .ref kq_nexts, .int k_count])), (kq_heads, .inl (cI, 256, .inl k_heads)), (kq_places, .inl (cI, 1024, .inl k_places)), (kq_owners, .inl (cI, 1024, .inl k_owners)), (kq_nexts, .inl (cI, 1024, .inl k_nexts))] → va_S A s.heap H locs → lv_has ls 10 [(0, .ref obT), (1, .int x1), (2, .int x2), (3, .int x3), (4, .int x4), (5, .int x5), (6, .int x6)] → m_X7_readGroup_105 f_readValue t_tape t_length (m_X7_readGroup_76 f_readValue t_tape t_length n76) t_said t_inner t_next t_amount t_wrongPlace k_heads k_places k_owners k_nexts k_count x1 x2 x3 x4 x5 x6 y0 = some res → W p l e (headSpec wsX7_readGroup (rmX7_readGroup d 0 0)).room s m [.ref obT, .int a0, .int a1].toArray below meth c H locs 0 0 Q0 (F0 m 105 ls [.int y0]) := by
                intro t_said t_inner t_next t_amount t_wrongPlace k_heads k_places k_owners k_nexts k_count x1 x2 x3 x4 x5 x6 y0 H locs ls hP hD hS hl hm
                unfold m_X7_readGroup_105 at hm
                refine lv_istore (lv' := [(7, .int y0), (0, .ref obT), (1, .int x1), (2, .int x2), (3, .int x3), (4, .int x4), (5, .int x5), (6, .int x6)]) hx hb dX7_readGroup_105 hl (by decide) rfl (fun ls hl => ?_)
                refine lv_iload hx hb dX7_readGroup_107 (lv_at hl 0 rfl) ?_
                refine lv_iconst (v := -1) hx hb dX7_readGroup_109 (by decide) ?_
                have j126 : ∀ (t_said : Nat → Int32) (t_inner : Nat → Int32) (t_next : Nat → Int32) (t_amount : Nat → Int32) (t_wrongPlace : Int32) (k_heads : Nat → Int32) (k_places : Nat → Int32) (k_owners : Nat → Int32) (k_nexts : Nat → Int32) (k_count : Int32) (x1 : Int32) (x2 : Int32) (x3 : Int32) (x4 : Int32) (x5 : Int32) (x6 : Int32) (y0 : Int32) (H : Heap) (locs : List Loc) (ls : Array Slot), va_P (dC, dI) srCl [(obT, .inr (9, [.ref tq_tape, .ref tq_said, .ref tq_inner, .ref tq_next, .ref tq_amount, .ref obK, .int t_length, .int t_wrongPlace])), (tq_tape, .inl (cB, 4096, .inl t_tape)), (tq_said, .inl (cB, 4096, .inl t_said)), (tq_inner, .inl (cI, 4096, .inl t_inner)), (tq_next, .inl (cI, 4096, .inl t_next)), (tq_amount, .inl (cI, 4096, .inl t_amount)), (obK, .inr (5, [.ref kq_heads, .ref kq_places, .ref kq_owners, .ref kq_nexts, .int k_count])), (kq_heads, .inl (cI, 256, .inl k_heads)), (kq_places, .inl (cI, 1024, .inl k_places)), (kq_owners, .inl (cI, 1024, .inl k_owners)), (kq_nexts, .inl (cI, 1024, .inl k_nexts))] H → va_D A [(obT, .inr (9, [.ref tq_tape, .ref tq_said, .ref tq_inner, .ref tq_next, .ref tq_amount, .ref obK, .int t_length, .int t_wrongPlace])), (tq_tape, .inl (cB, 4096, .inl t_tape)), (tq_said, .inl (cB, 4096, .inl t_said)), (tq_inner, .inl (cI, 4096, .inl t_inner)), (tq_next, .inl (cI, 4096, .inl t_next)), (tq_amount, .inl (cI, 4096, .inl t_amount)), (obK, .inr (5, [.ref kq_heads, .ref kq_places, .ref kq_owners, .ref kq_nexts, .int k_count])), (kq_heads, .inl (cI, 256, .inl k_heads)), (kq_places, .inl (cI, 1024, .inl k_places)), (kq_owners, .inl (cI, 1024, .inl k_owners)), (kq_nexts, .inl (cI, 1024, .inl k_nexts))] → va_S A s.heap H locs → lv_has ls 10 [(0, .ref obT), (1, .int x1), (2, .int x2), (3, .int x3), (4, .int x4), (5, .int x5), (6, .int x6)] → m_X7_readGroup_126 f_readValue t_tape t_length (m_X7_readGroup_76 f_readValue t_tape t_length n76) t_said t_inner t_next t_amount t_wrongPlace k_heads k_places k_owners k_nexts k_count x1 x2 x3 x4 x5 x6 y0 = some res → W p l e (headSpec wsX7_readGroup (rmX7_readGroup d 0 0)).room s m [.ref obT, .int a0, .int a1].toArray below meth c H locs 0 0 Q0 (F0 m 126 ls [.int y0]) := by
                  intro t_said t_inner t_next t_amount t_wrongPlace k_heads k_places k_owners k_nexts k_count x1 x2 x3 x4 x5 x6 y0 H locs ls hP hD hS hl hm
                  unfold m_X7_readGroup_126 at hm
                  refine lv_istore (lv' := [(8, .int y0), (0, .ref obT), (1, .int x1), (2, .int x2), (3, .int x3), (4, .int x4), (5, .int x5), (6, .int x6)]) hx hb dX7_readGroup_126 hl (by decide) rfl (fun ls hl => ?_)
                  refine lv_iload hx hb dX7_readGroup_128 (lv_at hl 0 rfl) ?_
                  refine lv_iconst (v := -1) hx hb dX7_readGroup_130 (by decide) ?_
                  refine lv_icmp_ne (tgt := 136) hx hb dX7_readGroup_131 (by decide) (fun c11 => ?_) (fun c11 => ?_)
                  · have hm := mr_un c11 hm
                    refine lv_aload_n hx hb dX7_readGroup_136 rfl (lv_at hl 1 rfl) ?_
                    refine lv_iload_n hx hb dX7_readGroup_137 rfl (lv_at hl 2 rfl) ?_
                    refine lv_iload hx hb dX7_readGroup_138 (lv_at hl 6 rfl) ?_
                    refine lv_iload hx hb dX7_readGroup_140 (lv_at hl 5 rfl) ?_
                    obtain ⟨⟨t_inner_12, t_next_12⟩, hz12, hm⟩ := mr_bind hm
                    try dsimp only at hm
                    refine mr_wVv (As := [.int x1, .int x5, .int x4]) (rest := []) (sr_okZ adK adV) ⟨hx, hb, hml, hown, hts⟩ (kX7_join l htr dC dI adK adV cI cB cJ cZ cQ obT tq_tape tq_said tq_inner tq_next tq_amount obK t_length t_wrongPlace t_inner t_next _ x1 x5 x4 _ hz12) (cwV 3 hts (g7_132 _) rfl rfl rfl (by decide +kernel) ⟨(by show 1 + 1 ≤ 2 * d + 6; omega), (by show 8 + (4 + 11) + (22) ≤ 51 * d + 130; omega)⟩) hS hA hP hD hK hz0 (wr := [(tq_tape, .inl (cB, 4096, .inl t_tape)), (tq_said, .inl (cB, 4096, .inl t_said)), (tq_amount, .inl (cI, 4096, .inl t_amount)), (obK, .inr (5, [.ref kq_heads, .ref kq_places, .ref kq_owners, .ref kq_nexts, .int k_count])), (kq_heads, .inl (cI, 256, .inl k_heads)), (kq_places, .inl (cI, 1024, .inl k_places)), (kq_owners, .inl (cI, 1024, .inl k_owners)), (kq_nexts, .inl (cI, 1024, .inl k_nexts))]) (w1 := [(obT, .inr (9, [.ref tq_tape, .ref tq_said, .ref tq_inner, .ref tq_next, .ref tq_amount, .ref obK, .int t_length, .int t_wrongPlace])), (tq_tape, .inl (cB, 4096, .inl t_tape)), (tq_said, .inl (cB, 4096, .inl t_said)), (tq_inner, .inl (cI, 4096, .inl t_inner_12)), (tq_next, .inl (cI, 4096, .inl t_next_12)), (tq_amount, .inl (cI, 4096, .inl t_amount)), (obK, .inr (5, [.ref kq_heads, .ref kq_places, .ref kq_owners, .ref kq_nexts, .int k_count])), (kq_heads, .inl (cI, 256, .inl k_heads)), (kq_places, .inl (cI, 1024, .inl k_places)), (kq_owners, .inl (cI, 1024, .inl k_owners)), (kq_nexts, .inl (cI, 1024, .inl k_nexts))]) [0, 3, 4] [1, 2, 5, 6, 7, 8, 9, 10] [8, 0, 1, 9, 10, 2, 3, 4, 5, 6, 7] rfl rfl rfl rfl rfl (by decide) rfl rfl rfl (va_recv hK hP (ci := 9) (q0 := 0) rfl rfl) rfl rfl hl.1 (Nat.le_of_ble_eq_true rfl) dX7_readGroup_142 ⟨Nat.zero_le _, Nat.zero_le _⟩ (fun H locs hP hD hS => ?_)
                    refine lv_aload_n hx hb dX7_readGroup_145 rfl (lv_at hl 1 rfl) ?_
                    refine va_get (D := (dC, dI)) (ci := 9) (v := .ref tq_amount) (C := RX7) (T := TX7) (N := 8) hx hb hts (inX7 _) hown hK hP 0 rfl rfl 4 (by decide) (hts _ (List.mem_cons_of_mem _ wf7_25)) (fun _ h9 => h9) rfl dX7_readGroup_146 ?_
                    refine lv_iload_n hx hb dX7_readGroup_149 rfl (lv_at hl 2 rfl) ?_
                    refine lv_iload hx hb dX7_readGroup_150 (lv_at hl 7 rfl) ?_
                    obtain ⟨t_amount_13, hz13, hm⟩ := mr_bind hm
                    try dsimp only at hm
                    refine mr_wSNv (As := [.ref tq_amount, .int x1, .int x6]) (rest := []) (sr_okZ adK adV) ⟨hx, hb, hml, hown, hts⟩ (kX8_enter l htr dC dI adK adV cI cB cJ cZ cQ tq_amount t_amount _ 4096 x1 x6 _ hz13) (sr_cnS 3 hts rfl gn7_125.1 (hz0.2.2.2.2.2.2.1 _ gn7_125.2) rfl rfl (by decide +kernel) ⟨(by show 0 + 1 ≤ 2 * d + 6; omega), (by show 8 + (3 + 11) + (0) ≤ 51 * d + 130; omega)⟩) hS hA hP hD hK hz0 (wr := [(obT, .inr (9, [.ref tq_tape, .ref tq_said, .ref tq_inner, .ref tq_next, .ref tq_amount, .ref obK, .int t_length, .int t_wrongPlace])), (tq_tape, .inl (cB, 4096, .inl t_tape)), (tq_said, .inl (cB, 4096, .inl t_said)), (tq_inner, .inl (cI, 4096, .inl t_inner_12)), (tq_next, .inl (cI, 4096, .inl t_next_12)), (obK, .inr (5, [.ref kq_heads, .ref kq_places, .ref kq_owners, .ref kq_nexts, .int k_count])), (kq_heads, .inl (cI, 256, .inl k_heads)), (kq_places, .inl (cI, 1024, .inl k_places)), (kq_owners, .inl (cI, 1024, .inl k_owners)), (kq_nexts, .inl (cI, 1024, .inl k_nexts))]) (w1 := [(obT, .inr (9, [.ref tq_tape, .ref tq_said, .ref tq_inner, .ref tq_next, .ref tq_amount, .ref obK, .int t_length, .int t_wrongPlace])), (tq_tape, .inl (cB, 4096, .inl t_tape)), (tq_said, .inl (cB, 4096, .inl t_said)), (tq_inner, .inl (cI, 4096, .inl t_inner_12)), (tq_next, .inl (cI, 4096, .inl t_next_12)), (tq_amount, .inl (cI, 4096, .inl t_amount_13)), (obK, .inr (5, [.ref kq_heads, .ref kq_places, .ref kq_owners, .ref kq_nexts, .int k_count])), (kq_heads, .inl (cI, 256, .inl k_heads)), (kq_places, .inl (cI, 1024, .inl k_places)), (kq_owners, .inl (cI, 1024, .inl k_owners)), (kq_nexts, .inl (cI, 1024, .inl k_nexts))]) [5] [0, 1, 2, 3, 4, 6, 7, 8, 9, 10] [0, 1, 2, 3, 4, 10, 5, 6, 7, 8, 9] rfl rfl rfl rfl rfl (by decide) rfl rfl rfl rfl rfl hl.1 (Nat.le_of_ble_eq_true rfl) dX7_readGroup_152 ⟨Nat.zero_le _, Nat.zero_le _⟩ (fun H locs hP hD hS => ?_)
                    refine lv_aload_n hx hb dX7_readGroup_155 rfl (lv_at hl 1 rfl) ?_
                    refine lv_iload hx hb dX7_readGroup_156 (lv_at hl 0 rfl) ?_
                    obtain ⟨r14, hz14, hm⟩ := mr_bind hm
                    refine mr_pV (As := [.int y0]) (rest := []) (sr_okZ adK adV) ⟨hx, hb, hml, hown, hts⟩ (kX7_behindBlanks l htr dC dI adK adV cI cB cJ cZ cQ obT tq_tape tq_said tq_inner tq_next tq_amount obK t_length t_wrongPlace t_tape y0 r14 hz14) (cwV 1 hts (g7_87 _) rfl rfl rfl (by decide +kernel) ⟨(by show 1 + 1 ≤ 2 * d + 6; omega), (by show 8 + (3 + 11) + (21) ≤ 51 * d + 130; omega)⟩) hS hP hK hz0 [0, 1] rfl (va_recv hK hP (ci := 9) (q0 := 0) rfl rfl) rfl rfl hl.1 (Nat.le_of_ble_eq_true rfl) dX7_readGroup_158 ⟨Nat.zero_le _, Nat.zero_le _⟩ ?_
                    refine lv_istore (lv' := [(9, .int r14), (8, .int y0), (0, .ref obT), (1, .int x1), (2, .int x2), (3, .int x3), (4, .int x4), (5, .int x5), (6, .int x6)]) hx hb dX7_readGroup_161 hl (by decide) rfl (fun ls hl => ?_)
                    refine lv_aload_n hx hb dX7_readGroup_163 rfl (lv_at hl 2 rfl) ?_
                    refine lv_iload hx hb dX7_readGroup_164 (lv_at hl 0 rfl) ?_
                    obtain ⟨r15, hz15, hm⟩ := mr_bind hm
                    refine mr_pV (As := [.int r14]) (rest := []) (sr_okZ adK adV) ⟨hx, hb, hml, hown, hts⟩ (kX7_byteAt l htr dC dI adK adV cI cB cJ cZ cQ obT tq_tape tq_said tq_inner tq_next tq_amount obK t_length t_wrongPlace t_tape r14 r15 hz15) (cwV 1 hts (g7_42 _) rfl rfl rfl (by decide +kernel) ⟨(by show 0 + 1 ≤ 2 * d + 6; omega), (by show 8 + (2 + 11) + (0) ≤ 51 * d + 130; omega)⟩) hS hP hK hz0 [0, 1] rfl (va_recv hK hP (ci := 9) (q0 := 0) rfl rfl) rfl rfl hl.1 (Nat.le_of_ble_eq_true rfl) dX7_readGroup_166 ⟨Nat.zero_le _, Nat.zero_le _⟩ ?_
                    refine lv_iload_n hx hb dX7_readGroup_169 rfl (lv_at hl 5 rfl) ?_
                    refine lv_icmp_ne (tgt := 178) hx hb dX7_readGroup_170 (by decide) (fun c16 => ?_) (fun c16 => ?_)
                    · have hm := mr_un c16 hm
                      refine lv_aload_n hx hb dX7_readGroup_178 rfl (lv_at hl 2 rfl) ?_
                      refine lv_iload hx hb dX7_readGroup_179 (lv_at hl 0 rfl) ?_
                      obtain ⟨r17, hz17, hm⟩ := mr_bind hm
                      refine mr_pV (As := [.int r14]) (rest := []) (sr_okZ adK adV) ⟨hx, hb, hml, hown, hts⟩ (kX7_byteAt l htr dC dI adK adV cI cB cJ cZ cQ obT tq_tape tq_said tq_inner tq_next tq_amount obK t_length t_wrongPlace t_tape r14 r17 hz17) (cwV 1 hts (g7_42 _) rfl rfl rfl (by decide +kernel) ⟨(by show 0 + 1 ≤ 2 * d + 6; omega), (by show 8 + (2 + 11) + (0) ≤ 51 * d + 130; omega)⟩) hS hP hK hz0 [0, 1] rfl (va_recv hK hP (ci := 9) (q0 := 0) rfl rfl) rfl rfl hl.1 (Nat.le_of_ble_eq_true rfl) dX7_readGroup_181 ⟨Nat.zero_le _, Nat.zero_le _⟩ ?_
                      refine lv_bipush (v := 44) hx hb dX7_readGroup_184 (by decide) ?_
                      refine lv_icmp_eq (tgt := 196) hx hb dX7_readGroup_186 (by decide) (fun c18 => ?_) (fun c18 => ?_)
                      · have hm := mr_if c18 hm
                        refine lv_iload hx hb dX7_readGroup_196 (lv_at hl 6 rfl) ?_
                        refine lv_istore (lv' := [(5, .int x4), (9, .int r14), (8, .int y0), (0, .ref obT), (1, .int x1), (2, .int x2), (3, .int x3), (4, .int x4), (6, .int x6)]) hx hb dX7_readGroup_198 hl (by decide) rfl (fun ls hl => ?_)
                        refine lv_aload_n hx hb dX7_readGroup_200 rfl (lv_at hl 3 rfl) ?_
                        refine lv_iload hx hb dX7_readGroup_201 (lv_at hl 1 rfl) ?_
                        refine lv_iconst (v := 1) hx hb dX7_readGroup_203 (by decide) ?_
                        refine lv_iadd hx hb dX7_readGroup_204 ?_
                        obtain ⟨r19, hz19, hm⟩ := mr_bind hm
                        refine mr_pV (As := [.int (r14 + 1)]) (rest := []) (sr_okZ adK adV) ⟨hx, hb, hml, hown, hts⟩ (kX7_behindBlanks l htr dC dI adK adV cI cB cJ cZ cQ obT tq_tape tq_said tq_inner tq_next tq_amount obK t_length t_wrongPlace t_tape (r14 + 1) r19 hz19) (cwV 1 hts (g7_87 _) rfl rfl rfl (by decide +kernel) ⟨(by show 1 + 1 ≤ 2 * d + 6; omega), (by show 8 + (3 + 11) + (21) ≤ 51 * d + 130; omega)⟩) hS hP hK hz0 [0, 1] rfl (va_recv hK hP (ci := 9) (q0 := 0) rfl rfl) rfl rfl hl.1 (Nat.le_of_ble_eq_true rfl) dX7_readGroup_205 ⟨Nat.zero_le _, Nat.zero_le _⟩ ?_
                        refine lv_istore (lv' := [(4, .int r19), (5, .int x4), (9, .int r14), (8, .int y0), (0, .ref obT), (1, .int x1), (2, .int x2), (3, .int x3), (6, .int x6)]) hx hb dX7_readGroup_208 hl (by decide) rfl (fun ls hl => ?_)
                        refine lv_iinc (v := x6 + 1) (lv' := [(6, .int (x6 + 1)), (4, .int r19), (5, .int x4), (9, .int r14), (8, .int y0), (0, .ref obT), (1, .int x1), (2, .int x2), (3, .int x3)]) hx hb dX7_readGroup_210 hl (k := 8) rfl rfl (by decide) rfl (fun ls hl => ?_)
                        refine lv_goto (tgt := 76) hx hb dX7_readGroup_213 (by decide) ?_
                        exact ih76 t_said t_inner_12 t_next_12 t_amount_13 t_wrongPlace k_heads k_places k_owners k_nexts k_count x1 x2 x3 r19 x4 (x6 + 1) _ _ ls hP hD hS (lv_sub hl [5, 6, 7, 8, 1, 2, 0] rfl) hm
                      · have hm := mr_un c18 hm
                        refine lv_aload_n hx hb dX7_readGroup_189 rfl (lv_at hl 2 rfl) ?_
                        refine lv_iload hx hb dX7_readGroup_190 (lv_at hl 0 rfl) ?_
                        obtain ⟨⟨r20, t_wrongPlace_20⟩, hz20, hm⟩ := mr_bind hm
                        try dsimp only at hm
                        refine mr_wVi (As := [.int r14]) (rest := []) (sr_okZ adK adV) ⟨hx, hb, hml, hown, hts⟩ (kX7_refuse l htr dC dI adK adV cI cB cJ cZ cQ obT tq_tape tq_said tq_inner tq_next tq_amount obK t_length t_wrongPlace _ r14 _ hz20) (cwV 1 hts (g7_94 _) rfl rfl rfl (by decide +kernel) ⟨(by show 0 + 1 ≤ 2 * d + 6; omega), (by show 8 + (2 + 11) + (0) ≤ 51 * d + 130; omega)⟩) hS hA hP hD hK hz0 (wr := [(tq_tape, .inl (cB, 4096, .inl t_tape)), (tq_said, .inl (cB, 4096, .inl t_said)), (tq_inner, .inl (cI, 4096, .inl t_inner_12)), (tq_next, .inl (cI, 4096, .inl t_next_12)), (tq_amount, .inl (cI, 4096, .inl t_amount_13)), (obK, .inr (5, [.ref kq_heads, .ref kq_places, .ref kq_owners, .ref kq_nexts, .int k_count])), (kq_heads, .inl (cI, 256, .inl k_heads)), (kq_places, .inl (cI, 1024, .inl k_places)), (kq_owners, .inl (cI, 1024, .inl k_owners)), (kq_nexts, .inl (cI, 1024, .inl k_nexts))]) (w1 := [(obT, .inr (9, [.ref tq_tape, .ref tq_said, .ref tq_inner, .ref tq_next, .ref tq_amount, .ref obK, .int t_length, .int t_wrongPlace_20])), (tq_tape, .inl (cB, 4096, .inl t_tape)), (tq_said, .inl (cB, 4096, .inl t_said)), (tq_inner, .inl (cI, 4096, .inl t_inner_12)), (tq_next, .inl (cI, 4096, .inl t_next_12)), (tq_amount, .inl (cI, 4096, .inl t_amount_13)), (obK, .inr (5, [.ref kq_heads, .ref kq_places, .ref kq_owners, .ref kq_nexts, .int k_count])), (kq_heads, .inl (cI, 256, .inl k_heads)), (kq_places, .inl (cI, 1024, .inl k_places)), (kq_owners, .inl (cI, 1024, .inl k_owners)), (kq_nexts, .inl (cI, 1024, .inl k_nexts))]) [0] [1, 2, 3, 4, 5, 6, 7, 8, 9, 10] [10, 0, 1, 2, 3, 4, 5, 6, 7, 8, 9] rfl rfl rfl rfl rfl (by decide) rfl rfl rfl (va_recv hK hP (ci := 9) (q0 := 0) rfl rfl) rfl rfl hl.1 (Nat.le_of_ble_eq_true rfl) dX7_readGroup_192 ⟨Nat.zero_le _, Nat.zero_le _⟩ (fun H locs hP hD hS => ?_)
                        obtain rfl := Option.some.inj hm
                        subst hQ0
                        exact W.iret (v := r20) hx hb hr (fun t ht hW => ⟨⟨r20, (t_said, t_inner_12, t_next_12, t_amount_13, t_wrongPlace_20, k_heads, k_places, k_owners, k_nexts, k_count), rfl, ⟨rfl, rfl⟩, by rw [ht]; exact hP, va_K.moved hW.alike hK, hD⟩, hS.F ht⟩) hS.2.2 dX7_readGroup_195
                    · have hm := mr_if c16 hm
                      refine lv_iload hx hb dX7_readGroup_173 (lv_at hl 0 rfl) ?_
                      refine lv_iconst (v := 1) hx hb dX7_readGroup_175 (by decide) ?_
                      refine lv_iadd hx hb dX7_readGroup_176 ?_
                      obtain rfl := Option.some.inj hm
                      subst hQ0
                      exact W.iret (v := (r14 + 1)) hx hb hr (fun t ht hW => ⟨⟨(r14 + 1), (t_said, t_inner_12, t_next_12, t_amount_13, t_wrongPlace, k_heads, k_places, k_owners, k_nexts, k_count), rfl, ⟨rfl, rfl⟩, by rw [ht]; exact hP, va_K.moved hW.alike hK, hD⟩, hS.F ht⟩) hS.2.2 dX7_readGroup_177
                  · have hm := mr_if c11 hm
                    refine lv_iconst (v := -1) hx hb dX7_readGroup_134 (by decide) ?_
                    obtain rfl := Option.some.inj hm
                    subst hQ0
                    exact W.iret (v := (-1)) hx hb hr (fun t ht hW => ⟨⟨(-1), (t_said, t_inner, t_next, t_amount, t_wrongPlace, k_heads, k_places, k_owners, k_nexts, k_count), rfl, ⟨rfl, rfl⟩, by rw [ht]; exact hP, va_K.moved hW.alike hK, hD⟩, hS.F ht⟩) hS.2.2 dX7_readGroup_135
                refine lv_icmp_ne (tgt := 117) hx hb dX7_readGroup_110 (by decide) (fun c21 => ?_) (fun c21 => ?_)
                · have hm := mr_un c21 hm
                  refine lv_aload_n hx hb dX7_readGroup_117 rfl (lv_at hl 1 rfl) ?_
                  refine lv_iload hx hb dX7_readGroup_118 (lv_at hl 0 rfl) ?_
                  refine lv_iload_n hx hb dX7_readGroup_120 rfl (lv_at hl 3 rfl) ?_
                  refine lv_iconst (v := 1) hx hb dX7_readGroup_121 (by decide) ?_
                  refine lv_iadd hx hb dX7_readGroup_122 ?_
                  obtain ⟨⟨r22, t_said_22, t_inner_22, t_next_22, t_amount_22, t_wrongPlace_22, k_heads_22, k_places_22, k_owners_22, k_nexts_22, k_count_22⟩, hz22, hm⟩ := mr_bind hm
                  try dsimp only at hm
                  refine mr_wVi (As := [.int y0, .int (x2 + 1)]) (rest := []) (sr_okZ adK adV) ⟨hx, hb, hml, hown, hts⟩ (hrec t_length t_wrongPlace k_count t_tape t_said t_inner t_next t_amount k_heads k_places k_owners k_nexts _ y0 (x2 + 1) _ hz22) (cwV 2 hts (g7_90 _) rfl rfl rfl (by decide +kernel) ⟨(by show 2 * d + 5 + 1 ≤ 2 * d + 6; omega), (by show 8 + (3 + 11) + (51 * d + 108) ≤ 51 * d + 130; omega)⟩) hS hA hP hD hK hz0 (wr := []) (w1 := [(obT, .inr (9, [.ref tq_tape, .ref tq_said, .ref tq_inner, .ref tq_next, .ref tq_amount, .ref obK, .int t_length, .int t_wrongPlace_22])), (tq_tape, .inl (cB, 4096, .inl t_tape)), (tq_said, .inl (cB, 4096, .inl t_said_22)), (tq_inner, .inl (cI, 4096, .inl t_inner_22)), (tq_next, .inl (cI, 4096, .inl t_next_22)), (tq_amount, .inl (cI, 4096, .inl t_amount_22)), (obK, .inr (5, [.ref kq_heads, .ref kq_places, .ref kq_owners, .ref kq_nexts, .int k_count_22])), (kq_heads, .inl (cI, 256, .inl k_heads_22)), (kq_places, .inl (cI, 1024, .inl k_places_22)), (kq_owners, .inl (cI, 1024, .inl k_owners_22)), (kq_nexts, .inl (cI, 1024, .inl k_nexts_22))]) [0, 1, 2, 3, 4, 5, 6, 7, 8, 9, 10] [] [0, 1, 2, 3, 4, 5, 6, 7, 8, 9, 10] rfl rfl rfl rfl rfl (by decide) rfl rfl rfl (va_recv hK hP (ci := 9) (q0 := 0) rfl rfl) rfl rfl hl.1 (Nat.le_of_ble_eq_true rfl) dX7_readGroup_123 ⟨Nat.zero_le _, Nat.zero_le _⟩ (fun H locs hP hD hS => ?_)
                  exact j126 t_said_22 t_inner_22 t_next_22 t_amount_22 t_wrongPlace_22 k_heads_22 k_places_22 k_owners_22 k_nexts_22 k_count_22 x1 x2 x3 x4 x5 x6 r22 _ _ ls hP hD hS (lv_sub hl [1, 2, 3, 4, 5, 6, 7] rfl) hm
                · have hm := mr_if c21 hm
                  refine lv_iconst (v := -1) hx hb dX7_readGroup_113 (by decide) ?_
                  refine lv_goto (tgt := 126) hx hb dX7_readGroup_114 (by decide) ?_
                  exact j126 t_said t_inner t_next t_amount t_wrongPlace k_heads k_places k_owners k_nexts k_count x1 x2 x3 x4 x5 x6 (-1) _ _ ls hP hD hS (lv_sub hl [1, 2, 3, 4, 5, 6, 7] rfl) hm
              refine lv_if_eq (tgt := 103) hx hb dX7_readGroup_90 (by decide) (fun c23 => ?_) (fun c23 => ?_)
              · have hm := mr_if c23 hm
                refine lv_iload hx hb dX7_readGroup_103 (lv_at hl 4 rfl) ?_
                exact j105 t_said t_inner t_next t_amount t_wrongPlace k_heads k_places k_owners k_nexts k_count x1 x2 x3 x4 x5 x6 x4 _ _ ls hP hD hS (lv_sub hl [0, 1, 2, 3, 4, 5, 6] rfl) hm
              · have hm := mr_un c23 hm
                refine lv_aload_n hx hb dX7_readGroup_93 rfl (lv_at hl 0 rfl) ?_
                refine lv_iload_n hx hb dX7_readGroup_94 rfl (lv_at hl 1 rfl) ?_
                refine lv_iload hx hb dX7_readGroup_95 (lv_at hl 4 rfl) ?_
                obtain ⟨⟨r24, t_said_24, t_inner_24, t_amount_24, t_wrongPlace_24, k_heads_24, k_places_24, k_owners_24, k_nexts_24, k_count_24⟩, hz24, hm⟩ := mr_bind hm
                try dsimp only at hm
                refine mr_wVi (As := [.int x1, .int x4]) (rest := []) (sr_okZ adK adV) ⟨hx, hb, hml, hown, hts⟩ (kX7_readKey l htr dC dI adK adV cI cB cJ cZ cQ obT tq_tape tq_said tq_inner tq_next tq_amount obK kq_heads kq_places kq_owners kq_nexts t_length t_wrongPlace k_count t_tape t_said t_inner t_amount k_heads k_places k_owners k_nexts _ x1 x4 _ hz24) (cwV 2 hts (g7_129 _) rfl rfl rfl (by decide +kernel) ⟨(by show 3 + 1 ≤ 2 * d + 6; omega), (by show 8 + (6 + 11) + (71) ≤ 51 * d + 130; omega)⟩) hS hA hP hD hK hz0 (wr := [(tq_next, .inl (cI, 4096, .inl t_next))]) (w1 := [(obT, .inr (9, [.ref tq_tape, .ref tq_said, .ref tq_inner, .ref tq_next, .ref tq_amount, .ref obK, .int t_length, .int t_wrongPlace_24])), (tq_tape, .inl (cB, 4096, .inl t_tape)), (tq_said, .inl (cB, 4096, .inl t_said_24)), (tq_inner, .inl (cI, 4096, .inl t_inner_24)), (tq_next, .inl (cI, 4096, .inl t_next)), (tq_amount, .inl (cI, 4096, .inl t_amount_24)), (obK, .inr (5, [.ref kq_heads, .ref kq_places, .ref kq_owners, .ref kq_nexts, .int k_count_24])), (kq_heads, .inl (cI, 256, .inl k_heads_24)), (kq_places, .inl (cI, 1024, .inl k_places_24)), (kq_owners, .inl (cI, 1024, .inl k_owners_24)), (kq_nexts, .inl (cI, 1024, .inl k_nexts_24))]) [0, 1, 2, 3, 5, 6, 7, 8, 9, 10] [4] [1, 2, 3, 4, 0, 5, 6, 7, 8, 9, 10] rfl rfl rfl rfl rfl (by decide) rfl rfl rfl (va_recv hK hP (ci := 9) (q0 := 0) rfl rfl) rfl rfl hl.1 (Nat.le_of_ble_eq_true rfl) dX7_readGroup_97 ⟨Nat.zero_le _, Nat.zero_le _⟩ (fun H locs hP hD hS => ?_)
                refine lv_goto (tgt := 105) hx hb dX7_readGroup_100 (by decide) ?_
                exact j105 t_said_24 t_inner_24 t_next t_amount_24 t_wrongPlace_24 k_heads_24 k_places_24 k_owners_24 k_nexts_24 k_count_24 x1 x2 x3 x4 x5 x6 r24 _ _ ls hP hD hS (lv_sub hl [0, 1, 2, 3, 4, 5, 6] rfl) hm
        refine lv_istore (lv' := [(6, .int 1), (5, .int (-1)), (4, .int r5), (3, .int y0), (0, .ref obT), (1, .int x1), (2, .int x2)]) hx hb dX7_readGroup_74 hl (by decide) rfl (fun ls hl => ?_)
        exact j76 sr_fuel t_said t_inner_4 t_next t_amount_3 t_wrongPlace k_heads k_places k_owners k_nexts k_count x1 x2 y0 r5 (-1) 1 _ _ ls hP hD hS (lv_sub hl [4, 5, 6, 3, 2, 1, 0] rfl) hm
      · have hm := mr_if c7 hm
        refine lv_iload hx hb dX7_readGroup_65 (lv_at hl 0 rfl) ?_
        refine lv_iconst (v := 1) hx hb dX7_readGroup_67 (by decide) ?_
        refine lv_iadd hx hb dX7_readGroup_68 ?_
        obtain rfl := Option.some.inj hm
        subst hQ0
        exact W.iret (v := (r5 + 1)) hx hb hr (fun t ht hW => ⟨⟨(r5 + 1), (t_said, t_inner_4, t_next, t_amount_3, t_wrongPlace, k_heads, k_places, k_owners, k_nexts, k_count), rfl, ⟨rfl, rfl⟩, by rw [ht]; exact hP, va_K.moved hW.alike hK, hD⟩, hS.F ht⟩) hS.2.2 dX7_readGroup_69
    refine lv_if_eq (tgt := 25) hx hb dX7_readGroup_17 (by decide) (fun c25 => ?_) (fun c25 => ?_)
    · have hm := mr_if c25 hm
      refine lv_bipush (v := 93) hx hb dX7_readGroup_25 (by decide) ?_
      exact j27 t_said t_inner t_next t_amount t_wrongPlace k_heads k_places k_owners k_nexts k_count a0 a1 93 _ _ ls hP hD hS (lv_sub hl [0, 1, 2] rfl) hm
    · have hm := mr_un c25 hm
      refine lv_bipush (v := 125) hx hb dX7_readGroup_20 (by decide) ?_
      refine lv_goto (tgt := 27) hx hb dX7_readGroup_22 (by decide) ?_
      exact j27 t_said t_inner t_next t_amount t_wrongPlace k_heads k_places k_owners k_nexts k_count a0 a1 125 _ _ ls hP hD hS (lv_sub hl [0, 1, 2] rfl) hm
  · have hm := mr_un c1 hm
    refine lv_aload_n hx hb dX7_readGroup_6 rfl (lv_at hl 0 rfl) ?_
    refine lv_iload_n hx hb dX7_readGroup_7 rfl (lv_at hl 1 rfl) ?_
    obtain ⟨⟨r26, t_wrongPlace_26⟩, hz26, hm⟩ := mr_bind hm
    try dsimp only at hm
    refine mr_wVi (As := [.int a0]) (rest := []) (sr_okZ adK adV) ⟨hx, hb, hml, hown, hts⟩ (kX7_refuse l htr dC dI adK adV cI cB cJ cZ cQ obT tq_tape tq_said tq_inner tq_next tq_amount obK t_length t_wrongPlace _ a0 _ hz26) (cwV 1 hts (g7_94 _) rfl rfl rfl (by decide +kernel) ⟨(by show 0 + 1 ≤ 2 * d + 6; omega), (by show 8 + (2 + 11) + (0) ≤ 51 * d + 130; omega)⟩) hS hA hP hD hK hz0 (wr := [(tq_tape, .inl (cB, 4096, .inl t_tape)), (tq_said, .inl (cB, 4096, .inl t_said)), (tq_inner, .inl (cI, 4096, .inl t_inner)), (tq_next, .inl (cI, 4096, .inl t_next)), (tq_amount, .inl (cI, 4096, .inl t_amount)), (obK, .inr (5, [.ref kq_heads, .ref kq_places, .ref kq_owners, .ref kq_nexts, .int k_count])), (kq_heads, .inl (cI, 256, .inl k_heads)), (kq_places, .inl (cI, 1024, .inl k_places)), (kq_owners, .inl (cI, 1024, .inl k_owners)), (kq_nexts, .inl (cI, 1024, .inl k_nexts))]) (w1 := [(obT, .inr (9, [.ref tq_tape, .ref tq_said, .ref tq_inner, .ref tq_next, .ref tq_amount, .ref obK, .int t_length, .int t_wrongPlace_26])), (tq_tape, .inl (cB, 4096, .inl t_tape)), (tq_said, .inl (cB, 4096, .inl t_said)), (tq_inner, .inl (cI, 4096, .inl t_inner)), (tq_next, .inl (cI, 4096, .inl t_next)), (tq_amount, .inl (cI, 4096, .inl t_amount)), (obK, .inr (5, [.ref kq_heads, .ref kq_places, .ref kq_owners, .ref kq_nexts, .int k_count])), (kq_heads, .inl (cI, 256, .inl k_heads)), (kq_places, .inl (cI, 1024, .inl k_places)), (kq_owners, .inl (cI, 1024, .inl k_owners)), (kq_nexts, .inl (cI, 1024, .inl k_nexts))]) [0] [1, 2, 3, 4, 5, 6, 7, 8, 9, 10] [10, 0, 1, 2, 3, 4, 5, 6, 7, 8, 9] rfl rfl rfl rfl rfl (by decide) rfl rfl rfl (va_recv hK hP (ci := 9) (q0 := 0) rfl rfl) rfl rfl hl.1 (Nat.le_of_ble_eq_true rfl) dX7_readGroup_8 ⟨Nat.zero_le _, Nat.zero_le _⟩ (fun H locs hP hD hS => ?_)
    obtain rfl := Option.some.inj hm
    subst hQ0
    exact W.iret (v := r26) hx hb hr (fun t ht hW => ⟨⟨r26, (t_said, t_inner, t_next, t_amount, t_wrongPlace_26, k_heads, k_places, k_owners, k_nexts, k_count), rfl, ⟨rfl, rfl⟩, by rw [ht]; exact hP, va_K.moved hW.alike hK, hD⟩, hS.F ht⟩) hS.2.2 dX7_readGroup_11
set_option maxHeartbeats 4000000 in
set_option maxRecDepth 100000 in
theorem kX7_readValue (l : Launch) (htr : l.stackTraces = false) (dC : Nat → ClassId) (dI : Nat → Nat → Nat) (adK adV : Nat → Nat) (cI cB cJ cZ cQ : ClassId) (obT tq_tape tq_said tq_inner tq_next tq_amount obK kq_heads kq_places kq_owners kq_nexts : Nat) : ∀ (d : Nat) (t_length : Int32) (t_wrongPlace : Int32) (k_count : Int32) (t_tape : Nat → Int32) (t_said : Nat → Int32) (t_inner : Nat → Int32) (t_next : Nat → Int32) (t_amount : Nat → Int32) (k_heads : Nat → Int32) (k_places : Nat → Int32) (k_owners : Nat → Int32) (k_nexts : Nat → Int32) (sz : Nat) (a0 : Int32) (a1 : Int32) (res : Int32 × (Nat → Int32) × (Nat → Int32) × (Nat → Int32) × (Nat → Int32) × Int32 × (Nat → Int32) × (Nat → Int32) × (Nat → Int32) × (Nat → Int32) × Int32), m_X7_readValue d t_tape t_said t_inner t_next t_amount t_length t_wrongPlace k_heads k_places k_owners k_nexts k_count a0 a1 = some res → Met l yX7_readValue wsX7_readValue (rmX7_readValue d 0 0) (pcW (sr_Z adK adV) (dC, dI) srCl [(cI, .int), (cB, .byte), (cJ, .long), (cZ, .boolean), (cQ, .object "SchemaReader$Schema")] [.ref obT, .int a0, .int a1] [(obT, .inr (9, [.ref tq_tape, .ref tq_said, .ref tq_inner, .ref tq_next, .ref tq_amount, .ref obK, .int t_length, .int t_wrongPlace])), (tq_tape, .inl (cB, 4096, .inl t_tape)), (tq_said, .inl (cB, 4096, .inl t_said)), (tq_inner, .inl (cI, 4096, .inl t_inner)), (tq_next, .inl (cI, 4096, .inl t_next)), (tq_amount, .inl (cI, 4096, .inl t_amount)), (obK, .inr (5, [.ref kq_heads, .ref kq_places, .ref kq_owners, .ref kq_nexts, .int k_count])), (kq_heads, .inl (cI, 256, .inl k_heads)), (kq_places, .inl (cI, 1024, .inl k_places)), (kq_owners, .inl (cI, 1024, .inl k_owners)), (kq_nexts, .inl (cI, 1024, .inl k_nexts))] sz) (va_Qi (fun r' u' => r' = res.1 ∧ u' = res.2) (pcB (dC, dI) srCl [(cI, .int), (cB, .byte), (cJ, .long), (cZ, .boolean), (cQ, .object "SchemaReader$Schema")] (fun u : (Nat → Int32) × (Nat → Int32) × (Nat → Int32) × (Nat → Int32) × Int32 × (Nat → Int32) × (Nat → Int32) × (Nat → Int32) × (Nat → Int32) × Int32 => [(obT, .inr (9, [.ref tq_tape, .ref tq_said, .ref tq_inner, .ref tq_next, .ref tq_amount, .ref obK, .int t_length, .int u.2.2.2.2.1])), (tq_tape, .inl (cB, 4096, .inl t_tape)), (tq_said, .inl (cB, 4096, .inl u.1)), (tq_inner, .inl (cI, 4096, .inl u.2.1)), (tq_next, .inl (cI, 4096, .inl u.2.2.1)), (tq_amount, .inl (cI, 4096, .inl u.2.2.2.1)), (obK, .inr (5, [.ref kq_heads, .ref kq_places, .ref kq_owners, .ref kq_nexts, .int u.2.2.2.2.2.2.2.2.2])), (kq_heads, .inl (cI, 256, .inl u.2.2.2.2.2.1)), (kq_places, .inl (cI, 1024, .inl u.2.2.2.2.2.2.1)), (kq_owners, .inl (cI, 1024, .inl u.2.2.2.2.2.2.2.1)), (kq_nexts, .inl (cI, 1024, .inl u.2.2.2.2.2.2.2.2.1))]) (va_A [(obT, .inr (9, [.ref tq_tape, .ref tq_said, .ref tq_inner, .ref tq_next, .ref tq_amount, .ref obK, .int t_length, .int t_wrongPlace])), (tq_tape, .inl (cB, 4096, .inl t_tape)), (tq_said, .inl (cB, 4096, .inl t_said)), (tq_inner, .inl (cI, 4096, .inl t_inner)), (tq_next, .inl (cI, 4096, .inl t_next)), (tq_amount, .inl (cI, 4096, .inl t_amount)), (obK, .inr (5, [.ref kq_heads, .ref kq_places, .ref kq_owners, .ref kq_nexts, .int k_count])), (kq_heads, .inl (cI, 256, .inl k_heads)), (kq_places, .inl (cI, 1024, .inl k_places)), (kq_owners, .inl (cI, 1024, .inl k_owners)), (kq_nexts, .inl (cI, 1024, .inl k_nexts))] sz)) (va_A [(obT, .inr (9, [.ref tq_tape, .ref tq_said, .ref tq_inner, .ref tq_next, .ref tq_amount, .ref obK, .int t_length, .int t_wrongPlace])), (tq_tape, .inl (cB, 4096, .inl t_tape)), (tq_said, .inl (cB, 4096, .inl t_said)), (tq_inner, .inl (cI, 4096, .inl t_inner)), (tq_next, .inl (cI, 4096, .inl t_next)), (tq_amount, .inl (cI, 4096, .inl t_amount)), (obK, .inr (5, [.ref kq_heads, .ref kq_places, .ref kq_owners, .ref kq_nexts, .int k_count])), (kq_heads, .inl (cI, 256, .inl k_heads)), (kq_places, .inl (cI, 1024, .inl k_places)), (kq_owners, .inl (cI, 1024, .inl k_owners)), (kq_nexts, .inl (cI, 1024, .inl k_nexts))] sz)) 0 0 (va_A [(obT, .inr (9, [.ref tq_tape, .ref tq_said, .ref tq_inner, .ref tq_next, .ref tq_amount, .ref obK, .int t_length, .int t_wrongPlace])), (tq_tape, .inl (cB, 4096, .inl t_tape)), (tq_said, .inl (cB, 4096, .inl t_said)), (tq_inner, .inl (cI, 4096, .inl t_inner)), (tq_next, .inl (cI, 4096, .inl t_next)), (tq_amount, .inl (cI, 4096, .inl t_amount)), (obK, .inr (5, [.ref kq_heads, .ref kq_places, .ref kq_owners, .ref kq_nexts, .int k_count])), (kq_heads, .inl (cI, 256, .inl k_heads)), (kq_places, .inl (cI, 1024, .inl k_places)), (kq_owners, .inl (cI, 1024, .inl k_owners)), (kq_nexts, .inl (cI, 1024, .inl k_nexts))] sz) := by
  intro d
  induction d with
  | zero => intro t_length t_wrongPlace k_count t_tape t_said t_inner t_next t_amount k_heads k_places k_owners k_nexts sz a0 a1 res hm; exact nomatch (show (none : Option _) = some res from hm)
  | succ d ihd =>
    intro t_length t_wrongPlace k_count t_tape t_said t_inner t_next t_amount k_heads k_places k_owners k_nexts sz a0 a1 res hm
    refine Met.ofW (cc := cX7_readValue) (maxL := 3) (ret := (some .int)) (by decide) rfl ?_
    intro p e s m args below meth c s₁ B hml hv
    obtain ⟨rfl, hsz, hP, hK, hD0, hz0⟩ := hv
    have hx := B.exec
    have hb := B.bytes
    have hr := B.returns
    have hts := atoms_spec (ws := wsX7_readValue) B.pre
    have hown : s.vm.findClass RX7 = some m.cls := findClass_of_methodNamed B.named
    have hlocks := B.notSynchronized
    subst hsz
    have hD := hD0.self (sz := s.heap.size)
    generalize hAe : va_A [(obT, .inr (9, [.ref tq_tape, .ref tq_said, .ref tq_inner, .ref tq_next, .ref tq_amount, .ref obK, .int t_length, .int t_wrongPlace])), (tq_tape, .inl (cB, 4096, .inl t_tape)), (tq_said, .inl (cB, 4096, .inl t_said)), (tq_inner, .inl (cI, 4096, .inl t_inner)), (tq_next, .inl (cI, 4096, .inl t_next)), (tq_amount, .inl (cI, 4096, .inl t_amount)), (obK, .inr (5, [.ref kq_heads, .ref kq_places, .ref kq_owners, .ref kq_nexts, .int k_count])), (kq_heads, .inl (cI, 256, .inl k_heads)), (kq_places, .inl (cI, 1024, .inl k_places)), (kq_owners, .inl (cI, 1024, .inl k_owners)), (kq_nexts, .inl (cI, 1024, .inl k_nexts))] s.heap.size = A at hD hz0 ⊢
    have hA : ∀ q : Nat, s.heap.size ≤ q → A q := fun q h => by rw [← hAe]; exact Or.inr h
    have hS : va_S A s.heap s.heap [] := va_S.rf
    generalize hQ0 : MQ below (va_Qi (fun r' u' => r' = res.1 ∧ u' = res.2) (pcB (dC, dI) srCl [(cI, .int), (cB, .byte), (cJ, .long), (cZ, .boolean), (cQ, .object "SchemaReader$Schema")] (fun u : (Nat → Int32) × (Nat → Int32) × (Nat → Int32) × (Nat → Int32) × Int32 × (Nat → Int32) × (Nat → Int32) × (Nat → Int32) × (Nat → Int32) × Int32 => [(obT, .inr (9, [.ref tq_tape, .ref tq_said, .ref tq_inner, .ref tq_next, .ref tq_amount, .ref obK, .int t_length, .int u.2.2.2.2.1])), (tq_tape, .inl (cB, 4096, .inl t_tape)), (tq_said, .inl (cB, 4096, .inl u.1)), (tq_inner, .inl (cI, 4096, .inl u.2.1)), (tq_next, .inl (cI, 4096, .inl u.2.2.1)), (tq_amount, .inl (cI, 4096, .inl u.2.2.2.1)), (obK, .inr (5, [.ref kq_heads, .ref kq_places, .ref kq_owners, .ref kq_nexts, .int u.2.2.2.2.2.2.2.2.2])), (kq_heads, .inl (cI, 256, .inl u.2.2.2.2.2.1)), (kq_places, .inl (cI, 1024, .inl u.2.2.2.2.2.2.1)), (kq_owners, .inl (cI, 1024, .inl u.2.2.2.2.2.2.2.1)), (kq_nexts, .inl (cI, 1024, .inl u.2.2.2.2.2.2.2.2.1))]) A) A) [.ref obT, .int a0, .int a1].toArray s 0 0 A = Q0
    have hl := lv_entry [.ref obT, .int a0, .int a1] (n := 3) (Nat.le_of_ble_eq_true rfl)
    rw [lg_entry_eq]
    generalize (lg_sl [.ref obT, .int a0, .int a1] ++ List.replicate (3 - (lg_sl [.ref obT, .int a0, .int a1]).length) Slot.unset).toArray = ls at hl ⊢
    have hl : lv_has ls 3 [(0, .ref obT), (1, .int a0), (2, .int a1)] := hl
    rw [m_X7_readValue] at hm
    refine lv_aload_n hx hb dX7_readValue_0 rfl (lv_at hl 0 rfl) ?_
    refine lv_iload_n hx hb dX7_readValue_1 rfl (lv_at hl 1 rfl) ?_
    obtain ⟨r1, hz1, hm⟩ := mr_bind hm
    refine mr_pV (As := [.int a0]) (rest := []) (sr_okZ adK adV) ⟨hx, hb, hml, hown, hts⟩ (kX7_byteAt l htr dC dI adK adV cI cB cJ cZ cQ obT tq_tape tq_said tq_inner tq_next tq_amount obK t_length t_wrongPlace t_tape a0 r1 hz1) (cwV 1 hts (g7_42 _) rfl rfl rfl (by decide +kernel) ⟨(by show 0 + 1 ≤ 2 * (d + 1) + 5; omega), (by show 8 + (2 + 11) + (0) ≤ 51 * (d + 1) + 108; omega)⟩) hS hP hK hz0 [0, 1] rfl (va_recv hK hP (ci := 9) (q0 := 0) rfl rfl) rfl rfl hl.1 (Nat.le_of_ble_eq_true rfl) dX7_readValue_2 ⟨Nat.zero_le _, Nat.zero_le _⟩ ?_
    by_cases c2 : r1 = 34
    · have hm := mr_if c2 hm
      refine lv_lookup (tgt := 71) hx hb dX7_readValue_5 (by decide) (by rw [c2] <;> rfl) (by decide) ?_
      refine lv_aload_n hx hb dX7_readValue_71 rfl (lv_at hl 0 rfl) ?_
      refine lv_iload_n hx hb dX7_readValue_72 rfl (lv_at hl 1 rfl) ?_
      obtain ⟨⟨r3, t_said_3, t_amount_3, t_wrongPlace_3⟩, hz3, hm⟩ := mr_bind hm
      try dsimp only at hm
      refine mr_wVi (As := [.int a0]) (rest := []) (sr_okZ adK adV) ⟨hx, hb, hml, hown, hts⟩ (kX7_readString l htr dC dI adK adV cI cB cJ cZ cQ obT tq_tape tq_said tq_inner tq_next tq_amount obK t_length t_wrongPlace t_tape t_said t_amount _ a0 _ hz3) (cwV 1 hts (g7_103 _) rfl rfl rfl (by decide +kernel) ⟨(by show 2 + 1 ≤ 2 * (d + 1) + 5; omega), (by show 8 + (5 + 11) + (46) ≤ 51 * (d + 1) + 108; omega)⟩) hS hA hP hD hK hz0 (wr := [(tq_inner, .inl (cI, 4096, .inl t_inner)), (tq_next, .inl (cI, 4096, .inl t_next)), (obK, .inr (5, [.ref kq_heads, .ref kq_places, .ref kq_owners, .ref kq_nexts, .int k_count])), (kq_heads, .inl (cI, 256, .inl k_heads)), (kq_places, .inl (cI, 1024, .inl k_places)), (kq_owners, .inl (cI, 1024, .inl k_owners)), (kq_nexts, .inl (cI, 1024, .inl k_nexts))]) (w1 := [(obT, .inr (9, [.ref tq_tape, .ref tq_said, .ref tq_inner, .ref tq_next, .ref tq_amount, .ref obK, .int t_length, .int t_wrongPlace_3])), (tq_tape, .inl (cB, 4096, .inl t_tape)), (tq_said, .inl (cB, 4096, .inl t_said_3)), (tq_inner, .inl (cI, 4096, .inl t_inner)), (tq_next, .inl (cI, 4096, .inl t_next)), (tq_amount, .inl (cI, 4096, .inl t_amount_3)), (obK, .inr (5, [.ref kq_heads, .ref kq_places, .ref kq_owners, .ref kq_nexts, .int k_count])), (kq_heads, .inl (cI, 256, .inl k_heads)), (kq_places, .inl (cI, 1024, .inl k_places)), (kq_owners, .inl (cI, 1024, .inl k_owners)), (kq_nexts, .inl (cI, 1024, .inl k_nexts))]) [0, 1, 2, 5] [3, 4, 6, 7, 8, 9, 10] [7, 8, 9, 0, 1, 10, 2, 3, 4, 5, 6] rfl rfl rfl rfl rfl (by decide) rfl rfl rfl (va_recv hK hP (ci := 9) (q0 := 0) rfl rfl) rfl rfl hl.1 (Nat.le_of_ble_eq_true rfl) dX7_readValue_73 ⟨Nat.zero_le _, Nat.zero_le _⟩ (fun H locs hP hD hS => ?_)
      obtain rfl := Option.some.inj hm
      subst hQ0
      exact W.iret (v := r3) hx hb hr (fun t ht hW => ⟨⟨r3, (t_said_3, t_inner, t_next, t_amount_3, t_wrongPlace_3, k_heads, k_places, k_owners, k_nexts, k_count), rfl, ⟨rfl, rfl⟩, by rw [ht]; exact hP, va_K.moved hW.alike hK, hD⟩, hS.F ht⟩) hS.2.2 dX7_readValue_76
    have hm := mr_un c2 hm
    by_cases c4 : r1 = 91
    · have hm := mr_if c4 hm
      refine lv_lookup (tgt := 64) hx hb dX7_readValue_5 (by decide) (by rw [c4] <;> rfl) (by decide) ?_
      refine lv_aload_n hx hb dX7_readValue_64 rfl (lv_at hl 0 rfl) ?_
      refine lv_iload_n hx hb dX7_readValue_65 rfl (lv_at hl 1 rfl) ?_
      refine lv_iload_n hx hb dX7_readValue_66 rfl (lv_at hl 2 rfl) ?_
      obtain ⟨⟨r5, t_said_5, t_inner_5, t_next_5, t_amount_5, t_wrongPlace_5, k_heads_5, k_places_5, k_owners_5, k_nexts_5, k_count_5⟩, hz5, hm⟩ := mr_bind hm
      try dsimp only at hm
      refine mr_wVi (As := [.int a0, .int a1]) (rest := []) (sr_okZ adK adV) ⟨hx, hb, hml, hown, hts⟩ (kX7_readGroup l htr dC dI adK adV cI cB cJ cZ cQ obT tq_tape tq_said tq_inner tq_next tq_amount obK kq_heads kq_places kq_owners kq_nexts (m_X7_readValue d) d ihd t_length t_wrongPlace k_count t_tape t_said t_inner t_next t_amount k_heads k_places k_owners k_nexts _ a0 a1 _ hz5) (cwV 2 hts (g7_100 _) rfl rfl rfl (by decide +kernel) ⟨(by show 2 * d + 6 + 1 ≤ 2 * (d + 1) + 5; omega), (by show 8 + (10 + 11) + (51 * d + 130) ≤ 51 * (d + 1) + 108; omega)⟩) hS hA hP hD hK hz0 (wr := []) (w1 := [(obT, .inr (9, [.ref tq_tape, .ref tq_said, .ref tq_inner, .ref tq_next, .ref tq_amount, .ref obK, .int t_length, .int t_wrongPlace_5])), (tq_tape, .inl (cB, 4096, .inl t_tape)), (tq_said, .inl (cB, 4096, .inl t_said_5)), (tq_inner, .inl (cI, 4096, .inl t_inner_5)), (tq_next, .inl (cI, 4096, .inl t_next_5)), (tq_amount, .inl (cI, 4096, .inl t_amount_5)), (obK, .inr (5, [.ref kq_heads, .ref kq_places, .ref kq_owners, .ref kq_nexts, .int k_count_5])), (kq_heads, .inl (cI, 256, .inl k_heads_5)), (kq_places, .inl (cI, 1024, .inl k_places_5)), (kq_owners, .inl (cI, 1024, .inl k_owners_5)), (kq_nexts, .inl (cI, 1024, .inl k_nexts_5))]) [0, 1, 2, 3, 4, 5, 6, 7, 8, 9, 10] [] [0, 1, 2, 3, 4, 5, 6, 7, 8, 9, 10] rfl rfl rfl rfl rfl (by decide) rfl rfl rfl (va_recv hK hP (ci := 9) (q0 := 0) rfl rfl) rfl rfl hl.1 (Nat.le_of_ble_eq_true rfl) dX7_readValue_67 ⟨Nat.zero_le _, Nat.zero_le _⟩ (fun H locs hP hD hS => ?_)
      obtain rfl := Option.some.inj hm
      subst hQ0
      exact W.iret (v := r5) hx hb hr (fun t ht hW => ⟨⟨r5, (t_said_5, t_inner_5, t_next_5, t_amount_5, t_wrongPlace_5, k_heads_5, k_places_5, k_owners_5, k_nexts_5, k_count_5), rfl, ⟨rfl, rfl⟩, by rw [ht]; exact hP, va_K.moved hW.alike hK, hD⟩, hS.F ht⟩) hS.2.2 dX7_readValue_70
    have hm := mr_un c4 hm
    by_cases c6 : r1 = 102
    · have hm := mr_if c6 hm
      refine lv_lookup (tgt := 85) hx hb dX7_readValue_5 (by decide) (by rw [c6] <;> rfl) (by decide) ?_
      refine lv_aload_n hx hb dX7_readValue_85 rfl (lv_at hl 0 rfl) ?_
      refine lv_iload_n hx hb dX7_readValue_86 rfl (lv_at hl 1 rfl) ?_
      refine va_ldcS hx hb hown (hz0.1 1 (by decide)).2 dX7_readValue_87 ?_
      obtain ⟨⟨r7, t_wrongPlace_7⟩, hz7, hm⟩ := mr_bind hm
      try dsimp only at hm
      refine mr_wVi (As := [.int a0, .ref (adK 1)]) (rest := []) (sr_okZ adK adV) ⟨hx, hb, hml, hown, hts⟩ (kX7_readWord l htr dC dI adK adV cI cB cJ cZ cQ obT tq_tape tq_said tq_inner tq_next tq_amount obK t_length t_wrongPlace t_tape _ a0 1 _ hz7) (cwV 2 hts (g7_108 _) rfl rfl rfl (by decide +kernel) ⟨(by show 4 + 1 ≤ 2 * (d + 1) + 5; omega), (by show 8 + (4 + 11) + (85) ≤ 51 * (d + 1) + 108; omega)⟩) hS hA hP hD hK hz0 (wr := [(tq_said, .inl (cB, 4096, .inl t_said)), (tq_inner, .inl (cI, 4096, .inl t_inner)), (tq_next, .inl (cI, 4096, .inl t_next)), (tq_amount, .inl (cI, 4096, .inl t_amount)), (obK, .inr (5, [.ref kq_heads, .ref kq_places, .ref kq_owners, .ref kq_nexts, .int k_count])), (kq_heads, .inl (cI, 256, .inl k_heads)), (kq_places, .inl (cI, 1024, .inl k_places)), (kq_owners, .inl (cI, 1024, .inl k_owners)), (kq_nexts, .inl (cI, 1024, .inl k_nexts))]) (w1 := [(obT, .inr (9, [.ref tq_tape, .ref tq_said, .ref tq_inner, .ref tq_next, .ref tq_amount, .ref obK, .int t_length, .int t_wrongPlace_7])), (tq_tape, .inl (cB, 4096, .inl t_tape)), (tq_said, .inl (cB, 4096, .inl t_said)), (tq_inner, .inl (cI, 4096, .inl t_inner)), (tq_next, .inl (cI, 4096, .inl t_next)), (tq_amount, .inl (cI, 4096, .inl t_amount)), (obK, .inr (5, [.ref kq_heads, .ref kq_places, .ref kq_owners, .ref kq_nexts, .int k_count])), (kq_heads, .inl (cI, 256, .inl k_heads)), (kq_places, .inl (cI, 1024, .inl k_places)), (kq_owners, .inl (cI, 1024, .inl k_owners)), (kq_nexts, .inl (cI, 1024, .inl k_nexts))]) [0, 1] [2, 3, 4, 5, 6, 7, 8, 9, 10] [9, 10, 0, 1, 2, 3, 4, 5, 6, 7, 8] rfl rfl rfl rfl rfl (by decide) rfl rfl rfl (va_recv hK hP (ci := 9) (q0 := 0) rfl rfl) rfl rfl hl.1 (Nat.le_of_ble_eq_true rfl) dX7_readValue_89 ⟨Nat.zero_le _, Nat.zero_le _⟩ (fun H locs hP hD hS => ?_)
      obtain rfl := Option.some.inj hm
      subst hQ0
      exact W.iret (v := r7) hx hb hr (fun t ht hW => ⟨⟨r7, (t_said, t_inner, t_next, t_amount, t_wrongPlace_7, k_heads, k_places, k_owners, k_nexts, k_count), rfl, ⟨rfl, rfl⟩, by rw [ht]; exact hP, va_K.moved hW.alike hK, hD⟩, hS.F ht⟩) hS.2.2 dX7_readValue_92
    have hm := mr_un c6 hm
    by_cases c8 : r1 = 110
    · have hm := mr_if c8 hm
      refine lv_lookup (tgt := 93) hx hb dX7_readValue_5 (by decide) (by rw [c8] <;> rfl) (by decide) ?_
      refine lv_aload_n hx hb dX7_readValue_93 rfl (lv_at hl 0 rfl) ?_
      refine lv_iload_n hx hb dX7_readValue_94 rfl (lv_at hl 1 rfl) ?_
      refine va_ldcS hx hb hown (hz0.1 2 (by decide)).2 dX7_readValue_95 ?_
      obtain ⟨⟨r9, t_wrongPlace_9⟩, hz9, hm⟩ := mr_bind hm
      try dsimp only at hm
      refine mr_wVi (As := [.int a0, .ref (adK 2)]) (rest := []) (sr_okZ adK adV) ⟨hx, hb, hml, hown, hts⟩ (kX7_readWord l htr dC dI adK adV cI cB cJ cZ cQ obT tq_tape tq_said tq_inner tq_next tq_amount obK t_length t_wrongPlace t_tape _ a0 2 _ hz9) (cwV 2 hts (g7_108 _) rfl rfl rfl (by decide +kernel) ⟨(by show 4 + 1 ≤ 2 * (d + 1) + 5; omega), (by show 8 + (4 + 11) + (85) ≤ 51 * (d + 1) + 108; omega)⟩) hS hA hP hD hK hz0 (wr := [(tq_said, .inl (cB, 4096, .inl t_said)), (tq_inner, .inl (cI, 4096, .inl t_inner)), (tq_next, .inl (cI, 4096, .inl t_next)), (tq_amount, .inl (cI, 4096, .inl t_amount)), (obK, .inr (5, [.ref kq_heads, .ref kq_places, .ref kq_owners, .ref kq_nexts, .int k_count])), (kq_heads, .inl (cI, 256, .inl k_heads)), (kq_places, .inl (cI, 1024, .inl k_places)), (kq_owners, .inl (cI, 1024, .inl k_owners)), (kq_nexts, .inl (cI, 1024, .inl k_nexts))]) (w1 := [(obT, .inr (9, [.ref tq_tape, .ref tq_said, .ref tq_inner, .ref tq_next, .ref tq_amount, .ref obK, .int t_length, .int t_wrongPlace_9])), (tq_tape, .inl (cB, 4096, .inl t_tape)), (tq_said, .inl (cB, 4096, .inl t_said)), (tq_inner, .inl (cI, 4096, .inl t_inner)), (tq_next, .inl (cI, 4096, .inl t_next)), (tq_amount, .inl (cI, 4096, .inl t_amount)), (obK, .inr (5, [.ref kq_heads, .ref kq_places, .ref kq_owners, .ref kq_nexts, .int k_count])), (kq_heads, .inl (cI, 256, .inl k_heads)), (kq_places, .inl (cI, 1024, .inl k_places)), (kq_owners, .inl (cI, 1024, .inl k_owners)), (kq_nexts, .inl (cI, 1024, .inl k_nexts))]) [0, 1] [2, 3, 4, 5, 6, 7, 8, 9, 10] [9, 10, 0, 1, 2, 3, 4, 5, 6, 7, 8] rfl rfl rfl rfl rfl (by decide) rfl rfl rfl (va_recv hK hP (ci := 9) (q0 := 0) rfl rfl) rfl rfl hl.1 (Nat.le_of_ble_eq_true rfl) dX7_readValue_97 ⟨Nat.zero_le _, Nat.zero_le _⟩ (fun H locs hP hD hS => ?_)
      obtain rfl := Option.some.inj hm
      subst hQ0
      exact W.iret (v := r9) hx hb hr (fun t ht hW => ⟨⟨r9, (t_said, t_inner, t_next, t_amount, t_wrongPlace_9, k_heads, k_places, k_owners, k_nexts, k_count), rfl, ⟨rfl, rfl⟩, by rw [ht]; exact hP, va_K.moved hW.alike hK, hD⟩, hS.F ht⟩) hS.2.2 dX7_readValue_100
    have hm := mr_un c8 hm
    by_cases c10 : r1 = 116
    · have hm := mr_if c10 hm
      refine lv_lookup (tgt := 77) hx hb dX7_readValue_5 (by decide) (by rw [c10] <;> rfl) (by decide) ?_
      refine lv_aload_n hx hb dX7_readValue_77 rfl (lv_at hl 0 rfl) ?_
      refine lv_iload_n hx hb dX7_readValue_78 rfl (lv_at hl 1 rfl) ?_
      refine va_ldcS hx hb hown (hz0.1 0 (by decide)).2 dX7_readValue_79 ?_
      obtain ⟨⟨r11, t_wrongPlace_11⟩, hz11, hm⟩ := mr_bind hm
      try dsimp only at hm
      refine mr_wVi (As := [.int a0, .ref (adK 0)]) (rest := []) (sr_okZ adK adV) ⟨hx, hb, hml, hown, hts⟩ (kX7_readWord l htr dC dI adK adV cI cB cJ cZ cQ obT tq_tape tq_said tq_inner tq_next tq_amount obK t_length t_wrongPlace t_tape _ a0 0 _ hz11) (cwV 2 hts (g7_108 _) rfl rfl rfl (by decide +kernel) ⟨(by show 4 + 1 ≤ 2 * (d + 1) + 5; omega), (by show 8 + (4 + 11) + (85) ≤ 51 * (d + 1) + 108; omega)⟩) hS hA hP hD hK hz0 (wr := [(tq_said, .inl (cB, 4096, .inl t_said)), (tq_inner, .inl (cI, 4096, .inl t_inner)), (tq_next, .inl (cI, 4096, .inl t_next)), (tq_amount, .inl (cI, 4096, .inl t_amount)), (obK, .inr (5, [.ref kq_heads, .ref kq_places, .ref kq_owners, .ref kq_nexts, .int k_count])), (kq_heads, .inl (cI, 256, .inl k_heads)), (kq_places, .inl (cI, 1024, .inl k_places)), (kq_owners, .inl (cI, 1024, .inl k_owners)), (kq_nexts, .inl (cI, 1024, .inl k_nexts))]) (w1 := [(obT, .inr (9, [.ref tq_tape, .ref tq_said, .ref tq_inner, .ref tq_next, .ref tq_amount, .ref obK, .int t_length, .int t_wrongPlace_11])), (tq_tape, .inl (cB, 4096, .inl t_tape)), (tq_said, .inl (cB, 4096, .inl t_said)), (tq_inner, .inl (cI, 4096, .inl t_inner)), (tq_next, .inl (cI, 4096, .inl t_next)), (tq_amount, .inl (cI, 4096, .inl t_amount)), (obK, .inr (5, [.ref kq_heads, .ref kq_places, .ref kq_owners, .ref kq_nexts, .int k_count])), (kq_heads, .inl (cI, 256, .inl k_heads)), (kq_places, .inl (cI, 1024, .inl k_places)), (kq_owners, .inl (cI, 1024, .inl k_owners)), (kq_nexts, .inl (cI, 1024, .inl k_nexts))]) [0, 1] [2, 3, 4, 5, 6, 7, 8, 9, 10] [9, 10, 0, 1, 2, 3, 4, 5, 6, 7, 8] rfl rfl rfl rfl rfl (by decide) rfl rfl rfl (va_recv hK hP (ci := 9) (q0 := 0) rfl rfl) rfl rfl hl.1 (Nat.le_of_ble_eq_true rfl) dX7_readValue_81 ⟨Nat.zero_le _, Nat.zero_le _⟩ (fun H locs hP hD hS => ?_)
      obtain rfl := Option.some.inj hm
      subst hQ0
      exact W.iret (v := r11) hx hb hr (fun t ht hW => ⟨⟨r11, (t_said, t_inner, t_next, t_amount, t_wrongPlace_11, k_heads, k_places, k_owners, k_nexts, k_count), rfl, ⟨rfl, rfl⟩, by rw [ht]; exact hP, va_K.moved hW.alike hK, hD⟩, hS.F ht⟩) hS.2.2 dX7_readValue_84
    have hm := mr_un c10 hm
    by_cases c12 : r1 = 123
    · have hm := mr_if c12 hm
      refine lv_lookup (tgt := 64) hx hb dX7_readValue_5 (by decide) (by rw [c12] <;> rfl) (by decide) ?_
      refine lv_aload_n hx hb dX7_readValue_64 rfl (lv_at hl 0 rfl) ?_
      refine lv_iload_n hx hb dX7_readValue_65 rfl (lv_at hl 1 rfl) ?_
      refine lv_iload_n hx hb dX7_readValue_66 rfl (lv_at hl 2 rfl) ?_
      obtain ⟨⟨r13, t_said_13, t_inner_13, t_next_13, t_amount_13, t_wrongPlace_13, k_heads_13, k_places_13, k_owners_13, k_nexts_13, k_count_13⟩, hz13, hm⟩ := mr_bind hm
      try dsimp only at hm
      refine mr_wVi (As := [.int a0, .int a1]) (rest := []) (sr_okZ adK adV) ⟨hx, hb, hml, hown, hts⟩ (kX7_readGroup l htr dC dI adK adV cI cB cJ cZ cQ obT tq_tape tq_said tq_inner tq_next tq_amount obK kq_heads kq_places kq_owners kq_nexts (m_X7_readValue d) d ihd t_length t_wrongPlace k_count t_tape t_said t_inner t_next t_amount k_heads k_places k_owners k_nexts _ a0 a1 _ hz13) (cwV 2 hts (g7_100 _) rfl rfl rfl (by decide +kernel) ⟨(by show 2 * d + 6 + 1 ≤ 2 * (d + 1) + 5; omega), (by show 8 + (10 + 11) + (51 * d + 130) ≤ 51 * (d + 1) + 108; omega)⟩) hS hA hP hD hK hz0 (wr := []) (w1 := [(obT, .inr (9, [.ref tq_tape, .ref tq_said, .ref tq_inner, .ref tq_next, .ref tq_amount, .ref obK, .int t_length, .int t_wrongPlace_13])), (tq_tape, .inl (cB, 4096, .inl t_tape)), (tq_said, .inl (cB, 4096, .inl t_said_13)), (tq_inner, .inl (cI, 4096, .inl t_inner_13)), (tq_next, .inl (cI, 4096, .inl t_next_13)), (tq_amount, .inl (cI, 4096, .inl t_amount_13)), (obK, .inr (5, [.ref kq_heads, .ref kq_places, .ref kq_owners, .ref kq_nexts, .int k_count_13])), (kq_heads, .inl (cI, 256, .inl k_heads_13)), (kq_places, .inl (cI, 1024, .inl k_places_13)), (kq_owners, .inl (cI, 1024, .inl k_owners_13)), (kq_nexts, .inl (cI, 1024, .inl k_nexts_13))]) [0, 1, 2, 3, 4, 5, 6, 7, 8, 9, 10] [] [0, 1, 2, 3, 4, 5, 6, 7, 8, 9, 10] rfl rfl rfl rfl rfl (by decide) rfl rfl rfl (va_recv hK hP (ci := 9) (q0 := 0) rfl rfl) rfl rfl hl.1 (Nat.le_of_ble_eq_true rfl) dX7_readValue_67 ⟨Nat.zero_le _, Nat.zero_le _⟩ (fun H locs hP hD hS => ?_)
      obtain rfl := Option.some.inj hm
      subst hQ0
      exact W.iret (v := r13) hx hb hr (fun t ht hW => ⟨⟨r13, (t_said_13, t_inner_13, t_next_13, t_amount_13, t_wrongPlace_13, k_heads_13, k_places_13, k_owners_13, k_nexts_13, k_count_13), rfl, ⟨rfl, rfl⟩, by rw [ht]; exact hP, va_K.moved hW.alike hK, hD⟩, hS.F ht⟩) hS.2.2 dX7_readValue_70
    have hm := mr_un c12 hm
    refine lv_lookup (tgt := 101) (off := 96) hx hb dX7_readValue_5 (by decide) (by have q0 := (mr_ne c2 (K := 34) (by decide)).symm; have q1 := (mr_ne c4 (K := 91) (by decide)).symm; have q2 := (mr_ne c6 (K := 102) (by decide)).symm; have q3 := (mr_ne c8 (K := 110) (by decide)).symm; have q4 := (mr_ne c10 (K := 116) (by decide)).symm; have q5 := (mr_ne c12 (K := 123) (by decide)).symm; simp [Op.lookupswitch.offset, q0, q1, q2, q3, q4, q5]) (by decide) ?_
    refine lv_aload_n hx hb dX7_readValue_101 rfl (lv_at hl 0 rfl) ?_
    refine lv_iload_n hx hb dX7_readValue_102 rfl (lv_at hl 1 rfl) ?_
    obtain ⟨r14, hz14, hm⟩ := mr_bind hm
    refine mr_pV (As := [.int a0]) (rest := []) (sr_okZ adK adV) ⟨hx, hb, hml, hown, hts⟩ (kX7_isNumber l htr dC dI adK adV cI cB cJ cZ cQ obT tq_tape tq_said tq_inner tq_next tq_amount obK t_length t_wrongPlace t_tape a0 r14 hz14) (cwV 1 hts (g7_116 _) rfl rfl rfl (by decide +kernel) ⟨(by show 1 + 1 ≤ 2 * (d + 1) + 5; omega), (by show 8 + (3 + 11) + (21) ≤ 51 * (d + 1) + 108; omega)⟩) hS hP hK hz0 [0, 1] rfl (va_recv hK hP (ci := 9) (q0 := 0) rfl rfl) rfl rfl hl.1 (Nat.le_of_ble_eq_true rfl) dX7_readValue_103 ⟨Nat.zero_le _, Nat.zero_le _⟩ ?_
    refine lv_if_eq (tgt := 117) hx hb dX7_readValue_106 (by decide) (fun c15 => ?_) (fun c15 => ?_)
    · have hm := mr_if c15 hm
      refine lv_aload_n hx hb dX7_readValue_117 rfl (lv_at hl 0 rfl) ?_
      refine lv_iload_n hx hb dX7_readValue_118 rfl (lv_at hl 1 rfl) ?_
      obtain ⟨⟨r16, t_wrongPlace_16⟩, hz16, hm⟩ := mr_bind hm
      try dsimp only at hm
      refine mr_wVi (As := [.int a0]) (rest := []) (sr_okZ adK adV) ⟨hx, hb, hml, hown, hts⟩ (kX7_refuse l htr dC dI adK adV cI cB cJ cZ cQ obT tq_tape tq_said tq_inner tq_next tq_amount obK t_length t_wrongPlace _ a0 _ hz16) (cwV 1 hts (g7_94 _) rfl rfl rfl (by decide +kernel) ⟨(by show 0 + 1 ≤ 2 * (d + 1) + 5; omega), (by show 8 + (2 + 11) + (0) ≤ 51 * (d + 1) + 108; omega)⟩) hS hA hP hD hK hz0 (wr := [(tq_tape, .inl (cB, 4096, .inl t_tape)), (tq_said, .inl (cB, 4096, .inl t_said)), (tq_inner, .inl (cI, 4096, .inl t_inner)), (tq_next, .inl (cI, 4096, .inl t_next)), (tq_amount, .inl (cI, 4096, .inl t_amount)), (obK, .inr (5, [.ref kq_heads, .ref kq_places, .ref kq_owners, .ref kq_nexts, .int k_count])), (kq_heads, .inl (cI, 256, .inl k_heads)), (kq_places, .inl (cI, 1024, .inl k_places)), (kq_owners, .inl (cI, 1024, .inl k_owners)), (kq_nexts, .inl (cI, 1024, .inl k_nexts))]) (w1 := [(obT, .inr (9, [.ref tq_tape, .ref tq_said, .ref tq_inner, .ref tq_next, .ref tq_amount, .ref obK, .int t_length, .int t_wrongPlace_16])), (tq_tape, .inl (cB, 4096, .inl t_tape)), (tq_said, .inl (cB, 4096, .inl t_said)), (tq_inner, .inl (cI, 4096, .inl t_inner)), (tq_next, .inl (cI, 4096, .inl t_next)), (tq_amount, .inl (cI, 4096, .inl t_amount)), (obK, .inr (5, [.ref kq_heads, .ref kq_places, .ref kq_owners, .ref kq_nexts, .int k_count])), (kq_heads, .inl (cI, 256, .inl k_heads)), (kq_places, .inl (cI, 1024, .inl k_places)), (kq_owners, .inl (cI, 1024, .inl k_owners)), (kq_nexts, .inl (cI, 1024, .inl k_nexts))]) [0] [1, 2, 3, 4, 5, 6, 7, 8, 9, 10] [10, 0, 1, 2, 3, 4, 5, 6, 7, 8, 9] rfl rfl rfl rfl rfl (by decide) rfl rfl rfl (va_recv hK hP (ci := 9) (q0 := 0) rfl rfl) rfl rfl hl.1 (Nat.le_of_ble_eq_true rfl) dX7_readValue_119 ⟨Nat.zero_le _, Nat.zero_le _⟩ (fun H locs hP hD hS => ?_)
      obtain rfl := Option.some.inj hm
      subst hQ0
      exact W.iret (v := r16) hx hb hr (fun t ht hW => ⟨⟨r16, (t_said, t_inner, t_next, t_amount, t_wrongPlace_16, k_heads, k_places, k_owners, k_nexts, k_count), rfl, ⟨rfl, rfl⟩, by rw [ht]; exact hP, va_K.moved hW.alike hK, hD⟩, hS.F ht⟩) hS.2.2 dX7_readValue_122
    · have hm := mr_un c15 hm
      refine lv_aload_n hx hb dX7_readValue_109 rfl (lv_at hl 0 rfl) ?_
      refine lv_iload_n hx hb dX7_readValue_110 rfl (lv_at hl 1 rfl) ?_
      obtain ⟨⟨r17, t_wrongPlace_17⟩, hz17, hm⟩ := mr_bind hm
      try dsimp only at hm
      refine mr_wVi (As := [.int a0]) (rest := []) (sr_okZ adK adV) ⟨hx, hb, hml, hown, hts⟩ (kX7_readNumber l htr dC dI adK adV cI cB cJ cZ cQ obT tq_tape tq_said tq_inner tq_next tq_amount obK t_length t_wrongPlace t_tape _ a0 _ hz17) (cwV 1 hts (g7_119 _) rfl rfl rfl (by decide +kernel) ⟨(by show 2 + 1 ≤ 2 * (d + 1) + 5; omega), (by show 8 + (5 + 11) + (49) ≤ 51 * (d + 1) + 108; omega)⟩) hS hA hP hD hK hz0 (wr := [(tq_said, .inl (cB, 4096, .inl t_said)), (tq_inner, .inl (cI, 4096, .inl t_inner)), (tq_next, .inl (cI, 4096, .inl t_next)), (tq_amount, .inl (cI, 4096, .inl t_amount)), (obK, .inr (5, [.ref kq_heads, .ref kq_places, .ref kq_owners, .ref kq_nexts, .int k_count])), (kq_heads, .inl (cI, 256, .inl k_heads)), (kq_places, .inl (cI, 1024, .inl k_places)), (kq_owners, .inl (cI, 1024, .inl k_owners)), (kq_nexts, .inl (cI, 1024, .inl k_nexts))]) (w1 := [(obT, .inr (9, [.ref tq_tape, .ref tq_said, .ref tq_inner, .ref tq_next, .ref tq_amount, .ref obK, .int t_length, .int t_wrongPlace_17])), (tq_tape, .inl (cB, 4096, .inl t_tape)), (tq_said, .inl (cB, 4096, .inl t_said)), (tq_inner, .inl (cI, 4096, .inl t_inner)), (tq_next, .inl (cI, 4096, .inl t_next)), (tq_amount, .inl (cI, 4096, .inl t_amount)), (obK, .inr (5, [.ref kq_heads, .ref kq_places, .ref kq_owners, .ref kq_nexts, .int k_count])), (kq_heads, .inl (cI, 256, .inl k_heads)), (kq_places, .inl (cI, 1024, .inl k_places)), (kq_owners, .inl (cI, 1024, .inl k_owners)), (kq_nexts, .inl (cI, 1024, .inl k_nexts))]) [0, 1] [2, 3, 4, 5, 6, 7, 8, 9, 10] [9, 10, 0, 1, 2, 3, 4, 5, 6, 7, 8] rfl rfl rfl rfl rfl (by decide) rfl rfl rfl (va_recv hK hP (ci := 9) (q0 := 0) rfl rfl) rfl rfl hl.1 (Nat.le_of_ble_eq_true rfl) dX7_readValue_111 ⟨Nat.zero_le _, Nat.zero_le _⟩ (fun H locs hP hD hS => ?_)
      refine lv_goto (tgt := 122) hx hb dX7_readValue_114 (by decide) ?_
      obtain rfl := Option.some.inj hm
      subst hQ0
      exact W.iret (v := r17) hx hb hr (fun t ht hW => ⟨⟨r17, (t_said, t_inner, t_next, t_amount, t_wrongPlace_17, k_heads, k_places, k_owners, k_nexts, k_count), rfl, ⟨rfl, rfl⟩, by rw [ht]; exact hP, va_K.moved hW.alike hK, hD⟩, hS.F ht⟩) hS.2.2 dX7_readValue_122
set_option maxHeartbeats 4000000 in
set_option maxRecDepth 100000 in
theorem kX7_read (l : Launch) (htr : l.stackTraces = false) (dC : Nat → ClassId) (dI : Nat → Nat → Nat) (adK adV : Nat → Nat) (cI cB cJ cZ cQ : ClassId) (obT tq_tape tq_said tq_inner tq_next tq_amount obK kq_heads kq_places kq_owners kq_nexts : Nat) (t_length : Int32) (t_wrongPlace : Int32) (k_count : Int32) (t_tape : Nat → Int32) (t_said : Nat → Int32) (t_inner : Nat → Int32) (t_next : Nat → Int32) (t_amount : Nat → Int32) (k_heads : Nat → Int32) (k_places : Nat → Int32) (k_owners : Nat → Int32) (k_nexts : Nat → Int32) (sz : Nat) (res : Int32 × (Nat → Int32) × (Nat → Int32) × (Nat → Int32) × (Nat → Int32) × Int32 × (Nat → Int32) × (Nat → Int32) × (Nat → Int32) × (Nat → Int32) × Int32) (hm : m_X7_read t_tape t_said t_inner t_next t_amount t_length t_wrongPlace k_heads k_places k_owners k_nexts k_count = some res) : Met l yX7_read wsX7_read (rmX7_read 0 0) (pcW (sr_Z adK adV) (dC, dI) srCl [(cI, .int), (cB, .byte), (cJ, .long), (cZ, .boolean), (cQ, .object "SchemaReader$Schema")] [.ref obT] [(obT, .inr (9, [.ref tq_tape, .ref tq_said, .ref tq_inner, .ref tq_next, .ref tq_amount, .ref obK, .int t_length, .int t_wrongPlace])), (tq_tape, .inl (cB, 4096, .inl t_tape)), (tq_said, .inl (cB, 4096, .inl t_said)), (tq_inner, .inl (cI, 4096, .inl t_inner)), (tq_next, .inl (cI, 4096, .inl t_next)), (tq_amount, .inl (cI, 4096, .inl t_amount)), (obK, .inr (5, [.ref kq_heads, .ref kq_places, .ref kq_owners, .ref kq_nexts, .int k_count])), (kq_heads, .inl (cI, 256, .inl k_heads)), (kq_places, .inl (cI, 1024, .inl k_places)), (kq_owners, .inl (cI, 1024, .inl k_owners)), (kq_nexts, .inl (cI, 1024, .inl k_nexts))] sz) (va_Qi (fun r' u' => r' = res.1 ∧ u' = res.2) (pcB (dC, dI) srCl [(cI, .int), (cB, .byte), (cJ, .long), (cZ, .boolean), (cQ, .object "SchemaReader$Schema")] (fun u : (Nat → Int32) × (Nat → Int32) × (Nat → Int32) × (Nat → Int32) × Int32 × (Nat → Int32) × (Nat → Int32) × (Nat → Int32) × (Nat → Int32) × Int32 => [(obT, .inr (9, [.ref tq_tape, .ref tq_said, .ref tq_inner, .ref tq_next, .ref tq_amount, .ref obK, .int t_length, .int u.2.2.2.2.1])), (tq_tape, .inl (cB, 4096, .inl t_tape)), (tq_said, .inl (cB, 4096, .inl u.1)), (tq_inner, .inl (cI, 4096, .inl u.2.1)), (tq_next, .inl (cI, 4096, .inl u.2.2.1)), (tq_amount, .inl (cI, 4096, .inl u.2.2.2.1)), (obK, .inr (5, [.ref kq_heads, .ref kq_places, .ref kq_owners, .ref kq_nexts, .int u.2.2.2.2.2.2.2.2.2])), (kq_heads, .inl (cI, 256, .inl u.2.2.2.2.2.1)), (kq_places, .inl (cI, 1024, .inl u.2.2.2.2.2.2.1)), (kq_owners, .inl (cI, 1024, .inl u.2.2.2.2.2.2.2.1)), (kq_nexts, .inl (cI, 1024, .inl u.2.2.2.2.2.2.2.2.1))]) (va_A [(obT, .inr (9, [.ref tq_tape, .ref tq_said, .ref tq_inner, .ref tq_next, .ref tq_amount, .ref obK, .int t_length, .int t_wrongPlace])), (tq_tape, .inl (cB, 4096, .inl t_tape)), (tq_said, .inl (cB, 4096, .inl t_said)), (tq_inner, .inl (cI, 4096, .inl t_inner)), (tq_next, .inl (cI, 4096, .inl t_next)), (tq_amount, .inl (cI, 4096, .inl t_amount)), (obK, .inr (5, [.ref kq_heads, .ref kq_places, .ref kq_owners, .ref kq_nexts, .int k_count])), (kq_heads, .inl (cI, 256, .inl k_heads)), (kq_places, .inl (cI, 1024, .inl k_places)), (kq_owners, .inl (cI, 1024, .inl k_owners)), (kq_nexts, .inl (cI, 1024, .inl k_nexts))] sz)) (va_A [(obT, .inr (9, [.ref tq_tape, .ref tq_said, .ref tq_inner, .ref tq_next, .ref tq_amount, .ref obK, .int t_length, .int t_wrongPlace])), (tq_tape, .inl (cB, 4096, .inl t_tape)), (tq_said, .inl (cB, 4096, .inl t_said)), (tq_inner, .inl (cI, 4096, .inl t_inner)), (tq_next, .inl (cI, 4096, .inl t_next)), (tq_amount, .inl (cI, 4096, .inl t_amount)), (obK, .inr (5, [.ref kq_heads, .ref kq_places, .ref kq_owners, .ref kq_nexts, .int k_count])), (kq_heads, .inl (cI, 256, .inl k_heads)), (kq_places, .inl (cI, 1024, .inl k_places)), (kq_owners, .inl (cI, 1024, .inl k_owners)), (kq_nexts, .inl (cI, 1024, .inl k_nexts))] sz)) 0 0 (va_A [(obT, .inr (9, [.ref tq_tape, .ref tq_said, .ref tq_inner, .ref tq_next, .ref tq_amount, .ref obK, .int t_length, .int t_wrongPlace])), (tq_tape, .inl (cB, 4096, .inl t_tape)), (tq_said, .inl (cB, 4096, .inl t_said)), (tq_inner, .inl (cI, 4096, .inl t_inner)), (tq_next, .inl (cI, 4096, .inl t_next)), (tq_amount, .inl (cI, 4096, .inl t_amount)), (obK, .inr (5, [.ref kq_heads, .ref kq_places, .ref kq_owners, .ref kq_nexts, .int k_count])), (kq_heads, .inl (cI, 256, .inl k_heads)), (kq_places, .inl (cI, 1024, .inl k_places)), (kq_owners, .inl (cI, 1024, .inl k_owners)), (kq_nexts, .inl (cI, 1024, .inl k_nexts))] sz) := by
  refine Met.ofW (cc := cX7_read) (maxL := 3) (ret := (some .int)) (by decide) rfl ?_
  intro p e s m args below meth c s₁ B hml hv
  obtain ⟨rfl, hsz, hP, hK, hD0, hz0⟩ := hv
  have hx := B.exec
  have hb := B.bytes
  have hr := B.returns
  have hts := atoms_spec (ws := wsX7_read) B.pre
  have hown : s.vm.findClass RX7 = some m.cls := findClass_of_methodNamed B.named
  have hlocks := B.notSynchronized
  subst hsz
  have hD := hD0.self (sz := s.heap.size)
  generalize hAe : va_A [(obT, .inr (9, [.ref tq_tape, .ref tq_said, .ref tq_inner, .ref tq_next, .ref tq_amount, .ref obK, .int t_length, .int t_wrongPlace])), (tq_tape, .inl (cB, 4096, .inl t_tape)), (tq_said, .inl (cB, 4096, .inl t_said)), (tq_inner, .inl (cI, 4096, .inl t_inner)), (tq_next, .inl (cI, 4096, .inl t_next)), (tq_amount, .inl (cI, 4096, .inl t_amount)), (obK, .inr (5, [.ref kq_heads, .ref kq_places, .ref kq_owners, .ref kq_nexts, .int k_count])), (kq_heads, .inl (cI, 256, .inl k_heads)), (kq_places, .inl (cI, 1024, .inl k_places)), (kq_owners, .inl (cI, 1024, .inl k_owners)), (kq_nexts, .inl (cI, 1024, .inl k_nexts))] s.heap.size = A at hD hz0 ⊢
  have hA : ∀ q : Nat, s.heap.size ≤ q → A q := fun q h => by rw [← hAe]; exact Or.inr h
  have hS : va_S A s.heap s.heap [] := va_S.rf
  generalize hQ0 : MQ below (va_Qi (fun r' u' => r' = res.1 ∧ u' = res.2) (pcB (dC, dI) srCl [(cI, .int), (cB, .byte), (cJ, .long), (cZ, .boolean), (cQ, .object "SchemaReader$Schema")] (fun u : (Nat → Int32) × (Nat → Int32) × (Nat → Int32) × (Nat → Int32) × Int32 × (Nat → Int32) × (Nat → Int32) × (Nat → Int32) × (Nat → Int32) × Int32 => [(obT, .inr (9, [.ref tq_tape, .ref tq_said, .ref tq_inner, .ref tq_next, .ref tq_amount, .ref obK, .int t_length, .int u.2.2.2.2.1])), (tq_tape, .inl (cB, 4096, .inl t_tape)), (tq_said, .inl (cB, 4096, .inl u.1)), (tq_inner, .inl (cI, 4096, .inl u.2.1)), (tq_next, .inl (cI, 4096, .inl u.2.2.1)), (tq_amount, .inl (cI, 4096, .inl u.2.2.2.1)), (obK, .inr (5, [.ref kq_heads, .ref kq_places, .ref kq_owners, .ref kq_nexts, .int u.2.2.2.2.2.2.2.2.2])), (kq_heads, .inl (cI, 256, .inl u.2.2.2.2.2.1)), (kq_places, .inl (cI, 1024, .inl u.2.2.2.2.2.2.1)), (kq_owners, .inl (cI, 1024, .inl u.2.2.2.2.2.2.2.1)), (kq_nexts, .inl (cI, 1024, .inl u.2.2.2.2.2.2.2.2.1))]) A) A) [.ref obT].toArray s 0 0 A = Q0
  have hl := lv_entry [.ref obT] (n := 3) (Nat.le_of_ble_eq_true rfl)
  rw [lg_entry_eq]
  generalize (lg_sl [.ref obT] ++ List.replicate (3 - (lg_sl [.ref obT]).length) Slot.unset).toArray = ls at hl ⊢
  have hl : lv_has ls 3 [(0, .ref obT)] := hl
  unfold m_X7_read at hm
  refine lv_aload_n hx hb dX7_read_0 rfl (lv_at hl 0 rfl) ?_
  refine va_get (D := (dC, dI)) (ci := 9) (v := .ref obK) (C := RX7) (T := TX7) (N := 8) hx hb hts (inX7 _) hown hK hP 0 rfl rfl 5 (by decide) (hts _ (List.mem_cons_of_mem _ wf7_31)) (fun _ h9 => h9) rfl dX7_read_1 ?_
  obtain ⟨⟨k_heads_1, k_count_1⟩, hz1, hm⟩ := mr_bind hm
  try dsimp only at hm
  refine mr_wVv (As := []) (rest := []) (sr_okZ adK adV) ⟨hx, hb, hml, hown, hts⟩ (kX2_clear l htr dC dI adK adV cI cB cJ cZ cQ obK kq_heads kq_places kq_owners kq_nexts k_count k_heads _ _ hz1) (cwV 0 hts (g7_84 _) rfl rfl rfl (by decide +kernel) ⟨(by show 1 + 1 ≤ 60; omega), (by show 8 + (1 + 11) + (23) ≤ 1507; omega)⟩) hS hA hP hD hK hz0 (wr := [(obT, .inr (9, [.ref tq_tape, .ref tq_said, .ref tq_inner, .ref tq_next, .ref tq_amount, .ref obK, .int t_length, .int t_wrongPlace])), (tq_tape, .inl (cB, 4096, .inl t_tape)), (tq_said, .inl (cB, 4096, .inl t_said)), (tq_inner, .inl (cI, 4096, .inl t_inner)), (tq_next, .inl (cI, 4096, .inl t_next)), (tq_amount, .inl (cI, 4096, .inl t_amount)), (kq_places, .inl (cI, 1024, .inl k_places)), (kq_owners, .inl (cI, 1024, .inl k_owners)), (kq_nexts, .inl (cI, 1024, .inl k_nexts))]) (w1 := [(obT, .inr (9, [.ref tq_tape, .ref tq_said, .ref tq_inner, .ref tq_next, .ref tq_amount, .ref obK, .int t_length, .int t_wrongPlace])), (tq_tape, .inl (cB, 4096, .inl t_tape)), (tq_said, .inl (cB, 4096, .inl t_said)), (tq_inner, .inl (cI, 4096, .inl t_inner)), (tq_next, .inl (cI, 4096, .inl t_next)), (tq_amount, .inl (cI, 4096, .inl t_amount)), (obK, .inr (5, [.ref kq_heads, .ref kq_places, .ref kq_owners, .ref kq_nexts, .int k_count_1])), (kq_heads, .inl (cI, 256, .inl k_heads_1)), (kq_places, .inl (cI, 1024, .inl k_places)), (kq_owners, .inl (cI, 1024, .inl k_owners)), (kq_nexts, .inl (cI, 1024, .inl k_nexts))]) [6, 7] [0, 1, 2, 3, 4, 5, 8, 9, 10] [0, 1, 2, 3, 4, 5, 9, 10, 6, 7, 8] rfl rfl rfl rfl rfl (by decide) rfl rfl rfl (va_recv hK hP (ci := 5) (q0 := 6) rfl rfl) rfl rfl hl.1 (Nat.le_of_ble_eq_true rfl) dX7_read_4 ⟨Nat.zero_le _, Nat.zero_le _⟩ (fun H locs hP hD hS => ?_)
  refine lv_aload_n hx hb dX7_read_7 rfl (lv_at hl 0 rfl) ?_
  refine lv_iconst (v := -1) hx hb dX7_read_8 (by decide) ?_
  refine va_put (D := (dC, dI)) (ci := 9) (v := .int (-1)) (ty := .int) (C := RX7) (T := TX7) (N := 8) hx hb hts (inX7 _) tyX7 tyX7_ok nmX7 hown hK hP hD hS 0 rfl rfl 7 (by decide) (hts _ (List.mem_cons_of_mem _ wf7_39)) (fun _ h9 => h9) rfl (by decide +kernel) rfl rfl (Nat.le_of_ble_eq_true rfl) dX7_read_9 (fun H locs hP hD hS => ?_)
  have hP : va_P (dC, dI) srCl [(obT, .inr (9, [.ref tq_tape, .ref tq_said, .ref tq_inner, .ref tq_next, .ref tq_amount, .ref obK, .int t_length, .int (-1)])), (tq_tape, .inl (cB, 4096, .inl t_tape)), (tq_said, .inl (cB, 4096, .inl t_said)), (tq_inner, .inl (cI, 4096, .inl t_inner)), (tq_next, .inl (cI, 4096, .inl t_next)), (tq_amount, .inl (cI, 4096, .inl t_amount)), (obK, .inr (5, [.ref kq_heads, .ref kq_places, .ref kq_owners, .ref kq_nexts, .int k_count_1])), (kq_heads, .inl (cI, 256, .inl k_heads_1)), (kq_places, .inl (cI, 1024, .inl k_places)), (kq_owners, .inl (cI, 1024, .inl k_owners)), (kq_nexts, .inl (cI, 1024, .inl k_nexts))] H := hP
  have hD : va_D A [(obT, .inr (9, [.ref tq_tape, .ref tq_said, .ref tq_inner, .ref tq_next, .ref tq_amount, .ref obK, .int t_length, .int (-1)])), (tq_tape, .inl (cB, 4096, .inl t_tape)), (tq_said, .inl (cB, 4096, .inl t_said)), (tq_inner, .inl (cI, 4096, .inl t_inner)), (tq_next, .inl (cI, 4096, .inl t_next)), (tq_amount, .inl (cI, 4096, .inl t_amount)), (obK, .inr (5, [.ref kq_heads, .ref kq_places, .ref kq_owners, .ref kq_nexts, .int k_count_1])), (kq_heads, .inl (cI, 256, .inl k_heads_1)), (kq_places, .inl (cI, 1024, .inl k_places)), (kq_owners, .inl (cI, 1024, .inl k_owners)), (kq_nexts, .inl (cI, 1024, .inl k_nexts))] := hD
  refine lv_aload_n hx hb dX7_read_12 rfl (lv_at hl 0 rfl) ?_
  refine lv_iconst (v := 0) hx hb dX7_read_13 (by decide) ?_
  obtain ⟨r2, hz2, hm⟩ := mr_bind hm
  refine mr_pV (As := [.int 0]) (rest := []) (sr_okZ adK adV) ⟨hx, hb, hml, hown, hts⟩ (kX7_behindBlanks l htr dC dI adK adV cI cB cJ cZ cQ obT tq_tape tq_said tq_inner tq_next tq_amount obK t_length (-1) t_tape 0 r2 hz2) (cwV 1 hts (g7_87 _) rfl rfl rfl (by decide +kernel) ⟨(by show 1 + 1 ≤ 60; omega), (by show 8 + (3 + 11) + (21) ≤ 1507; omega)⟩) hS hP hK hz0 [0, 1] rfl (va_recv hK hP (ci := 9) (q0 := 0) rfl rfl) rfl rfl hl.1 (Nat.le_of_ble_eq_true rfl) dX7_read_14 ⟨Nat.zero_le _, Nat.zero_le _⟩ ?_
  refine lv_istore_n (lv' := [(1, .int r2), (0, .ref obT)]) hx hb dX7_read_17 rfl hl (by decide) rfl (fun ls hl => ?_)
  refine lv_aload_n hx hb dX7_read_18 rfl (lv_at hl 1 rfl) ?_
  refine lv_iload_n hx hb dX7_read_19 rfl (lv_at hl 0 rfl) ?_
  refine lv_iconst (v := 0) hx hb dX7_read_20 (by decide) ?_
  obtain ⟨⟨r3, t_said_3, t_inner_3, t_next_3, t_amount_3, t_wrongPlace_3, k_heads_3, k_places_3, k_owners_3, k_nexts_3, k_count_3⟩, hz3, hm⟩ := mr_bind hm
  try dsimp only at hm
  refine mr_wVi (As := [.int r2, .int 0]) (rest := []) (sr_okZ adK adV) ⟨hx, hb, hml, hown, hts⟩ (kX7_readValue l htr dC dI adK adV cI cB cJ cZ cQ obT tq_tape tq_said tq_inner tq_next tq_amount obK kq_heads kq_places kq_owners kq_nexts 27 t_length (-1) k_count_1 t_tape t_said t_inner t_next t_amount k_heads_1 k_places k_owners k_nexts _ r2 0 _ hz3) (cwV 2 hts (g7_90 _) rfl rfl rfl (by decide +kernel) ⟨(by show 2 * 27 + 5 + 1 ≤ 60; omega), (by show 8 + (3 + 11) + (51 * 27 + 108) ≤ 1507; omega)⟩) hS hA hP hD hK hz0 (wr := []) (w1 := [(obT, .inr (9, [.ref tq_tape, .ref tq_said, .ref tq_inner, .ref tq_next, .ref tq_amount, .ref obK, .int t_length, .int t_wrongPlace_3])), (tq_tape, .inl (cB, 4096, .inl t_tape)), (tq_said, .inl (cB, 4096, .inl t_said_3)), (tq_inner, .inl (cI, 4096, .inl t_inner_3)), (tq_next, .inl (cI, 4096, .inl t_next_3)), (tq_amount, .inl (cI, 4096, .inl t_amount_3)), (obK, .inr (5, [.ref kq_heads, .ref kq_places, .ref kq_owners, .ref kq_nexts, .int k_count_3])), (kq_heads, .inl (cI, 256, .inl k_heads_3)), (kq_places, .inl (cI, 1024, .inl k_places_3)), (kq_owners, .inl (cI, 1024, .inl k_owners_3)), (kq_nexts, .inl (cI, 1024, .inl k_nexts_3))]) [0, 1, 2, 3, 4, 5, 6, 7, 8, 9, 10] [] [0, 1, 2, 3, 4, 5, 6, 7, 8, 9, 10] rfl rfl rfl rfl rfl (by decide) rfl rfl rfl (va_recv hK hP (ci := 9) (q0 := 0) rfl rfl) rfl rfl hl.1 (Nat.le_of_ble_eq_true rfl) dX7_read_21 ⟨Nat.zero_le _, Nat.zero_le _⟩ (fun H locs hP hD hS => ?_)
  refine lv_istore_n (lv' := [(2, .int r3), (1, .int r2), (0, .ref obT)]) hx hb dX7_read_24 rfl hl (by decide) rfl (fun ls hl => ?_)
  refine lv_iload_n hx hb dX7_read_25 rfl (lv_at hl 0 rfl) ?_
  refine lv_iconst (v := -1) hx hb dX7_read_26 (by decide) ?_
  refine lv_icmp_ne (tgt := 32) hx hb dX7_read_27 (by decide) (fun c4 => ?_) (fun c4 => ?_)
  · have hm := mr_un c4 hm
    refine lv_aload_n hx hb dX7_read_32 rfl (lv_at hl 2 rfl) ?_
    refine lv_iload_n hx hb dX7_read_33 rfl (lv_at hl 0 rfl) ?_
    obtain ⟨r5, hz5, hm⟩ := mr_bind hm
    refine mr_pV (As := [.int r3]) (rest := []) (sr_okZ adK adV) ⟨hx, hb, hml, hown, hts⟩ (kX7_behindBlanks l htr dC dI adK adV cI cB cJ cZ cQ obT tq_tape tq_said tq_inner tq_next tq_amount obK t_length t_wrongPlace_3 t_tape r3 r5 hz5) (cwV 1 hts (g7_87 _) rfl rfl rfl (by decide +kernel) ⟨(by show 1 + 1 ≤ 60; omega), (by show 8 + (3 + 11) + (21) ≤ 1507; omega)⟩) hS hP hK hz0 [0, 1] rfl (va_recv hK hP (ci := 9) (q0 := 0) rfl rfl) rfl rfl hl.1 (Nat.le_of_ble_eq_true rfl) dX7_read_34 ⟨Nat.zero_le _, Nat.zero_le _⟩ ?_
    refine lv_istore_n (lv' := [(2, .int r5), (1, .int r2), (0, .ref obT)]) hx hb dX7_read_37 rfl hl (by decide) rfl (fun ls hl => ?_)
    refine lv_iload_n hx hb dX7_read_38 rfl (lv_at hl 0 rfl) ?_
    refine lv_aload_n hx hb dX7_read_39 rfl (lv_at hl 2 rfl) ?_
    refine va_get (D := (dC, dI)) (ci := 9) (v := .int t_length) (C := RX7) (T := TX7) (N := 8) hx hb hts (inX7 _) hown hK hP 0 rfl rfl 6 (by decide) (hts _ (List.mem_cons_of_mem _ wf7_35)) (fun _ h9 => h9) rfl dX7_read_40 ?_
    refine lv_icmp_ge (tgt := 54) hx hb dX7_read_43 (by decide) (fun c6 => ?_) (fun c6 => ?_)
    · have hm := mr_if c6 hm
      refine lv_iload_n hx hb dX7_read_54 rfl (lv_at hl 1 rfl) ?_
      obtain rfl := Option.some.inj hm
      subst hQ0
      exact W.iret (v := r2) hx hb hr (fun t ht hW => ⟨⟨r2, (t_said_3, t_inner_3, t_next_3, t_amount_3, t_wrongPlace_3, k_heads_3, k_places_3, k_owners_3, k_nexts_3, k_count_3), rfl, ⟨rfl, rfl⟩, by rw [ht]; exact hP, va_K.moved hW.alike hK, hD⟩, hS.F ht⟩) hS.2.2 dX7_read_55
    · have hm := mr_un c6 hm
      refine lv_aload_n hx hb dX7_read_46 rfl (lv_at hl 2 rfl) ?_
      refine lv_iload_n hx hb dX7_read_47 rfl (lv_at hl 0 rfl) ?_
      obtain ⟨⟨r7, t_wrongPlace_7⟩, hz7, hm⟩ := mr_bind hm
      try dsimp only at hm
      refine mr_wVi (As := [.int r5]) (rest := []) (sr_okZ adK adV) ⟨hx, hb, hml, hown, hts⟩ (kX7_refuse l htr dC dI adK adV cI cB cJ cZ cQ obT tq_tape tq_said tq_inner tq_next tq_amount obK t_length t_wrongPlace_3 _ r5 _ hz7) (cwV 1 hts (g7_94 _) rfl rfl rfl (by decide +kernel) ⟨(by show 0 + 1 ≤ 60; omega), (by show 8 + (2 + 11) + (0) ≤ 1507; omega)⟩) hS hA hP hD hK hz0 (wr := [(tq_tape, .inl (cB, 4096, .inl t_tape)), (tq_said, .inl (cB, 4096, .inl t_said_3)), (tq_inner, .inl (cI, 4096, .inl t_inner_3)), (tq_next, .inl (cI, 4096, .inl t_next_3)), (tq_amount, .inl (cI, 4096, .inl t_amount_3)), (obK, .inr (5, [.ref kq_heads, .ref kq_places, .ref kq_owners, .ref kq_nexts, .int k_count_3])), (kq_heads, .inl (cI, 256, .inl k_heads_3)), (kq_places, .inl (cI, 1024, .inl k_places_3)), (kq_owners, .inl (cI, 1024, .inl k_owners_3)), (kq_nexts, .inl (cI, 1024, .inl k_nexts_3))]) (w1 := [(obT, .inr (9, [.ref tq_tape, .ref tq_said, .ref tq_inner, .ref tq_next, .ref tq_amount, .ref obK, .int t_length, .int t_wrongPlace_7])), (tq_tape, .inl (cB, 4096, .inl t_tape)), (tq_said, .inl (cB, 4096, .inl t_said_3)), (tq_inner, .inl (cI, 4096, .inl t_inner_3)), (tq_next, .inl (cI, 4096, .inl t_next_3)), (tq_amount, .inl (cI, 4096, .inl t_amount_3)), (obK, .inr (5, [.ref kq_heads, .ref kq_places, .ref kq_owners, .ref kq_nexts, .int k_count_3])), (kq_heads, .inl (cI, 256, .inl k_heads_3)), (kq_places, .inl (cI, 1024, .inl k_places_3)), (kq_owners, .inl (cI, 1024, .inl k_owners_3)), (kq_nexts, .inl (cI, 1024, .inl k_nexts_3))]) [0] [1, 2, 3, 4, 5, 6, 7, 8, 9, 10] [10, 0, 1, 2, 3, 4, 5, 6, 7, 8, 9] rfl rfl rfl rfl rfl (by decide) rfl rfl rfl (va_recv hK hP (ci := 9) (q0 := 0) rfl rfl) rfl rfl hl.1 (Nat.le_of_ble_eq_true rfl) dX7_read_48 ⟨Nat.zero_le _, Nat.zero_le _⟩ (fun H locs hP hD hS => ?_)
      refine lv_goto (tgt := 55) hx hb dX7_read_51 (by decide) ?_
      obtain rfl := Option.some.inj hm
      subst hQ0
      exact W.iret (v := r7) hx hb hr (fun t ht hW => ⟨⟨r7, (t_said_3, t_inner_3, t_next_3, t_amount_3, t_wrongPlace_7, k_heads_3, k_places_3, k_owners_3, k_nexts_3, k_count_3), rfl, ⟨rfl, rfl⟩, by rw [ht]; exact hP, va_K.moved hW.alike hK, hD⟩, hS.F ht⟩) hS.2.2 dX7_read_55
  · have hm := mr_if c4 hm
    refine lv_iconst (v := -1) hx hb dX7_read_30 (by decide) ?_
    obtain rfl := Option.some.inj hm
    subst hQ0
    exact W.iret (v := (-1)) hx hb hr (fun t ht hW => ⟨⟨(-1), (t_said_3, t_inner_3, t_next_3, t_amount_3, t_wrongPlace_3, k_heads_3, k_places_3, k_owners_3, k_nexts_3, k_count_3), rfl, ⟨rfl, rfl⟩, by rw [ht]; exact hP, va_K.moved hW.alike hK, hD⟩, hS.F ht⟩) hS.2.2 dX7_read_31
end
section
abbrev cX3_isNamed : ByteArray := prog_6_method_2_code
def yX3_isNamed : MethodName := ⟨RX3, "isNamed", "(I)Z"⟩
def wsX3_isNamed : List Cond := .code yX3_isNamed cX3_isNamed 1 (some .boolean) :: sr_G
def nq_cX3_isNamed : Nat := 0xac030400a7040700a00a101a09009f09101a0f009f08101a
theorem kq_cX3_isNamed : qOk cX3_isNamed nq_cX3_isNamed 24 = true := by decide +kernel
theorem dX3_isNamed_0 : decode cX3_isNamed 0 = .ok (.iload_n 0, 1) := qd_26 kq_cX3_isNamed (by decide +kernel)
theorem dX3_isNamed_1 : decode cX3_isNamed 1 = .ok (.bipush 8, 2) := qd_16 kq_cX3_isNamed (by decide +kernel)
theorem dX3_isNamed_3 : decode cX3_isNamed 3 = .ok (.if_icmp .eq 15, 3) := qd_159 kq_cX3_isNamed (by decide +kernel)
theorem dX3_isNamed_6 : decode cX3_isNamed 6 = .ok (.iload_n 0, 1) := qd_26 kq_cX3_isNamed (by decide +kernel)
theorem dX3_isNamed_7 : decode cX3_isNamed 7 = .ok (.bipush 9, 2) := qd_16 kq_cX3_isNamed (by decide +kernel)
theorem dX3_isNamed_9 : decode cX3_isNamed 9 = .ok (.if_icmp .eq 9, 3) := qd_159 kq_cX3_isNamed (by decide +kernel)
theorem dX3_isNamed_12 : decode cX3_isNamed 12 = .ok (.iload_n 0, 1) := qd_26 kq_cX3_isNamed (by decide +kernel)
theorem dX3_isNamed_13 : decode cX3_isNamed 13 = .ok (.bipush 10, 2) := qd_16 kq_cX3_isNamed (by decide +kernel)
theorem dX3_isNamed_15 : decode cX3_isNamed 15 = .ok (.if_icmp .ne 7, 3) := qd_160 kq_cX3_isNamed (by decide +kernel)
theorem dX3_isNamed_18 : decode cX3_isNamed 18 = .ok (.iconst 1, 1) := qd_4 kq_cX3_isNamed (by decide +kernel)
theorem dX3_isNamed_19 : decode cX3_isNamed 19 = .ok (.goto 4, 3) := qd_167 kq_cX3_isNamed (by decide +kernel)
theorem dX3_isNamed_22 : decode cX3_isNamed 22 = .ok (.iconst 0, 1) := qd_3 kq_cX3_isNamed (by decide +kernel)
theorem dX3_isNamed_23 : decode cX3_isNamed 23 = .ok (.ireturn, 1) := qd_172 kq_cX3_isNamed (by decide +kernel)
def rmX3_isNamed (mc ms : Nat) : Room := { frames := 0, cells := mc, slots := ms, locals := 0 }
abbrev cX3_word : ByteArray := prog_6_method_3_code
def yX3_word : MethodName := ⟨RX3, "word", "(I)Ljava/lang/String;"⟩
def wsX3_word : List Cond := .code yX3_word cX3_word 1 (some (.object "java/lang/String")) :: sr_G
def nq_cX3_word : Nat := 0xb02112b01f12b01d12b01b12b01912b01712b01512b01312b01112b00f12b00d12b00b12590000005600000053000000500000004d0000004a0000004700000044000000410000003e0000003b0000000a000000000000005c0000000000aa1a
theorem kq_cX3_word : qOk cX3_word nq_cX3_word 96 = true := by decide +kernel
theorem dX3_word_0 : decode cX3_word 0 = .ok (.iload_n 0, 1) := qd_26 kq_cX3_word (by decide +kernel)
theorem dX3_word_1 : decode cX3_word 1 = .ok (.tableswitch 92 0 10 #[59, 62, 65, 68, 71, 74, 77, 80, 83, 86, 89], 59) := by decide +kernel
theorem dX3_word_60 : decode cX3_word 60 = .ok (.ldc 11, 2) := qd_18 kq_cX3_word (by decide +kernel)
theorem dX3_word_62 : decode cX3_word 62 = .ok (.areturn, 1) := qd_176 kq_cX3_word (by decide +kernel)
theorem dX3_word_63 : decode cX3_word 63 = .ok (.ldc 13, 2) := qd_18 kq_cX3_word (by decide +kernel)
theorem dX3_word_65 : decode cX3_word 65 = .ok (.areturn, 1) := qd_176 kq_cX3_word (by decide +kernel)
theorem dX3_word_66 : decode cX3_word 66 = .ok (.ldc 15, 2) := qd_18 kq_cX3_word (by decide +kernel)
theorem dX3_word_68 : decode cX3_word 68 = .ok (.areturn, 1) := qd_176 kq_cX3_word (by decide +kernel)
theorem dX3_word_69 : decode cX3_word 69 = .ok (.ldc 17, 2) := qd_18 kq_cX3_word (by decide +kernel)
theorem dX3_word_71 : decode cX3_word 71 = .ok (.areturn, 1) := qd_176 kq_cX3_word (by decide +kernel)
theorem dX3_word_72 : decode cX3_word 72 = .ok (.ldc 19, 2) := qd_18 kq_cX3_word (by decide +kernel)
theorem dX3_word_74 : decode cX3_word 74 = .ok (.areturn, 1) := qd_176 kq_cX3_word (by decide +kernel)
theorem dX3_word_75 : decode cX3_word 75 = .ok (.ldc 21, 2) := qd_18 kq_cX3_word (by decide +kernel)
theorem dX3_word_77 : decode cX3_word 77 = .ok (.areturn, 1) := qd_176 kq_cX3_word (by decide +kernel)
theorem dX3_word_78 : decode cX3_word 78 = .ok (.ldc 23, 2) := qd_18 kq_cX3_word (by decide +kernel)
theorem dX3_word_80 : decode cX3_word 80 = .ok (.areturn, 1) := qd_176 kq_cX3_word (by decide +kernel)
theorem dX3_word_81 : decode cX3_word 81 = .ok (.ldc 25, 2) := qd_18 kq_cX3_word (by decide +kernel)
theorem dX3_word_83 : decode cX3_word 83 = .ok (.areturn, 1) := qd_176 kq_cX3_word (by decide +kernel)
theorem dX3_word_84 : decode cX3_word 84 = .ok (.ldc 27, 2) := qd_18 kq_cX3_word (by decide +kernel)
theorem dX3_word_86 : decode cX3_word 86 = .ok (.areturn, 1) := qd_176 kq_cX3_word (by decide +kernel)
theorem dX3_word_87 : decode cX3_word 87 = .ok (.ldc 29, 2) := qd_18 kq_cX3_word (by decide +kernel)
theorem dX3_word_89 : decode cX3_word 89 = .ok (.areturn, 1) := qd_176 kq_cX3_word (by decide +kernel)
theorem dX3_word_90 : decode cX3_word 90 = .ok (.ldc 31, 2) := qd_18 kq_cX3_word (by decide +kernel)
theorem dX3_word_92 : decode cX3_word 92 = .ok (.areturn, 1) := qd_176 kq_cX3_word (by decide +kernel)
theorem dX3_word_93 : decode cX3_word 93 = .ok (.ldc 33, 2) := qd_18 kq_cX3_word (by decide +kernel)
theorem dX3_word_95 : decode cX3_word 95 = .ok (.areturn, 1) := qd_176 kq_cX3_word (by decide +kernel)
def rmX3_word (mc ms : Nat) : Room := { frames := 0, cells := mc, slots := ms, locals := 0 }
abbrev cX3_said : ByteArray := prog_6_method_4_code
def yX3_said : MethodName := ⟨RX3, "said", "(LSchemaReader$Text;I)I"⟩
def wsX3_said : List Cond := .code yX3_said cX3_said 3 (some .int) :: sr_G
def nq_cX3_said : Nat := 0xac02e9ffa7010284ac1c0500992700b62300b81c1b2a1700a30a101c3d03
theorem kq_cX3_said : qOk cX3_said nq_cX3_said 30 = true := by decide +kernel
theorem dX3_said_0 : decode cX3_said 0 = .ok (.iconst 0, 1) := qd_3 kq_cX3_said (by decide +kernel)
theorem dX3_said_1 : decode cX3_said 1 = .ok (.istore_n 2, 1) := qd_61 kq_cX3_said (by decide +kernel)
theorem dX3_said_2 : decode cX3_said 2 = .ok (.iload_n 2, 1) := qd_28 kq_cX3_said (by decide +kernel)
theorem dX3_said_3 : decode cX3_said 3 = .ok (.bipush 10, 2) := qd_16 kq_cX3_said (by decide +kernel)
theorem dX3_said_5 : decode cX3_said 5 = .ok (.if_icmp .gt 23, 3) := qd_163 kq_cX3_said (by decide +kernel)
theorem dX3_said_8 : decode cX3_said 8 = .ok (.aload_n 0, 1) := qd_42 kq_cX3_said (by decide +kernel)
theorem dX3_said_9 : decode cX3_said 9 = .ok (.iload_n 1, 1) := qd_27 kq_cX3_said (by decide +kernel)
theorem dX3_said_10 : decode cX3_said 10 = .ok (.iload_n 2, 1) := qd_28 kq_cX3_said (by decide +kernel)
theorem dX3_said_11 : decode cX3_said 11 = .ok (.invokestatic 35, 3) := qd_184 kq_cX3_said (by decide +kernel)
theorem dX3_said_14 : decode cX3_said 14 = .ok (.invokevirtual 39, 3) := qd_182 kq_cX3_said (by decide +kernel)
theorem dX3_said_17 : decode cX3_said 17 = .ok (.ifCond .eq 5, 3) := qd_153 kq_cX3_said (by decide +kernel)
theorem dX3_said_20 : decode cX3_said 20 = .ok (.iload_n 2, 1) := qd_28 kq_cX3_said (by decide +kernel)
theorem dX3_said_21 : decode cX3_said 21 = .ok (.ireturn, 1) := qd_172 kq_cX3_said (by decide +kernel)
theorem dX3_said_22 : decode cX3_said 22 = .ok (.iinc 2 1, 3) := qd_132 kq_cX3_said (by decide +kernel)
theorem dX3_said_25 : decode cX3_said 25 = .ok (.goto (-23), 3) := qd_167 kq_cX3_said (by decide +kernel)
theorem dX3_said_28 : decode cX3_said 28 = .ok (.iconst (-1), 1) := qd_2 kq_cX3_said (by decide +kernel)
theorem dX3_said_29 : decode cX3_said 29 = .ok (.ireturn, 1) := qd_172 kq_cX3_said (by decide +kernel)
def rmX3_said (mc ms : Nat) : Room := { frames := 5, cells := mc, slots := ms, locals := 108 }
abbrev cX6_isSlot : ByteArray := prog_9_method_6_code
def yX6_isSlot : MethodName := ⟨RX6, "isSlot", "(I)Z"⟩
def wsX6_isSlot : List Cond := .code yX6_isSlot cX6_isSlot 1 (some .boolean) :: sr_G
def nq_cX6_isSlot : Nat := 0xac030400a7040700a28000111a0e009b1a
theorem kq_cX6_isSlot : qOk cX6_isSlot nq_cX6_isSlot 17 = true := by decide +kernel
theorem dX6_isSlot_0 : decode cX6_isSlot 0 = .ok (.iload_n 0, 1) := qd_26 kq_cX6_isSlot (by decide +kernel)
theorem dX6_isSlot_1 : decode cX6_isSlot 1 = .ok (.ifCond .lt 14, 3) := qd_155 kq_cX6_isSlot (by decide +kernel)
theorem dX6_isSlot_4 : decode cX6_isSlot 4 = .ok (.iload_n 0, 1) := qd_26 kq_cX6_isSlot (by decide +kernel)
theorem dX6_isSlot_5 : decode cX6_isSlot 5 = .ok (.sipush 128, 3) := qd_17 kq_cX6_isSlot (by decide +kernel)
theorem dX6_isSlot_8 : decode cX6_isSlot 8 = .ok (.if_icmp .ge 7, 3) := qd_162 kq_cX6_isSlot (by decide +kernel)
theorem dX6_isSlot_11 : decode cX6_isSlot 11 = .ok (.iconst 1, 1) := qd_4 kq_cX6_isSlot (by decide +kernel)
theorem dX6_isSlot_12 : decode cX6_isSlot 12 = .ok (.goto 4, 3) := qd_167 kq_cX6_isSlot (by decide +kernel)
theorem dX6_isSlot_15 : decode cX6_isSlot 15 = .ok (.iconst 0, 1) := qd_3 kq_cX6_isSlot (by decide +kernel)
theorem dX6_isSlot_16 : decode cX6_isSlot 16 = .ok (.ireturn, 1) := qd_172 kq_cX6_isSlot (by decide +kernel)
def rmX6_isSlot (mc ms : Nat) : Room := { frames := 0, cells := mc, slots := ms, locals := 0 }
abbrev cX6_clear : ByteArray := prog_9_method_2_code
def yX6_clear : MethodName := ⟨RX6, "clear", "()V"⟩
def wsX6_clear : List Cond := .code yX6_clear cX6_clear 1 none :: sr_G
def nq_cX6_clear : Nat := 0xb13000b5032a2c00b5032a
theorem kq_cX6_clear : qOk cX6_clear nq_cX6_clear 11 = true := by decide +kernel
theorem dX6_clear_0 : decode cX6_clear 0 = .ok (.aload_n 0, 1) := qd_42 kq_cX6_clear (by decide +kernel)
theorem dX6_clear_1 : decode cX6_clear 1 = .ok (.iconst 0, 1) := qd_3 kq_cX6_clear (by decide +kernel)
theorem dX6_clear_2 : decode cX6_clear 2 = .ok (.putfield 44, 3) := qd_181 kq_cX6_clear (by decide +kernel)
theorem dX6_clear_5 : decode cX6_clear 5 = .ok (.aload_n 0, 1) := qd_42 kq_cX6_clear (by decide +kernel)
theorem dX6_clear_6 : decode cX6_clear 6 = .ok (.iconst 0, 1) := qd_3 kq_cX6_clear (by decide +kernel)
theorem dX6_clear_7 : decode cX6_clear 7 = .ok (.putfield 48, 3) := qd_181 kq_cX6_clear (by decide +kernel)
theorem dX6_clear_10 : decode cX6_clear 10 = .ok (.return_, 1) := qd_177 kq_cX6_clear (by decide +kernel)
def rmX6_clear (mc ms : Nat) : Room := { frames := 0, cells := mc, slots := ms, locals := 0 }
abbrev cX6_letterCount : ByteArray := prog_9_method_3_code
def yX6_letterCount : MethodName := ⟨RX6, "letterCount", "()I"⟩
def wsX6_letterCount : List Cond := .code yX6_letterCount cX6_letterCount 1 (some .int) :: sr_G
theorem dX6_letterCount_0 : decode cX6_letterCount 0 = .ok (.aload_n 0, 1) := by decide +kernel
theorem dX6_letterCount_1 : decode cX6_letterCount 1 = .ok (.getfield 44, 3) := by decide +kernel
theorem dX6_letterCount_4 : decode cX6_letterCount 4 = .ok (.ireturn, 1) := by decide +kernel
def rmX6_letterCount (mc ms : Nat) : Room := { frames := 0, cells := mc, slots := ms, locals := 0 }
abbrev cX6_letterAt : ByteArray := prog_9_method_4_code
def yX6_letterAt : MethodName := ⟨RX6, "letterAt", "(I)I"⟩
def wsX6_letterAt : List Cond := .code yX6_letterAt cX6_letterAt 2 (some .int) :: sr_G
def nq_cX6_letterAt : Nat := 0xac020400a77eff0011331b0900b42a1000a22c00b42a1b18009b1b
theorem kq_cX6_letterAt : qOk cX6_letterAt nq_cX6_letterAt 27 = true := by decide +kernel
theorem dX6_letterAt_0 : decode cX6_letterAt 0 = .ok (.iload_n 1, 1) := qd_27 kq_cX6_letterAt (by decide +kernel)
theorem dX6_letterAt_1 : decode cX6_letterAt 1 = .ok (.ifCond .lt 24, 3) := qd_155 kq_cX6_letterAt (by decide +kernel)
theorem dX6_letterAt_4 : decode cX6_letterAt 4 = .ok (.iload_n 1, 1) := qd_27 kq_cX6_letterAt (by decide +kernel)
theorem dX6_letterAt_5 : decode cX6_letterAt 5 = .ok (.aload_n 0, 1) := qd_42 kq_cX6_letterAt (by decide +kernel)
theorem dX6_letterAt_6 : decode cX6_letterAt 6 = .ok (.getfield 44, 3) := qd_180 kq_cX6_letterAt (by decide +kernel)
theorem dX6_letterAt_9 : decode cX6_letterAt 9 = .ok (.if_icmp .ge 16, 3) := qd_162 kq_cX6_letterAt (by decide +kernel)
theorem dX6_letterAt_12 : decode cX6_letterAt 12 = .ok (.aload_n 0, 1) := qd_42 kq_cX6_letterAt (by decide +kernel)
theorem dX6_letterAt_13 : decode cX6_letterAt 13 = .ok (.getfield 9, 3) := qd_180 kq_cX6_letterAt (by decide +kernel)
theorem dX6_letterAt_16 : decode cX6_letterAt 16 = .ok (.iload_n 1, 1) := qd_27 kq_cX6_letterAt (by decide +kernel)
theorem dX6_letterAt_17 : decode cX6_letterAt 17 = .ok (.baload, 1) := qd_51 kq_cX6_letterAt (by decide +kernel)
theorem dX6_letterAt_18 : decode cX6_letterAt 18 = .ok (.sipush 255, 3) := qd_17 kq_cX6_letterAt (by decide +kernel)
theorem dX6_letterAt_21 : decode cX6_letterAt 21 = .ok (.iand, 1) := qd_126 kq_cX6_letterAt (by decide +kernel)
theorem dX6_letterAt_22 : decode cX6_letterAt 22 = .ok (.goto 4, 3) := qd_167 kq_cX6_letterAt (by decide +kernel)
theorem dX6_letterAt_25 : decode cX6_letterAt 25 = .ok (.iconst (-1), 1) := qd_2 kq_cX6_letterAt (by decide +kernel)
theorem dX6_letterAt_26 : decode cX6_letterAt 26 = .ok (.ireturn, 1) := qd_172 kq_cX6_letterAt (by decide +kernel)
def rmX6_letterAt (mc ms : Nat) : Room := { frames := 0, cells := mc, slots := ms, locals := 0 }
abbrev cX6_open : ByteArray := prog_9_method_5_code
def yX6_open : MethodName := ⟨RX6, "open", "()I"⟩
def wsX6_open : List Cond := .code yX6_open cX6_open 2 (some .int) :: sr_G
def nq_cX6_open : Nat := 0xac1b54031b2900b42a54031b2500b42a4f031b2200b42a4f021b1f00b42a4f021b1c00b42a4f021b1900b42a4f021b1600b42a4f1b1b1300b42a4f021b0f00b42a3000b560043000b4592a3c3000b42aac020500a18000113000b42a
theorem kq_cX6_open : qOk cX6_open nq_cX6_open 92 = true := by decide +kernel
theorem dX6_open_0 : decode cX6_open 0 = .ok (.aload_n 0, 1) := qd_42 kq_cX6_open (by decide +kernel)
theorem dX6_open_1 : decode cX6_open 1 = .ok (.getfield 48, 3) := qd_180 kq_cX6_open (by decide +kernel)
theorem dX6_open_4 : decode cX6_open 4 = .ok (.sipush 128, 3) := qd_17 kq_cX6_open (by decide +kernel)
theorem dX6_open_7 : decode cX6_open 7 = .ok (.if_icmp .lt 5, 3) := qd_161 kq_cX6_open (by decide +kernel)
theorem dX6_open_10 : decode cX6_open 10 = .ok (.iconst (-1), 1) := qd_2 kq_cX6_open (by decide +kernel)
theorem dX6_open_11 : decode cX6_open 11 = .ok (.ireturn, 1) := qd_172 kq_cX6_open (by decide +kernel)
theorem dX6_open_12 : decode cX6_open 12 = .ok (.aload_n 0, 1) := qd_42 kq_cX6_open (by decide +kernel)
theorem dX6_open_13 : decode cX6_open 13 = .ok (.getfield 48, 3) := qd_180 kq_cX6_open (by decide +kernel)
theorem dX6_open_16 : decode cX6_open 16 = .ok (.istore_n 1, 1) := qd_60 kq_cX6_open (by decide +kernel)
theorem dX6_open_17 : decode cX6_open 17 = .ok (.aload_n 0, 1) := qd_42 kq_cX6_open (by decide +kernel)
theorem dX6_open_18 : decode cX6_open 18 = .ok (.dup, 1) := qd_89 kq_cX6_open (by decide +kernel)
theorem dX6_open_19 : decode cX6_open 19 = .ok (.getfield 48, 3) := qd_180 kq_cX6_open (by decide +kernel)
theorem dX6_open_22 : decode cX6_open 22 = .ok (.iconst 1, 1) := qd_4 kq_cX6_open (by decide +kernel)
theorem dX6_open_23 : decode cX6_open 23 = .ok (.iadd, 1) := qd_96 kq_cX6_open (by decide +kernel)
theorem dX6_open_24 : decode cX6_open 24 = .ok (.putfield 48, 3) := qd_181 kq_cX6_open (by decide +kernel)
theorem dX6_open_27 : decode cX6_open 27 = .ok (.aload_n 0, 1) := qd_42 kq_cX6_open (by decide +kernel)
theorem dX6_open_28 : decode cX6_open 28 = .ok (.getfield 15, 3) := qd_180 kq_cX6_open (by decide +kernel)
theorem dX6_open_31 : decode cX6_open 31 = .ok (.iload_n 1, 1) := qd_27 kq_cX6_open (by decide +kernel)
theorem dX6_open_32 : decode cX6_open 32 = .ok (.iconst (-1), 1) := qd_2 kq_cX6_open (by decide +kernel)
theorem dX6_open_33 : decode cX6_open 33 = .ok (.iastore, 1) := qd_79 kq_cX6_open (by decide +kernel)
theorem dX6_open_34 : decode cX6_open 34 = .ok (.aload_n 0, 1) := qd_42 kq_cX6_open (by decide +kernel)
theorem dX6_open_35 : decode cX6_open 35 = .ok (.getfield 19, 3) := qd_180 kq_cX6_open (by decide +kernel)
theorem dX6_open_38 : decode cX6_open 38 = .ok (.iload_n 1, 1) := qd_27 kq_cX6_open (by decide +kernel)
theorem dX6_open_39 : decode cX6_open 39 = .ok (.iload_n 1, 1) := qd_27 kq_cX6_open (by decide +kernel)
theorem dX6_open_40 : decode cX6_open 40 = .ok (.iastore, 1) := qd_79 kq_cX6_open (by decide +kernel)
theorem dX6_open_41 : decode cX6_open 41 = .ok (.aload_n 0, 1) := qd_42 kq_cX6_open (by decide +kernel)
theorem dX6_open_42 : decode cX6_open 42 = .ok (.getfield 22, 3) := qd_180 kq_cX6_open (by decide +kernel)
theorem dX6_open_45 : decode cX6_open 45 = .ok (.iload_n 1, 1) := qd_27 kq_cX6_open (by decide +kernel)
theorem dX6_open_46 : decode cX6_open 46 = .ok (.iconst (-1), 1) := qd_2 kq_cX6_open (by decide +kernel)
theorem dX6_open_47 : decode cX6_open 47 = .ok (.iastore, 1) := qd_79 kq_cX6_open (by decide +kernel)
theorem dX6_open_48 : decode cX6_open 48 = .ok (.aload_n 0, 1) := qd_42 kq_cX6_open (by decide +kernel)
theorem dX6_open_49 : decode cX6_open 49 = .ok (.getfield 25, 3) := qd_180 kq_cX6_open (by decide +kernel)
theorem dX6_open_52 : decode cX6_open 52 = .ok (.iload_n 1, 1) := qd_27 kq_cX6_open (by decide +kernel)
theorem dX6_open_53 : decode cX6_open 53 = .ok (.iconst (-1), 1) := qd_2 kq_cX6_open (by decide +kernel)
theorem dX6_open_54 : decode cX6_open 54 = .ok (.iastore, 1) := qd_79 kq_cX6_open (by decide +kernel)
theorem dX6_open_55 : decode cX6_open 55 = .ok (.aload_n 0, 1) := qd_42 kq_cX6_open (by decide +kernel)
theorem dX6_open_56 : decode cX6_open 56 = .ok (.getfield 28, 3) := qd_180 kq_cX6_open (by decide +kernel)
theorem dX6_open_59 : decode cX6_open 59 = .ok (.iload_n 1, 1) := qd_27 kq_cX6_open (by decide +kernel)
theorem dX6_open_60 : decode cX6_open 60 = .ok (.iconst (-1), 1) := qd_2 kq_cX6_open (by decide +kernel)
theorem dX6_open_61 : decode cX6_open 61 = .ok (.iastore, 1) := qd_79 kq_cX6_open (by decide +kernel)
theorem dX6_open_62 : decode cX6_open 62 = .ok (.aload_n 0, 1) := qd_42 kq_cX6_open (by decide +kernel)
theorem dX6_open_63 : decode cX6_open 63 = .ok (.getfield 31, 3) := qd_180 kq_cX6_open (by decide +kernel)
theorem dX6_open_66 : decode cX6_open 66 = .ok (.iload_n 1, 1) := qd_27 kq_cX6_open (by decide +kernel)
theorem dX6_open_67 : decode cX6_open 67 = .ok (.iconst (-1), 1) := qd_2 kq_cX6_open (by decide +kernel)
theorem dX6_open_68 : decode cX6_open 68 = .ok (.iastore, 1) := qd_79 kq_cX6_open (by decide +kernel)
theorem dX6_open_69 : decode cX6_open 69 = .ok (.aload_n 0, 1) := qd_42 kq_cX6_open (by decide +kernel)
theorem dX6_open_70 : decode cX6_open 70 = .ok (.getfield 34, 3) := qd_180 kq_cX6_open (by decide +kernel)
theorem dX6_open_73 : decode cX6_open 73 = .ok (.iload_n 1, 1) := qd_27 kq_cX6_open (by decide +kernel)
theorem dX6_open_74 : decode cX6_open 74 = .ok (.iconst 0, 1) := qd_3 kq_cX6_open (by decide +kernel)
theorem dX6_open_75 : decode cX6_open 75 = .ok (.iastore, 1) := qd_79 kq_cX6_open (by decide +kernel)
theorem dX6_open_76 : decode cX6_open 76 = .ok (.aload_n 0, 1) := qd_42 kq_cX6_open (by decide +kernel)
theorem dX6_open_77 : decode cX6_open 77 = .ok (.getfield 37, 3) := qd_180 kq_cX6_open (by decide +kernel)
theorem dX6_open_80 : decode cX6_open 80 = .ok (.iload_n 1, 1) := qd_27 kq_cX6_open (by decide +kernel)
theorem dX6_open_81 : decode cX6_open 81 = .ok (.iconst 0, 1) := qd_3 kq_cX6_open (by decide +kernel)
theorem dX6_open_82 : decode cX6_open 82 = .ok (.bastore, 1) := qd_84 kq_cX6_open (by decide +kernel)
theorem dX6_open_83 : decode cX6_open 83 = .ok (.aload_n 0, 1) := qd_42 kq_cX6_open (by decide +kernel)
theorem dX6_open_84 : decode cX6_open 84 = .ok (.getfield 41, 3) := qd_180 kq_cX6_open (by decide +kernel)
theorem dX6_open_87 : decode cX6_open 87 = .ok (.iload_n 1, 1) := qd_27 kq_cX6_open (by decide +kernel)
theorem dX6_open_88 : decode cX6_open 88 = .ok (.iconst 0, 1) := qd_3 kq_cX6_open (by decide +kernel)
theorem dX6_open_89 : decode cX6_open 89 = .ok (.bastore, 1) := qd_84 kq_cX6_open (by decide +kernel)
theorem dX6_open_90 : decode cX6_open 90 = .ok (.iload_n 1, 1) := qd_27 kq_cX6_open (by decide +kernel)
theorem dX6_open_91 : decode cX6_open 91 = .ok (.ireturn, 1) := qd_172 kq_cX6_open (by decide +kernel)
def rmX6_open (mc ms : Nat) : Room := { frames := 0, cells := mc, slots := ms, locals := 0 }
abbrev cX6_meant : ByteArray := prog_9_method_7_code
def yX6_meant : MethodName := ⟨RX6, "meant", "(I)I"⟩
def wsX6_meant : List Cond := .code yX6_meant cX6_meant 2 (some .int) :: sr_G
def nq_cX6_meant : Nat := 0xac3300b81b1300b42a
theorem kq_cX6_meant : qOk cX6_meant nq_cX6_meant 9 = true := by decide +kernel
theorem dX6_meant_0 : decode cX6_meant 0 = .ok (.aload_n 0, 1) := qd_42 kq_cX6_meant (by decide +kernel)
theorem dX6_meant_1 : decode cX6_meant 1 = .ok (.getfield 19, 3) := qd_180 kq_cX6_meant (by decide +kernel)
theorem dX6_meant_4 : decode cX6_meant 4 = .ok (.iload_n 1, 1) := qd_27 kq_cX6_meant (by decide +kernel)
theorem dX6_meant_5 : decode cX6_meant 5 = .ok (.invokestatic 51, 3) := qd_184 kq_cX6_meant (by decide +kernel)
theorem dX6_meant_8 : decode cX6_meant 8 = .ok (.ireturn, 1) := qd_172 kq_cX6_meant (by decide +kernel)
def rmX6_meant (mc ms : Nat) : Room := { frames := 1, cells := mc, slots := ms, locals := 21 }
abbrev cX6_kind : ByteArray := prog_9_method_8_code
def yX6_kind : MethodName := ⟨RX6, "kind", "(I)I"⟩
def wsX6_kind : List Cond := .code yX6_kind cX6_kind 2 (some .int) :: sr_G
def nq_cX6_kind : Nat := 0xac3300b83300b81b1300b42a0f00b42a
theorem kq_cX6_kind : qOk cX6_kind nq_cX6_kind 16 = true := by decide +kernel
theorem dX6_kind_0 : decode cX6_kind 0 = .ok (.aload_n 0, 1) := qd_42 kq_cX6_kind (by decide +kernel)
theorem dX6_kind_1 : decode cX6_kind 1 = .ok (.getfield 15, 3) := qd_180 kq_cX6_kind (by decide +kernel)
theorem dX6_kind_4 : decode cX6_kind 4 = .ok (.aload_n 0, 1) := qd_42 kq_cX6_kind (by decide +kernel)
theorem dX6_kind_5 : decode cX6_kind 5 = .ok (.getfield 19, 3) := qd_180 kq_cX6_kind (by decide +kernel)
theorem dX6_kind_8 : decode cX6_kind 8 = .ok (.iload_n 1, 1) := qd_27 kq_cX6_kind (by decide +kernel)
theorem dX6_kind_9 : decode cX6_kind 9 = .ok (.invokestatic 51, 3) := qd_184 kq_cX6_kind (by decide +kernel)
theorem dX6_kind_12 : decode cX6_kind 12 = .ok (.invokestatic 51, 3) := qd_184 kq_cX6_kind (by decide +kernel)
theorem dX6_kind_15 : decode cX6_kind 15 = .ok (.ireturn, 1) := qd_172 kq_cX6_kind (by decide +kernel)
def rmX6_kind (mc ms : Nat) : Room := { frames := 1, cells := mc, slots := ms, locals := 21 }
abbrev cX6_first : ByteArray := prog_9_method_9_code
def yX6_first : MethodName := ⟨RX6, "first", "(I)I"⟩
def wsX6_first : List Cond := .code yX6_first cX6_first 2 (some .int) :: sr_G
def nq_cX6_first : Nat := 0xac3300b83300b81b1300b42a1600b42a
theorem kq_cX6_first : qOk cX6_first nq_cX6_first 16 = true := by decide +kernel
theorem dX6_first_0 : decode cX6_first 0 = .ok (.aload_n 0, 1) := qd_42 kq_cX6_first (by decide +kernel)
theorem dX6_first_1 : decode cX6_first 1 = .ok (.getfield 22, 3) := qd_180 kq_cX6_first (by decide +kernel)
theorem dX6_first_4 : decode cX6_first 4 = .ok (.aload_n 0, 1) := qd_42 kq_cX6_first (by decide +kernel)
theorem dX6_first_5 : decode cX6_first 5 = .ok (.getfield 19, 3) := qd_180 kq_cX6_first (by decide +kernel)
theorem dX6_first_8 : decode cX6_first 8 = .ok (.iload_n 1, 1) := qd_27 kq_cX6_first (by decide +kernel)
theorem dX6_first_9 : decode cX6_first 9 = .ok (.invokestatic 51, 3) := qd_184 kq_cX6_first (by decide +kernel)
theorem dX6_first_12 : decode cX6_first 12 = .ok (.invokestatic 51, 3) := qd_184 kq_cX6_first (by decide +kernel)
theorem dX6_first_15 : decode cX6_first 15 = .ok (.ireturn, 1) := qd_172 kq_cX6_first (by decide +kernel)
def rmX6_first (mc ms : Nat) : Room := { frames := 1, cells := mc, slots := ms, locals := 21 }
abbrev cX6_next : ByteArray := prog_9_method_10_code
def yX6_next : MethodName := ⟨RX6, "next", "(I)I"⟩
def wsX6_next : List Cond := .code yX6_next cX6_next 2 (some .int) :: sr_G
def nq_cX6_next : Nat := 0xac3300b81b1900b42a
theorem kq_cX6_next : qOk cX6_next nq_cX6_next 9 = true := by decide +kernel
theorem dX6_next_0 : decode cX6_next 0 = .ok (.aload_n 0, 1) := qd_42 kq_cX6_next (by decide +kernel)
theorem dX6_next_1 : decode cX6_next 1 = .ok (.getfield 25, 3) := qd_180 kq_cX6_next (by decide +kernel)
theorem dX6_next_4 : decode cX6_next 4 = .ok (.iload_n 1, 1) := qd_27 kq_cX6_next (by decide +kernel)
theorem dX6_next_5 : decode cX6_next 5 = .ok (.invokestatic 51, 3) := qd_184 kq_cX6_next (by decide +kernel)
theorem dX6_next_8 : decode cX6_next 8 = .ok (.ireturn, 1) := qd_172 kq_cX6_next (by decide +kernel)
def rmX6_next (mc ms : Nat) : Room := { frames := 1, cells := mc, slots := ms, locals := 21 }
abbrev cX6_amount : ByteArray := prog_9_method_11_code
def yX6_amount : MethodName := ⟨RX6, "amount", "(I)I"⟩
def wsX6_amount : List Cond := .code yX6_amount cX6_amount 2 (some .int) :: sr_G
def nq_cX6_amount : Nat := 0xac3300b83300b81b1300b42a2200b42a
theorem kq_cX6_amount : qOk cX6_amount nq_cX6_amount 16 = true := by decide +kernel
theorem dX6_amount_0 : decode cX6_amount 0 = .ok (.aload_n 0, 1) := qd_42 kq_cX6_amount (by decide +kernel)
theorem dX6_amount_1 : decode cX6_amount 1 = .ok (.getfield 34, 3) := qd_180 kq_cX6_amount (by decide +kernel)
theorem dX6_amount_4 : decode cX6_amount 4 = .ok (.aload_n 0, 1) := qd_42 kq_cX6_amount (by decide +kernel)
theorem dX6_amount_5 : decode cX6_amount 5 = .ok (.getfield 19, 3) := qd_180 kq_cX6_amount (by decide +kernel)
theorem dX6_amount_8 : decode cX6_amount 8 = .ok (.iload_n 1, 1) := qd_27 kq_cX6_amount (by decide +kernel)
theorem dX6_amount_9 : decode cX6_amount 9 = .ok (.invokestatic 51, 3) := qd_184 kq_cX6_amount (by decide +kernel)
theorem dX6_amount_12 : decode cX6_amount 12 = .ok (.invokestatic 51, 3) := qd_184 kq_cX6_amount (by decide +kernel)
theorem dX6_amount_15 : decode cX6_amount 15 = .ok (.ireturn, 1) := qd_172 kq_cX6_amount (by decide +kernel)
def rmX6_amount (mc ms : Nat) : Room := { frames := 1, cells := mc, slots := ms, locals := 21 }
abbrev cX6_name : ByteArray := prog_9_method_12_code
def yX6_name : MethodName := ⟨RX6, "name", "(I)I"⟩
def wsX6_name : List Cond := .code yX6_name cX6_name 2 (some .int) :: sr_G
def nq_cX6_name : Nat := 0xac3300b83300b81b1300b42a1c00b42a
theorem kq_cX6_name : qOk cX6_name nq_cX6_name 16 = true := by decide +kernel
theorem dX6_name_0 : decode cX6_name 0 = .ok (.aload_n 0, 1) := qd_42 kq_cX6_name (by decide +kernel)
theorem dX6_name_1 : decode cX6_name 1 = .ok (.getfield 28, 3) := qd_180 kq_cX6_name (by decide +kernel)
theorem dX6_name_4 : decode cX6_name 4 = .ok (.aload_n 0, 1) := qd_42 kq_cX6_name (by decide +kernel)
theorem dX6_name_5 : decode cX6_name 5 = .ok (.getfield 19, 3) := qd_180 kq_cX6_name (by decide +kernel)
theorem dX6_name_8 : decode cX6_name 8 = .ok (.iload_n 1, 1) := qd_27 kq_cX6_name (by decide +kernel)
theorem dX6_name_9 : decode cX6_name 9 = .ok (.invokestatic 51, 3) := qd_184 kq_cX6_name (by decide +kernel)
theorem dX6_name_12 : decode cX6_name 12 = .ok (.invokestatic 51, 3) := qd_184 kq_cX6_name (by decide +kernel)
theorem dX6_name_15 : decode cX6_name 15 = .ok (.ireturn, 1) := qd_172 kq_cX6_name (by decide +kernel)
def rmX6_name (mc ms : Nat) : Room := { frames := 1, cells := mc, slots := ms, locals := 21 }
abbrev cX6_fieldName : ByteArray := prog_9_method_13_code
def yX6_fieldName : MethodName := ⟨RX6, "fieldName", "(I)I"⟩
def wsX6_fieldName : List Cond := .code yX6_fieldName cX6_fieldName 2 (some .int) :: sr_G
def nq_cX6_fieldName : Nat := 0xac3300b81b1f00b42a
theorem kq_cX6_fieldName : qOk cX6_fieldName nq_cX6_fieldName 9 = true := by decide +kernel
theorem dX6_fieldName_0 : decode cX6_fieldName 0 = .ok (.aload_n 0, 1) := qd_42 kq_cX6_fieldName (by decide +kernel)
theorem dX6_fieldName_1 : decode cX6_fieldName 1 = .ok (.getfield 31, 3) := qd_180 kq_cX6_fieldName (by decide +kernel)
theorem dX6_fieldName_4 : decode cX6_fieldName 4 = .ok (.iload_n 1, 1) := qd_27 kq_cX6_fieldName (by decide +kernel)
theorem dX6_fieldName_5 : decode cX6_fieldName 5 = .ok (.invokestatic 51, 3) := qd_184 kq_cX6_fieldName (by decide +kernel)
theorem dX6_fieldName_8 : decode cX6_fieldName 8 = .ok (.ireturn, 1) := qd_172 kq_cX6_fieldName (by decide +kernel)
def rmX6_fieldName (mc ms : Nat) : Room := { frames := 1, cells := mc, slots := ms, locals := 21 }
abbrev cX6_hasFieldDefault : ByteArray := prog_9_method_14_code
def yX6_hasFieldDefault : MethodName := ⟨RX6, "hasFieldDefault", "(I)Z"⟩
def wsX6_hasFieldDefault : List Cond := .code yX6_hasFieldDefault cX6_hasFieldDefault 2 (some .boolean) :: sr_G
def nq_cX6_hasFieldDefault : Nat := 0xac030400a704070099331b2500b42a1000993700b81b
theorem kq_cX6_hasFieldDefault : qOk cX6_hasFieldDefault nq_cX6_hasFieldDefault 22 = true := by decide +kernel
theorem dX6_hasFieldDefault_0 : decode cX6_hasFieldDefault 0 = .ok (.iload_n 1, 1) := qd_27 kq_cX6_hasFieldDefault (by decide +kernel)
theorem dX6_hasFieldDefault_1 : decode cX6_hasFieldDefault 1 = .ok (.invokestatic 55, 3) := qd_184 kq_cX6_hasFieldDefault (by decide +kernel)
theorem dX6_hasFieldDefault_4 : decode cX6_hasFieldDefault 4 = .ok (.ifCond .eq 16, 3) := qd_153 kq_cX6_hasFieldDefault (by decide +kernel)
theorem dX6_hasFieldDefault_7 : decode cX6_hasFieldDefault 7 = .ok (.aload_n 0, 1) := qd_42 kq_cX6_hasFieldDefault (by decide +kernel)
theorem dX6_hasFieldDefault_8 : decode cX6_hasFieldDefault 8 = .ok (.getfield 37, 3) := qd_180 kq_cX6_hasFieldDefault (by decide +kernel)
theorem dX6_hasFieldDefault_11 : decode cX6_hasFieldDefault 11 = .ok (.iload_n 1, 1) := qd_27 kq_cX6_hasFieldDefault (by decide +kernel)
theorem dX6_hasFieldDefault_12 : decode cX6_hasFieldDefault 12 = .ok (.baload, 1) := qd_51 kq_cX6_hasFieldDefault (by decide +kernel)
theorem dX6_hasFieldDefault_13 : decode cX6_hasFieldDefault 13 = .ok (.ifCond .eq 7, 3) := qd_153 kq_cX6_hasFieldDefault (by decide +kernel)
theorem dX6_hasFieldDefault_16 : decode cX6_hasFieldDefault 16 = .ok (.iconst 1, 1) := qd_4 kq_cX6_hasFieldDefault (by decide +kernel)
theorem dX6_hasFieldDefault_17 : decode cX6_hasFieldDefault 17 = .ok (.goto 4, 3) := qd_167 kq_cX6_hasFieldDefault (by decide +kernel)
theorem dX6_hasFieldDefault_20 : decode cX6_hasFieldDefault 20 = .ok (.iconst 0, 1) := qd_3 kq_cX6_hasFieldDefault (by decide +kernel)
theorem dX6_hasFieldDefault_21 : decode cX6_hasFieldDefault 21 = .ok (.ireturn, 1) := qd_172 kq_cX6_hasFieldDefault (by decide +kernel)
def rmX6_hasFieldDefault (mc ms : Nat) : Room := { frames := 1, cells := mc, slots := ms, locals := 20 }
abbrev cX6_hasEnumDefault : ByteArray := prog_9_method_15_code
def yX6_hasEnumDefault : MethodName := ⟨RX6, "hasEnumDefault", "(I)Z"⟩
def wsX6_hasEnumDefault : List Cond := .code yX6_hasEnumDefault cX6_hasEnumDefault 3 (some .boolean) :: sr_G
def nq_cX6_hasEnumDefault : Nat := 0xac030400a704070099331c2900b42a1000993700b81c3d3b00b61b2a
theorem kq_cX6_hasEnumDefault : qOk cX6_hasEnumDefault nq_cX6_hasEnumDefault 28 = true := by decide +kernel
theorem dX6_hasEnumDefault_0 : decode cX6_hasEnumDefault 0 = .ok (.aload_n 0, 1) := qd_42 kq_cX6_hasEnumDefault (by decide +kernel)
theorem dX6_hasEnumDefault_1 : decode cX6_hasEnumDefault 1 = .ok (.iload_n 1, 1) := qd_27 kq_cX6_hasEnumDefault (by decide +kernel)
theorem dX6_hasEnumDefault_2 : decode cX6_hasEnumDefault 2 = .ok (.invokevirtual 59, 3) := qd_182 kq_cX6_hasEnumDefault (by decide +kernel)
theorem dX6_hasEnumDefault_5 : decode cX6_hasEnumDefault 5 = .ok (.istore_n 2, 1) := qd_61 kq_cX6_hasEnumDefault (by decide +kernel)
theorem dX6_hasEnumDefault_6 : decode cX6_hasEnumDefault 6 = .ok (.iload_n 2, 1) := qd_28 kq_cX6_hasEnumDefault (by decide +kernel)
theorem dX6_hasEnumDefault_7 : decode cX6_hasEnumDefault 7 = .ok (.invokestatic 55, 3) := qd_184 kq_cX6_hasEnumDefault (by decide +kernel)
theorem dX6_hasEnumDefault_10 : decode cX6_hasEnumDefault 10 = .ok (.ifCond .eq 16, 3) := qd_153 kq_cX6_hasEnumDefault (by decide +kernel)
theorem dX6_hasEnumDefault_13 : decode cX6_hasEnumDefault 13 = .ok (.aload_n 0, 1) := qd_42 kq_cX6_hasEnumDefault (by decide +kernel)
theorem dX6_hasEnumDefault_14 : decode cX6_hasEnumDefault 14 = .ok (.getfield 41, 3) := qd_180 kq_cX6_hasEnumDefault (by decide +kernel)
theorem dX6_hasEnumDefault_17 : decode cX6_hasEnumDefault 17 = .ok (.iload_n 2, 1) := qd_28 kq_cX6_hasEnumDefault (by decide +kernel)
theorem dX6_hasEnumDefault_18 : decode cX6_hasEnumDefault 18 = .ok (.baload, 1) := qd_51 kq_cX6_hasEnumDefault (by decide +kernel)
theorem dX6_hasEnumDefault_19 : decode cX6_hasEnumDefault 19 = .ok (.ifCond .eq 7, 3) := qd_153 kq_cX6_hasEnumDefault (by decide +kernel)
theorem dX6_hasEnumDefault_22 : decode cX6_hasEnumDefault 22 = .ok (.iconst 1, 1) := qd_4 kq_cX6_hasEnumDefault (by decide +kernel)
theorem dX6_hasEnumDefault_23 : decode cX6_hasEnumDefault 23 = .ok (.goto 4, 3) := qd_167 kq_cX6_hasEnumDefault (by decide +kernel)
theorem dX6_hasEnumDefault_26 : decode cX6_hasEnumDefault 26 = .ok (.iconst 0, 1) := qd_3 kq_cX6_hasEnumDefault (by decide +kernel)
theorem dX6_hasEnumDefault_27 : decode cX6_hasEnumDefault 27 = .ok (.ireturn, 1) := qd_172 kq_cX6_hasEnumDefault (by decide +kernel)
def rmX6_hasEnumDefault (mc ms : Nat) : Room := { frames := 2, cells := mc, slots := ms, locals := 42 }
abbrev cX6_setKind : ByteArray := prog_9_method_16_code
def yX6_setKind : MethodName := ⟨RX6, "setKind", "(II)V"⟩
def wsX6_setKind : List Cond := .code yX6_setKind cX6_setKind 3 none :: sr_G
def nq_cX6_setKind : Nat := 0xb14f1c1b0f00b42a0a00993700b81b
theorem kq_cX6_setKind : qOk cX6_setKind nq_cX6_setKind 15 = true := by decide +kernel
theorem dX6_setKind_0 : decode cX6_setKind 0 = .ok (.iload_n 1, 1) := qd_27 kq_cX6_setKind (by decide +kernel)
theorem dX6_setKind_1 : decode cX6_setKind 1 = .ok (.invokestatic 55, 3) := qd_184 kq_cX6_setKind (by decide +kernel)
theorem dX6_setKind_4 : decode cX6_setKind 4 = .ok (.ifCond .eq 10, 3) := qd_153 kq_cX6_setKind (by decide +kernel)
theorem dX6_setKind_7 : decode cX6_setKind 7 = .ok (.aload_n 0, 1) := qd_42 kq_cX6_setKind (by decide +kernel)
theorem dX6_setKind_8 : decode cX6_setKind 8 = .ok (.getfield 15, 3) := qd_180 kq_cX6_setKind (by decide +kernel)
theorem dX6_setKind_11 : decode cX6_setKind 11 = .ok (.iload_n 1, 1) := qd_27 kq_cX6_setKind (by decide +kernel)
theorem dX6_setKind_12 : decode cX6_setKind 12 = .ok (.iload_n 2, 1) := qd_28 kq_cX6_setKind (by decide +kernel)
theorem dX6_setKind_13 : decode cX6_setKind 13 = .ok (.iastore, 1) := qd_79 kq_cX6_setKind (by decide +kernel)
theorem dX6_setKind_14 : decode cX6_setKind 14 = .ok (.return_, 1) := qd_177 kq_cX6_setKind (by decide +kernel)
def rmX6_setKind (mc ms : Nat) : Room := { frames := 1, cells := mc, slots := ms, locals := 20 }
abbrev cX6_setMeant : ByteArray := prog_9_method_17_code
def yX6_setMeant : MethodName := ⟨RX6, "setMeant", "(II)V"⟩
def wsX6_setMeant : List Cond := .code yX6_setMeant cX6_setMeant 3 none :: sr_G
def nq_cX6_setMeant : Nat := 0xb14f1c1b1300b42a0a00993700b81b
theorem kq_cX6_setMeant : qOk cX6_setMeant nq_cX6_setMeant 15 = true := by decide +kernel
theorem dX6_setMeant_0 : decode cX6_setMeant 0 = .ok (.iload_n 1, 1) := qd_27 kq_cX6_setMeant (by decide +kernel)
theorem dX6_setMeant_1 : decode cX6_setMeant 1 = .ok (.invokestatic 55, 3) := qd_184 kq_cX6_setMeant (by decide +kernel)
theorem dX6_setMeant_4 : decode cX6_setMeant 4 = .ok (.ifCond .eq 10, 3) := qd_153 kq_cX6_setMeant (by decide +kernel)
theorem dX6_setMeant_7 : decode cX6_setMeant 7 = .ok (.aload_n 0, 1) := qd_42 kq_cX6_setMeant (by decide +kernel)
theorem dX6_setMeant_8 : decode cX6_setMeant 8 = .ok (.getfield 19, 3) := qd_180 kq_cX6_setMeant (by decide +kernel)
theorem dX6_setMeant_11 : decode cX6_setMeant 11 = .ok (.iload_n 1, 1) := qd_27 kq_cX6_setMeant (by decide +kernel)
theorem dX6_setMeant_12 : decode cX6_setMeant 12 = .ok (.iload_n 2, 1) := qd_28 kq_cX6_setMeant (by decide +kernel)
theorem dX6_setMeant_13 : decode cX6_setMeant 13 = .ok (.iastore, 1) := qd_79 kq_cX6_setMeant (by decide +kernel)
theorem dX6_setMeant_14 : decode cX6_setMeant 14 = .ok (.return_, 1) := qd_177 kq_cX6_setMeant (by decide +kernel)
def rmX6_setMeant (mc ms : Nat) : Room := { frames := 1, cells := mc, slots := ms, locals := 20 }
abbrev cX6_setName : ByteArray := prog_9_method_18_code
def yX6_setName : MethodName := ⟨RX6, "setName", "(II)V"⟩
def wsX6_setName : List Cond := .code yX6_setName cX6_setName 3 none :: sr_G
def nq_cX6_setName : Nat := 0xb14f1c1b1c00b42a0a00993700b81b
theorem kq_cX6_setName : qOk cX6_setName nq_cX6_setName 15 = true := by decide +kernel
theorem dX6_setName_0 : decode cX6_setName 0 = .ok (.iload_n 1, 1) := qd_27 kq_cX6_setName (by decide +kernel)
theorem dX6_setName_1 : decode cX6_setName 1 = .ok (.invokestatic 55, 3) := qd_184 kq_cX6_setName (by decide +kernel)
theorem dX6_setName_4 : decode cX6_setName 4 = .ok (.ifCond .eq 10, 3) := qd_153 kq_cX6_setName (by decide +kernel)
theorem dX6_setName_7 : decode cX6_setName 7 = .ok (.aload_n 0, 1) := qd_42 kq_cX6_setName (by decide +kernel)
theorem dX6_setName_8 : decode cX6_setName 8 = .ok (.getfield 28, 3) := qd_180 kq_cX6_setName (by decide +kernel)
theorem dX6_setName_11 : decode cX6_setName 11 = .ok (.iload_n 1, 1) := qd_27 kq_cX6_setName (by decide +kernel)
theorem dX6_setName_12 : decode cX6_setName 12 = .ok (.iload_n 2, 1) := qd_28 kq_cX6_setName (by decide +kernel)
theorem dX6_setName_13 : decode cX6_setName 13 = .ok (.iastore, 1) := qd_79 kq_cX6_setName (by decide +kernel)
theorem dX6_setName_14 : decode cX6_setName 14 = .ok (.return_, 1) := qd_177 kq_cX6_setName (by decide +kernel)
def rmX6_setName (mc ms : Nat) : Room := { frames := 1, cells := mc, slots := ms, locals := 20 }
abbrev cX6_setAmount : ByteArray := prog_9_method_19_code
def yX6_setAmount : MethodName := ⟨RX6, "setAmount", "(II)V"⟩
def wsX6_setAmount : List Cond := .code yX6_setAmount cX6_setAmount 3 none :: sr_G
def nq_cX6_setAmount : Nat := 0xb14f1c1b2200b42a0a00993700b81b
theorem kq_cX6_setAmount : qOk cX6_setAmount nq_cX6_setAmount 15 = true := by decide +kernel
theorem dX6_setAmount_0 : decode cX6_setAmount 0 = .ok (.iload_n 1, 1) := qd_27 kq_cX6_setAmount (by decide +kernel)
theorem dX6_setAmount_1 : decode cX6_setAmount 1 = .ok (.invokestatic 55, 3) := qd_184 kq_cX6_setAmount (by decide +kernel)
theorem dX6_setAmount_4 : decode cX6_setAmount 4 = .ok (.ifCond .eq 10, 3) := qd_153 kq_cX6_setAmount (by decide +kernel)
theorem dX6_setAmount_7 : decode cX6_setAmount 7 = .ok (.aload_n 0, 1) := qd_42 kq_cX6_setAmount (by decide +kernel)
theorem dX6_setAmount_8 : decode cX6_setAmount 8 = .ok (.getfield 34, 3) := qd_180 kq_cX6_setAmount (by decide +kernel)
theorem dX6_setAmount_11 : decode cX6_setAmount 11 = .ok (.iload_n 1, 1) := qd_27 kq_cX6_setAmount (by decide +kernel)
theorem dX6_setAmount_12 : decode cX6_setAmount 12 = .ok (.iload_n 2, 1) := qd_28 kq_cX6_setAmount (by decide +kernel)
theorem dX6_setAmount_13 : decode cX6_setAmount 13 = .ok (.iastore, 1) := qd_79 kq_cX6_setAmount (by decide +kernel)
theorem dX6_setAmount_14 : decode cX6_setAmount 14 = .ok (.return_, 1) := qd_177 kq_cX6_setAmount (by decide +kernel)
def rmX6_setAmount (mc ms : Nat) : Room := { frames := 1, cells := mc, slots := ms, locals := 20 }
abbrev cX6_setField : ByteArray := prog_9_method_20_code
def yX6_setField : MethodName := ⟨RX6, "setField", "(IIZ)V"⟩
def wsX6_setField : List Cond := .code yX6_setField cX6_setField 4 none :: sr_G
def nq_cX6_setField : Nat := 0xb1541d1b2500b42a4f1c1b1f00b42a1100993700b81b
theorem kq_cX6_setField : qOk cX6_setField nq_cX6_setField 22 = true := by decide +kernel
theorem dX6_setField_0 : decode cX6_setField 0 = .ok (.iload_n 1, 1) := qd_27 kq_cX6_setField (by decide +kernel)
theorem dX6_setField_1 : decode cX6_setField 1 = .ok (.invokestatic 55, 3) := qd_184 kq_cX6_setField (by decide +kernel)
theorem dX6_setField_4 : decode cX6_setField 4 = .ok (.ifCond .eq 17, 3) := qd_153 kq_cX6_setField (by decide +kernel)
theorem dX6_setField_7 : decode cX6_setField 7 = .ok (.aload_n 0, 1) := qd_42 kq_cX6_setField (by decide +kernel)
theorem dX6_setField_8 : decode cX6_setField 8 = .ok (.getfield 31, 3) := qd_180 kq_cX6_setField (by decide +kernel)
theorem dX6_setField_11 : decode cX6_setField 11 = .ok (.iload_n 1, 1) := qd_27 kq_cX6_setField (by decide +kernel)
theorem dX6_setField_12 : decode cX6_setField 12 = .ok (.iload_n 2, 1) := qd_28 kq_cX6_setField (by decide +kernel)
theorem dX6_setField_13 : decode cX6_setField 13 = .ok (.iastore, 1) := qd_79 kq_cX6_setField (by decide +kernel)
theorem dX6_setField_14 : decode cX6_setField 14 = .ok (.aload_n 0, 1) := qd_42 kq_cX6_setField (by decide +kernel)
theorem dX6_setField_15 : decode cX6_setField 15 = .ok (.getfield 37, 3) := qd_180 kq_cX6_setField (by decide +kernel)
theorem dX6_setField_18 : decode cX6_setField 18 = .ok (.iload_n 1, 1) := qd_27 kq_cX6_setField (by decide +kernel)
theorem dX6_setField_19 : decode cX6_setField 19 = .ok (.iload_n 3, 1) := qd_29 kq_cX6_setField (by decide +kernel)
theorem dX6_setField_20 : decode cX6_setField 20 = .ok (.bastore, 1) := qd_84 kq_cX6_setField (by decide +kernel)
theorem dX6_setField_21 : decode cX6_setField 21 = .ok (.return_, 1) := qd_177 kq_cX6_setField (by decide +kernel)
def rmX6_setField (mc ms : Nat) : Room := { frames := 1, cells := mc, slots := ms, locals := 20 }
abbrev cX6_setEnumDefault : ByteArray := prog_9_method_21_code
def yX6_setEnumDefault : MethodName := ⟨RX6, "setEnumDefault", "(I)V"⟩
def wsX6_setEnumDefault : List Cond := .code yX6_setEnumDefault cX6_setEnumDefault 2 none :: sr_G
def nq_cX6_setEnumDefault : Nat := 0xb154041b2900b42a0a00993700b81b
theorem kq_cX6_setEnumDefault : qOk cX6_setEnumDefault nq_cX6_setEnumDefault 15 = true := by decide +kernel
theorem dX6_setEnumDefault_0 : decode cX6_setEnumDefault 0 = .ok (.iload_n 1, 1) := qd_27 kq_cX6_setEnumDefault (by decide +kernel)
theorem dX6_setEnumDefault_1 : decode cX6_setEnumDefault 1 = .ok (.invokestatic 55, 3) := qd_184 kq_cX6_setEnumDefault (by decide +kernel)
theorem dX6_setEnumDefault_4 : decode cX6_setEnumDefault 4 = .ok (.ifCond .eq 10, 3) := qd_153 kq_cX6_setEnumDefault (by decide +kernel)
theorem dX6_setEnumDefault_7 : decode cX6_setEnumDefault 7 = .ok (.aload_n 0, 1) := qd_42 kq_cX6_setEnumDefault (by decide +kernel)
theorem dX6_setEnumDefault_8 : decode cX6_setEnumDefault 8 = .ok (.getfield 41, 3) := qd_180 kq_cX6_setEnumDefault (by decide +kernel)
theorem dX6_setEnumDefault_11 : decode cX6_setEnumDefault 11 = .ok (.iload_n 1, 1) := qd_27 kq_cX6_setEnumDefault (by decide +kernel)
theorem dX6_setEnumDefault_12 : decode cX6_setEnumDefault 12 = .ok (.iconst 1, 1) := qd_4 kq_cX6_setEnumDefault (by decide +kernel)
theorem dX6_setEnumDefault_13 : decode cX6_setEnumDefault 13 = .ok (.bastore, 1) := qd_84 kq_cX6_setEnumDefault (by decide +kernel)
theorem dX6_setEnumDefault_14 : decode cX6_setEnumDefault 14 = .ok (.return_, 1) := qd_177 kq_cX6_setEnumDefault (by decide +kernel)
def rmX6_setEnumDefault (mc ms : Nat) : Room := { frames := 1, cells := mc, slots := ms, locals := 20 }
abbrev cX6_join : ByteArray := prog_9_method_22_code
def yX6_join : MethodName := ⟨RX6, "join", "(III)V"⟩
def wsX6_join : List Cond := .code yX6_join cX6_join 4 none :: sr_G
def nq_cX6_join : Nat := 0xb14f60042e5c1b2200b42a4f1d1b1600b42a0a00a74f1d1c1900b42a0d00993700b81cb104009a3700b81b
theorem kq_cX6_join : qOk cX6_join nq_cX6_join 43 = true := by decide +kernel
theorem dX6_join_0 : decode cX6_join 0 = .ok (.iload_n 1, 1) := qd_27 kq_cX6_join (by decide +kernel)
theorem dX6_join_1 : decode cX6_join 1 = .ok (.invokestatic 55, 3) := qd_184 kq_cX6_join (by decide +kernel)
theorem dX6_join_4 : decode cX6_join 4 = .ok (.ifCond .ne 4, 3) := qd_154 kq_cX6_join (by decide +kernel)
theorem dX6_join_7 : decode cX6_join 7 = .ok (.return_, 1) := qd_177 kq_cX6_join (by decide +kernel)
theorem dX6_join_8 : decode cX6_join 8 = .ok (.iload_n 2, 1) := qd_28 kq_cX6_join (by decide +kernel)
theorem dX6_join_9 : decode cX6_join 9 = .ok (.invokestatic 55, 3) := qd_184 kq_cX6_join (by decide +kernel)
theorem dX6_join_12 : decode cX6_join 12 = .ok (.ifCond .eq 13, 3) := qd_153 kq_cX6_join (by decide +kernel)
theorem dX6_join_15 : decode cX6_join 15 = .ok (.aload_n 0, 1) := qd_42 kq_cX6_join (by decide +kernel)
theorem dX6_join_16 : decode cX6_join 16 = .ok (.getfield 25, 3) := qd_180 kq_cX6_join (by decide +kernel)
theorem dX6_join_19 : decode cX6_join 19 = .ok (.iload_n 2, 1) := qd_28 kq_cX6_join (by decide +kernel)
theorem dX6_join_20 : decode cX6_join 20 = .ok (.iload_n 3, 1) := qd_29 kq_cX6_join (by decide +kernel)
theorem dX6_join_21 : decode cX6_join 21 = .ok (.iastore, 1) := qd_79 kq_cX6_join (by decide +kernel)
theorem dX6_join_22 : decode cX6_join 22 = .ok (.goto 10, 3) := qd_167 kq_cX6_join (by decide +kernel)
theorem dX6_join_25 : decode cX6_join 25 = .ok (.aload_n 0, 1) := qd_42 kq_cX6_join (by decide +kernel)
theorem dX6_join_26 : decode cX6_join 26 = .ok (.getfield 22, 3) := qd_180 kq_cX6_join (by decide +kernel)
theorem dX6_join_29 : decode cX6_join 29 = .ok (.iload_n 1, 1) := qd_27 kq_cX6_join (by decide +kernel)
theorem dX6_join_30 : decode cX6_join 30 = .ok (.iload_n 3, 1) := qd_29 kq_cX6_join (by decide +kernel)
theorem dX6_join_31 : decode cX6_join 31 = .ok (.iastore, 1) := qd_79 kq_cX6_join (by decide +kernel)
theorem dX6_join_32 : decode cX6_join 32 = .ok (.aload_n 0, 1) := qd_42 kq_cX6_join (by decide +kernel)
theorem dX6_join_33 : decode cX6_join 33 = .ok (.getfield 34, 3) := qd_180 kq_cX6_join (by decide +kernel)
theorem dX6_join_36 : decode cX6_join 36 = .ok (.iload_n 1, 1) := qd_27 kq_cX6_join (by decide +kernel)
theorem dX6_join_37 : decode cX6_join 37 = .ok (.dup2, 1) := qd_92 kq_cX6_join (by decide +kernel)
theorem dX6_join_38 : decode cX6_join 38 = .ok (.iaload, 1) := qd_46 kq_cX6_join (by decide +kernel)
theorem dX6_join_39 : decode cX6_join 39 = .ok (.iconst 1, 1) := qd_4 kq_cX6_join (by decide +kernel)
theorem dX6_join_40 : decode cX6_join 40 = .ok (.iadd, 1) := qd_96 kq_cX6_join (by decide +kernel)
theorem dX6_join_41 : decode cX6_join 41 = .ok (.iastore, 1) := qd_79 kq_cX6_join (by decide +kernel)
theorem dX6_join_42 : decode cX6_join 42 = .ok (.return_, 1) := qd_177 kq_cX6_join (by decide +kernel)
def rmX6_join (mc ms : Nat) : Room := { frames := 1, cells := mc, slots := ms, locals := 20 }
abbrev cX6_writeByte : ByteArray := prog_9_method_23_code
def yX6_writeByte : MethodName := ⟨RX6, "writeByte", "(I)V"⟩
def wsX6_writeByte : List Cond := .code yX6_writeByte cX6_writeByte 2 none :: sr_G
def nq_cX6_writeByte : Nat := 0xb12c00b560042c00b4592a54911b2c00b42a0900b42a1800a2be0900b42a2c00b42a
theorem kq_cX6_writeByte : qOk cX6_writeByte nq_cX6_writeByte 34 = true := by decide +kernel
theorem dX6_writeByte_0 : decode cX6_writeByte 0 = .ok (.aload_n 0, 1) := qd_42 kq_cX6_writeByte (by decide +kernel)
theorem dX6_writeByte_1 : decode cX6_writeByte 1 = .ok (.getfield 44, 3) := qd_180 kq_cX6_writeByte (by decide +kernel)
theorem dX6_writeByte_4 : decode cX6_writeByte 4 = .ok (.aload_n 0, 1) := qd_42 kq_cX6_writeByte (by decide +kernel)
theorem dX6_writeByte_5 : decode cX6_writeByte 5 = .ok (.getfield 9, 3) := qd_180 kq_cX6_writeByte (by decide +kernel)
theorem dX6_writeByte_8 : decode cX6_writeByte 8 = .ok (.arraylength, 1) := qd_190 kq_cX6_writeByte (by decide +kernel)
theorem dX6_writeByte_9 : decode cX6_writeByte 9 = .ok (.if_icmp .ge 24, 3) := qd_162 kq_cX6_writeByte (by decide +kernel)
theorem dX6_writeByte_12 : decode cX6_writeByte 12 = .ok (.aload_n 0, 1) := qd_42 kq_cX6_writeByte (by decide +kernel)
theorem dX6_writeByte_13 : decode cX6_writeByte 13 = .ok (.getfield 9, 3) := qd_180 kq_cX6_writeByte (by decide +kernel)
theorem dX6_writeByte_16 : decode cX6_writeByte 16 = .ok (.aload_n 0, 1) := qd_42 kq_cX6_writeByte (by decide +kernel)
theorem dX6_writeByte_17 : decode cX6_writeByte 17 = .ok (.getfield 44, 3) := qd_180 kq_cX6_writeByte (by decide +kernel)
theorem dX6_writeByte_20 : decode cX6_writeByte 20 = .ok (.iload_n 1, 1) := qd_27 kq_cX6_writeByte (by decide +kernel)
theorem dX6_writeByte_21 : decode cX6_writeByte 21 = .ok (.i2b, 1) := qd_145 kq_cX6_writeByte (by decide +kernel)
theorem dX6_writeByte_22 : decode cX6_writeByte 22 = .ok (.bastore, 1) := qd_84 kq_cX6_writeByte (by decide +kernel)
theorem dX6_writeByte_23 : decode cX6_writeByte 23 = .ok (.aload_n 0, 1) := qd_42 kq_cX6_writeByte (by decide +kernel)
theorem dX6_writeByte_24 : decode cX6_writeByte 24 = .ok (.dup, 1) := qd_89 kq_cX6_writeByte (by decide +kernel)
theorem dX6_writeByte_25 : decode cX6_writeByte 25 = .ok (.getfield 44, 3) := qd_180 kq_cX6_writeByte (by decide +kernel)
theorem dX6_writeByte_28 : decode cX6_writeByte 28 = .ok (.iconst 1, 1) := qd_4 kq_cX6_writeByte (by decide +kernel)
theorem dX6_writeByte_29 : decode cX6_writeByte 29 = .ok (.iadd, 1) := qd_96 kq_cX6_writeByte (by decide +kernel)
theorem dX6_writeByte_30 : decode cX6_writeByte 30 = .ok (.putfield 44, 3) := qd_181 kq_cX6_writeByte (by decide +kernel)
theorem dX6_writeByte_33 : decode cX6_writeByte 33 = .ok (.return_, 1) := qd_177 kq_cX6_writeByte (by decide +kernel)
def rmX6_writeByte (mc ms : Nat) : Room := { frames := 0, cells := mc, slots := ms, locals := 0 }
abbrev cX6_write : ByteArray := prog_9_method_24_code
def yX6_write : MethodName := ⟨RX6, "write", "(Ljava/lang/String;)V"⟩
def wsX6_write : List Cond := .code yX6_write cX6_write 3 none :: sr_G
def nq_cX6_write : Nat := 0xb1ecffa70102844800b64400b61c2b2a1200a23e00b62b1c3d03
theorem kq_cX6_write : qOk cX6_write nq_cX6_write 26 = true := by decide +kernel
theorem dX6_write_0 : decode cX6_write 0 = .ok (.iconst 0, 1) := qd_3 kq_cX6_write (by decide +kernel)
theorem dX6_write_1 : decode cX6_write 1 = .ok (.istore_n 2, 1) := qd_61 kq_cX6_write (by decide +kernel)
theorem dX6_write_2 : decode cX6_write 2 = .ok (.iload_n 2, 1) := qd_28 kq_cX6_write (by decide +kernel)
theorem dX6_write_3 : decode cX6_write 3 = .ok (.aload_n 1, 1) := qd_43 kq_cX6_write (by decide +kernel)
theorem dX6_write_4 : decode cX6_write 4 = .ok (.invokevirtual 62, 3) := qd_182 kq_cX6_write (by decide +kernel)
theorem dX6_write_7 : decode cX6_write 7 = .ok (.if_icmp .ge 18, 3) := qd_162 kq_cX6_write (by decide +kernel)
theorem dX6_write_10 : decode cX6_write 10 = .ok (.aload_n 0, 1) := qd_42 kq_cX6_write (by decide +kernel)
theorem dX6_write_11 : decode cX6_write 11 = .ok (.aload_n 1, 1) := qd_43 kq_cX6_write (by decide +kernel)
theorem dX6_write_12 : decode cX6_write 12 = .ok (.iload_n 2, 1) := qd_28 kq_cX6_write (by decide +kernel)
theorem dX6_write_13 : decode cX6_write 13 = .ok (.invokevirtual 68, 3) := qd_182 kq_cX6_write (by decide +kernel)
theorem dX6_write_16 : decode cX6_write 16 = .ok (.invokevirtual 72, 3) := qd_182 kq_cX6_write (by decide +kernel)
theorem dX6_write_19 : decode cX6_write 19 = .ok (.iinc 2 1, 3) := qd_132 kq_cX6_write (by decide +kernel)
theorem dX6_write_22 : decode cX6_write 22 = .ok (.goto (-20), 3) := qd_167 kq_cX6_write (by decide +kernel)
theorem dX6_write_25 : decode cX6_write 25 = .ok (.return_, 1) := qd_177 kq_cX6_write (by decide +kernel)
def rmX6_write (mc ms : Nat) : Room := { frames := 4, cells := mc, slots := ms, locals := 85 }
abbrev cX6_writeSaid : ByteArray := prog_9_method_25_code
def yX6_writeSaid : MethodName := ⟨RX6, "writeSaid", "(LSchemaReader$Text;I)I"⟩
def wsX6_writeSaid : List Cond := .code yX6_writeSaid cX6_writeSaid 5 (some .int) :: sr_G
def nq_cX6_writeSaid : Nat := 0xac1d4800b622102ae7ffa70104844800b65100b66004151c2b2a1500a24c00b61c2b04150436033e2c00b42a4800b622102a
theorem kq_cX6_writeSaid : qOk cX6_writeSaid nq_cX6_writeSaid 50 = true := by decide +kernel
theorem dX6_writeSaid_0 : decode cX6_writeSaid 0 = .ok (.aload_n 0, 1) := qd_42 kq_cX6_writeSaid (by decide +kernel)
theorem dX6_writeSaid_1 : decode cX6_writeSaid 1 = .ok (.bipush 34, 2) := qd_16 kq_cX6_writeSaid (by decide +kernel)
theorem dX6_writeSaid_3 : decode cX6_writeSaid 3 = .ok (.invokevirtual 72, 3) := qd_182 kq_cX6_writeSaid (by decide +kernel)
theorem dX6_writeSaid_6 : decode cX6_writeSaid 6 = .ok (.aload_n 0, 1) := qd_42 kq_cX6_writeSaid (by decide +kernel)
theorem dX6_writeSaid_7 : decode cX6_writeSaid 7 = .ok (.getfield 44, 3) := qd_180 kq_cX6_writeSaid (by decide +kernel)
theorem dX6_writeSaid_10 : decode cX6_writeSaid 10 = .ok (.istore_n 3, 1) := qd_62 kq_cX6_writeSaid (by decide +kernel)
theorem dX6_writeSaid_11 : decode cX6_writeSaid 11 = .ok (.iconst 0, 1) := qd_3 kq_cX6_writeSaid (by decide +kernel)
theorem dX6_writeSaid_12 : decode cX6_writeSaid 12 = .ok (.istore 4, 2) := qd_54 kq_cX6_writeSaid (by decide +kernel)
theorem dX6_writeSaid_14 : decode cX6_writeSaid 14 = .ok (.iload 4, 2) := qd_21 kq_cX6_writeSaid (by decide +kernel)
theorem dX6_writeSaid_16 : decode cX6_writeSaid 16 = .ok (.aload_n 1, 1) := qd_43 kq_cX6_writeSaid (by decide +kernel)
theorem dX6_writeSaid_17 : decode cX6_writeSaid 17 = .ok (.iload_n 2, 1) := qd_28 kq_cX6_writeSaid (by decide +kernel)
theorem dX6_writeSaid_18 : decode cX6_writeSaid 18 = .ok (.invokevirtual 76, 3) := qd_182 kq_cX6_writeSaid (by decide +kernel)
theorem dX6_writeSaid_21 : decode cX6_writeSaid 21 = .ok (.if_icmp .ge 21, 3) := qd_162 kq_cX6_writeSaid (by decide +kernel)
theorem dX6_writeSaid_24 : decode cX6_writeSaid 24 = .ok (.aload_n 0, 1) := qd_42 kq_cX6_writeSaid (by decide +kernel)
theorem dX6_writeSaid_25 : decode cX6_writeSaid 25 = .ok (.aload_n 1, 1) := qd_43 kq_cX6_writeSaid (by decide +kernel)
theorem dX6_writeSaid_26 : decode cX6_writeSaid 26 = .ok (.iload_n 2, 1) := qd_28 kq_cX6_writeSaid (by decide +kernel)
theorem dX6_writeSaid_27 : decode cX6_writeSaid 27 = .ok (.iload 4, 2) := qd_21 kq_cX6_writeSaid (by decide +kernel)
theorem dX6_writeSaid_29 : decode cX6_writeSaid 29 = .ok (.iadd, 1) := qd_96 kq_cX6_writeSaid (by decide +kernel)
theorem dX6_writeSaid_30 : decode cX6_writeSaid 30 = .ok (.invokevirtual 81, 3) := qd_182 kq_cX6_writeSaid (by decide +kernel)
theorem dX6_writeSaid_33 : decode cX6_writeSaid 33 = .ok (.invokevirtual 72, 3) := qd_182 kq_cX6_writeSaid (by decide +kernel)
theorem dX6_writeSaid_36 : decode cX6_writeSaid 36 = .ok (.iinc 4 1, 3) := qd_132 kq_cX6_writeSaid (by decide +kernel)
theorem dX6_writeSaid_39 : decode cX6_writeSaid 39 = .ok (.goto (-25), 3) := qd_167 kq_cX6_writeSaid (by decide +kernel)
theorem dX6_writeSaid_42 : decode cX6_writeSaid 42 = .ok (.aload_n 0, 1) := qd_42 kq_cX6_writeSaid (by decide +kernel)
theorem dX6_writeSaid_43 : decode cX6_writeSaid 43 = .ok (.bipush 34, 2) := qd_16 kq_cX6_writeSaid (by decide +kernel)
theorem dX6_writeSaid_45 : decode cX6_writeSaid 45 = .ok (.invokevirtual 72, 3) := qd_182 kq_cX6_writeSaid (by decide +kernel)
theorem dX6_writeSaid_48 : decode cX6_writeSaid 48 = .ok (.iload_n 3, 1) := qd_29 kq_cX6_writeSaid (by decide +kernel)
theorem dX6_writeSaid_49 : decode cX6_writeSaid 49 = .ok (.ireturn, 1) := qd_172 kq_cX6_writeSaid (by decide +kernel)
def rmX6_writeSaid (mc ms : Nat) : Room := { frames := 2, cells := mc, slots := ms, locals := 42 }
abbrev cX6_writeNumber : ByteArray := prog_9_method_26_code
def yX6_writeNumber : MethodName := ⟨RX6, "writeNumber", "(I)V"⟩
def wsX6_writeNumber : List Cond := .code yX6_writeNumber cX6_writeNumber 2 none :: sr_G
def nq_cX6_writeNumber : Nat := 0xb14800b660700a101b30102a4800b6606c0a101b30102a0e00a10a101b
theorem kq_cX6_writeNumber : qOk cX6_writeNumber nq_cX6_writeNumber 29 = true := by decide +kernel
theorem dX6_writeNumber_0 : decode cX6_writeNumber 0 = .ok (.iload_n 1, 1) := qd_27 kq_cX6_writeNumber (by decide +kernel)
theorem dX6_writeNumber_1 : decode cX6_writeNumber 1 = .ok (.bipush 10, 2) := qd_16 kq_cX6_writeNumber (by decide +kernel)
theorem dX6_writeNumber_3 : decode cX6_writeNumber 3 = .ok (.if_icmp .lt 14, 3) := qd_161 kq_cX6_writeNumber (by decide +kernel)
theorem dX6_writeNumber_6 : decode cX6_writeNumber 6 = .ok (.aload_n 0, 1) := qd_42 kq_cX6_writeNumber (by decide +kernel)
theorem dX6_writeNumber_7 : decode cX6_writeNumber 7 = .ok (.bipush 48, 2) := qd_16 kq_cX6_writeNumber (by decide +kernel)
theorem dX6_writeNumber_9 : decode cX6_writeNumber 9 = .ok (.iload_n 1, 1) := qd_27 kq_cX6_writeNumber (by decide +kernel)
theorem dX6_writeNumber_10 : decode cX6_writeNumber 10 = .ok (.bipush 10, 2) := qd_16 kq_cX6_writeNumber (by decide +kernel)
theorem dX6_writeNumber_12 : decode cX6_writeNumber 12 = .ok (.idiv, 1) := qd_108 kq_cX6_writeNumber (by decide +kernel)
theorem dX6_writeNumber_13 : decode cX6_writeNumber 13 = .ok (.iadd, 1) := qd_96 kq_cX6_writeNumber (by decide +kernel)
theorem dX6_writeNumber_14 : decode cX6_writeNumber 14 = .ok (.invokevirtual 72, 3) := qd_182 kq_cX6_writeNumber (by decide +kernel)
theorem dX6_writeNumber_17 : decode cX6_writeNumber 17 = .ok (.aload_n 0, 1) := qd_42 kq_cX6_writeNumber (by decide +kernel)
theorem dX6_writeNumber_18 : decode cX6_writeNumber 18 = .ok (.bipush 48, 2) := qd_16 kq_cX6_writeNumber (by decide +kernel)
theorem dX6_writeNumber_20 : decode cX6_writeNumber 20 = .ok (.iload_n 1, 1) := qd_27 kq_cX6_writeNumber (by decide +kernel)
theorem dX6_writeNumber_21 : decode cX6_writeNumber 21 = .ok (.bipush 10, 2) := qd_16 kq_cX6_writeNumber (by decide +kernel)
theorem dX6_writeNumber_23 : decode cX6_writeNumber 23 = .ok (.irem, 1) := qd_112 kq_cX6_writeNumber (by decide +kernel)
theorem dX6_writeNumber_24 : decode cX6_writeNumber 24 = .ok (.iadd, 1) := qd_96 kq_cX6_writeNumber (by decide +kernel)
theorem dX6_writeNumber_25 : decode cX6_writeNumber 25 = .ok (.invokevirtual 72, 3) := qd_182 kq_cX6_writeNumber (by decide +kernel)
theorem dX6_writeNumber_28 : decode cX6_writeNumber 28 = .ok (.return_, 1) := qd_177 kq_cX6_writeNumber (by decide +kernel)
def rmX6_writeNumber (mc ms : Nat) : Room := { frames := 1, cells := mc, slots := ms, locals := 21 }
abbrev cX6_isSaid : ByteArray := prog_9_method_27_code
def yX6_isSaid : MethodName := ⟨RX6, "isSaid", "(ILSchemaReader$Text;I)Z"⟩
def wsX6_isSaid : List Cond := .code yX6_isSaid cX6_isSaid 7 (some .boolean) :: sr_G
def nq_cX6_isSaid : Nat := 0xac030400a7040700a022105400b66004151b2ad6ffa7010584ac0305009f5100b66005151d2c061510009f2210061506365400b66005151b2a2900a204150515053603ac030500a4201004150a00a104041504364c00b61d2c
theorem kq_cX6_isSaid : qOk cX6_isSaid nq_cX6_isSaid 89 = true := by decide +kernel
theorem dX6_isSaid_0 : decode cX6_isSaid 0 = .ok (.aload_n 2, 1) := qd_44 kq_cX6_isSaid (by decide +kernel)
theorem dX6_isSaid_1 : decode cX6_isSaid 1 = .ok (.iload_n 3, 1) := qd_29 kq_cX6_isSaid (by decide +kernel)
theorem dX6_isSaid_2 : decode cX6_isSaid 2 = .ok (.invokevirtual 76, 3) := qd_182 kq_cX6_isSaid (by decide +kernel)
theorem dX6_isSaid_5 : decode cX6_isSaid 5 = .ok (.istore 4, 2) := qd_54 kq_cX6_isSaid (by decide +kernel)
theorem dX6_isSaid_7 : decode cX6_isSaid 7 = .ok (.iload 4, 2) := qd_21 kq_cX6_isSaid (by decide +kernel)
theorem dX6_isSaid_9 : decode cX6_isSaid 9 = .ok (.iconst 1, 1) := qd_4 kq_cX6_isSaid (by decide +kernel)
theorem dX6_isSaid_10 : decode cX6_isSaid 10 = .ok (.if_icmp .lt 10, 3) := qd_161 kq_cX6_isSaid (by decide +kernel)
theorem dX6_isSaid_13 : decode cX6_isSaid 13 = .ok (.iload 4, 2) := qd_21 kq_cX6_isSaid (by decide +kernel)
theorem dX6_isSaid_15 : decode cX6_isSaid 15 = .ok (.bipush 32, 2) := qd_16 kq_cX6_isSaid (by decide +kernel)
theorem dX6_isSaid_17 : decode cX6_isSaid 17 = .ok (.if_icmp .le 5, 3) := qd_164 kq_cX6_isSaid (by decide +kernel)
theorem dX6_isSaid_20 : decode cX6_isSaid 20 = .ok (.iconst 0, 1) := qd_3 kq_cX6_isSaid (by decide +kernel)
theorem dX6_isSaid_21 : decode cX6_isSaid 21 = .ok (.ireturn, 1) := qd_172 kq_cX6_isSaid (by decide +kernel)
theorem dX6_isSaid_22 : decode cX6_isSaid 22 = .ok (.iconst 0, 1) := qd_3 kq_cX6_isSaid (by decide +kernel)
theorem dX6_isSaid_23 : decode cX6_isSaid 23 = .ok (.istore 5, 2) := qd_54 kq_cX6_isSaid (by decide +kernel)
theorem dX6_isSaid_25 : decode cX6_isSaid 25 = .ok (.iload 5, 2) := qd_21 kq_cX6_isSaid (by decide +kernel)
theorem dX6_isSaid_27 : decode cX6_isSaid 27 = .ok (.iload 4, 2) := qd_21 kq_cX6_isSaid (by decide +kernel)
theorem dX6_isSaid_29 : decode cX6_isSaid 29 = .ok (.if_icmp .ge 41, 3) := qd_162 kq_cX6_isSaid (by decide +kernel)
theorem dX6_isSaid_32 : decode cX6_isSaid 32 = .ok (.aload_n 0, 1) := qd_42 kq_cX6_isSaid (by decide +kernel)
theorem dX6_isSaid_33 : decode cX6_isSaid 33 = .ok (.iload_n 1, 1) := qd_27 kq_cX6_isSaid (by decide +kernel)
theorem dX6_isSaid_34 : decode cX6_isSaid 34 = .ok (.iload 5, 2) := qd_21 kq_cX6_isSaid (by decide +kernel)
theorem dX6_isSaid_36 : decode cX6_isSaid 36 = .ok (.iadd, 1) := qd_96 kq_cX6_isSaid (by decide +kernel)
theorem dX6_isSaid_37 : decode cX6_isSaid 37 = .ok (.invokevirtual 84, 3) := qd_182 kq_cX6_isSaid (by decide +kernel)
theorem dX6_isSaid_40 : decode cX6_isSaid 40 = .ok (.istore 6, 2) := qd_54 kq_cX6_isSaid (by decide +kernel)
theorem dX6_isSaid_42 : decode cX6_isSaid 42 = .ok (.iload 6, 2) := qd_21 kq_cX6_isSaid (by decide +kernel)
theorem dX6_isSaid_44 : decode cX6_isSaid 44 = .ok (.bipush 34, 2) := qd_16 kq_cX6_isSaid (by decide +kernel)
theorem dX6_isSaid_46 : decode cX6_isSaid 46 = .ok (.if_icmp .eq 16, 3) := qd_159 kq_cX6_isSaid (by decide +kernel)
theorem dX6_isSaid_49 : decode cX6_isSaid 49 = .ok (.iload 6, 2) := qd_21 kq_cX6_isSaid (by decide +kernel)
theorem dX6_isSaid_51 : decode cX6_isSaid 51 = .ok (.aload_n 2, 1) := qd_44 kq_cX6_isSaid (by decide +kernel)
theorem dX6_isSaid_52 : decode cX6_isSaid 52 = .ok (.iload_n 3, 1) := qd_29 kq_cX6_isSaid (by decide +kernel)
theorem dX6_isSaid_53 : decode cX6_isSaid 53 = .ok (.iload 5, 2) := qd_21 kq_cX6_isSaid (by decide +kernel)
theorem dX6_isSaid_55 : decode cX6_isSaid 55 = .ok (.iadd, 1) := qd_96 kq_cX6_isSaid (by decide +kernel)
theorem dX6_isSaid_56 : decode cX6_isSaid 56 = .ok (.invokevirtual 81, 3) := qd_182 kq_cX6_isSaid (by decide +kernel)
theorem dX6_isSaid_59 : decode cX6_isSaid 59 = .ok (.if_icmp .eq 5, 3) := qd_159 kq_cX6_isSaid (by decide +kernel)
theorem dX6_isSaid_62 : decode cX6_isSaid 62 = .ok (.iconst 0, 1) := qd_3 kq_cX6_isSaid (by decide +kernel)
theorem dX6_isSaid_63 : decode cX6_isSaid 63 = .ok (.ireturn, 1) := qd_172 kq_cX6_isSaid (by decide +kernel)
theorem dX6_isSaid_64 : decode cX6_isSaid 64 = .ok (.iinc 5 1, 3) := qd_132 kq_cX6_isSaid (by decide +kernel)
theorem dX6_isSaid_67 : decode cX6_isSaid 67 = .ok (.goto (-42), 3) := qd_167 kq_cX6_isSaid (by decide +kernel)
theorem dX6_isSaid_70 : decode cX6_isSaid 70 = .ok (.aload_n 0, 1) := qd_42 kq_cX6_isSaid (by decide +kernel)
theorem dX6_isSaid_71 : decode cX6_isSaid 71 = .ok (.iload_n 1, 1) := qd_27 kq_cX6_isSaid (by decide +kernel)
theorem dX6_isSaid_72 : decode cX6_isSaid 72 = .ok (.iload 4, 2) := qd_21 kq_cX6_isSaid (by decide +kernel)
theorem dX6_isSaid_74 : decode cX6_isSaid 74 = .ok (.iadd, 1) := qd_96 kq_cX6_isSaid (by decide +kernel)
theorem dX6_isSaid_75 : decode cX6_isSaid 75 = .ok (.invokevirtual 84, 3) := qd_182 kq_cX6_isSaid (by decide +kernel)
theorem dX6_isSaid_78 : decode cX6_isSaid 78 = .ok (.bipush 34, 2) := qd_16 kq_cX6_isSaid (by decide +kernel)
theorem dX6_isSaid_80 : decode cX6_isSaid 80 = .ok (.if_icmp .ne 7, 3) := qd_160 kq_cX6_isSaid (by decide +kernel)
theorem dX6_isSaid_83 : decode cX6_isSaid 83 = .ok (.iconst 1, 1) := qd_4 kq_cX6_isSaid (by decide +kernel)
theorem dX6_isSaid_84 : decode cX6_isSaid 84 = .ok (.goto 4, 3) := qd_167 kq_cX6_isSaid (by decide +kernel)
theorem dX6_isSaid_87 : decode cX6_isSaid 87 = .ok (.iconst 0, 1) := qd_3 kq_cX6_isSaid (by decide +kernel)
theorem dX6_isSaid_88 : decode cX6_isSaid 88 = .ok (.ireturn, 1) := qd_172 kq_cX6_isSaid (by decide +kernel)
def rmX6_isSaid (mc ms : Nat) : Room := { frames := 2, cells := mc, slots := ms, locals := 42 }
abbrev cX6_definition : ByteArray := prog_9_method_28_code
def yX6_definition : MethodName := ⟨RX6, "definition", "(LSchemaReader$Text;I)I"⟩
def wsX6_definition : List Cond := .code yX6_definition cX6_definition 4 (some .int) :: sr_G
def nq_cX6_definition : Nat := 0xac02daffa7010384ac1d0500995700b61c2b2e1d1c00b42a2a14009f022e1d1c00b42a2400a23000b42a1d3e03
theorem kq_cX6_definition : qOk cX6_definition nq_cX6_definition 45 = true := by decide +kernel
theorem dX6_definition_0 : decode cX6_definition 0 = .ok (.iconst 0, 1) := qd_3 kq_cX6_definition (by decide +kernel)
theorem dX6_definition_1 : decode cX6_definition 1 = .ok (.istore_n 3, 1) := qd_62 kq_cX6_definition (by decide +kernel)
theorem dX6_definition_2 : decode cX6_definition 2 = .ok (.iload_n 3, 1) := qd_29 kq_cX6_definition (by decide +kernel)
theorem dX6_definition_3 : decode cX6_definition 3 = .ok (.aload_n 0, 1) := qd_42 kq_cX6_definition (by decide +kernel)
theorem dX6_definition_4 : decode cX6_definition 4 = .ok (.getfield 48, 3) := qd_180 kq_cX6_definition (by decide +kernel)
theorem dX6_definition_7 : decode cX6_definition 7 = .ok (.if_icmp .ge 36, 3) := qd_162 kq_cX6_definition (by decide +kernel)
theorem dX6_definition_10 : decode cX6_definition 10 = .ok (.aload_n 0, 1) := qd_42 kq_cX6_definition (by decide +kernel)
theorem dX6_definition_11 : decode cX6_definition 11 = .ok (.getfield 28, 3) := qd_180 kq_cX6_definition (by decide +kernel)
theorem dX6_definition_14 : decode cX6_definition 14 = .ok (.iload_n 3, 1) := qd_29 kq_cX6_definition (by decide +kernel)
theorem dX6_definition_15 : decode cX6_definition 15 = .ok (.iaload, 1) := qd_46 kq_cX6_definition (by decide +kernel)
theorem dX6_definition_16 : decode cX6_definition 16 = .ok (.iconst (-1), 1) := qd_2 kq_cX6_definition (by decide +kernel)
theorem dX6_definition_17 : decode cX6_definition 17 = .ok (.if_icmp .eq 20, 3) := qd_159 kq_cX6_definition (by decide +kernel)
theorem dX6_definition_20 : decode cX6_definition 20 = .ok (.aload_n 0, 1) := qd_42 kq_cX6_definition (by decide +kernel)
theorem dX6_definition_21 : decode cX6_definition 21 = .ok (.aload_n 0, 1) := qd_42 kq_cX6_definition (by decide +kernel)
theorem dX6_definition_22 : decode cX6_definition 22 = .ok (.getfield 28, 3) := qd_180 kq_cX6_definition (by decide +kernel)
theorem dX6_definition_25 : decode cX6_definition 25 = .ok (.iload_n 3, 1) := qd_29 kq_cX6_definition (by decide +kernel)
theorem dX6_definition_26 : decode cX6_definition 26 = .ok (.iaload, 1) := qd_46 kq_cX6_definition (by decide +kernel)
theorem dX6_definition_27 : decode cX6_definition 27 = .ok (.aload_n 1, 1) := qd_43 kq_cX6_definition (by decide +kernel)
theorem dX6_definition_28 : decode cX6_definition 28 = .ok (.iload_n 2, 1) := qd_28 kq_cX6_definition (by decide +kernel)
theorem dX6_definition_29 : decode cX6_definition 29 = .ok (.invokevirtual 87, 3) := qd_182 kq_cX6_definition (by decide +kernel)
theorem dX6_definition_32 : decode cX6_definition 32 = .ok (.ifCond .eq 5, 3) := qd_153 kq_cX6_definition (by decide +kernel)
theorem dX6_definition_35 : decode cX6_definition 35 = .ok (.iload_n 3, 1) := qd_29 kq_cX6_definition (by decide +kernel)
theorem dX6_definition_36 : decode cX6_definition 36 = .ok (.ireturn, 1) := qd_172 kq_cX6_definition (by decide +kernel)
theorem dX6_definition_37 : decode cX6_definition 37 = .ok (.iinc 3 1, 3) := qd_132 kq_cX6_definition (by decide +kernel)
theorem dX6_definition_40 : decode cX6_definition 40 = .ok (.goto (-38), 3) := qd_167 kq_cX6_definition (by decide +kernel)
theorem dX6_definition_43 : decode cX6_definition 43 = .ok (.iconst (-1), 1) := qd_2 kq_cX6_definition (by decide +kernel)
theorem dX6_definition_44 : decode cX6_definition 44 = .ok (.ireturn, 1) := qd_172 kq_cX6_definition (by decide +kernel)
def rmX6_definition (mc ms : Nat) : Room := { frames := 3, cells := mc, slots := ms, locals := 68 }
abbrev cX6_hasField : ByteArray := prog_9_method_29_code
def yX6_hasField : MethodName := ⟨RX6, "hasField", "(ILSchemaReader$Text;I)Z"⟩
def wsX6_hasField : List Cond := .code yX6_hasField cX6_hasField 6 (some .boolean) :: sr_G
def nq_cX6_hasField : Nat := 0xac03daffa701058404366200b604152aac040500995700b61d2c5f00b604152a2a2200a25e00b61b2a051505360304365b00b61b2a
theorem kq_cX6_hasField : qOk cX6_hasField nq_cX6_hasField 53 = true := by decide +kernel
theorem dX6_hasField_0 : decode cX6_hasField 0 = .ok (.aload_n 0, 1) := qd_42 kq_cX6_hasField (by decide +kernel)
theorem dX6_hasField_1 : decode cX6_hasField 1 = .ok (.iload_n 1, 1) := qd_27 kq_cX6_hasField (by decide +kernel)
theorem dX6_hasField_2 : decode cX6_hasField 2 = .ok (.invokevirtual 91, 3) := qd_182 kq_cX6_hasField (by decide +kernel)
theorem dX6_hasField_5 : decode cX6_hasField 5 = .ok (.istore 4, 2) := qd_54 kq_cX6_hasField (by decide +kernel)
theorem dX6_hasField_7 : decode cX6_hasField 7 = .ok (.iconst 0, 1) := qd_3 kq_cX6_hasField (by decide +kernel)
theorem dX6_hasField_8 : decode cX6_hasField 8 = .ok (.istore 5, 2) := qd_54 kq_cX6_hasField (by decide +kernel)
theorem dX6_hasField_10 : decode cX6_hasField 10 = .ok (.iload 5, 2) := qd_21 kq_cX6_hasField (by decide +kernel)
theorem dX6_hasField_12 : decode cX6_hasField 12 = .ok (.aload_n 0, 1) := qd_42 kq_cX6_hasField (by decide +kernel)
theorem dX6_hasField_13 : decode cX6_hasField 13 = .ok (.iload_n 1, 1) := qd_27 kq_cX6_hasField (by decide +kernel)
theorem dX6_hasField_14 : decode cX6_hasField 14 = .ok (.invokevirtual 94, 3) := qd_182 kq_cX6_hasField (by decide +kernel)
theorem dX6_hasField_17 : decode cX6_hasField 17 = .ok (.if_icmp .ge 34, 3) := qd_162 kq_cX6_hasField (by decide +kernel)
theorem dX6_hasField_20 : decode cX6_hasField 20 = .ok (.aload_n 0, 1) := qd_42 kq_cX6_hasField (by decide +kernel)
theorem dX6_hasField_21 : decode cX6_hasField 21 = .ok (.aload_n 0, 1) := qd_42 kq_cX6_hasField (by decide +kernel)
theorem dX6_hasField_22 : decode cX6_hasField 22 = .ok (.iload 4, 2) := qd_21 kq_cX6_hasField (by decide +kernel)
theorem dX6_hasField_24 : decode cX6_hasField 24 = .ok (.invokevirtual 95, 3) := qd_182 kq_cX6_hasField (by decide +kernel)
theorem dX6_hasField_27 : decode cX6_hasField 27 = .ok (.aload_n 2, 1) := qd_44 kq_cX6_hasField (by decide +kernel)
theorem dX6_hasField_28 : decode cX6_hasField 28 = .ok (.iload_n 3, 1) := qd_29 kq_cX6_hasField (by decide +kernel)
theorem dX6_hasField_29 : decode cX6_hasField 29 = .ok (.invokevirtual 87, 3) := qd_182 kq_cX6_hasField (by decide +kernel)
theorem dX6_hasField_32 : decode cX6_hasField 32 = .ok (.ifCond .eq 5, 3) := qd_153 kq_cX6_hasField (by decide +kernel)
theorem dX6_hasField_35 : decode cX6_hasField 35 = .ok (.iconst 1, 1) := qd_4 kq_cX6_hasField (by decide +kernel)
theorem dX6_hasField_36 : decode cX6_hasField 36 = .ok (.ireturn, 1) := qd_172 kq_cX6_hasField (by decide +kernel)
theorem dX6_hasField_37 : decode cX6_hasField 37 = .ok (.aload_n 0, 1) := qd_42 kq_cX6_hasField (by decide +kernel)
theorem dX6_hasField_38 : decode cX6_hasField 38 = .ok (.iload 4, 2) := qd_21 kq_cX6_hasField (by decide +kernel)
theorem dX6_hasField_40 : decode cX6_hasField 40 = .ok (.invokevirtual 98, 3) := qd_182 kq_cX6_hasField (by decide +kernel)
theorem dX6_hasField_43 : decode cX6_hasField 43 = .ok (.istore 4, 2) := qd_54 kq_cX6_hasField (by decide +kernel)
theorem dX6_hasField_45 : decode cX6_hasField 45 = .ok (.iinc 5 1, 3) := qd_132 kq_cX6_hasField (by decide +kernel)
theorem dX6_hasField_48 : decode cX6_hasField 48 = .ok (.goto (-38), 3) := qd_167 kq_cX6_hasField (by decide +kernel)
theorem dX6_hasField_51 : decode cX6_hasField 51 = .ok (.iconst 0, 1) := qd_3 kq_cX6_hasField (by decide +kernel)
theorem dX6_hasField_52 : decode cX6_hasField 52 = .ok (.ireturn, 1) := qd_172 kq_cX6_hasField (by decide +kernel)
def rmX6_hasField (mc ms : Nat) : Room := { frames := 3, cells := mc, slots := ms, locals := 68 }
abbrev cX6_nextSymbol : ByteArray := prog_9_method_30_code
def yX6_nextSymbol : MethodName := ⟨RX6, "nextSymbol", "(I)I"⟩
def wsX6_nextSymbol : List Cond := .code yX6_nextSymbol cX6_nextSymbol 3 (some .int) :: sr_G
def nq_cX6_nextSymbol : Nat := 0xac60061cebffa701028409009f22105400b61c2a1300a22c00b42a1c3d1b
theorem kq_cX6_nextSymbol : qOk cX6_nextSymbol nq_cX6_nextSymbol 30 = true := by decide +kernel
theorem dX6_nextSymbol_0 : decode cX6_nextSymbol 0 = .ok (.iload_n 1, 1) := qd_27 kq_cX6_nextSymbol (by decide +kernel)
theorem dX6_nextSymbol_1 : decode cX6_nextSymbol 1 = .ok (.istore_n 2, 1) := qd_61 kq_cX6_nextSymbol (by decide +kernel)
theorem dX6_nextSymbol_2 : decode cX6_nextSymbol 2 = .ok (.iload_n 2, 1) := qd_28 kq_cX6_nextSymbol (by decide +kernel)
theorem dX6_nextSymbol_3 : decode cX6_nextSymbol 3 = .ok (.aload_n 0, 1) := qd_42 kq_cX6_nextSymbol (by decide +kernel)
theorem dX6_nextSymbol_4 : decode cX6_nextSymbol 4 = .ok (.getfield 44, 3) := qd_180 kq_cX6_nextSymbol (by decide +kernel)
theorem dX6_nextSymbol_7 : decode cX6_nextSymbol 7 = .ok (.if_icmp .ge 19, 3) := qd_162 kq_cX6_nextSymbol (by decide +kernel)
theorem dX6_nextSymbol_10 : decode cX6_nextSymbol 10 = .ok (.aload_n 0, 1) := qd_42 kq_cX6_nextSymbol (by decide +kernel)
theorem dX6_nextSymbol_11 : decode cX6_nextSymbol 11 = .ok (.iload_n 2, 1) := qd_28 kq_cX6_nextSymbol (by decide +kernel)
theorem dX6_nextSymbol_12 : decode cX6_nextSymbol 12 = .ok (.invokevirtual 84, 3) := qd_182 kq_cX6_nextSymbol (by decide +kernel)
theorem dX6_nextSymbol_15 : decode cX6_nextSymbol 15 = .ok (.bipush 34, 2) := qd_16 kq_cX6_nextSymbol (by decide +kernel)
theorem dX6_nextSymbol_17 : decode cX6_nextSymbol 17 = .ok (.if_icmp .eq 9, 3) := qd_159 kq_cX6_nextSymbol (by decide +kernel)
theorem dX6_nextSymbol_20 : decode cX6_nextSymbol 20 = .ok (.iinc 2 1, 3) := qd_132 kq_cX6_nextSymbol (by decide +kernel)
theorem dX6_nextSymbol_23 : decode cX6_nextSymbol 23 = .ok (.goto (-21), 3) := qd_167 kq_cX6_nextSymbol (by decide +kernel)
theorem dX6_nextSymbol_26 : decode cX6_nextSymbol 26 = .ok (.iload_n 2, 1) := qd_28 kq_cX6_nextSymbol (by decide +kernel)
theorem dX6_nextSymbol_27 : decode cX6_nextSymbol 27 = .ok (.iconst 3, 1) := qd_6 kq_cX6_nextSymbol (by decide +kernel)
theorem dX6_nextSymbol_28 : decode cX6_nextSymbol 28 = .ok (.iadd, 1) := qd_96 kq_cX6_nextSymbol (by decide +kernel)
theorem dX6_nextSymbol_29 : decode cX6_nextSymbol 29 = .ok (.ireturn, 1) := qd_172 kq_cX6_nextSymbol (by decide +kernel)
def rmX6_nextSymbol (mc ms : Nat) : Room := { frames := 1, cells := mc, slots := ms, locals := 21 }
abbrev cX6_hasSymbol : ByteArray := prog_9_method_31_code
def yX6_hasSymbol : MethodName := ⟨RX6, "hasSymbol", "(ILSchemaReader$Text;I)Z"⟩
def wsX6_hasSymbol : List Cond := .code yX6_hasSymbol cX6_hasSymbol 6 (some .boolean) :: sr_G
def nq_cX6_hasSymbol : Nat := 0xac03deffa701058404366500b604152aac040500995700b61d2c04152a1e00a25e00b61b2a051505360304365b00b61b2a
theorem kq_cX6_hasSymbol : qOk cX6_hasSymbol nq_cX6_hasSymbol 49 = true := by decide +kernel
theorem dX6_hasSymbol_0 : decode cX6_hasSymbol 0 = .ok (.aload_n 0, 1) := qd_42 kq_cX6_hasSymbol (by decide +kernel)
theorem dX6_hasSymbol_1 : decode cX6_hasSymbol 1 = .ok (.iload_n 1, 1) := qd_27 kq_cX6_hasSymbol (by decide +kernel)
theorem dX6_hasSymbol_2 : decode cX6_hasSymbol 2 = .ok (.invokevirtual 91, 3) := qd_182 kq_cX6_hasSymbol (by decide +kernel)
theorem dX6_hasSymbol_5 : decode cX6_hasSymbol 5 = .ok (.istore 4, 2) := qd_54 kq_cX6_hasSymbol (by decide +kernel)
theorem dX6_hasSymbol_7 : decode cX6_hasSymbol 7 = .ok (.iconst 0, 1) := qd_3 kq_cX6_hasSymbol (by decide +kernel)
theorem dX6_hasSymbol_8 : decode cX6_hasSymbol 8 = .ok (.istore 5, 2) := qd_54 kq_cX6_hasSymbol (by decide +kernel)
theorem dX6_hasSymbol_10 : decode cX6_hasSymbol 10 = .ok (.iload 5, 2) := qd_21 kq_cX6_hasSymbol (by decide +kernel)
theorem dX6_hasSymbol_12 : decode cX6_hasSymbol 12 = .ok (.aload_n 0, 1) := qd_42 kq_cX6_hasSymbol (by decide +kernel)
theorem dX6_hasSymbol_13 : decode cX6_hasSymbol 13 = .ok (.iload_n 1, 1) := qd_27 kq_cX6_hasSymbol (by decide +kernel)
theorem dX6_hasSymbol_14 : decode cX6_hasSymbol 14 = .ok (.invokevirtual 94, 3) := qd_182 kq_cX6_hasSymbol (by decide +kernel)
theorem dX6_hasSymbol_17 : decode cX6_hasSymbol 17 = .ok (.if_icmp .ge 30, 3) := qd_162 kq_cX6_hasSymbol (by decide +kernel)
theorem dX6_hasSymbol_20 : decode cX6_hasSymbol 20 = .ok (.aload_n 0, 1) := qd_42 kq_cX6_hasSymbol (by decide +kernel)
theorem dX6_hasSymbol_21 : decode cX6_hasSymbol 21 = .ok (.iload 4, 2) := qd_21 kq_cX6_hasSymbol (by decide +kernel)
theorem dX6_hasSymbol_23 : decode cX6_hasSymbol 23 = .ok (.aload_n 2, 1) := qd_44 kq_cX6_hasSymbol (by decide +kernel)
theorem dX6_hasSymbol_24 : decode cX6_hasSymbol 24 = .ok (.iload_n 3, 1) := qd_29 kq_cX6_hasSymbol (by decide +kernel)
theorem dX6_hasSymbol_25 : decode cX6_hasSymbol 25 = .ok (.invokevirtual 87, 3) := qd_182 kq_cX6_hasSymbol (by decide +kernel)
theorem dX6_hasSymbol_28 : decode cX6_hasSymbol 28 = .ok (.ifCond .eq 5, 3) := qd_153 kq_cX6_hasSymbol (by decide +kernel)
theorem dX6_hasSymbol_31 : decode cX6_hasSymbol 31 = .ok (.iconst 1, 1) := qd_4 kq_cX6_hasSymbol (by decide +kernel)
theorem dX6_hasSymbol_32 : decode cX6_hasSymbol 32 = .ok (.ireturn, 1) := qd_172 kq_cX6_hasSymbol (by decide +kernel)
theorem dX6_hasSymbol_33 : decode cX6_hasSymbol 33 = .ok (.aload_n 0, 1) := qd_42 kq_cX6_hasSymbol (by decide +kernel)
theorem dX6_hasSymbol_34 : decode cX6_hasSymbol 34 = .ok (.iload 4, 2) := qd_21 kq_cX6_hasSymbol (by decide +kernel)
theorem dX6_hasSymbol_36 : decode cX6_hasSymbol 36 = .ok (.invokevirtual 101, 3) := qd_182 kq_cX6_hasSymbol (by decide +kernel)
theorem dX6_hasSymbol_39 : decode cX6_hasSymbol 39 = .ok (.istore 4, 2) := qd_54 kq_cX6_hasSymbol (by decide +kernel)
theorem dX6_hasSymbol_41 : decode cX6_hasSymbol 41 = .ok (.iinc 5 1, 3) := qd_132 kq_cX6_hasSymbol (by decide +kernel)
theorem dX6_hasSymbol_44 : decode cX6_hasSymbol 44 = .ok (.goto (-34), 3) := qd_167 kq_cX6_hasSymbol (by decide +kernel)
theorem dX6_hasSymbol_47 : decode cX6_hasSymbol 47 = .ok (.iconst 0, 1) := qd_3 kq_cX6_hasSymbol (by decide +kernel)
theorem dX6_hasSymbol_48 : decode cX6_hasSymbol 48 = .ok (.ireturn, 1) := qd_172 kq_cX6_hasSymbol (by decide +kernel)
def rmX6_hasSymbol (mc ms : Nat) : Room := { frames := 3, cells := mc, slots := ms, locals := 68 }
abbrev cX6_addSymbol : ByteArray := prog_9_method_32_code
def yX6_addSymbol : MethodName := ⟨RX6, "addSymbol", "(ILSchemaReader$Text;I)V"⟩
def wsX6_addSymbol : List Cond := .code yX6_addSymbol cX6_addSymbol 5 none :: sr_G
def nq_cX6_addSymbol : Nat := 0xb14f60042e5c1b2200b42a4f04151b1600b42a0b009a2e1b2200b42a04366800b61d2c2a4800b62c102a09009e2e1b2200b42ab104009a3700b81b
theorem kq_cX6_addSymbol : qOk cX6_addSymbol nq_cX6_addSymbol 59 = true := by decide +kernel
theorem dX6_addSymbol_0 : decode cX6_addSymbol 0 = .ok (.iload_n 1, 1) := qd_27 kq_cX6_addSymbol (by decide +kernel)
theorem dX6_addSymbol_1 : decode cX6_addSymbol 1 = .ok (.invokestatic 55, 3) := qd_184 kq_cX6_addSymbol (by decide +kernel)
theorem dX6_addSymbol_4 : decode cX6_addSymbol 4 = .ok (.ifCond .ne 4, 3) := qd_154 kq_cX6_addSymbol (by decide +kernel)
theorem dX6_addSymbol_7 : decode cX6_addSymbol 7 = .ok (.return_, 1) := qd_177 kq_cX6_addSymbol (by decide +kernel)
theorem dX6_addSymbol_8 : decode cX6_addSymbol 8 = .ok (.aload_n 0, 1) := qd_42 kq_cX6_addSymbol (by decide +kernel)
theorem dX6_addSymbol_9 : decode cX6_addSymbol 9 = .ok (.getfield 34, 3) := qd_180 kq_cX6_addSymbol (by decide +kernel)
theorem dX6_addSymbol_12 : decode cX6_addSymbol 12 = .ok (.iload_n 1, 1) := qd_27 kq_cX6_addSymbol (by decide +kernel)
theorem dX6_addSymbol_13 : decode cX6_addSymbol 13 = .ok (.iaload, 1) := qd_46 kq_cX6_addSymbol (by decide +kernel)
theorem dX6_addSymbol_14 : decode cX6_addSymbol 14 = .ok (.ifCond .le 9, 3) := qd_158 kq_cX6_addSymbol (by decide +kernel)
theorem dX6_addSymbol_17 : decode cX6_addSymbol 17 = .ok (.aload_n 0, 1) := qd_42 kq_cX6_addSymbol (by decide +kernel)
theorem dX6_addSymbol_18 : decode cX6_addSymbol 18 = .ok (.bipush 44, 2) := qd_16 kq_cX6_addSymbol (by decide +kernel)
theorem dX6_addSymbol_20 : decode cX6_addSymbol 20 = .ok (.invokevirtual 72, 3) := qd_182 kq_cX6_addSymbol (by decide +kernel)
theorem dX6_addSymbol_23 : decode cX6_addSymbol 23 = .ok (.aload_n 0, 1) := qd_42 kq_cX6_addSymbol (by decide +kernel)
theorem dX6_addSymbol_24 : decode cX6_addSymbol 24 = .ok (.aload_n 2, 1) := qd_44 kq_cX6_addSymbol (by decide +kernel)
theorem dX6_addSymbol_25 : decode cX6_addSymbol 25 = .ok (.iload_n 3, 1) := qd_29 kq_cX6_addSymbol (by decide +kernel)
theorem dX6_addSymbol_26 : decode cX6_addSymbol 26 = .ok (.invokevirtual 104, 3) := qd_182 kq_cX6_addSymbol (by decide +kernel)
theorem dX6_addSymbol_29 : decode cX6_addSymbol 29 = .ok (.istore 4, 2) := qd_54 kq_cX6_addSymbol (by decide +kernel)
theorem dX6_addSymbol_31 : decode cX6_addSymbol 31 = .ok (.aload_n 0, 1) := qd_42 kq_cX6_addSymbol (by decide +kernel)
theorem dX6_addSymbol_32 : decode cX6_addSymbol 32 = .ok (.getfield 34, 3) := qd_180 kq_cX6_addSymbol (by decide +kernel)
theorem dX6_addSymbol_35 : decode cX6_addSymbol 35 = .ok (.iload_n 1, 1) := qd_27 kq_cX6_addSymbol (by decide +kernel)
theorem dX6_addSymbol_36 : decode cX6_addSymbol 36 = .ok (.iaload, 1) := qd_46 kq_cX6_addSymbol (by decide +kernel)
theorem dX6_addSymbol_37 : decode cX6_addSymbol 37 = .ok (.ifCond .ne 11, 3) := qd_154 kq_cX6_addSymbol (by decide +kernel)
theorem dX6_addSymbol_40 : decode cX6_addSymbol 40 = .ok (.aload_n 0, 1) := qd_42 kq_cX6_addSymbol (by decide +kernel)
theorem dX6_addSymbol_41 : decode cX6_addSymbol 41 = .ok (.getfield 22, 3) := qd_180 kq_cX6_addSymbol (by decide +kernel)
theorem dX6_addSymbol_44 : decode cX6_addSymbol 44 = .ok (.iload_n 1, 1) := qd_27 kq_cX6_addSymbol (by decide +kernel)
theorem dX6_addSymbol_45 : decode cX6_addSymbol 45 = .ok (.iload 4, 2) := qd_21 kq_cX6_addSymbol (by decide +kernel)
theorem dX6_addSymbol_47 : decode cX6_addSymbol 47 = .ok (.iastore, 1) := qd_79 kq_cX6_addSymbol (by decide +kernel)
theorem dX6_addSymbol_48 : decode cX6_addSymbol 48 = .ok (.aload_n 0, 1) := qd_42 kq_cX6_addSymbol (by decide +kernel)
theorem dX6_addSymbol_49 : decode cX6_addSymbol 49 = .ok (.getfield 34, 3) := qd_180 kq_cX6_addSymbol (by decide +kernel)
theorem dX6_addSymbol_52 : decode cX6_addSymbol 52 = .ok (.iload_n 1, 1) := qd_27 kq_cX6_addSymbol (by decide +kernel)
theorem dX6_addSymbol_53 : decode cX6_addSymbol 53 = .ok (.dup2, 1) := qd_92 kq_cX6_addSymbol (by decide +kernel)
theorem dX6_addSymbol_54 : decode cX6_addSymbol 54 = .ok (.iaload, 1) := qd_46 kq_cX6_addSymbol (by decide +kernel)
theorem dX6_addSymbol_55 : decode cX6_addSymbol 55 = .ok (.iconst 1, 1) := qd_4 kq_cX6_addSymbol (by decide +kernel)
theorem dX6_addSymbol_56 : decode cX6_addSymbol 56 = .ok (.iadd, 1) := qd_96 kq_cX6_addSymbol (by decide +kernel)
theorem dX6_addSymbol_57 : decode cX6_addSymbol 57 = .ok (.iastore, 1) := qd_79 kq_cX6_addSymbol (by decide +kernel)
theorem dX6_addSymbol_58 : decode cX6_addSymbol 58 = .ok (.return_, 1) := qd_177 kq_cX6_addSymbol (by decide +kernel)
def rmX6_addSymbol (mc ms : Nat) : Room := { frames := 3, cells := mc, slots := ms, locals := 66 }
abbrev cX6_isAlike : ByteArray := prog_9_method_33_code
def yX6_isAlike : MethodName := ⟨RX6, "isAlike", "(II)Z"⟩
def wsX6_isAlike : List Cond := .code yX6_isAlike cX6_isAlike 3 (some .boolean) :: sr_G
def nq_cX6_isAlike : Nat := 0xac030400a7040700a03b00b61c2a3b00b61b2a1000996f00b86c00b61b2aac0305009f6c00b61c2a6c00b61b2a
theorem kq_cX6_isAlike : qOk cX6_isAlike nq_cX6_isAlike 45 = true := by decide +kernel
theorem dX6_isAlike_0 : decode cX6_isAlike 0 = .ok (.aload_n 0, 1) := qd_42 kq_cX6_isAlike (by decide +kernel)
theorem dX6_isAlike_1 : decode cX6_isAlike 1 = .ok (.iload_n 1, 1) := qd_27 kq_cX6_isAlike (by decide +kernel)
theorem dX6_isAlike_2 : decode cX6_isAlike 2 = .ok (.invokevirtual 108, 3) := qd_182 kq_cX6_isAlike (by decide +kernel)
theorem dX6_isAlike_5 : decode cX6_isAlike 5 = .ok (.aload_n 0, 1) := qd_42 kq_cX6_isAlike (by decide +kernel)
theorem dX6_isAlike_6 : decode cX6_isAlike 6 = .ok (.iload_n 2, 1) := qd_28 kq_cX6_isAlike (by decide +kernel)
theorem dX6_isAlike_7 : decode cX6_isAlike 7 = .ok (.invokevirtual 108, 3) := qd_182 kq_cX6_isAlike (by decide +kernel)
theorem dX6_isAlike_10 : decode cX6_isAlike 10 = .ok (.if_icmp .eq 5, 3) := qd_159 kq_cX6_isAlike (by decide +kernel)
theorem dX6_isAlike_13 : decode cX6_isAlike 13 = .ok (.iconst 0, 1) := qd_3 kq_cX6_isAlike (by decide +kernel)
theorem dX6_isAlike_14 : decode cX6_isAlike 14 = .ok (.ireturn, 1) := qd_172 kq_cX6_isAlike (by decide +kernel)
theorem dX6_isAlike_15 : decode cX6_isAlike 15 = .ok (.aload_n 0, 1) := qd_42 kq_cX6_isAlike (by decide +kernel)
theorem dX6_isAlike_16 : decode cX6_isAlike 16 = .ok (.iload_n 1, 1) := qd_27 kq_cX6_isAlike (by decide +kernel)
theorem dX6_isAlike_17 : decode cX6_isAlike 17 = .ok (.invokevirtual 108, 3) := qd_182 kq_cX6_isAlike (by decide +kernel)
theorem dX6_isAlike_20 : decode cX6_isAlike 20 = .ok (.invokestatic 111, 3) := qd_184 kq_cX6_isAlike (by decide +kernel)
theorem dX6_isAlike_23 : decode cX6_isAlike 23 = .ok (.ifCond .eq 16, 3) := qd_153 kq_cX6_isAlike (by decide +kernel)
theorem dX6_isAlike_26 : decode cX6_isAlike 26 = .ok (.aload_n 0, 1) := qd_42 kq_cX6_isAlike (by decide +kernel)
theorem dX6_isAlike_27 : decode cX6_isAlike 27 = .ok (.iload_n 1, 1) := qd_27 kq_cX6_isAlike (by decide +kernel)
theorem dX6_isAlike_28 : decode cX6_isAlike 28 = .ok (.invokevirtual 59, 3) := qd_182 kq_cX6_isAlike (by decide +kernel)
theorem dX6_isAlike_31 : decode cX6_isAlike 31 = .ok (.aload_n 0, 1) := qd_42 kq_cX6_isAlike (by decide +kernel)
theorem dX6_isAlike_32 : decode cX6_isAlike 32 = .ok (.iload_n 2, 1) := qd_28 kq_cX6_isAlike (by decide +kernel)
theorem dX6_isAlike_33 : decode cX6_isAlike 33 = .ok (.invokevirtual 59, 3) := qd_182 kq_cX6_isAlike (by decide +kernel)
theorem dX6_isAlike_36 : decode cX6_isAlike 36 = .ok (.if_icmp .ne 7, 3) := qd_160 kq_cX6_isAlike (by decide +kernel)
theorem dX6_isAlike_39 : decode cX6_isAlike 39 = .ok (.iconst 1, 1) := qd_4 kq_cX6_isAlike (by decide +kernel)
theorem dX6_isAlike_40 : decode cX6_isAlike 40 = .ok (.goto 4, 3) := qd_167 kq_cX6_isAlike (by decide +kernel)
theorem dX6_isAlike_43 : decode cX6_isAlike 43 = .ok (.iconst 0, 1) := qd_3 kq_cX6_isAlike (by decide +kernel)
theorem dX6_isAlike_44 : decode cX6_isAlike 44 = .ok (.ireturn, 1) := qd_172 kq_cX6_isAlike (by decide +kernel)
def rmX6_isAlike (mc ms : Nat) : Room := { frames := 2, cells := mc, slots := ms, locals := 42 }
abbrev cX6_isSameName : ByteArray := prog_9_method_34_code
def yX6_isSameName : MethodName := ⟨RX6, "isSameName", "(LSchemaReader$Schema;ILSchemaReader$Schema;I)Z"⟩
def wsX6_isSameName : List Cond := .code yX6_isSameName cX6_isSameName 7 (some .boolean) :: sr_G
def nq_cX6_isSameName : Nat := 0xac03b7ffa7010484ac040500a022103305150900b42aac0305009f3306150900b42c3305150900b42a1400a22c00b42c06151d00a22c00b42a051506366004151d05366004151b4800a320100415043603ac0305009c1d07009b1b
theorem kq_cX6_isSameName : qOk cX6_isSameName nq_cX6_isSameName 91 = true := by decide +kernel
theorem dX6_isSameName_0 : decode cX6_isSameName 0 = .ok (.iload_n 1, 1) := qd_27 kq_cX6_isSameName (by decide +kernel)
theorem dX6_isSameName_1 : decode cX6_isSameName 1 = .ok (.ifCond .lt 7, 3) := qd_155 kq_cX6_isSameName (by decide +kernel)
theorem dX6_isSameName_4 : decode cX6_isSameName 4 = .ok (.iload_n 3, 1) := qd_29 kq_cX6_isSameName (by decide +kernel)
theorem dX6_isSameName_5 : decode cX6_isSameName 5 = .ok (.ifCond .ge 5, 3) := qd_156 kq_cX6_isSameName (by decide +kernel)
theorem dX6_isSameName_8 : decode cX6_isSameName 8 = .ok (.iconst 0, 1) := qd_3 kq_cX6_isSameName (by decide +kernel)
theorem dX6_isSameName_9 : decode cX6_isSameName 9 = .ok (.ireturn, 1) := qd_172 kq_cX6_isSameName (by decide +kernel)
theorem dX6_isSameName_10 : decode cX6_isSameName 10 = .ok (.iconst 0, 1) := qd_3 kq_cX6_isSameName (by decide +kernel)
theorem dX6_isSameName_11 : decode cX6_isSameName 11 = .ok (.istore 4, 2) := qd_54 kq_cX6_isSameName (by decide +kernel)
theorem dX6_isSameName_13 : decode cX6_isSameName 13 = .ok (.iload 4, 2) := qd_21 kq_cX6_isSameName (by decide +kernel)
theorem dX6_isSameName_15 : decode cX6_isSameName 15 = .ok (.bipush 32, 2) := qd_16 kq_cX6_isSameName (by decide +kernel)
theorem dX6_isSameName_17 : decode cX6_isSameName 17 = .ok (.if_icmp .gt 72, 3) := qd_163 kq_cX6_isSameName (by decide +kernel)
theorem dX6_isSameName_20 : decode cX6_isSameName 20 = .ok (.iload_n 1, 1) := qd_27 kq_cX6_isSameName (by decide +kernel)
theorem dX6_isSameName_21 : decode cX6_isSameName 21 = .ok (.iload 4, 2) := qd_21 kq_cX6_isSameName (by decide +kernel)
theorem dX6_isSameName_23 : decode cX6_isSameName 23 = .ok (.iadd, 1) := qd_96 kq_cX6_isSameName (by decide +kernel)
theorem dX6_isSameName_24 : decode cX6_isSameName 24 = .ok (.istore 5, 2) := qd_54 kq_cX6_isSameName (by decide +kernel)
theorem dX6_isSameName_26 : decode cX6_isSameName 26 = .ok (.iload_n 3, 1) := qd_29 kq_cX6_isSameName (by decide +kernel)
theorem dX6_isSameName_27 : decode cX6_isSameName 27 = .ok (.iload 4, 2) := qd_21 kq_cX6_isSameName (by decide +kernel)
theorem dX6_isSameName_29 : decode cX6_isSameName 29 = .ok (.iadd, 1) := qd_96 kq_cX6_isSameName (by decide +kernel)
theorem dX6_isSameName_30 : decode cX6_isSameName 30 = .ok (.istore 6, 2) := qd_54 kq_cX6_isSameName (by decide +kernel)
theorem dX6_isSameName_32 : decode cX6_isSameName 32 = .ok (.iload 5, 2) := qd_21 kq_cX6_isSameName (by decide +kernel)
theorem dX6_isSameName_34 : decode cX6_isSameName 34 = .ok (.aload_n 0, 1) := qd_42 kq_cX6_isSameName (by decide +kernel)
theorem dX6_isSameName_35 : decode cX6_isSameName 35 = .ok (.getfield 44, 3) := qd_180 kq_cX6_isSameName (by decide +kernel)
theorem dX6_isSameName_38 : decode cX6_isSameName 38 = .ok (.if_icmp .ge 29, 3) := qd_162 kq_cX6_isSameName (by decide +kernel)
theorem dX6_isSameName_41 : decode cX6_isSameName 41 = .ok (.iload 6, 2) := qd_21 kq_cX6_isSameName (by decide +kernel)
theorem dX6_isSameName_43 : decode cX6_isSameName 43 = .ok (.aload_n 2, 1) := qd_44 kq_cX6_isSameName (by decide +kernel)
theorem dX6_isSameName_44 : decode cX6_isSameName 44 = .ok (.getfield 44, 3) := qd_180 kq_cX6_isSameName (by decide +kernel)
theorem dX6_isSameName_47 : decode cX6_isSameName 47 = .ok (.if_icmp .ge 20, 3) := qd_162 kq_cX6_isSameName (by decide +kernel)
theorem dX6_isSameName_50 : decode cX6_isSameName 50 = .ok (.aload_n 0, 1) := qd_42 kq_cX6_isSameName (by decide +kernel)
theorem dX6_isSameName_51 : decode cX6_isSameName 51 = .ok (.getfield 9, 3) := qd_180 kq_cX6_isSameName (by decide +kernel)
theorem dX6_isSameName_54 : decode cX6_isSameName 54 = .ok (.iload 5, 2) := qd_21 kq_cX6_isSameName (by decide +kernel)
theorem dX6_isSameName_56 : decode cX6_isSameName 56 = .ok (.baload, 1) := qd_51 kq_cX6_isSameName (by decide +kernel)
theorem dX6_isSameName_57 : decode cX6_isSameName 57 = .ok (.aload_n 2, 1) := qd_44 kq_cX6_isSameName (by decide +kernel)
theorem dX6_isSameName_58 : decode cX6_isSameName 58 = .ok (.getfield 9, 3) := qd_180 kq_cX6_isSameName (by decide +kernel)
theorem dX6_isSameName_61 : decode cX6_isSameName 61 = .ok (.iload 6, 2) := qd_21 kq_cX6_isSameName (by decide +kernel)
theorem dX6_isSameName_63 : decode cX6_isSameName 63 = .ok (.baload, 1) := qd_51 kq_cX6_isSameName (by decide +kernel)
theorem dX6_isSameName_64 : decode cX6_isSameName 64 = .ok (.if_icmp .eq 5, 3) := qd_159 kq_cX6_isSameName (by decide +kernel)
theorem dX6_isSameName_67 : decode cX6_isSameName 67 = .ok (.iconst 0, 1) := qd_3 kq_cX6_isSameName (by decide +kernel)
theorem dX6_isSameName_68 : decode cX6_isSameName 68 = .ok (.ireturn, 1) := qd_172 kq_cX6_isSameName (by decide +kernel)
theorem dX6_isSameName_69 : decode cX6_isSameName 69 = .ok (.aload_n 0, 1) := qd_42 kq_cX6_isSameName (by decide +kernel)
theorem dX6_isSameName_70 : decode cX6_isSameName 70 = .ok (.getfield 9, 3) := qd_180 kq_cX6_isSameName (by decide +kernel)
theorem dX6_isSameName_73 : decode cX6_isSameName 73 = .ok (.iload 5, 2) := qd_21 kq_cX6_isSameName (by decide +kernel)
theorem dX6_isSameName_75 : decode cX6_isSameName 75 = .ok (.baload, 1) := qd_51 kq_cX6_isSameName (by decide +kernel)
theorem dX6_isSameName_76 : decode cX6_isSameName 76 = .ok (.bipush 34, 2) := qd_16 kq_cX6_isSameName (by decide +kernel)
theorem dX6_isSameName_78 : decode cX6_isSameName 78 = .ok (.if_icmp .ne 5, 3) := qd_160 kq_cX6_isSameName (by decide +kernel)
theorem dX6_isSameName_81 : decode cX6_isSameName 81 = .ok (.iconst 1, 1) := qd_4 kq_cX6_isSameName (by decide +kernel)
theorem dX6_isSameName_82 : decode cX6_isSameName 82 = .ok (.ireturn, 1) := qd_172 kq_cX6_isSameName (by decide +kernel)
theorem dX6_isSameName_83 : decode cX6_isSameName 83 = .ok (.iinc 4 1, 3) := qd_132 kq_cX6_isSameName (by decide +kernel)
theorem dX6_isSameName_86 : decode cX6_isSameName 86 = .ok (.goto (-73), 3) := qd_167 kq_cX6_isSameName (by decide +kernel)
theorem dX6_isSameName_89 : decode cX6_isSameName 89 = .ok (.iconst 0, 1) := qd_3 kq_cX6_isSameName (by decide +kernel)
theorem dX6_isSameName_90 : decode cX6_isSameName 90 = .ok (.ireturn, 1) := qd_172 kq_cX6_isSameName (by decide +kernel)
def rmX6_isSameName (mc ms : Nat) : Room := { frames := 0, cells := mc, slots := ms, locals := 0 }
theorem g3_35 (c0 : Cond) : GoodIn (c0 :: sr_G) (va_wsS RX3 35 yX3_word wsX3_word) := sr_S c0 (sr_insI [(2, 163), (2, 164), (1, 19), (2, 165)] (by decide +kernel))
theorem g3_39 (c0 : Cond) : GoodIn (c0 :: sr_G) (wsV RX3 39 RX7 yX7_says wsX7_says) := sr_V c0 (sr_insI [(2, 178), (2, 179), (2, 180), (1, 2), (2, 181)] (by decide +kernel))
theorem g6_55 (c0 : Cond) : GoodIn (c0 :: sr_G) (va_wsS RX6 55 yX6_isSlot wsX6_isSlot) := sr_S c0 (sr_insI [(2, 186), (2, 187), (1, 4), (2, 188)] (by decide +kernel))
theorem g6_59 (c0 : Cond) : GoodIn (c0 :: sr_G) (wsV RX6 59 RX6 yX6_meant wsX6_meant) := sr_V c0 (sr_insI [(3, 16), (3, 17), (3, 18), (1, 4), (3, 19)] (by decide +kernel))
theorem g6_62 (c0 : Cond) : GoodIn (c0 :: sr_G) (wsV RX6 62 RX20 yX20_length wsX20_length) := sr_V c0 (sr_insI [(3, 57), (2, 73), (2, 74), (1, 15), (2, 75)] (by decide +kernel))
theorem g6_68 (c0 : Cond) : GoodIn (c0 :: sr_G) (wsV RX6 68 RX20 yX20_charAt wsX20_charAt) := sr_V c0 (sr_insI [(3, 58), (2, 83), (2, 84), (1, 15), (2, 85)] (by decide +kernel))
theorem g6_72 (c0 : Cond) : GoodIn (c0 :: sr_G) (wsV RX6 72 RX6 yX6_writeByte wsX6_writeByte) := sr_V c0 (sr_insI [(2, 214), (2, 215), (2, 216), (1, 4), (2, 217)] (by decide +kernel))
theorem g6_76 (c0 : Cond) : GoodIn (c0 :: sr_G) (wsV RX6 76 RX7 yX7_amount wsX7_amount) := sr_V c0 (sr_insI [(2, 197), (2, 198), (2, 199), (1, 2), (2, 200)] (by decide +kernel))
theorem g6_81 (c0 : Cond) : GoodIn (c0 :: sr_G) (wsV RX6 81 RX7 yX7_saidAt wsX7_saidAt) := sr_V c0 (sr_insI [(2, 205), (2, 56), (2, 57), (1, 2), (2, 58)] (by decide +kernel))
theorem g6_84 (c0 : Cond) : GoodIn (c0 :: sr_G) (wsV RX6 84 RX6 yX6_letterAt wsX6_letterAt) := sr_V c0 (sr_insI [(2, 201), (2, 202), (2, 203), (1, 4), (2, 204)] (by decide +kernel))
theorem g6_87 (c0 : Cond) : GoodIn (c0 :: sr_G) (wsV RX6 87 RX6 yX6_isSaid wsX6_isSaid) := sr_V c0 (sr_insI [(2, 193), (2, 194), (2, 195), (1, 4), (2, 196)] (by decide +kernel))
theorem g6_91 (c0 : Cond) : GoodIn (c0 :: sr_G) (wsV RX6 91 RX6 yX6_first wsX6_first) := sr_V c0 (sr_insI [(3, 111), (2, 237), (2, 238), (1, 4), (2, 239)] (by decide +kernel))
theorem g6_94 (c0 : Cond) : GoodIn (c0 :: sr_G) (wsV RX6 94 RX6 yX6_amount wsX6_amount) := sr_V c0 (sr_insI [(3, 112), (3, 2), (3, 3), (1, 4), (3, 4)] (by decide +kernel))
theorem g6_95 (c0 : Cond) : GoodIn (c0 :: sr_G) (wsV RX6 95 RX6 yX6_fieldName wsX6_fieldName) := sr_V c0 (sr_insI [(3, 150), (3, 151), (3, 152), (1, 4), (3, 153)] (by decide +kernel))
theorem g6_98 (c0 : Cond) : GoodIn (c0 :: sr_G) (wsV RX6 98 RX6 yX6_next wsX6_next) := sr_V c0 (sr_insI [(3, 154), (3, 21), (3, 22), (1, 4), (3, 23)] (by decide +kernel))
theorem g6_101 (c0 : Cond) : GoodIn (c0 :: sr_G) (wsV RX6 101 RX6 yX6_nextSymbol wsX6_nextSymbol) := sr_V c0 (sr_insI [(3, 113), (3, 114), (3, 115), (1, 4), (3, 116)] (by decide +kernel))
theorem g6_104 (c0 : Cond) : GoodIn (c0 :: sr_G) (wsV RX6 104 RX6 yX6_writeSaid wsX6_writeSaid) := sr_V c0 (sr_insI [(3, 121), (2, 211), (2, 212), (1, 4), (2, 213)] (by decide +kernel))
theorem g6_108 (c0 : Cond) : GoodIn (c0 :: sr_G) (wsV RX6 108 RX6 yX6_kind wsX6_kind) := sr_V c0 (sr_insI [(3, 9), (3, 10), (3, 11), (1, 4), (3, 12)] (by decide +kernel))
theorem g6_111 (c0 : Cond) : GoodIn (c0 :: sr_G) (va_wsS RX6 111 yX3_isNamed wsX3_isNamed) := sr_S c0 (sr_insI [(3, 13), (3, 14), (1, 19), (3, 15)] (by decide +kernel))
theorem gn6_51 : (∀ w ∈ ([.static yX8_entry, .initialized yX8_entry.cls, .code yX8_entry cX8_entry 2 (some .int)] : List Cond), w ∈ sr_G) ∧ (.methodLinkNest RX6 51 yX8_entry "SchemaReader" : Cond) ∈ sr_N := ⟨sr_ins (by decide +kernel), List.mem_filter.mpr ⟨in_tables_1_3 _ (List.mem_of_getElem? (i := 0) rfl), rfl⟩⟩
end
