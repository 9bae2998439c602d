-- the law's call of place (the class's side), as a pattern for the rest
abbrev lw_ty (cI cB cJ cZ cQ : ClassId) : List (ClassId × FieldType) := [(cI, .int), (cB, .byte), (cJ, .long), (cZ, .boolean), (cQ, .object "SchemaReader$Schema")]
abbrev lw_x (obX obT obD obC kq pq obS : Nat) (xh xf xk : Int32) : Nat × va_E := (obX, .inr (2, [.ref obT, .ref obD, .ref obC, .ref kq, .ref pq, .ref obS, .int xh, .int xf, .int xk]))
section LAWC
variable {p : Program} {l : Launch} {e : Env} {s : State} {m : MethodId} {below : List Frame} {meth : Method} {c : Code} {H : Heap} {locs : List Loc} {cells slots : Nat} {ls : Array Slot} {Q : State → Prop} {b : Nat}
theorem law_c3x (htr : l.stackTraces = false) (dC : Nat → ClassId) (dI : Nat → Nat → Nat) (adK adV : Nat → Nat) (cI cB cJ cZ cQ : ClassId) (obX obT obD obC kq pq obS obM oq : Nat) (xh xf xk i : Int32) {T : va_W} {A : Nat → Prop} (hx : p.tables.exec = Jvm.exec) (hb : c.code = code) (hml : c.maxLocals = 7) (hown : s.vm.findClass RX12 = some m.cls) (c0 : Cond) (hts : ∀ w ∈ c0 :: sr_G, w.before #[Value.ref b] s = true)
    (hK : va_K (dC, dI) srCl (lw_ty cI cB cJ cZ cQ) s) (hz0 : sr_Z adK adV A s s.heap) (hS : va_S A s.heap H locs) (hP : va_P (dC, dI) srCl (lw_x obX obT obD obC kq pq obS xh xf xk :: T) H) (hl : lv_has ls 7 [(4, .int i), (0, .ref b), (1, .ref obX), (2, .ref obM), (3, .ref oq)]) (hc : cells ≤ 601024) (hs : slots ≤ 7293034)
    (kk : W p l e room_1 s m #[Value.ref b] below meth c H locs cells slots Q (F0 m 242 ls [.int xf])) : W p l e room_1 s m #[Value.ref b] below meth c H locs cells slots Q (F0 m 238 ls []) := by
  refine lv_aload_n hx hb dL_238 rfl (lv_at hl 2 rfl) ?_
  refine mr_pV (As := []) (rest := []) (sr_okZ adK adV) ⟨hx, hb, hml, hown, hts⟩ (kX8_place l htr dC dI adK adV cI cB cJ cZ cQ obX obT obD obC kq pq obS xh xf xk xf rfl) (cwV 0 hts (gL_59 _) rfl rfl rfl (by decide +kernel) ⟨(Nat.le_of_ble_eq_true rfl), (Nat.le_of_ble_eq_true rfl)⟩) hS hP hK hz0 [0] rfl (va_recv hK hP (ci := 2) (q0 := 0) rfl rfl) rfl rfl hl.1 (Nat.le_of_ble_eq_true rfl) dL_239 ⟨hc, hs⟩ ?_
  exact kk
end LAWC
