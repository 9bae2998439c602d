-- the law's call of place (the reference's side), as a pattern for the rest
abbrev lw_m (obM mt obY obA obB mk mz ma mp : Nat) (th tp ha pl mn : Int32) : Nat × va_E := (obM, .inr (1, [.int th, .ref mt, .int tp, .ref obY, .ref obA, .ref obB, .int ha, .int pl, .ref mk, .ref mz, .ref ma, .ref mp, .int mn]))
section LAWD
variable {p : Program} {l : Launch} {e : Env} {s : State} {m : MethodId} {below : List Frame} {meth : Method} {c : Code} {H : Heap} {locs : List Loc} {cells slots : Nat} {ls : Array Slot} {Q : State → Prop} {b : Nat}
theorem law_c3m (htr : l.stackTraces = false) (dC : Nat → ClassId) (dI : Nat → Nat → Nat) (adK adV : Nat → Nat) (cI cB cJ cZ cQ : ClassId) (obX obM mt obY obA obB mk mz ma mp oq : Nat) (th tp ha pl mn i xf : Int32) {T : va_W} {A : Nat → Prop} (hx : p.tables.exec = Jvm.exec) (hb : c.code = code) (hml : c.maxLocals = 7) (hown : s.vm.findClass RX12 = some m.cls) (c0 : Cond) (hts : ∀ w ∈ c0 :: sr_G, w.before #[Value.ref b] s = true)
    (hK : va_K (dC, dI) srCl (lw_ty cI cB cJ cZ cQ) s) (hz0 : sr_Z adK adV A s s.heap) (hS : va_S A s.heap H locs) (hA : ∀ q, s.heap.size ≤ q → A q) (hP : va_P (dC, dI) srCl ([lw_m obM mt obY obA obB mk mz ma mp th tp ha pl mn] ++ T) H) (hD : va_D A ([lw_m obM mt obY obA obB mk mz ma mp th tp ha pl mn] ++ T)) (hl : lv_has ls 7 [(4, .int i), (0, .ref b), (1, .ref obX), (2, .ref obM), (3, .ref oq)]) (hc : cells ≤ 601024) (hs : slots ≤ 7293034)
    (kk : ∀ (th : Int32) (H : Heap) (locs : List Loc), va_P (dC, dI) srCl ([lw_m obM mt obY obA obB mk mz ma mp th tp ha pl mn] ++ T) H → va_D A ([lw_m obM mt obY obA obB mk mz ma mp th tp ha pl mn] ++ T) → va_S A s.heap H locs → W p l e room_1 s m #[Value.ref b] below meth c H locs cells slots Q (F0 m 413 ls [])) : W p l e room_1 s m #[Value.ref b] below meth c H locs cells slots Q (F0 m 242 ls [.int xf]) := by
  refine lv_pop hx hb dL_242 rfl ?_
  refine lv_aload_n hx hb dL_243 rfl (lv_at hl 3 rfl) ?_
  refine mr_cI (wc := [lw_m obM mt obY obA obB mk mz ma mp th tp ha pl mn]) (wf := fun u : Int32 => [lw_m obM mt obY obA obB mk mz ma mp u tp ha pl mn]) (mc := 0) (ms := 0) (va_runV (g := F0 m 244 ls [.ref obM]) (b := obM) (As := []) (rest := []) ⟨hx, hb, hml, hown, hts⟩ (kX10_place l htr dC dI adK adV cI cB cJ cZ cQ obM mt obY obA obB mk mz ma mp th tp ha pl mn _ (pl, 0) rfl) (cwV 0 hts (gL_62 _) rfl rfl rfl (by decide +kernel) ⟨(Nat.le_of_ble_eq_true rfl), (Nat.le_of_ble_eq_true rfl)⟩) ⟨pcW_blind (sr_okZ adK adV), va_recv hK hP (ci := 1) (q0 := 0) rfl rfl, pcW_c (sr_okZ adK adV) hS hA hP hD hK hz0⟩ rfl rfl hl.1 rfl (lv_room (Nat.le_of_ble_eq_true rfl)) dL_244 ⟨hc, hs⟩) hS hA hP hD (fun r u H locs _ hP hD hS => ?_)
  refine lv_pop hx hb dL_247 rfl ?_
  refine lv_goto (tgt := 413) hx hb dL_248 (by decide) ?_
  exact kk u H locs hP hD hS
end LAWD
