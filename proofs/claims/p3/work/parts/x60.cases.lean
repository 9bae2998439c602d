-- the law: a call of each kind, both sides
def lw_I (dC : Nat → ClassId) (dI : Nat → Nat → Nat) (s : State) (cI cB cJ cZ cQ : ClassId) (obX obM oq j : Nat) (H : Heap) (locs : List Loc) (cells slots : Nat) : Prop := ∃ (of : Nat → Int64) (th : Int32) (L : Nat) (wX wM : va_W), lw_CB cI cB cJ cZ cQ obX oq of L wX ∧ lw_MB cI cB cJ cZ obM th L wM ∧ lw_w dC dI s H locs (wX ++ wM) ∧ cells ≤ 200 + 20 * j ∧ slots ≤ 300000 + 6000 * j
section LWX60
variable {p : Program} {l : Launch} {e : Env} {s : State} {m : MethodId} {below : List Frame} {meth : Method} {c : Code} {H : Heap} {locs : List Loc} {cells slots : Nat} {ls : Array Slot} {Q : State → Prop} {b L0 : Nat} {xs : Nat → Int32} {dC : Nat → ClassId} {dI : Nat → Nat → Nat} {adK adV : Nat → Nat} {cI cB cJ cZ cQ : ClassId} {c0 : Cond} {obX obM oq L j : Nat} {T wX wM : va_W} {of : Nat → Int64} {th : Int32}
theorem law_k1 (G : lw_cx p l s m c b L0 xs dC dI adK adV cI cB cJ cZ cQ c0) (hj : 6 * j + 6 ≤ L0) (hI : lw_I dC dI s cI cB cJ cZ cQ obX obM oq j H locs cells slots) (hl : lv_has ls 7 [(4, .int (nI (6 * j))), (0, .ref b), (1, .ref obX), (2, .ref obM), (3, .ref oq)])
    (kk : ∀ (ls : Array Slot) (H : Heap) (locs : List Loc) (cells slots : Nat), lv_has ls 7 [(4, .int (nI (6 * j))), (0, .ref b), (1, .ref obX), (2, .ref obM), (3, .ref oq)] → lw_I dC dI s cI cB cJ cZ cQ obX obM oq (j + 1) H locs cells slots → W p l e room_1 s m #[Value.ref b] below meth c H locs cells slots Q (F0 m 396 ls [])) : W p l e room_1 s m #[Value.ref b] below meth c H locs cells slots Q (F0 m 172 ls []) := by
  have G0 := G
  obtain ⟨hx, hb, -, -, -, hK, -, -, -, -, hL0⟩ := G
  obtain ⟨of, th, L, wX, wM, hC, hM, hw, hc, hs⟩ := hI
  refine law_c1x G0 hj hC hw hl (by omega) (by omega) (fun wX L' k H locs hrel hC hw => ?_)
  refine lv_istore (lv' := (5, .int k) :: [(4, .int (nI (6 * j))), (0, .ref b), (1, .ref obX), (2, .ref obM), (3, .ref oq)]) hx hb dL_182 hl (by decide) rfl (fun ls hl6 => ?_)
  have hl : lv_has ls 7 [(4, .int (nI (6 * j))), (0, .ref b), (1, .ref obX), (2, .ref obM), (3, .ref oq)] := lv_sub hl6 [1, 2, 3, 4, 5] rfl
  refine law_c1m G0 hj hrel hM hw.sw hl (by omega) (by omega) (fun wM th H locs e1 hM hw => ?_)
  refine law_ct G0 hj hM hw hl (by omega) (by omega) ?_
  refine lv_iload hx hb dL_198 (lv_at hl6 0 rfl) ?_
  refine lv_icmp_eq (tgt := 205) hx hb dL_200 (by decide) (fun _ => ?_) (fun h => absurd e1 h)
  refine lv_goto (tgt := 396) hx hb dL_205 (by decide) ?_
  exact kk ls H locs _ _ hl ⟨of, th, L', wX, wM, hC, hM, hw.sw, by omega, by omega⟩
theorem law_k2 (G : lw_cx p l s m c b L0 xs dC dI adK adV cI cB cJ cZ cQ c0) (hj : 6 * j + 6 ≤ L0) (hI : lw_I dC dI s cI cB cJ cZ cQ obX obM oq j H locs cells slots) (hl : lv_has ls 7 [(4, .int (nI (6 * j))), (0, .ref b), (1, .ref obX), (2, .ref obM), (3, .ref oq)])
    (kk : ∀ (ls : Array Slot) (H : Heap) (locs : List Loc) (cells slots : Nat), lv_has ls 7 [(4, .int (nI (6 * j))), (0, .ref b), (1, .ref obX), (2, .ref obM), (3, .ref oq)] → lw_I dC dI s cI cB cJ cZ cQ obX obM oq (j + 1) H locs cells slots → W p l e room_1 s m #[Value.ref b] below meth c H locs cells slots Q (F0 m 396 ls [])) : W p l e room_1 s m #[Value.ref b] below meth c H locs cells slots Q (F0 m 208 ls []) := by
  have G0 := G
  obtain ⟨hx, hb, -, -, -, hK, -, -, -, -, hL0⟩ := G
  obtain ⟨of, th, L, wX, wM, hC, hM, hw, hc, hs⟩ := hI
  refine law_c2x G0 hj hC hw hl (by omega) (by omega) (fun wX r H locs hC hw => ?_)
  refine lv_pop hx hb dL_212 rfl ?_
  refine law_c2m G0 hj hM hw.sw hl (by omega) (by omega) (fun wM th r H locs hM hw => ?_)
  refine lv_pop hx hb dL_217 rfl ?_
  refine lv_goto (tgt := 396) hx hb dL_218 (by decide) ?_
  exact kk ls H locs _ _ hl ⟨of, th, L, wX, wM, hC, hM, hw.sw, by omega, by omega⟩
theorem law_k3 (G : lw_cx p l s m c b L0 xs dC dI adK adV cI cB cJ cZ cQ c0) (hj : 6 * j + 6 ≤ L0) (hI : lw_I dC dI s cI cB cJ cZ cQ obX obM oq j H locs cells slots) (hl : lv_has ls 7 [(4, .int (nI (6 * j))), (0, .ref b), (1, .ref obX), (2, .ref obM), (3, .ref oq)])
    (kk : ∀ (ls : Array Slot) (H : Heap) (locs : List Loc) (cells slots : Nat), lv_has ls 7 [(4, .int (nI (6 * j))), (0, .ref b), (1, .ref obX), (2, .ref obM), (3, .ref oq)] → lw_I dC dI s cI cB cJ cZ cQ obX obM oq (j + 1) H locs cells slots → W p l e room_1 s m #[Value.ref b] below meth c H locs cells slots Q (F0 m 396 ls [])) : W p l e room_1 s m #[Value.ref b] below meth c H locs cells slots Q (F0 m 221 ls []) := by
  have G0 := G
  obtain ⟨hx, hb, -, -, -, hK, -, -, -, -, hL0⟩ := G
  obtain ⟨of, th, L, wX, wM, hC, hM, hw, hc, hs⟩ := hI
  refine law_c3y G0 hj hC hw hl (by omega) (by omega) (fun r => ?_)
  refine lv_pop hx hb dL_225 rfl ?_
  refine law_c3n G0 hj hM hw.sw hl (by omega) (by omega) (fun wM th r H locs hM hw => ?_)
  refine lv_pop hx hb dL_230 rfl ?_
  refine lv_goto (tgt := 396) hx hb dL_231 (by decide) ?_
  exact kk ls H locs _ _ hl ⟨of, th, L, wX, wM, hC, hM, hw.sw, by omega, by omega⟩
theorem law_k4 (G : lw_cx p l s m c b L0 xs dC dI adK adV cI cB cJ cZ cQ c0) (hj : 6 * j + 6 ≤ L0) (hI : lw_I dC dI s cI cB cJ cZ cQ obX obM oq j H locs cells slots) (hl : lv_has ls 7 [(4, .int (nI (6 * j))), (0, .ref b), (1, .ref obX), (2, .ref obM), (3, .ref oq)])
    (kk : ∀ (ls : Array Slot) (H : Heap) (locs : List Loc) (cells slots : Nat), lv_has ls 7 [(4, .int (nI (6 * j))), (0, .ref b), (1, .ref obX), (2, .ref obM), (3, .ref oq)] → lw_I dC dI s cI cB cJ cZ cQ obX obM oq (j + 1) H locs cells slots → W p l e room_1 s m #[Value.ref b] below meth c H locs cells slots Q (F0 m 396 ls [])) : W p l e room_1 s m #[Value.ref b] below meth c H locs cells slots Q (F0 m 234 ls []) := by
  have G0 := G
  obtain ⟨hx, hb, -, -, -, hK, -, -, -, -, hL0⟩ := G
  obtain ⟨of, th, L, wX, wM, hC, hM, hw, hc, hs⟩ := hI
  refine law_c4x G0 hj hC hw hl (by omega) (by omega) (fun r => ?_)
  refine lv_pop hx hb dL_238 rfl ?_
  refine law_c4m G0 hj hM hw.sw hl (by omega) (by omega) (fun wM th r H locs hM hw => ?_)
  refine lv_pop hx hb dL_243 rfl ?_
  refine lv_goto (tgt := 396) hx hb dL_244 (by decide) ?_
  exact kk ls H locs _ _ hl ⟨of, th, L, wX, wM, hC, hM, hw.sw, by omega, by omega⟩
theorem law_k5 (G : lw_cx p l s m c b L0 xs dC dI adK adV cI cB cJ cZ cQ c0) (hj : 6 * j + 6 ≤ L0) (hI : lw_I dC dI s cI cB cJ cZ cQ obX obM oq j H locs cells slots) (hl : lv_has ls 7 [(4, .int (nI (6 * j))), (0, .ref b), (1, .ref obX), (2, .ref obM), (3, .ref oq)])
    (kk : ∀ (ls : Array Slot) (H : Heap) (locs : List Loc) (cells slots : Nat), lv_has ls 7 [(4, .int (nI (6 * j))), (0, .ref b), (1, .ref obX), (2, .ref obM), (3, .ref oq)] → lw_I dC dI s cI cB cJ cZ cQ obX obM oq (j + 1) H locs cells slots → W p l e room_1 s m #[Value.ref b] below meth c H locs cells slots Q (F0 m 396 ls [])) : W p l e room_1 s m #[Value.ref b] below meth c H locs cells slots Q (F0 m 247 ls []) := by
  have G0 := G
  obtain ⟨hx, hb, -, -, -, hK, -, -, -, -, hL0⟩ := G
  obtain ⟨of, th, L, wX, wM, hC, hM, hw, hc, hs⟩ := hI
  refine law_c5x G0 hj hC hw hl (by omega) (by omega) (fun wX of' k H locs hC hw => ?_)
  refine lv_istore (lv' := (5, .int k) :: [(4, .int (nI (6 * j))), (0, .ref b), (1, .ref obX), (2, .ref obM), (3, .ref oq)]) hx hb dL_258 hl (by decide) rfl (fun ls hl => ?_)
  have hl : lv_has ls 7 [(4, .int (nI (6 * j))), (0, .ref b), (1, .ref obX), (2, .ref obM), (3, .ref oq)] := lv_sub hl [1, 2, 3, 4, 5] rfl
  refine law_c5m G0 hj hM hw.sw hl (by omega) (by omega) (fun wM th r H locs hM hw => ?_)
  refine lv_istore (lv' := (6, .int r) :: [(4, .int (nI (6 * j))), (0, .ref b), (1, .ref obX), (2, .ref obM), (3, .ref oq)]) hx hb dL_270 hl (by decide) rfl (fun ls hl => ?_)
  have hl : lv_has ls 7 [(4, .int (nI (6 * j))), (0, .ref b), (1, .ref obX), (2, .ref obM), (3, .ref oq)] := lv_sub hl [1, 2, 3, 4, 5] rfl
  refine lv_goto (tgt := 396) hx hb dL_272 (by decide) ?_
  exact kk ls H locs _ _ hl ⟨of', th, L, wX, wM, hC, hM, hw.sw, by omega, by omega⟩
theorem law_k6 (G : lw_cx p l s m c b L0 xs dC dI adK adV cI cB cJ cZ cQ c0) (hj : 6 * j + 6 ≤ L0) (hI : lw_I dC dI s cI cB cJ cZ cQ obX obM oq j H locs cells slots) (hl : lv_has ls 7 [(4, .int (nI (6 * j))), (0, .ref b), (1, .ref obX), (2, .ref obM), (3, .ref oq)])
    (kk : ∀ (ls : Array Slot) (H : Heap) (locs : List Loc) (cells slots : Nat), lv_has ls 7 [(4, .int (nI (6 * j))), (0, .ref b), (1, .ref obX), (2, .ref obM), (3, .ref oq)] → lw_I dC dI s cI cB cJ cZ cQ obX obM oq (j + 1) H locs cells slots → W p l e room_1 s m #[Value.ref b] below meth c H locs cells slots Q (F0 m 396 ls [])) : W p l e room_1 s m #[Value.ref b] below meth c H locs cells slots Q (F0 m 275 ls []) := by
  have G0 := G
  obtain ⟨hx, hb, -, -, -, hK, -, -, -, -, hL0⟩ := G
  obtain ⟨of, th, L, wX, wM, hC, hM, hw, hc, hs⟩ := hI
  refine law_c6x G0 hj hC hw hl (by omega) (by omega) (fun r => ?_)
  refine lv_pop2_2 hx hb dL_279 rfl ?_
  refine law_c6m G0 hj hM hw.sw hl (by omega) (by omega) (fun wM th r H locs hM hw => ?_)
  refine lv_pop2_2 hx hb dL_284 rfl ?_
  refine lv_goto (tgt := 396) hx hb dL_285 (by decide) ?_
  exact kk ls H locs _ _ hl ⟨of, th, L, wX, wM, hC, hM, hw.sw, by omega, by omega⟩
set_option maxRecDepth 100000 in
theorem law_k7 (G : lw_cx p l s m c b L0 xs dC dI adK adV cI cB cJ cZ cQ c0) (hj : 6 * j + 6 ≤ L0) (hI : lw_I dC dI s cI cB cJ cZ cQ obX obM oq j H locs cells slots) (hl : lv_has ls 7 [(4, .int (nI (6 * j))), (0, .ref b), (1, .ref obX), (2, .ref obM), (3, .ref oq)])
    (kk : ∀ (ls : Array Slot) (H : Heap) (locs : List Loc) (cells slots : Nat), lv_has ls 7 [(4, .int (nI (6 * j))), (0, .ref b), (1, .ref obX), (2, .ref obM), (3, .ref oq)] → lw_I dC dI s cI cB cJ cZ cQ obX obM oq (j + 1) H locs cells slots → W p l e room_1 s m #[Value.ref b] below meth c H locs cells slots Q (F0 m 396 ls [])) : W p l e room_1 s m #[Value.ref b] below meth c H locs cells slots Q (F0 m 288 ls []) := by
  have G0 := G
  obtain ⟨hx, hb, -, -, -, hK, -, -, -, -, hL0⟩ := G
  obtain ⟨of, th, L, wX, wM, hC, hM, hw, hc, hs⟩ := hI
  refine law_c7x G0 hj hC hw hl (by omega) (by omega) (fun wX of' k H locs cells' slots' hc1 hs1 hC hw => ?_)
  have hc2 : cells' ≤ 200 + 20 * (j + 1) := by omega
  have hs2 : slots' ≤ 300000 + 6000 * (j + 1) := Nat.le_trans hs1 (Nat.le_trans (Nat.add_le_add_right hs 5260) (by omega))
  refine lv_istore (lv' := (5, .int k) :: [(4, .int (nI (6 * j))), (0, .ref b), (1, .ref obX), (2, .ref obM), (3, .ref oq)]) hx hb dL_299 hl (by decide) rfl (fun ls hl => ?_)
  have hl : lv_has ls 7 [(4, .int (nI (6 * j))), (0, .ref b), (1, .ref obX), (2, .ref obM), (3, .ref oq)] := lv_sub hl [1, 2, 3, 4, 5] rfl
  refine law_c7m G0 hj hM hw.sw hl (by omega) (by omega) (fun wM th r H locs hM hw => ?_)
  refine lv_istore (lv' := (6, .int r) :: [(4, .int (nI (6 * j))), (0, .ref b), (1, .ref obX), (2, .ref obM), (3, .ref oq)]) hx hb dL_311 hl (by decide) rfl (fun ls hl => ?_)
  have hl : lv_has ls 7 [(4, .int (nI (6 * j))), (0, .ref b), (1, .ref obX), (2, .ref obM), (3, .ref oq)] := lv_sub hl [1, 2, 3, 4, 5] rfl
  refine lv_goto (tgt := 396) hx hb dL_313 (by decide) ?_
  exact kk ls H locs _ _ hl ⟨of', th, L, wX, wM, hC, hM, hw.sw, hc2, hs2⟩
theorem law_k8 (G : lw_cx p l s m c b L0 xs dC dI adK adV cI cB cJ cZ cQ c0) (hj : 6 * j + 6 ≤ L0) (hI : lw_I dC dI s cI cB cJ cZ cQ obX obM oq j H locs cells slots) (hl : lv_has ls 7 [(4, .int (nI (6 * j))), (0, .ref b), (1, .ref obX), (2, .ref obM), (3, .ref oq)])
    (kk : ∀ (ls : Array Slot) (H : Heap) (locs : List Loc) (cells slots : Nat), lv_has ls 7 [(4, .int (nI (6 * j))), (0, .ref b), (1, .ref obX), (2, .ref obM), (3, .ref oq)] → lw_I dC dI s cI cB cJ cZ cQ obX obM oq (j + 1) H locs cells slots → W p l e room_1 s m #[Value.ref b] below meth c H locs cells slots Q (F0 m 396 ls [])) : W p l e room_1 s m #[Value.ref b] below meth c H locs cells slots Q (F0 m 316 ls []) := by
  have G0 := G
  obtain ⟨hx, hb, -, -, -, hK, -, -, -, -, hL0⟩ := G
  obtain ⟨of, th, L, wX, wM, hC, hM, hw, hc, hs⟩ := hI
  refine law_c8x G0 hj hC hw hl (by omega) (by omega) (fun wX of' k H locs cells' slots' hc1 hs1 hC hw => ?_)
  refine lv_istore (lv' := (5, .int k) :: [(4, .int (nI (6 * j))), (0, .ref b), (1, .ref obX), (2, .ref obM), (3, .ref oq)]) hx hb dL_333 hl (by decide) rfl (fun ls hl => ?_)
  have hl : lv_has ls 7 [(4, .int (nI (6 * j))), (0, .ref b), (1, .ref obX), (2, .ref obM), (3, .ref oq)] := lv_sub hl [1, 2, 3, 4, 5] rfl
  refine law_c8m G0 hj hM hw.sw hl (by omega) (by omega) (fun wM th r H locs hM hw => ?_)
  refine lv_istore (lv' := (6, .int r) :: [(4, .int (nI (6 * j))), (0, .ref b), (1, .ref obX), (2, .ref obM), (3, .ref oq)]) hx hb dL_351 hl (by decide) rfl (fun ls hl => ?_)
  have hl : lv_has ls 7 [(4, .int (nI (6 * j))), (0, .ref b), (1, .ref obX), (2, .ref obM), (3, .ref oq)] := lv_sub hl [1, 2, 3, 4, 5] rfl
  refine lv_goto (tgt := 396) hx hb dL_353 (by decide) ?_
  exact kk ls H locs _ _ hl ⟨of', th, L, wX, wM, hC, hM, hw.sw, by omega, by omega⟩
theorem law_k9 (G : lw_cx p l s m c b L0 xs dC dI adK adV cI cB cJ cZ cQ c0) (hj : 6 * j + 6 ≤ L0) (hI : lw_I dC dI s cI cB cJ cZ cQ obX obM oq j H locs cells slots) (hl : lv_has ls 7 [(4, .int (nI (6 * j))), (0, .ref b), (1, .ref obX), (2, .ref obM), (3, .ref oq)])
    (kk : ∀ (ls : Array Slot) (H : Heap) (locs : List Loc) (cells slots : Nat), lv_has ls 7 [(4, .int (nI (6 * j))), (0, .ref b), (1, .ref obX), (2, .ref obM), (3, .ref oq)] → lw_I dC dI s cI cB cJ cZ cQ obX obM oq (j + 1) H locs cells slots → W p l e room_1 s m #[Value.ref b] below meth c H locs cells slots Q (F0 m 396 ls [])) : W p l e room_1 s m #[Value.ref b] below meth c H locs cells slots Q (F0 m 356 ls []) := by
  have G0 := G
  obtain ⟨hx, hb, -, -, -, hK, -, -, -, -, hL0⟩ := G
  obtain ⟨of, th, L, wX, wM, hC, hM, hw, hc, hs⟩ := hI
  refine law_c9x G0 hj hC hw hl (by omega) (by omega) (fun wX of' k H locs cells' slots' hc1 hs1 hC hw => ?_)
  refine lv_istore (lv' := (5, .int k) :: [(4, .int (nI (6 * j))), (0, .ref b), (1, .ref obX), (2, .ref obM), (3, .ref oq)]) hx hb dL_373 hl (by decide) rfl (fun ls hl => ?_)
  have hl : lv_has ls 7 [(4, .int (nI (6 * j))), (0, .ref b), (1, .ref obX), (2, .ref obM), (3, .ref oq)] := lv_sub hl [1, 2, 3, 4, 5] rfl
  refine law_c9m G0 hj hM hw.sw hl (by omega) (by omega) (fun wM th r H locs hM hw => ?_)
  refine lv_istore (lv' := (6, .int r) :: [(4, .int (nI (6 * j))), (0, .ref b), (1, .ref obX), (2, .ref obM), (3, .ref oq)]) hx hb dL_391 hl (by decide) rfl (fun ls hl => ?_)
  have hl : lv_has ls 7 [(4, .int (nI (6 * j))), (0, .ref b), (1, .ref obX), (2, .ref obM), (3, .ref oq)] := lv_sub hl [1, 2, 3, 4, 5] rfl
  refine lv_goto (tgt := 396) hx hb dL_393 (by decide) ?_
  exact kk ls H locs _ _ hl ⟨of', th, L, wX, wM, hC, hM, hw.sw, by omega, by omega⟩
end LWX60
