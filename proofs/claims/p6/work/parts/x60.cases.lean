-- the law: a call of each kind, both sides
def lw_I (dC : Nat → ClassId) (dI : Nat → Nat → Nat) (s : State) (cI cB cJ cZ cQ : ClassId) (obX obM oq j : Nat) (H : Heap) (locs : List Loc) (cells slots : Nat) : Prop := ∃ (of : Nat → Int64) (th : Int32) (L : Nat) (wX wM : va_W) (t_tape m_tape m_sizes : Nat → Int32) (xh xf xk m_has m_place : Int32) (kf : Nat → Option Nat) (o : Option LSt), lw_CB cI cB cJ cZ cQ obX oq of L t_tape xh xf xk kf o wX ∧ lw_MB cI cB cJ cZ obM th L m_tape m_has m_place m_sizes o wM ∧ lw_w dC dI s H locs (wX ++ wM) ∧ cells ≤ 200 + 20 * j ∧ slots ≤ 300000 + 6000 * j ∧ lw_R L t_tape xf m_tape m_place ∧ lw_H xh xk kf m_has m_sizes ∧ (xh = 0 ↔ o = none)
section LWX60
variable {p : Program} {l : Launch} {e : Env} {s : State} {m : MethodId} {below : List Frame} {meth : Method} {c : Code} {H : Heap} {locs : List Loc} {cells slots : Nat} {ls : Array Slot} {Q : State → Prop} {b L0 : Nat} {xs : Nat → Int32} {dC : Nat → ClassId} {dI : Nat → Nat → Nat} {adK adV : Nat → Nat} {cI cB cJ cZ cQ : ClassId} {c0 : Cond} {obX obM oq L j : Nat} {T wX wM : va_W} {of : Nat → Int64} {th : Int32} {t_tape m_tape m_sizes : Nat → Int32} {xh xf xk m_has m_place : Int32} {kf : Nat → Option Nat} {o : Option LSt}
theorem law_k1 (G : lw_cx p l s m c b L0 xs dC dI adK adV cI cB cJ cZ cQ c0) (hj : 6 * j + 6 ≤ L0) (hI : lw_I dC dI s cI cB cJ cZ cQ obX obM oq j H locs cells slots) (hl : lv_has ls 7 [(4, .int (nI (6 * j))), (0, .ref b), (1, .ref obX), (2, .ref obM), (3, .ref oq)])
    (kk : ∀ (ls : Array Slot) (H : Heap) (locs : List Loc) (cells slots : Nat), lv_has ls 7 [(4, .int (nI (6 * j))), (0, .ref b), (1, .ref obX), (2, .ref obM), (3, .ref oq)] → lw_I dC dI s cI cB cJ cZ cQ obX obM oq (j + 1) H locs cells slots → W p l e room_1 s m #[Value.ref b] below meth c H locs cells slots Q (F0 m 385 ls [])) : W p l e room_1 s m #[Value.ref b] below meth c H locs cells slots Q (F0 m 172 ls []) := by
  have G0 := G
  obtain ⟨hx, hb, -, -, -, hK, -, -, -, -, hL0⟩ := G
  obtain ⟨of, th, L, wX, wM, t_tape, m_tape, m_sizes, xh, xf, xk, m_has, m_place, kf, o, hC, hM, hw, hc, hs, hR, hHH, hO⟩ := hI
  refine law_c1x G0 hj hC hw hl (by omega) (by omega) (fun wX L' k H locs hrel hC hw => ?_)
  refine lv_istore (lv' := (5, .int k) :: [(4, .int (nI (6 * j))), (0, .ref b), (1, .ref obX), (2, .ref obM), (3, .ref oq)]) hx hb dL_182 hl (by decide) rfl (fun ls hl => ?_)
  have hl : lv_has ls 7 [(4, .int (nI (6 * j))), (0, .ref b), (1, .ref obX), (2, .ref obM), (3, .ref oq)] := lv_sub hl [1, 2, 3, 4, 5] rfl
  refine law_c1m G0 hj hrel hM hw.sw hl (by omega) (by omega) (fun wM th H locs _ hM hw => ?_)
  have hR := hR.mono (le_of1 hrel)
  refine lv_goto (tgt := 385) hx hb dL_194 (by decide) ?_
  exact kk ls H locs _ _ hl ⟨of, th, L', wX, wM, _, _, _, _, _, _, _, _, _, _, hC, hM, hw.sw, by omega, by omega, hR, hHH, hO⟩
theorem law_k2 (G : lw_cx p l s m c b L0 xs dC dI adK adV cI cB cJ cZ cQ c0) (hj : 6 * j + 6 ≤ L0) (hI : lw_I dC dI s cI cB cJ cZ cQ obX obM oq j H locs cells slots) (hl : lv_has ls 7 [(4, .int (nI (6 * j))), (0, .ref b), (1, .ref obX), (2, .ref obM), (3, .ref oq)])
    (kk : ∀ (ls : Array Slot) (H : Heap) (locs : List Loc) (cells slots : Nat), lv_has ls 7 [(4, .int (nI (6 * j))), (0, .ref b), (1, .ref obX), (2, .ref obM), (3, .ref oq)] → lw_I dC dI s cI cB cJ cZ cQ obX obM oq (j + 1) H locs cells slots → W p l e room_1 s m #[Value.ref b] below meth c H locs cells slots Q (F0 m 385 ls [])) : W p l e room_1 s m #[Value.ref b] below meth c H locs cells slots Q (F0 m 197 ls []) := by
  have G0 := G
  obtain ⟨hx, hb, -, -, -, hK, -, -, -, -, hL0⟩ := G
  obtain ⟨of, th, L, wX, wM, t_tape, m_tape, m_sizes, xh, xf, xk, m_has, m_place, kf, o, hC, hM, hw, hc, hs, hR, hHH, hO⟩ := hI
  refine law_c2x G0 hj hR.1 hC hw hl (by omega) (by omega) (fun wX r H locs _ hC hw => ?_)
  refine lv_pop hx hb dL_201 rfl ?_
  refine law_c2m (q9 := 0) G0 hj hR.2.1 hR.cbe hM hw.sw hl (by omega) (by omega) (fun wM th r H locs _ hM hw => ?_)
  refine lv_pop hx hb dL_206 rfl ?_
  have hR := hR.sch (z := (dS t_tape L).2.2)
  have hHH := hHH.sch (z := (dS t_tape L).2.1)
  have hO := stO_has t_tape L
  refine lv_goto (tgt := 385) hx hb dL_207 (by decide) ?_
  exact kk ls H locs _ _ hl ⟨of, th, L, wX, wM, _, _, _, _, _, _, _, _, _, _, hC, hM, hw.sw, by omega, by omega, hR, hHH, hO⟩
theorem law_k3 (G : lw_cx p l s m c b L0 xs dC dI adK adV cI cB cJ cZ cQ c0) (hj : 6 * j + 6 ≤ L0) (hI : lw_I dC dI s cI cB cJ cZ cQ obX obM oq j H locs cells slots) (hl : lv_has ls 7 [(4, .int (nI (6 * j))), (0, .ref b), (1, .ref obX), (2, .ref obM), (3, .ref oq)])
    (kk : ∀ (ls : Array Slot) (H : Heap) (locs : List Loc) (cells slots : Nat), lv_has ls 7 [(4, .int (nI (6 * j))), (0, .ref b), (1, .ref obX), (2, .ref obM), (3, .ref oq)] → lw_I dC dI s cI cB cJ cZ cQ obX obM oq (j + 1) H locs cells slots → W p l e room_1 s m #[Value.ref b] below meth c H locs cells slots Q (F0 m 385 ls [])) : W p l e room_1 s m #[Value.ref b] below meth c H locs cells slots Q (F0 m 210 ls []) := by
  have G0 := G
  obtain ⟨hx, hb, -, -, -, hK, -, -, -, -, hL0⟩ := G
  obtain ⟨of, th, L, wX, wM, t_tape, m_tape, m_sizes, xh, xf, xk, m_has, m_place, kf, o, hC, hM, hw, hc, hs, hR, hHH, hO⟩ := hI
  refine law_c3y G0 hj hC hw hl (by omega) (by omega) ?_
  refine lv_pop hx hb dL_214 rfl ?_
  refine law_c3n (q9 := 0) G0 hj hM hw.sw hl (by omega) (by omega) (fun wM th H locs hM hw => ?_)
  refine lv_pop hx hb dL_219 rfl ?_
  refine lv_goto (tgt := 385) hx hb dL_220 (by decide) ?_
  exact kk ls H locs _ _ hl ⟨of, th, L, wX, wM, _, _, _, _, _, _, _, _, _, _, hC, hM, hw.sw, by omega, by omega, hR, hHH, hO⟩
theorem law_k4 (G : lw_cx p l s m c b L0 xs dC dI adK adV cI cB cJ cZ cQ c0) (hj : 6 * j + 6 ≤ L0) (hI : lw_I dC dI s cI cB cJ cZ cQ obX obM oq j H locs cells slots) (hl : lv_has ls 7 [(4, .int (nI (6 * j))), (0, .ref b), (1, .ref obX), (2, .ref obM), (3, .ref oq)])
    (kk : ∀ (ls : Array Slot) (H : Heap) (locs : List Loc) (cells slots : Nat), lv_has ls 7 [(4, .int (nI (6 * j))), (0, .ref b), (1, .ref obX), (2, .ref obM), (3, .ref oq)] → lw_I dC dI s cI cB cJ cZ cQ obX obM oq (j + 1) H locs cells slots → W p l e room_1 s m #[Value.ref b] below meth c H locs cells slots Q (F0 m 385 ls [])) : W p l e room_1 s m #[Value.ref b] below meth c H locs cells slots Q (F0 m 223 ls []) := by
  have G0 := G
  obtain ⟨hx, hb, -, -, -, hK, -, -, -, -, hL0⟩ := G
  obtain ⟨of, th, L, wX, wM, t_tape, m_tape, m_sizes, xh, xf, xk, m_has, m_place, kf, o, hC, hM, hw, hc, hs, hR, hHH, hO⟩ := hI
  have hOm : m_has = 0 ↔ o = none := by rw [← hHH.1]; exact hO
  refine law_c4x G0 hj hO hC hw hl (by omega) (by omega) ?_
  refine law_c4m (q9 := szT o) G0 hj hOm hM hw.sw hl (by omega) (by omega) (fun wM th H locs hM hw => ?_)
  refine lv_icmp_eq (tgt := 385) hx hb dL_231 (by decide) (fun _ => ?_) (fun h => absurd rfl h)
  exact kk ls H locs _ _ hl ⟨of, th, L, wX, wM, _, _, _, _, _, _, _, _, _, _, hC, hM, hw.sw, by omega, by omega, hR, hHH, hO⟩
theorem law_k5 (G : lw_cx p l s m c b L0 xs dC dI adK adV cI cB cJ cZ cQ c0) (hj : 6 * j + 6 ≤ L0) (hI : lw_I dC dI s cI cB cJ cZ cQ obX obM oq j H locs cells slots) (hl : lv_has ls 7 [(4, .int (nI (6 * j))), (0, .ref b), (1, .ref obX), (2, .ref obM), (3, .ref oq)])
    (kk : ∀ (ls : Array Slot) (H : Heap) (locs : List Loc) (cells slots : Nat), lv_has ls 7 [(4, .int (nI (6 * j))), (0, .ref b), (1, .ref obX), (2, .ref obM), (3, .ref oq)] → lw_I dC dI s cI cB cJ cZ cQ obX obM oq (j + 1) H locs cells slots → W p l e room_1 s m #[Value.ref b] below meth c H locs cells slots Q (F0 m 385 ls [])) : W p l e room_1 s m #[Value.ref b] below meth c H locs cells slots Q (F0 m 236 ls []) := by
  have G0 := G
  obtain ⟨hx, hb, -, -, -, hK, -, -, -, -, hL0⟩ := G
  obtain ⟨of, th, L, wX, wM, t_tape, m_tape, m_sizes, xh, xf, xk, m_has, m_place, kf, o, hC, hM, hw, hc, hs, hR, hHH, hO⟩ := hI
  have hOm : m_has = 0 ↔ o = none := by rw [← hHH.1]; exact hO
  refine law_c5x G0 hj hO hC hw hl (by omega) (by omega) (fun wX of' k H locs _ hC hw => ?_)
  refine lv_istore (lv' := (5, .int k) :: [(4, .int (nI (6 * j))), (0, .ref b), (1, .ref obX), (2, .ref obM), (3, .ref oq)]) hx hb dL_247 hl (by decide) rfl (fun ls hl => ?_)
  have hl : lv_has ls 7 [(4, .int (nI (6 * j))), (0, .ref b), (1, .ref obX), (2, .ref obM), (3, .ref oq)] := lv_sub hl [1, 2, 3, 4, 5] rfl
  refine law_c5m G0 hj hOm hM hw.sw hl (by omega) (by omega) (fun wM th r H locs _ hM hw => ?_)
  refine lv_istore (lv' := (6, .int r) :: [(4, .int (nI (6 * j))), (0, .ref b), (1, .ref obX), (2, .ref obM), (3, .ref oq)]) hx hb dL_259 hl (by decide) rfl (fun ls hl => ?_)
  have hl : lv_has ls 7 [(4, .int (nI (6 * j))), (0, .ref b), (1, .ref obX), (2, .ref obM), (3, .ref oq)] := lv_sub hl [1, 2, 3, 4, 5] rfl
  refine lv_goto (tgt := 385) hx hb dL_261 (by decide) ?_
  exact kk ls H locs _ _ hl ⟨of', th, L, wX, wM, _, _, _, _, _, _, _, _, _, _, hC, hM, hw.sw, by omega, by omega, hR, hHH, hO⟩
theorem law_k6 (G : lw_cx p l s m c b L0 xs dC dI adK adV cI cB cJ cZ cQ c0) (hj : 6 * j + 6 ≤ L0) (hI : lw_I dC dI s cI cB cJ cZ cQ obX obM oq j H locs cells slots) (hl : lv_has ls 7 [(4, .int (nI (6 * j))), (0, .ref b), (1, .ref obX), (2, .ref obM), (3, .ref oq)])
    (kk : ∀ (ls : Array Slot) (H : Heap) (locs : List Loc) (cells slots : Nat), lv_has ls 7 [(4, .int (nI (6 * j))), (0, .ref b), (1, .ref obX), (2, .ref obM), (3, .ref oq)] → lw_I dC dI s cI cB cJ cZ cQ obX obM oq (j + 1) H locs cells slots → W p l e room_1 s m #[Value.ref b] below meth c H locs cells slots Q (F0 m 385 ls [])) : W p l e room_1 s m #[Value.ref b] below meth c H locs cells slots Q (F0 m 264 ls []) := by
  have G0 := G
  obtain ⟨hx, hb, -, -, -, hK, -, -, -, -, hL0⟩ := G
  obtain ⟨of, th, L, wX, wM, t_tape, m_tape, m_sizes, xh, xf, xk, m_has, m_place, kf, o, hC, hM, hw, hc, hs, hR, hHH, hO⟩ := hI
  have hOm : m_has = 0 ↔ o = none := by rw [← hHH.1]; exact hO
  refine law_c6x G0 hj hO hC hw hl (by omega) (by omega) ?_
  refine lv_pop2_2 hx hb dL_268 rfl ?_
  refine law_c6m (q9 := 0) G0 hj hOm hM hw.sw hl (by omega) (by omega) (fun wM th H locs hM hw => ?_)
  refine lv_pop2_2 hx hb dL_273 rfl ?_
  refine lv_goto (tgt := 385) hx hb dL_274 (by decide) ?_
  exact kk ls H locs _ _ hl ⟨of, th, L, wX, wM, _, _, _, _, _, _, _, _, _, _, hC, hM, hw.sw, by omega, by omega, hR, hHH, hO⟩
set_option maxRecDepth 100000 in
theorem law_k7 (G : lw_cx p l s m c b L0 xs dC dI adK adV cI cB cJ cZ cQ c0) (hj : 6 * j + 6 ≤ L0) (hI : lw_I dC dI s cI cB cJ cZ cQ obX obM oq j H locs cells slots) (hl : lv_has ls 7 [(4, .int (nI (6 * j))), (0, .ref b), (1, .ref obX), (2, .ref obM), (3, .ref oq)])
    (kk : ∀ (ls : Array Slot) (H : Heap) (locs : List Loc) (cells slots : Nat), lv_has ls 7 [(4, .int (nI (6 * j))), (0, .ref b), (1, .ref obX), (2, .ref obM), (3, .ref oq)] → lw_I dC dI s cI cB cJ cZ cQ obX obM oq (j + 1) H locs cells slots → W p l e room_1 s m #[Value.ref b] below meth c H locs cells slots Q (F0 m 385 ls [])) : W p l e room_1 s m #[Value.ref b] below meth c H locs cells slots Q (F0 m 277 ls []) := by
  have G0 := G
  obtain ⟨hx, hb, -, -, -, hK, -, -, -, -, hL0⟩ := G
  obtain ⟨of, th, L, wX, wM, t_tape, m_tape, m_sizes, xh, xf, xk, m_has, m_place, kf, o, hC, hM, hw, hc, hs, hR, hHH, hO⟩ := hI
  refine law_c7x G0 hj hO hC hw hl (by omega) (by omega) (fun wX of' k H locs cells' slots' xh' xk' kf' o' hc1 hs1 hkc hO2 ho9 hC hw => ?_)
  have hc2 : cells' ≤ 200 + 20 * (j + 1) := by omega
  have hs2 : slots' ≤ 300000 + 6000 * (j + 1) := Nat.le_trans hs1 (Nat.le_trans (Nat.add_le_add_right hs 5260) (by omega))
  refine lv_istore (lv' := (5, .int k) :: [(4, .int (nI (6 * j))), (0, .ref b), (1, .ref obX), (2, .ref obM), (3, .ref oq)]) hx hb dL_288 hl (by decide) rfl (fun ls hl => ?_)
  have hl : lv_has ls 7 [(4, .int (nI (6 * j))), (0, .ref b), (1, .ref obX), (2, .ref obM), (3, .ref oq)] := lv_sub hl [1, 2, 3, 4, 5] rfl
  refine law_c7m G0 hj ho9 hM hw.sw hl (by omega) (by omega) (fun wM th r mh9 sz9 H locs hkm hM hw => ?_)
  refine lv_istore (lv' := (6, .int r) :: [(4, .int (nI (6 * j))), (0, .ref b), (1, .ref obX), (2, .ref obM), (3, .ref oq)]) hx hb dL_300 hl (by decide) rfl (fun ls hl => ?_)
  have hl : lv_has ls 7 [(4, .int (nI (6 * j))), (0, .ref b), (1, .ref obX), (2, .ref obM), (3, .ref oq)] := lv_sub hl [1, 2, 3, 4, 5] rfl
  obtain ⟨hHH, -, -⟩ := hHH.keep hkc hkm
  refine lv_goto (tgt := 385) hx hb dL_302 (by decide) ?_
  exact kk ls H locs _ _ hl ⟨of', th, L, wX, wM, _, _, _, _, _, _, _, _, _, _, hC, hM, hw.sw, hc2, hs2, hR, hHH, hO2⟩
theorem law_k8 (G : lw_cx p l s m c b L0 xs dC dI adK adV cI cB cJ cZ cQ c0) (hj : 6 * j + 6 ≤ L0) (hI : lw_I dC dI s cI cB cJ cZ cQ obX obM oq j H locs cells slots) (hl : lv_has ls 7 [(4, .int (nI (6 * j))), (0, .ref b), (1, .ref obX), (2, .ref obM), (3, .ref oq)])
    (kk : ∀ (ls : Array Slot) (H : Heap) (locs : List Loc) (cells slots : Nat), lv_has ls 7 [(4, .int (nI (6 * j))), (0, .ref b), (1, .ref obX), (2, .ref obM), (3, .ref oq)] → lw_I dC dI s cI cB cJ cZ cQ obX obM oq (j + 1) H locs cells slots → W p l e room_1 s m #[Value.ref b] below meth c H locs cells slots Q (F0 m 385 ls [])) : W p l e room_1 s m #[Value.ref b] below meth c H locs cells slots Q (F0 m 305 ls []) := by
  have G0 := G
  obtain ⟨hx, hb, -, -, -, hK, -, -, -, -, hL0⟩ := G
  obtain ⟨of, th, L, wX, wM, t_tape, m_tape, m_sizes, xh, xf, xk, m_has, m_place, kf, o, hC, hM, hw, hc, hs, hR, hHH, hO⟩ := hI
  refine law_c8x G0 hj hC hw hl (by omega) (by omega) (fun wX of' k H locs cells' slots' hc1 hs1 hC hw => ?_)
  refine lv_istore (lv' := (5, .int k) :: [(4, .int (nI (6 * j))), (0, .ref b), (1, .ref obX), (2, .ref obM), (3, .ref oq)]) hx hb dL_322 hl (by decide) rfl (fun ls hl => ?_)
  have hl : lv_has ls 7 [(4, .int (nI (6 * j))), (0, .ref b), (1, .ref obX), (2, .ref obM), (3, .ref oq)] := lv_sub hl [1, 2, 3, 4, 5] rfl
  refine law_c8m G0 hj hM hw.sw hl (by omega) (by omega) (fun wM th r H locs hM hw => ?_)
  refine lv_istore (lv' := (6, .int r) :: [(4, .int (nI (6 * j))), (0, .ref b), (1, .ref obX), (2, .ref obM), (3, .ref oq)]) hx hb dL_340 hl (by decide) rfl (fun ls hl => ?_)
  have hl : lv_has ls 7 [(4, .int (nI (6 * j))), (0, .ref b), (1, .ref obX), (2, .ref obM), (3, .ref oq)] := lv_sub hl [1, 2, 3, 4, 5] rfl
  refine lv_goto (tgt := 385) hx hb dL_342 (by decide) ?_
  exact kk ls H locs _ _ hl ⟨of', th, L, wX, wM, _, _, _, _, _, _, _, _, _, _, hC, hM, hw.sw, by omega, by omega, hR, hHH, hO⟩
theorem law_k9 (G : lw_cx p l s m c b L0 xs dC dI adK adV cI cB cJ cZ cQ c0) (hj : 6 * j + 6 ≤ L0) (hI : lw_I dC dI s cI cB cJ cZ cQ obX obM oq j H locs cells slots) (hl : lv_has ls 7 [(4, .int (nI (6 * j))), (0, .ref b), (1, .ref obX), (2, .ref obM), (3, .ref oq)])
    (kk : ∀ (ls : Array Slot) (H : Heap) (locs : List Loc) (cells slots : Nat), lv_has ls 7 [(4, .int (nI (6 * j))), (0, .ref b), (1, .ref obX), (2, .ref obM), (3, .ref oq)] → lw_I dC dI s cI cB cJ cZ cQ obX obM oq (j + 1) H locs cells slots → W p l e room_1 s m #[Value.ref b] below meth c H locs cells slots Q (F0 m 385 ls [])) : W p l e room_1 s m #[Value.ref b] below meth c H locs cells slots Q (F0 m 345 ls []) := by
  have G0 := G
  obtain ⟨hx, hb, -, -, -, hK, -, -, -, -, hL0⟩ := G
  obtain ⟨of, th, L, wX, wM, t_tape, m_tape, m_sizes, xh, xf, xk, m_has, m_place, kf, o, hC, hM, hw, hc, hs, hR, hHH, hO⟩ := hI
  refine law_c9x G0 hj hC hw hl (by omega) (by omega) (fun wX of' k H locs cells' slots' hc1 hs1 hC hw => ?_)
  refine lv_istore (lv' := (5, .int k) :: [(4, .int (nI (6 * j))), (0, .ref b), (1, .ref obX), (2, .ref obM), (3, .ref oq)]) hx hb dL_362 hl (by decide) rfl (fun ls hl => ?_)
  have hl : lv_has ls 7 [(4, .int (nI (6 * j))), (0, .ref b), (1, .ref obX), (2, .ref obM), (3, .ref oq)] := lv_sub hl [1, 2, 3, 4, 5] rfl
  refine law_c9m G0 hj hM hw.sw hl (by omega) (by omega) (fun wM th r H locs hM hw => ?_)
  refine lv_istore (lv' := (6, .int r) :: [(4, .int (nI (6 * j))), (0, .ref b), (1, .ref obX), (2, .ref obM), (3, .ref oq)]) hx hb dL_380 hl (by decide) rfl (fun ls hl => ?_)
  have hl : lv_has ls 7 [(4, .int (nI (6 * j))), (0, .ref b), (1, .ref obX), (2, .ref obM), (3, .ref oq)] := lv_sub hl [1, 2, 3, 4, 5] rfl
  refine lv_goto (tgt := 385) hx hb dL_382 (by decide) ?_
  exact kk ls H locs _ _ hl ⟨of', th, L, wX, wM, _, _, _, _, _, _, _, _, _, _, hC, hM, hw.sw, by omega, by omega, hR, hHH, hO⟩
end LWX60
