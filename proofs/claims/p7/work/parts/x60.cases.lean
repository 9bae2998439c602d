-- the law: a call of each kind, both sides
def lw_I (dC : Nat → ClassId) (dI : Nat → Nat → Nat) (s : State) (cI cB cJ cZ cQ : ClassId) (obX obM oq j : Nat) (H : Heap) (locs : List Loc) (cells slots : Nat) : Prop := ∃ (of : Nat → Int64) (th : Int32) (L : Nat) (wX wM : va_W) (t_tape m_tape m_sizes : Nat → Int32) (xh xf xk m_has m_place : Int32) (kf : Nat → Option Nat) (o : Option LSt), lw_CB cI cB cJ cZ cQ obX oq of L t_tape xh xf xk kf o wX ∧ lw_MB cI cB cJ cZ obM th L m_tape m_has m_place m_sizes o wM ∧ lw_w dC dI s H locs (wX ++ wM) ∧ cells ≤ 200 + 20 * j ∧ slots ≤ 300000 + 6000 * j ∧ lw_R L t_tape xf m_tape m_place ∧ lw_H xh xk kf m_has m_sizes ∧ (xh = 0 ↔ o = none)
section LWX60
variable {p : Program} {l : Launch} {e : Env} {s : State} {m : MethodId} {below : List Frame} {meth : Method} {c : Code} {H : Heap} {locs : List Loc} {cells slots : Nat} {ls : Array Slot} {Q : State → Prop} {b L0 : Nat} {xs : Nat → Int32} {dC : Nat → ClassId} {dI : Nat → Nat → Nat} {adK adV : Nat → Nat} {cI cB cJ cZ cQ : ClassId} {c0 : Cond} {obX obM oq L j : Nat} {T wX wM : va_W} {of : Nat → Int64} {th : Int32} {t_tape m_tape m_sizes : Nat → Int32} {xh xf xk m_has m_place : Int32} {kf : Nat → Option Nat} {o : Option LSt}
theorem law_k1 (G : lw_cx p l s m c b L0 xs dC dI adK adV cI cB cJ cZ cQ c0) (hj : 6 * j + 6 ≤ L0) (hI : lw_I dC dI s cI cB cJ cZ cQ obX obM oq j H locs cells slots) (hl : lv_has ls 7 [(4, .int (nI (6 * j))), (0, .ref b), (1, .ref obX), (2, .ref obM), (3, .ref oq)])
    (kk : ∀ (ls : Array Slot) (H : Heap) (locs : List Loc) (cells slots : Nat), lv_has ls 7 [(4, .int (nI (6 * j))), (0, .ref b), (1, .ref obX), (2, .ref obM), (3, .ref oq)] → lw_I dC dI s cI cB cJ cZ cQ obX obM oq (j + 1) H locs cells slots → W p l e room_1 s m #[Value.ref b] below meth c H locs cells slots Q (F0 m 413 ls [])) : W p l e room_1 s m #[Value.ref b] below meth c H locs cells slots Q (F0 m 172 ls []) := by
  have G0 := G
  obtain ⟨hx, hb, -, -, -, hK, -, -, -, -, hL0⟩ := G
  obtain ⟨of, th, L, wX, wM, t_tape, m_tape, m_sizes, xh, xf, xk, m_has, m_place, kf, o, hC, hM, hw, hc, hs, hR, hHH, hO⟩ := hI
  refine law_c1x G0 hj hC hw hl (by omega) (by omega) (fun wX L' k H locs hrel hC hw => ?_)
  refine lv_istore (lv' := (5, .int k) :: [(4, .int (nI (6 * j))), (0, .ref b), (1, .ref obX), (2, .ref obM), (3, .ref oq)]) hx hb dL_182 hl (by decide) rfl (fun ls hl => ?_)
  have hl : lv_has ls 7 [(4, .int (nI (6 * j))), (0, .ref b), (1, .ref obX), (2, .ref obM), (3, .ref oq)] := lv_sub hl [1, 2, 3, 4, 5] rfl
  refine law_c1m G0 hj hrel hM hw.sw hl (by omega) (by omega) (fun wM th H locs _ hM hw => ?_)
  have hR := hR.mono (le_of1 hrel)
  refine lv_goto (tgt := 413) hx hb dL_194 (by decide) ?_
  exact kk ls H locs _ _ hl ⟨of, th, L', wX, wM, _, _, _, _, _, _, _, _, _, _, hC, hM, hw.sw, by omega, by omega, hR, hHH, hO⟩
theorem law_k2 (G : lw_cx p l s m c b L0 xs dC dI adK adV cI cB cJ cZ cQ c0) (hj : 6 * j + 6 ≤ L0) (hI : lw_I dC dI s cI cB cJ cZ cQ obX obM oq j H locs cells slots) (hl : lv_has ls 7 [(4, .int (nI (6 * j))), (0, .ref b), (1, .ref obX), (2, .ref obM), (3, .ref oq)])
    (kk : ∀ (ls : Array Slot) (H : Heap) (locs : List Loc) (cells slots : Nat), lv_has ls 7 [(4, .int (nI (6 * j))), (0, .ref b), (1, .ref obX), (2, .ref obM), (3, .ref oq)] → lw_I dC dI s cI cB cJ cZ cQ obX obM oq (j + 1) H locs cells slots → W p l e room_1 s m #[Value.ref b] below meth c H locs cells slots Q (F0 m 413 ls [])) : W p l e room_1 s m #[Value.ref b] below meth c H locs cells slots Q (F0 m 197 ls []) := by
  have G0 := G
  obtain ⟨hx, hb, -, -, -, hK, -, -, -, -, hL0⟩ := G
  obtain ⟨of, th, L, wX, wM, t_tape, m_tape, m_sizes, xh, xf, xk, m_has, m_place, kf, o, hC, hM, hw, hc, hs, hR, hHH, hO⟩ := hI
  refine law_c2x G0 hj hR.1 hC hw hl (by omega) (by omega) (fun wX r H locs _ hC hw => ?_)
  refine lv_pop hx hb dL_201 rfl ?_
  refine law_c2m (q9 := 0) G0 hj hR.2.1 hR.cbe hM hw.sw hl (by omega) (by omega) (fun wM th r H locs _ hM hw => ?_)
  refine lv_pop hx hb dL_206 rfl ?_
  have hR := hR.sch (z := (dS t_tape L).2.2)
  have hHH := hHH.sch (z := (dS t_tape L).2.1)
  have hO := stO_has t_tape L
  refine lv_goto (tgt := 413) hx hb dL_207 (by decide) ?_
  exact kk ls H locs _ _ hl ⟨of, th, L, wX, wM, _, _, _, _, _, _, _, _, _, _, hC, hM, hw.sw, by omega, by omega, hR, hHH, hO⟩
theorem law_k3 (G : lw_cx p l s m c b L0 xs dC dI adK adV cI cB cJ cZ cQ c0) (hj : 6 * j + 6 ≤ L0) (hI : lw_I dC dI s cI cB cJ cZ cQ obX obM oq j H locs cells slots) (hl : lv_has ls 7 [(4, .int (nI (6 * j))), (0, .ref b), (1, .ref obX), (2, .ref obM), (3, .ref oq)])
    (kk : ∀ (ls : Array Slot) (H : Heap) (locs : List Loc) (cells slots : Nat), lv_has ls 7 [(4, .int (nI (6 * j))), (0, .ref b), (1, .ref obX), (2, .ref obM), (3, .ref oq)] → lw_I dC dI s cI cB cJ cZ cQ obX obM oq (j + 1) H locs cells slots → W p l e room_1 s m #[Value.ref b] below meth c H locs cells slots Q (F0 m 413 ls [])) : W p l e room_1 s m #[Value.ref b] below meth c H locs cells slots Q (F0 m 210 ls []) := by
  have G0 := G
  obtain ⟨hx, hb, -, -, -, hK, -, -, -, -, hL0⟩ := G
  obtain ⟨of, th, L, wX, wM, t_tape, m_tape, m_sizes, xh, xf, xk, m_has, m_place, kf, o, hC, hM, hw, hc, hs, hR, hHH, hO⟩ := hI
  refine law_c3y G0 hj hC hw hl (by omega) (by omega) ?_
  refine lv_pop hx hb dL_214 rfl ?_
  refine law_c3n (q9 := 0) G0 hj hM hw.sw hl (by omega) (by omega) (fun wM th H locs hM hw => ?_)
  refine lv_pop hx hb dL_219 rfl ?_
  refine lv_goto (tgt := 413) hx hb dL_220 (by decide) ?_
  exact kk ls H locs _ _ hl ⟨of, th, L, wX, wM, _, _, _, _, _, _, _, _, _, _, hC, hM, hw.sw, by omega, by omega, hR, hHH, hO⟩
theorem law_k4 (G : lw_cx p l s m c b L0 xs dC dI adK adV cI cB cJ cZ cQ c0) (hj : 6 * j + 6 ≤ L0) (hI : lw_I dC dI s cI cB cJ cZ cQ obX obM oq j H locs cells slots) (hl : lv_has ls 7 [(4, .int (nI (6 * j))), (0, .ref b), (1, .ref obX), (2, .ref obM), (3, .ref oq)])
    (kk : ∀ (ls : Array Slot) (H : Heap) (locs : List Loc) (cells slots : Nat), lv_has ls 7 [(4, .int (nI (6 * j))), (0, .ref b), (1, .ref obX), (2, .ref obM), (3, .ref oq)] → lw_I dC dI s cI cB cJ cZ cQ obX obM oq (j + 1) H locs cells slots → W p l e room_1 s m #[Value.ref b] below meth c H locs cells slots Q (F0 m 413 ls [])) : W p l e room_1 s m #[Value.ref b] below meth c H locs cells slots Q (F0 m 223 ls []) := by
  have G0 := G
  obtain ⟨hx, hb, -, -, -, hK, -, -, -, -, hL0⟩ := G
  obtain ⟨of, th, L, wX, wM, t_tape, m_tape, m_sizes, xh, xf, xk, m_has, m_place, kf, o, hC, hM, hw, hc, hs, hR, hHH, hO⟩ := hI
  have hOm : m_has = 0 ↔ o = none := by rw [← hHH.1]; exact hO
  refine law_c4x G0 hj hO hC hw hl (by omega) (by omega) ?_
  refine lv_pop hx hb dL_227 rfl ?_
  refine law_c4m (q9 := 0) G0 hj hOm hM hw.sw hl (by omega) (by omega) (fun wM th H locs hM hw => ?_)
  refine lv_pop hx hb dL_232 rfl ?_
  refine lv_goto (tgt := 413) hx hb dL_233 (by decide) ?_
  exact kk ls H locs _ _ hl ⟨of, th, L, wX, wM, _, _, _, _, _, _, _, _, _, _, hC, hM, hw.sw, by omega, by omega, hR, hHH, hO⟩
theorem lw_CB.out (hC : lw_CB cI cB cJ cZ cQ obX oq of L t_tape xh xf xk kf o wX) (hw : lw_w dC dI s H locs (wX ++ T)) : ∃ T' : va_W, lw_w dC dI s H locs (lw_o oq cJ of :: T') := by
  obtain ⟨obT, obD, obC, obK, kq, pq, obS, ps, wT, wS, wD, wK, wC, ks, hTB, hSB, hDB, hKB, hCB, hks, hps, rfl⟩ := hC
  exact ⟨lw_x obX obT obD obC kq pq obS xh xf xk :: (wT ++ (wS ++ (wD ++ (wK ++ (lw_k kq cQ kf :: lw_p pq cJ ps :: (wC ++ (lw_fl ks ++ T))))))), hw.p (fun f => by simp only [sr_tot_app, sr_tot]; omega)⟩
theorem law_k5 (G : lw_cx p l s m c b L0 xs dC dI adK adV cI cB cJ cZ cQ c0) (hj : 6 * j + 6 ≤ L0) (hI : lw_I dC dI s cI cB cJ cZ cQ obX obM oq j H locs cells slots) (hl : lv_has ls 7 [(4, .int (nI (6 * j))), (0, .ref b), (1, .ref obX), (2, .ref obM), (3, .ref oq)])
    (kk : ∀ (ls : Array Slot) (H : Heap) (locs : List Loc) (cells slots : Nat), lv_has ls 7 [(4, .int (nI (6 * j))), (0, .ref b), (1, .ref obX), (2, .ref obM), (3, .ref oq)] → lw_I dC dI s cI cB cJ cZ cQ obX obM oq (j + 1) H locs cells slots → W p l e room_1 s m #[Value.ref b] below meth c H locs cells slots Q (F0 m 413 ls [])) : W p l e room_1 s m #[Value.ref b] below meth c H locs cells slots Q (F0 m 236 ls []) := by
  have G0 := G
  obtain ⟨hx, hb, -, -, -, hK, -, -, -, -, hL0⟩ := G
  obtain ⟨of, th, L, wX, wM, t_tape, m_tape, m_sizes, xh, xf, xk, m_has, m_place, kf, o, hC, hM, hw, hc, hs, hR, hHH, hO⟩ := hI
  have hOm : m_has = 0 ↔ o = none := by rw [← hHH.1]; exact hO
  refine law_c5x G0 hj hO hC hw hl (by omega) (by omega) (fun wX of' k H locs hl1 hC hw => ?_)
  refine lv_istore (lv' := (5, .int k) :: [(4, .int (nI (6 * j))), (0, .ref b), (1, .ref obX), (2, .ref obM), (3, .ref oq)]) hx hb dL_247 hl (by decide) rfl (fun ls hl6 => ?_)
  have hl : lv_has ls 7 [(4, .int (nI (6 * j))), (0, .ref b), (1, .ref obX), (2, .ref obM), (3, .ref oq)] := lv_sub hl6 [1, 2, 3, 4, 5] rfl
  refine law_c5m G0 hj hOm hM hw.sw hl (by omega) (by omega) (fun wM th r H locs hl2 hM hw => ?_)
  refine lv_istore (lv' := (6, .int r) :: (5, .int k) :: [(4, .int (nI (6 * j))), (0, .ref b), (1, .ref obX), (2, .ref obM), (3, .ref oq)]) hx hb dL_259 hl6 (by decide) rfl (fun ls hl7 => ?_)
  have hl : lv_has ls 7 [(4, .int (nI (6 * j))), (0, .ref b), (1, .ref obX), (2, .ref obM), (3, .ref oq)] := lv_sub hl7 [2, 3, 4, 5, 6] rfl
  refine law_ct G0 hj hM hw hl (by omega) (by omega) ?_
  obtain ⟨v9, hv9, hv8⟩ := hl1
  obtain ⟨e1, e4⟩ := hv9.one hl2
  have e3 : k = 0 → r.toInt64 = of' 0 := fun h => by rw [e4 h]; exact (hv8 h).symm
  obtain ⟨T', hP, hD, hS⟩ := hC.out hw.sw
  refine lv_iload hx hb dL_265 (lv_at hl7 1 rfl) ?_
  refine lv_icmp_eq (tgt := 272) hx hb dL_267 (by decide) (fun _ => ?_) (fun h => absurd e1 h)
  refine lv_iload hx hb dL_272 (lv_at hl7 1 rfl) ?_
  have hend : W p l e room_1 s m #[Value.ref b] below meth c H locs (cells + 1) (slots + 6) Q (F0 m 289 ls []) := lv_goto (tgt := 413) hx hb dL_289 (by decide) (kk ls H locs _ _ hl ⟨of', th, L, wX, wM, _, _, _, _, _, _, _, _, _, _, hC, hM, hw.sw, by omega, by omega, hR, hHH, hO⟩)
  refine lv_if_ne (tgt := 289) hx hb dL_274 (by decide) (fun _ => hend) (fun hk => ?_)
  refine lv_aload_n hx hb dL_277 rfl (lv_at hl 4 rfl) ?_
  refine lv_iconst (v := 0) hx hb dL_278 (by decide) ?_
  refine va_lald hx hb hK hP 0 2 rfl rfl (show vp_in 0 1 by unfold vp_in; decide) dL_279 ?_
  refine lv_iload hx hb dL_280 (lv_at hl7 0 rfl) ?_
  refine lv_i2l hx hb dL_282 (e3 hk) ?_
  refine W.lcmp hx hb dL_283 ?_
  refine lv_if_eq (tgt := 289) hx hb dL_284 (by decide) (fun _ => hend) (fun h => absurd ?_ h)
  have e0 : (0 : Int32).toNatClampNeg = 0 := by decide +kernel
  rw [e0]
  simp [lg_cmp]
theorem law_k6 (G : lw_cx p l s m c b L0 xs dC dI adK adV cI cB cJ cZ cQ c0) (hj : 6 * j + 6 ≤ L0) (hI : lw_I dC dI s cI cB cJ cZ cQ obX obM oq j H locs cells slots) (hl : lv_has ls 7 [(4, .int (nI (6 * j))), (0, .ref b), (1, .ref obX), (2, .ref obM), (3, .ref oq)])
    (kk : ∀ (ls : Array Slot) (H : Heap) (locs : List Loc) (cells slots : Nat), lv_has ls 7 [(4, .int (nI (6 * j))), (0, .ref b), (1, .ref obX), (2, .ref obM), (3, .ref oq)] → lw_I dC dI s cI cB cJ cZ cQ obX obM oq (j + 1) H locs cells slots → W p l e room_1 s m #[Value.ref b] below meth c H locs cells slots Q (F0 m 413 ls [])) : W p l e room_1 s m #[Value.ref b] below meth c H locs cells slots Q (F0 m 292 ls []) := by
  have G0 := G
  obtain ⟨hx, hb, -, -, -, hK, -, -, -, -, hL0⟩ := G
  obtain ⟨of, th, L, wX, wM, t_tape, m_tape, m_sizes, xh, xf, xk, m_has, m_place, kf, o, hC, hM, hw, hc, hs, hR, hHH, hO⟩ := hI
  have hOm : m_has = 0 ↔ o = none := by rw [← hHH.1]; exact hO
  refine law_c6x G0 hj hO hC hw hl (by omega) (by omega) ?_
  refine lv_pop2_2 hx hb dL_296 rfl ?_
  refine law_c6m (q9 := 0) G0 hj hOm hM hw.sw hl (by omega) (by omega) (fun wM th H locs hM hw => ?_)
  refine lv_pop2_2 hx hb dL_301 rfl ?_
  refine lv_goto (tgt := 413) hx hb dL_302 (by decide) ?_
  exact kk ls H locs _ _ hl ⟨of, th, L, wX, wM, _, _, _, _, _, _, _, _, _, _, hC, hM, hw.sw, by omega, by omega, hR, hHH, hO⟩
set_option maxRecDepth 100000 in
theorem law_k7 (G : lw_cx p l s m c b L0 xs dC dI adK adV cI cB cJ cZ cQ c0) (hj : 6 * j + 6 ≤ L0) (hI : lw_I dC dI s cI cB cJ cZ cQ obX obM oq j H locs cells slots) (hl : lv_has ls 7 [(4, .int (nI (6 * j))), (0, .ref b), (1, .ref obX), (2, .ref obM), (3, .ref oq)])
    (kk : ∀ (ls : Array Slot) (H : Heap) (locs : List Loc) (cells slots : Nat), lv_has ls 7 [(4, .int (nI (6 * j))), (0, .ref b), (1, .ref obX), (2, .ref obM), (3, .ref oq)] → lw_I dC dI s cI cB cJ cZ cQ obX obM oq (j + 1) H locs cells slots → W p l e room_1 s m #[Value.ref b] below meth c H locs cells slots Q (F0 m 413 ls [])) : W p l e room_1 s m #[Value.ref b] below meth c H locs cells slots Q (F0 m 305 ls []) := by
  have G0 := G
  obtain ⟨hx, hb, -, -, -, hK, -, -, -, -, hL0⟩ := G
  obtain ⟨of, th, L, wX, wM, t_tape, m_tape, m_sizes, xh, xf, xk, m_has, m_place, kf, o, hC, hM, hw, hc, hs, hR, hHH, hO⟩ := hI
  refine law_c7x G0 hj hO hC hw hl (by omega) (by omega) (fun wX of' k H locs cells' slots' xh' xk' kf' o' hc1 hs1 hkc hO2 ho9 hC hw => ?_)
  have hc2 : cells' ≤ 200 + 20 * (j + 1) := by omega
  have hs2 : slots' ≤ 300000 + 6000 * (j + 1) := Nat.le_trans hs1 (Nat.le_trans (Nat.add_le_add_right hs 5260) (by omega))
  refine lv_istore (lv' := (5, .int k) :: [(4, .int (nI (6 * j))), (0, .ref b), (1, .ref obX), (2, .ref obM), (3, .ref oq)]) hx hb dL_316 hl (by decide) rfl (fun ls hl => ?_)
  have hl : lv_has ls 7 [(4, .int (nI (6 * j))), (0, .ref b), (1, .ref obX), (2, .ref obM), (3, .ref oq)] := lv_sub hl [1, 2, 3, 4, 5] rfl
  refine law_c7m G0 hj ho9 hM hw.sw hl (by omega) (by omega) (fun wM th r mh9 sz9 H locs hkm hM hw => ?_)
  refine lv_istore (lv' := (6, .int r) :: [(4, .int (nI (6 * j))), (0, .ref b), (1, .ref obX), (2, .ref obM), (3, .ref oq)]) hx hb dL_328 hl (by decide) rfl (fun ls hl => ?_)
  have hl : lv_has ls 7 [(4, .int (nI (6 * j))), (0, .ref b), (1, .ref obX), (2, .ref obM), (3, .ref oq)] := lv_sub hl [1, 2, 3, 4, 5] rfl
  obtain ⟨hHH, -, -⟩ := hHH.keep hkc hkm
  refine lv_goto (tgt := 413) hx hb dL_330 (by decide) ?_
  exact kk ls H locs _ _ hl ⟨of', th, L, wX, wM, _, _, _, _, _, _, _, _, _, _, hC, hM, hw.sw, hc2, hs2, hR, hHH, hO2⟩
theorem law_k8 (G : lw_cx p l s m c b L0 xs dC dI adK adV cI cB cJ cZ cQ c0) (hj : 6 * j + 6 ≤ L0) (hI : lw_I dC dI s cI cB cJ cZ cQ obX obM oq j H locs cells slots) (hl : lv_has ls 7 [(4, .int (nI (6 * j))), (0, .ref b), (1, .ref obX), (2, .ref obM), (3, .ref oq)])
    (kk : ∀ (ls : Array Slot) (H : Heap) (locs : List Loc) (cells slots : Nat), lv_has ls 7 [(4, .int (nI (6 * j))), (0, .ref b), (1, .ref obX), (2, .ref obM), (3, .ref oq)] → lw_I dC dI s cI cB cJ cZ cQ obX obM oq (j + 1) H locs cells slots → W p l e room_1 s m #[Value.ref b] below meth c H locs cells slots Q (F0 m 413 ls [])) : W p l e room_1 s m #[Value.ref b] below meth c H locs cells slots Q (F0 m 333 ls []) := by
  have G0 := G
  obtain ⟨hx, hb, -, -, -, hK, -, -, -, -, hL0⟩ := G
  obtain ⟨of, th, L, wX, wM, t_tape, m_tape, m_sizes, xh, xf, xk, m_has, m_place, kf, o, hC, hM, hw, hc, hs, hR, hHH, hO⟩ := hI
  refine law_c8x G0 hj hC hw hl (by omega) (by omega) (fun wX of' k H locs cells' slots' hc1 hs1 hC hw => ?_)
  refine lv_istore (lv' := (5, .int k) :: [(4, .int (nI (6 * j))), (0, .ref b), (1, .ref obX), (2, .ref obM), (3, .ref oq)]) hx hb dL_350 hl (by decide) rfl (fun ls hl => ?_)
  have hl : lv_has ls 7 [(4, .int (nI (6 * j))), (0, .ref b), (1, .ref obX), (2, .ref obM), (3, .ref oq)] := lv_sub hl [1, 2, 3, 4, 5] rfl
  refine law_c8m G0 hj hM hw.sw hl (by omega) (by omega) (fun wM th r H locs hM hw => ?_)
  refine lv_istore (lv' := (6, .int r) :: [(4, .int (nI (6 * j))), (0, .ref b), (1, .ref obX), (2, .ref obM), (3, .ref oq)]) hx hb dL_368 hl (by decide) rfl (fun ls hl => ?_)
  have hl : lv_has ls 7 [(4, .int (nI (6 * j))), (0, .ref b), (1, .ref obX), (2, .ref obM), (3, .ref oq)] := lv_sub hl [1, 2, 3, 4, 5] rfl
  refine lv_goto (tgt := 413) hx hb dL_370 (by decide) ?_
  exact kk ls H locs _ _ hl ⟨of', th, L, wX, wM, _, _, _, _, _, _, _, _, _, _, hC, hM, hw.sw, by omega, by omega, hR, hHH, hO⟩
theorem law_k9 (G : lw_cx p l s m c b L0 xs dC dI adK adV cI cB cJ cZ cQ c0) (hj : 6 * j + 6 ≤ L0) (hI : lw_I dC dI s cI cB cJ cZ cQ obX obM oq j H locs cells slots) (hl : lv_has ls 7 [(4, .int (nI (6 * j))), (0, .ref b), (1, .ref obX), (2, .ref obM), (3, .ref oq)])
    (kk : ∀ (ls : Array Slot) (H : Heap) (locs : List Loc) (cells slots : Nat), lv_has ls 7 [(4, .int (nI (6 * j))), (0, .ref b), (1, .ref obX), (2, .ref obM), (3, .ref oq)] → lw_I dC dI s cI cB cJ cZ cQ obX obM oq (j + 1) H locs cells slots → W p l e room_1 s m #[Value.ref b] below meth c H locs cells slots Q (F0 m 413 ls [])) : W p l e room_1 s m #[Value.ref b] below meth c H locs cells slots Q (F0 m 373 ls []) := by
  have G0 := G
  obtain ⟨hx, hb, -, -, -, hK, -, -, -, -, hL0⟩ := G
  obtain ⟨of, th, L, wX, wM, t_tape, m_tape, m_sizes, xh, xf, xk, m_has, m_place, kf, o, hC, hM, hw, hc, hs, hR, hHH, hO⟩ := hI
  refine law_c9x G0 hj hC hw hl (by omega) (by omega) (fun wX of' k H locs cells' slots' hc1 hs1 hC hw => ?_)
  refine lv_istore (lv' := (5, .int k) :: [(4, .int (nI (6 * j))), (0, .ref b), (1, .ref obX), (2, .ref obM), (3, .ref oq)]) hx hb dL_390 hl (by decide) rfl (fun ls hl => ?_)
  have hl : lv_has ls 7 [(4, .int (nI (6 * j))), (0, .ref b), (1, .ref obX), (2, .ref obM), (3, .ref oq)] := lv_sub hl [1, 2, 3, 4, 5] rfl
  refine law_c9m G0 hj hM hw.sw hl (by omega) (by omega) (fun wM th r H locs hM hw => ?_)
  refine lv_istore (lv' := (6, .int r) :: [(4, .int (nI (6 * j))), (0, .ref b), (1, .ref obX), (2, .ref obM), (3, .ref oq)]) hx hb dL_408 hl (by decide) rfl (fun ls hl => ?_)
  have hl : lv_has ls 7 [(4, .int (nI (6 * j))), (0, .ref b), (1, .ref obX), (2, .ref obM), (3, .ref oq)] := lv_sub hl [1, 2, 3, 4, 5] rfl
  refine lv_goto (tgt := 413) hx hb dL_410 (by decide) ?_
  exact kk ls H locs _ _ hl ⟨of', th, L, wX, wM, _, _, _, _, _, _, _, _, _, _, hC, hM, hw.sw, by omega, by omega, hR, hHH, hO⟩
end LWX60
