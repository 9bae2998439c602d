-- the law: feed, both sides and what is compared
section LWX62
variable {p : Program} {l : Launch} {e : Env} {s : State} {m : MethodId} {below : List Frame} {meth : Method} {c : Code} {H : Heap} {locs : List Loc} {cells slots : Nat} {ls : Array Slot} {Q : State → Prop} {b L0 : Nat} {xs : Nat → Int32} {dC : Nat → ClassId} {dI : Nat → Nat → Nat} {adK adV : Nat → Nat} {cI cB cJ cZ cQ : ClassId} {c0 : Cond} {obX obM oq L j : Nat} {T wX wM : va_W} {of : Nat → Int64} {th : Int32}
theorem lw_CB.out (hC : lw_CB cI cB cJ cZ cQ obX oq of L wX) (hw : lw_w dC dI s H locs (wX ++ T)) : ∃ T' : va_W, lw_w dC dI s H locs (lw_o oq cJ of :: T') := by
  obtain ⟨obT, obD, obC, obK, kq, pq, obS, xh, xf, xk, kf, ps, wT, wS, wD, wK, wC, ks, hTB, hSB, hDB, hKB, hCB, hks, rfl⟩ := hC
  exact ⟨lw_x obX obT obD obC kq pq obS xh xf xk :: (wT ++ (wS ++ (wD ++ (wK ++ (lw_k kq cQ kf :: lw_p pq cJ ps :: (wC ++ (lw_fl ks ++ T))))))), hw.p (fun f => by simp only [sr_tot_app, sr_tot]; omega)⟩
theorem law_k0 (G : lw_cx p l s m c b L0 xs dC dI adK adV cI cB cJ cZ cQ c0) (hj : 6 * j + 6 ≤ L0) (hI : lw_I dC dI s cI cB cJ cZ cQ obX obM oq j H locs cells slots) (hl : lv_has ls 7 [(4, .int (nI (6 * j))), (0, .ref b), (1, .ref obX), (2, .ref obM), (3, .ref oq)])
    (kk : ∀ (ls : Array Slot) (H : Heap) (locs : List Loc) (cells slots : Nat), lv_has ls 7 [(4, .int (nI (6 * j))), (0, .ref b), (1, .ref obX), (2, .ref obM), (3, .ref oq)] → lw_I dC dI s cI cB cJ cZ cQ obX obM oq (j + 1) H locs cells slots → W p l e room_1 s m #[Value.ref b] below meth c H locs cells slots Q (F0 m 413 ls [])) : W p l e room_1 s m #[Value.ref b] below meth c H locs cells slots Q (F0 m 96 ls []) := by
  have G0 := G
  obtain ⟨hx, hb, -, -, -, hK, -, -, -, -, hL0⟩ := G
  obtain ⟨of, th, L, wX, wM, hC, hM, hw, hc, hs⟩ := hI
  refine law_c0x G0 hj hC hw hl (by omega) (by omega) (fun wX of' L' k H locs hrel hC hw => ?_)
  refine lv_istore (lv' := (5, .int k) :: [(4, .int (nI (6 * j))), (0, .ref b), (1, .ref obX), (2, .ref obM), (3, .ref oq)]) hx hb dL_131 hl (by decide) rfl (fun ls hl6 => ?_)
  have hl : lv_has ls 7 [(4, .int (nI (6 * j))), (0, .ref b), (1, .ref obX), (2, .ref obM), (3, .ref oq)] := lv_sub hl6 [1, 2, 3, 4, 5] rfl
  refine law_c0m G0 hj hM hw.sw hl (by omega) (by omega) (fun wM th L2 v H locs hrm hM hw => ?_)
  refine lv_istore (lv' := (6, .int v) :: (5, .int k) :: [(4, .int (nI (6 * j))), (0, .ref b), (1, .ref obX), (2, .ref obM), (3, .ref oq)]) hx hb dL_167 hl6 (by decide) rfl (fun ls hl7 => ?_)
  have hl : lv_has ls 7 [(4, .int (nI (6 * j))), (0, .ref b), (1, .ref obX), (2, .ref obM), (3, .ref oq)] := lv_sub hl7 [2, 3, 4, 5, 6] rfl
  refine law_ct G0 hj hM hw hl (by omega) (by omega) ?_
  obtain ⟨e1, e2, e3⟩ : th = k ∧ L2 = L' ∧ (k = 0 → v.toInt64 = of' 0) := by
    rcases hrel with ⟨rfl, rfl, h1, h2⟩ | ⟨rfl, rfl, h2⟩
    · rcases hrm with ⟨rfl, rfl, rfl, h3⟩ | ⟨rfl, rfl, h3⟩
      · exact ⟨rfl, rfl, fun _ => h1.symm⟩
      · exact absurd h2 h3
    · rcases hrm with ⟨rfl, rfl, rfl, h3⟩ | ⟨rfl, rfl, h3⟩
      · exact absurd h3 h2
      · exact ⟨rfl, rfl, fun h => absurd h (by decide)⟩
  subst e2
  obtain ⟨T', hP, hD, hS⟩ := hC.out hw.sw
  refine lv_iload hx hb dL_173 (lv_at hl7 1 rfl) ?_
  refine lv_icmp_eq (tgt := 180) hx hb dL_175 (by decide) (fun _ => ?_) (fun h => absurd e1 h)
  refine lv_iload hx hb dL_180 (lv_at hl7 1 rfl) ?_
  have hend : W p l e room_1 s m #[Value.ref b] below meth c H locs (cells + 1) (slots + 6) Q (F0 m 197 ls []) := lv_goto (tgt := 413) hx hb dL_197 (by decide) (kk ls H locs _ _ hl ⟨of', th, L2, wX, wM, hC, hM, hw.sw, by omega, by omega⟩)
  refine lv_if_ne (tgt := 197) hx hb dL_182 (by decide) (fun _ => hend) (fun hk => ?_)
  refine lv_aload_n hx hb dL_185 rfl (lv_at hl 4 rfl) ?_
  refine lv_iconst (v := 0) hx hb dL_186 (by decide) ?_
  refine va_lald hx hb hK hP 0 2 rfl rfl (show vp_in 0 1 by unfold vp_in; decide) dL_187 ?_
  refine lv_iload hx hb dL_188 (lv_at hl7 0 rfl) ?_
  refine lv_i2l hx hb dL_190 (e3 hk) ?_
  refine W.lcmp hx hb dL_191 ?_
  refine lv_if_eq (tgt := 197) hx hb dL_192 (by decide) (fun _ => hend) (fun h => absurd ?_ h)
  have e0 : (0 : Int32).toNatClampNeg = 0 := by decide +kernel
  rw [e0]
  simp [lg_cmp]
end LWX62
