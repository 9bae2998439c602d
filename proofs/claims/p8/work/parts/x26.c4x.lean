-- the law: size, the class
section LWX26
variable {p : Program} {l : Launch} {e : Env} {s : State} {m : MethodId} {below : List Frame} {meth : Method} {c : Code} {H : Heap} {locs : List Loc} {cells slots : Nat} {ls : Array Slot} {Q : State → Prop} {b L0 : Nat} {xs : Nat → Int32} {dC : Nat → ClassId} {dI : Nat → Nat → Nat} {adK adV : Nat → Nat} {cI cB cJ cZ cQ : ClassId} {c0 : Cond} {obX obM oq L j : Nat} {T wX wM : va_W} {of : Nat → Int64} {th : Int32} {t_tape m_tape m_sizes : Nat → Int32} {xh xf xk m_has m_place : Int32} {kf : Nat → Option Nat} {o : Option LSt}
theorem law_c4x (G : lw_cx p l s m c b L0 xs dC dI adK adV cI cB cJ cZ cQ c0) (hj : 6 * j + 6 ≤ L0) (hO : xh = 0 ↔ o = none) (hC : lw_CB cI cB cJ cZ cQ obX oq of L t_tape xh xf xk kf o wX) (hw : lw_w dC dI s H locs (wX ++ T)) (hl : lv_has ls 7 [(4, .int (nI (6 * j))), (0, .ref b), (1, .ref obX), (2, .ref obM), (3, .ref oq)]) (hc : cells + 0 ≤ 601024) (hs : slots + 0 ≤ 7293034)
    (kk : W p l e room_1 s m #[Value.ref b] below meth c H locs cells slots Q (F0 m 227 ls [.int (szT o)])) : W p l e room_1 s m #[Value.ref b] below meth c H locs cells slots Q (F0 m 223 ls []) := by
  have G0 := G
  obtain ⟨hx, hb, hml, hown, hts, hK, hz, htr, hX, hbl, hL0⟩ := G
  have hA : ∀ q, s.heap.size ≤ q → lw_A s q := fun _ h => h
  obtain ⟨obT, obD, obC, obK, kq, pq, obS, ps, wT, wS, wD, wK, wC, ks, hTB, hSB, hDB, hKB, hCB, hks, hps, rfl⟩ := hC
  obtain ⟨sq_plain, sq_kinds, sq_meant, sq_firsts, sq_nexts, sq_names, sq_fieldNames, sq_amounts, sq_fieldDefaults, sq_enumDefaults, s_letterCount, s_slotCount, s_plain, r0, hlc, ⟨w1, w2, w3, w4, w5, w6, w7, w8, hci⟩, hws⟩ := hSB.cut
  subst hws
  have hw1 : lw_w dC dI s H locs ([lw_x obX obT obD obC kq pq obS xh xf xk, lw_s obS sq_plain sq_kinds sq_meant sq_firsts sq_nexts sq_names sq_fieldNames sq_amounts sq_fieldDefaults sq_enumDefaults s_letterCount s_slotCount] ++ (lw_b sq_plain cB 4096 s_plain :: (r0 ++ (wT ++ (wD ++ (wK ++ (lw_k kq cQ kf :: lw_p pq cJ ps :: lw_o oq cJ of :: (wC ++ (lw_fl ks ++ T))))))))) := hw.p (fun f => by simp only [sr_tot_app, sr_tot]; omega)
  refine lv_aload_n hx hb dL_223 rfl (lv_at hl 2 rfl) ?_
  have hm : m_X8_size xh s_letterCount = some (szT o) := csz_t hO hci
  refine mr_pV (As := []) (rest := []) (sr_okZ adK adV) ⟨hx, hb, hml, hown, hts⟩ (kX8_size l htr dC dI adK adV cI cB cJ cZ cQ obX obT obD obC kq pq obS sq_plain sq_kinds sq_meant sq_firsts sq_nexts sq_names sq_fieldNames sq_amounts sq_fieldDefaults sq_enumDefaults xh xf xk s_letterCount s_slotCount (szT o) hm) (cwV 0 hts (gL_60 _) rfl rfl rfl (by decide +kernel) ⟨(Nat.le_of_ble_eq_true rfl), (Nat.le_of_ble_eq_true rfl)⟩) hw1.2.2 hw1.1 hK hz.1 [0, 1] rfl (va_recv hK hw1.1 (ci := 2) (q0 := 0) rfl rfl) rfl rfl hl.1 (Nat.le_of_ble_eq_true rfl) dL_224 ⟨hc, hs⟩ ?_
  exact kk
end LWX26
