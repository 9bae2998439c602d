-- the law: letter, the class
section LWX30
variable {p : Program} {l : Launch} {e : Env} {s : State} {m : MethodId} {below : List Frame} {meth : Method} {c : Code} {H : Heap} {locs : List Loc} {cells slots : Nat} {ls : Array Slot} {Q : State → Prop} {b L0 : Nat} {xs : Nat → Int32} {dC : Nat → ClassId} {dI : Nat → Nat → Nat} {adK adV : Nat → Nat} {cI cB cJ cZ cQ : ClassId} {c0 : Cond} {obX obM oq L j : Nat} {T wX wM : va_W} {of : Nat → Int64} {th : Int32} {t_tape m_tape m_sizes : Nat → Int32} {xh xf xk m_has m_place : Int32} {kf : Nat → Option Nat}
theorem law_c5x (G : lw_cx p l s m c b L0 xs dC dI adK adV cI cB cJ cZ cQ c0) (hj : 6 * j + 6 ≤ L0) (hC : lw_CB cI cB cJ cZ cQ obX oq of L t_tape xh xf xk kf wX) (hw : lw_w dC dI s H locs (wX ++ T)) (hl : lv_has ls 7 [(4, .int (nI (6 * j))), (0, .ref b), (1, .ref obX), (2, .ref obM), (3, .ref oq)]) (hc : cells + 1 ≤ 601024) (hs : slots + 6 ≤ 7293034)
    (kk : ∀ (wX : va_W) (of' : Nat → Int64) (k : Int32) (H : Heap) (locs : List Loc), lw_CB cI cB cJ cZ cQ obX oq of' L t_tape xh xf xk kf wX → lw_w dC dI s H locs (wX ++ T) → W p l e room_1 s m #[Value.ref b] below meth c H locs (cells + 1) (slots + 6) Q (F0 m 247 ls [.int k])) : W p l e room_1 s m #[Value.ref b] below meth c H locs cells slots Q (F0 m 236 ls []) := by
  have G0 := G
  obtain ⟨hx, hb, hml, hown, hts, hK, hz, htr, hX, hbl, hL0⟩ := G
  have hA : ∀ q, s.heap.size ≤ q → lw_A s q := fun _ h => h
  obtain ⟨obT, obD, obC, obK, kq, pq, obS, ps, wT, wS, wD, wK, wC, ks, hTB, hSB, hDB, hKB, hCB, hks, rfl⟩ := hC
  obtain ⟨sq_plain, sq_kinds, sq_meant, sq_firsts, sq_nexts, sq_names, sq_fieldNames, sq_amounts, sq_fieldDefaults, sq_enumDefaults, s_letterCount, s_slotCount, s_plain, r0, hlc, hws⟩ := hSB.cut
  have hw1 : lw_w dC dI s H locs ([lw_x obX obT obD obC kq pq obS xh xf xk, lw_o oq cJ of, lw_s obS sq_plain sq_kinds sq_meant sq_firsts sq_nexts sq_names sq_fieldNames sq_amounts sq_fieldDefaults sq_enumDefaults s_letterCount s_slotCount, lw_b sq_plain cB 4096 s_plain] ++ (r0 ++ (wT ++ (wD ++ (wK ++ (lw_k kq cQ kf :: lw_p pq cJ ps :: (wC ++ (lw_fl ks ++ T)))))))) := hw.p (fun f => by simp only [sr_tot_app, sr_tot, hws]; omega)
  obtain ⟨hP, hD, hS⟩ := hw1
  refine lv_aload_n hx hb dL_236 rfl (lv_at hl 2 rfl) ?_
  refine law_ld (pc := 237) (k := 1) G0 hj hS (lv_at hl 0 rfl) (lv_at hl 1 rfl) (by decide) rfl dL_237 dL_238 dL_240 dL_241 dL_242 ?_
  refine lv_aload_n hx hb dL_243 rfl (lv_at hl 4 rfl) ?_
  obtain ⟨k, of', hm⟩ : ∃ (k : Int32) (of' : Nat → Int64), m_X12_letter xh of s_plain s_letterCount 1 (xs (6 * j + 1)) = some (k, of') := by
    obtain ⟨res, hr, -⟩ : SP (m_X8_letter xh s_plain s_letterCount (xs (6 * j + 1))) (fun _ => True) := cle_sp hlc xh (xs (6 * j + 1))
    unfold m_X12_letter
    rw [hr]
    cases res with
    | error u => exact ⟨_, _, rfl⟩
    | ok vu =>
      obtain ⟨v, u⟩ := vu
      rw [mr_tc_ok]
      exact ⟨_, _, if_neg (by decide +kernel)⟩
  refine mr_cI (T := r0 ++ (wT ++ (wD ++ (wK ++ (lw_k kq cQ kf :: lw_p pq cJ ps :: (wC ++ (lw_fl ks ++ T))))))) (mc := 1) (ms := 6) (sr_runSW (g := F0 m 244 ls [.ref oq, .int (xs (6 * j + 1)), .ref obX]) (As := [.ref obX, .int (xs (6 * j + 1)), .ref oq]) (rest := []) ⟨hx, hb, hml, hown, hts⟩ (kX12_letter l htr dC dI adK adV cI cB cJ cZ cQ obX obT obD obC kq pq obS oq sq_plain sq_kinds sq_meant sq_firsts sq_nexts sq_names sq_fieldNames sq_amounts sq_fieldDefaults sq_enumDefaults xh xf xk s_letterCount s_slotCount of s_plain _ 1 (xs (6 * j + 1)) _ hm) (sr_cbS 3 hts rfl gwL_64 rfl rfl (by decide +kernel) ⟨(Nat.le_of_ble_eq_true rfl), (Nat.le_of_ble_eq_true rfl)⟩) ⟨pcW_blind (sr_okZ adK adV), pcW_c (sr_okZ adK adV) hS hA hP hD hK hz.1⟩ rfl rfl hl.1 rfl (lv_room (Nat.le_of_ble_eq_true rfl)) dL_244 ⟨hc, hs⟩) hS hA hP hD (fun r u H locs hru hP hD hS => ?_)
  obtain ⟨rfl, rfl⟩ := hru
  have hw2 : lw_w dC dI s H locs ([lw_x obX obT obD obC kq pq obS xh xf xk, lw_o oq cJ u, lw_s obS sq_plain sq_kinds sq_meant sq_firsts sq_nexts sq_names sq_fieldNames sq_amounts sq_fieldDefaults sq_enumDefaults s_letterCount s_slotCount, lw_b sq_plain cB 4096 s_plain] ++ (r0 ++ (wT ++ (wD ++ (wK ++ (lw_k kq cQ kf :: lw_p pq cJ ps :: (wC ++ (lw_fl ks ++ T)))))))) := ⟨hP, hD, hS⟩
  exact kk _ u _ H locs ⟨obT, obD, obC, obK, kq, pq, obS, ps, wT, wS, wD, wK, wC, ks, hTB, hSB, hDB, hKB, hCB, hks, rfl⟩ (hw2.p (fun f => by simp only [sr_tot_app, sr_tot, hws]; omega))
end LWX30
