-- the law: matches, the class
section LWX37
variable {p : Program} {l : Launch} {e : Env} {s : State} {m : MethodId} {below : List Frame} {meth : Method} {c : Code} {H : Heap} {locs : List Loc} {cells slots : Nat} {ls : Array Slot} {Q : State → Prop} {b L0 : Nat} {xs : Nat → Int32} {dC : Nat → ClassId} {dI : Nat → Nat → Nat} {adK adV : Nat → Nat} {cI cB cJ cZ cQ : ClassId} {c0 : Cond} {obX obM oq L j : Nat} {T wX wM : va_W} {of : Nat → Int64} {th : Int32} {t_tape m_tape m_sizes : Nat → Int32} {xh xf xk m_has m_place : Int32} {kf : Nat → Option Nat} {o : Option LSt} {kst : Nat → Option LSt}
theorem law_c9x (G : lw_cx p l s m c b L0 xs dC dI adK adV cI cB cJ cZ cQ c0) (hj : 6 * j + 6 ≤ L0) (hKF : ∀ p, p < 8 → (kf p = none ↔ kst p = none)) (hMK : ∀ p, p < 8 → ∀ st, kst p = some st → MOK st) (hC : lw_CB cI cB cJ cZ cQ obX oq of L t_tape xh xf xk kf o kst wX) (hw : lw_w dC dI s H locs (wX ++ T)) (hl : lv_has ls 7 [(4, .int (nI (6 * j))), (0, .ref b), (1, .ref obX), (2, .ref obM), (3, .ref oq)]) (hc0 : cells + 11 ≤ 601024) (hs0 : slots + 5260 ≤ 7293034)
    (kk : ∀ (wX : va_W) (of' : Nat → Int64) (k : Int32) (H : Heap) (locs : List Loc) (cells' slots' : Nat), cells' ≤ cells + 11 → slots' ≤ slots + 5260 → (∃ v, mtW kst (xs (6 * j + 1)) (xs (6 * j + 2)) k v ∧ (k = 0 → of' 0 = if v = 0 then 0 else 1)) → lw_CB cI cB cJ cZ cQ obX oq of' L t_tape xh xf xk kf o kst wX → lw_w dC dI s H locs (wX ++ T) → W p l e room_1 s m #[Value.ref b] below meth c H locs cells' slots' Q (F0 m 362 ls [.int k])) : W p l e room_1 s m #[Value.ref b] below meth c H locs cells slots Q (F0 m 345 ls []) := by
  have G0 := G
  obtain ⟨hx, hb, hml, hown, hts, hK, hz, htr, hX, hbl, hL0⟩ := G
  have hA : ∀ q, s.heap.size ≤ q → lw_A s q := fun _ h => h
  obtain ⟨obT, obD, obC, obK, kq, pq, obS, ps, wT, wS, wD, wK, wC, ks, hTB, hSB, hDB, hKB, hCB, hks, hps, rfl⟩ := hC
  have hS := hw.2.2
  refine lv_aload_n hx hb dL_345 rfl (lv_at hl 2 rfl) ?_
  refine law_ld (pc := 346) (k := 1) G0 hj hS (lv_at hl 0 rfl) (lv_at hl 1 rfl) (by decide) rfl dL_346 dL_347 dL_349 dL_350 dL_351 ?_
  refine law_ld (pc := 352) (k := 2) G0 hj hS (lv_at hl 0 rfl) (lv_at hl 1 rfl) (by decide) rfl dL_352 dL_353 dL_355 dL_356 dL_357 ?_
  refine lv_aload_n hx hb dL_358 rfl (lv_at hl 4 rfl) ?_
  have hw1 : lw_w dC dI s H locs ([lw_x obX obT obD obC kq pq obS xh xf xk, lw_k kq cQ kf, lw_o oq cJ of] ++ (wT ++ (wS ++ (wD ++ (wK ++ (lw_p pq cJ ps :: (wC ++ (lw_fl ks ++ T)))))))) := hw.p (fun f => by simp only [sr_tot_app, sr_tot]; omega)
  rcases plc_two (xs (6 * j + 1)) with hp0 | ⟨hp0, hin0⟩
  · obtain ⟨hP, hD, hS⟩ := hw1
    have hc : cells + 1 ≤ 601024 := by omega
    have hs : slots + 6 ≤ 7293034 := by omega
    refine mr_cI (T := wT ++ (wS ++ (wD ++ (wK ++ (lw_p pq cJ ps :: (wC ++ (lw_fl ks ++ T))))))) (mc := 1) (ms := 6) (sr_runSW (g := F0 m 359 ls [.ref oq, .int (xs (6 * j + 2)), .int (xs (6 * j + 1)), .ref obX]) (As := [.ref obX, .int (xs (6 * j + 1)), .int (xs (6 * j + 2)), .ref oq]) (rest := []) ⟨hx, hb, hml, hown, hts⟩ (kX12_matches_io1 l htr dC dI adK adV cI cB cJ cZ cQ obX obT obD obC kq pq obS xh xf xk kf oq of _ (xs (6 * j + 1)) (xs (6 * j + 2)) hp0) (sr_cbS 4 hts rfl gwL_80 rfl rfl (by decide +kernel) ⟨(Nat.le_of_ble_eq_true rfl), (Nat.le_of_ble_eq_true rfl)⟩) ⟨pcW_blind (sr_okZ2 adK adV), pcW_c (sr_okZ2 adK adV) hS hA hP hD hK hz⟩ rfl rfl hl.1 rfl (lv_room (Nat.le_of_ble_eq_true rfl)) dL_359 ⟨hc, hs⟩) hS hA hP hD (fun r u H locs hru hP hD hS => ?_)
    have hw2 : lw_w dC dI s H locs ([lw_x obX obT obD obC kq pq obS xh xf xk, lw_k kq cQ kf, lw_o oq cJ of] ++ (wT ++ (wS ++ (wD ++ (wK ++ (lw_p pq cJ ps :: (wC ++ (lw_fl ks ++ T)))))))) := ⟨hP, hD, hS⟩
    exact kk _ of _ H locs _ _ (by omega) (by omega) ⟨0, Or.inl ⟨Or.inl (cpl_0 hp0), hru⟩, (fun z => absurd (hru.symm.trans z) (by decide))⟩ ⟨obT, obD, obC, obK, kq, pq, obS, ps, wT, wS, wD, wK, wC, ks, hTB, hSB, hDB, hKB, hCB, hks, hps, rfl⟩ (hw2.p (fun f => by simp only [sr_tot_app, sr_tot]; omega))
  rcases plc_two (xs (6 * j + 2)) with hp1 | ⟨hp1, hin1⟩
  · obtain ⟨hP, hD, hS⟩ := hw1
    have hc : cells + 1 ≤ 601024 := by omega
    have hs : slots + 6 ≤ 7293034 := by omega
    refine mr_cI (T := wT ++ (wS ++ (wD ++ (wK ++ (lw_p pq cJ ps :: (wC ++ (lw_fl ks ++ T))))))) (mc := 1) (ms := 6) (sr_runSW (g := F0 m 359 ls [.ref oq, .int (xs (6 * j + 2)), .int (xs (6 * j + 1)), .ref obX]) (As := [.ref obX, .int (xs (6 * j + 1)), .int (xs (6 * j + 2)), .ref oq]) (rest := []) ⟨hx, hb, hml, hown, hts⟩ (kX12_matches_io2 l htr dC dI adK adV cI cB cJ cZ cQ obX obT obD obC kq pq obS xh xf xk kf oq of _ (xs (6 * j + 1)) (xs (6 * j + 2)) hp0 hp1) (sr_cbS 4 hts rfl gwL_80 rfl rfl (by decide +kernel) ⟨(Nat.le_of_ble_eq_true rfl), (Nat.le_of_ble_eq_true rfl)⟩) ⟨pcW_blind (sr_okZ2 adK adV), pcW_c (sr_okZ2 adK adV) hS hA hP hD hK hz⟩ rfl rfl hl.1 rfl (lv_room (Nat.le_of_ble_eq_true rfl)) dL_359 ⟨hc, hs⟩) hS hA hP hD (fun r u H locs hru hP hD hS => ?_)
    have hw2 : lw_w dC dI s H locs ([lw_x obX obT obD obC kq pq obS xh xf xk, lw_k kq cQ kf, lw_o oq cJ of] ++ (wT ++ (wS ++ (wD ++ (wK ++ (lw_p pq cJ ps :: (wC ++ (lw_fl ks ++ T)))))))) := ⟨hP, hD, hS⟩
    exact kk _ of _ H locs _ _ (by omega) (by omega) ⟨0, Or.inl ⟨Or.inr (cpl_0 hp1), hru⟩, (fun z => absurd (hru.symm.trans z) (by decide))⟩ ⟨obT, obD, obC, obK, kq, pq, obS, ps, wT, wS, wD, wK, wC, ks, hTB, hSB, hDB, hKB, hCB, hks, hps, rfl⟩ (hw2.p (fun f => by simp only [sr_tot_app, sr_tot]; omega))
  cases hk0 : kf (xs (6 * j + 1)).toNatClampNeg with
  | none =>
    cases hk1 : kf (xs (6 * j + 2)).toNatClampNeg with
    | none =>
      obtain ⟨p0, hq0, hx0⟩ := cpl_i hp0
      obtain ⟨p1, hq1, hx1⟩ := cpl_i hp1
      have hz0 : (xs (6 * j + 1)).toNatClampNeg = p0 := by rw [hx0]; exact nI_clamp (by omega)
      have hz1 : (xs (6 * j + 2)).toNatClampNeg = p1 := by rw [hx1]; exact nI_clamp (by omega)
      obtain ⟨hP, hD, hS⟩ := hw1
      have hc : cells + 1 ≤ 601024 := by omega
      have hs : slots + 6 ≤ 7293034 := by omega
      refine mr_cI (T := wT ++ (wS ++ (wD ++ (wK ++ (lw_p pq cJ ps :: (wC ++ (lw_fl ks ++ T))))))) (mc := 1) (ms := 6) (sr_runSW (g := F0 m 359 ls [.ref oq, .int (xs (6 * j + 2)), .int (xs (6 * j + 1)), .ref obX]) (As := [.ref obX, .int (xs (6 * j + 1)), .int (xs (6 * j + 2)), .ref oq]) (rest := []) ⟨hx, hb, hml, hown, hts⟩ (kX12_matches_nn l htr dC dI adK adV cI cB cJ cZ cQ obX obT obD obC kq pq obS xh xf xk kf oq of _ (xs (6 * j + 1)) (xs (6 * j + 2)) hp0 hp1 hin0 hin1 hk0 hk1) (sr_cbS 4 hts rfl gwL_80 rfl rfl (by decide +kernel) ⟨(Nat.le_of_ble_eq_true rfl), (Nat.le_of_ble_eq_true rfl)⟩) ⟨pcW_blind (sr_okZ2 adK adV), pcW_c (sr_okZ2 adK adV) hS hA hP hD hK hz⟩ rfl rfl hl.1 rfl (lv_room (Nat.le_of_ble_eq_true rfl)) dL_359 ⟨hc, hs⟩) hS hA hP hD (fun r u H locs hru hP hD hS => ?_)
      have hw2 : lw_w dC dI s H locs ([lw_x obX obT obD obC kq pq obS xh xf xk, lw_k kq cQ kf, lw_o oq cJ of] ++ (wT ++ (wS ++ (wD ++ (wK ++ (lw_p pq cJ ps :: (wC ++ (lw_fl ks ++ T)))))))) := ⟨hP, hD, hS⟩
      exact kk _ of _ H locs _ _ (by omega) (by omega) ⟨0, Or.inr ⟨p0, p1, hq0, hq1, hx0, hx1, Or.inl ⟨Or.inl ((hKF p0 hq0).mp (by rw [← hz0]; exact hk0)), hru⟩⟩, (fun z => absurd (hru.symm.trans z) (by decide))⟩ ⟨obT, obD, obC, obK, kq, pq, obS, ps, wT, wS, wD, wK, wC, ks, hTB, hSB, hDB, hKB, hCB, hks, hps, rfl⟩ (hw2.p (fun f => by simp only [sr_tot_app, sr_tot]; omega))
    | some ob1 =>
      obtain ⟨p0, hq0, hx0⟩ := cpl_i hp0
      obtain ⟨p1, hq1, hx1⟩ := cpl_i hp1
      have hz0 : (xs (6 * j + 1)).toNatClampNeg = p0 := by rw [hx0]; exact nI_clamp (by omega)
      have hz1 : (xs (6 * j + 2)).toNatClampNeg = p1 := by rw [hx1]; exact nI_clamp (by omega)
      obtain ⟨hP, hD, hS⟩ := hw1
      have hc : cells + 1 ≤ 601024 := by omega
      have hs : slots + 6 ≤ 7293034 := by omega
      refine mr_cI (T := wT ++ (wS ++ (wD ++ (wK ++ (lw_p pq cJ ps :: (wC ++ (lw_fl ks ++ T))))))) (mc := 1) (ms := 6) (sr_runSW (g := F0 m 359 ls [.ref oq, .int (xs (6 * j + 2)), .int (xs (6 * j + 1)), .ref obX]) (As := [.ref obX, .int (xs (6 * j + 1)), .int (xs (6 * j + 2)), .ref oq]) (rest := []) ⟨hx, hb, hml, hown, hts⟩ (kX12_matches_ns l htr dC dI adK adV cI cB cJ cZ cQ obX obT obD obC kq pq obS xh xf xk kf oq of _ (xs (6 * j + 1)) (xs (6 * j + 2)) ob1 hp0 hp1 hin0 hin1 hk0 hk1) (sr_cbS 4 hts rfl gwL_80 rfl rfl (by decide +kernel) ⟨(Nat.le_of_ble_eq_true rfl), (Nat.le_of_ble_eq_true rfl)⟩) ⟨pcW_blind (sr_okZ2 adK adV), pcW_c (sr_okZ2 adK adV) hS hA hP hD hK hz⟩ rfl rfl hl.1 rfl (lv_room (Nat.le_of_ble_eq_true rfl)) dL_359 ⟨hc, hs⟩) hS hA hP hD (fun r u H locs hru hP hD hS => ?_)
      have hw2 : lw_w dC dI s H locs ([lw_x obX obT obD obC kq pq obS xh xf xk, lw_k kq cQ kf, lw_o oq cJ of] ++ (wT ++ (wS ++ (wD ++ (wK ++ (lw_p pq cJ ps :: (wC ++ (lw_fl ks ++ T)))))))) := ⟨hP, hD, hS⟩
      exact kk _ of _ H locs _ _ (by omega) (by omega) ⟨0, Or.inr ⟨p0, p1, hq0, hq1, hx0, hx1, Or.inl ⟨Or.inl ((hKF p0 hq0).mp (by rw [← hz0]; exact hk0)), hru⟩⟩, (fun z => absurd (hru.symm.trans z) (by decide))⟩ ⟨obT, obD, obC, obK, kq, pq, obS, ps, wT, wS, wD, wK, wC, ks, hTB, hSB, hDB, hKB, hCB, hks, hps, rfl⟩ (hw2.p (fun f => by simp only [sr_tot_app, sr_tot]; omega))
  | some obW =>
    cases hk1 : kf (xs (6 * j + 2)).toNatClampNeg with
    | none =>
      obtain ⟨p0, hq0, hx0⟩ := cpl_i hp0
      obtain ⟨p1, hq1, hx1⟩ := cpl_i hp1
      have hz0 : (xs (6 * j + 1)).toNatClampNeg = p0 := by rw [hx0]; exact nI_clamp (by omega)
      have hz1 : (xs (6 * j + 2)).toNatClampNeg = p1 := by rw [hx1]; exact nI_clamp (by omega)
      obtain ⟨hP, hD, hS⟩ := hw1
      have hc : cells + 1 ≤ 601024 := by omega
      have hs : slots + 6 ≤ 7293034 := by omega
      refine mr_cI (T := wT ++ (wS ++ (wD ++ (wK ++ (lw_p pq cJ ps :: (wC ++ (lw_fl ks ++ T))))))) (mc := 1) (ms := 6) (sr_runSW (g := F0 m 359 ls [.ref oq, .int (xs (6 * j + 2)), .int (xs (6 * j + 1)), .ref obX]) (As := [.ref obX, .int (xs (6 * j + 1)), .int (xs (6 * j + 2)), .ref oq]) (rest := []) ⟨hx, hb, hml, hown, hts⟩ (kX12_matches_sn l htr dC dI adK adV cI cB cJ cZ cQ obX obT obD obC kq pq obS xh xf xk kf oq of _ (xs (6 * j + 1)) (xs (6 * j + 2)) obW hp0 hp1 hin0 hin1 hk0 hk1) (sr_cbS 4 hts rfl gwL_80 rfl rfl (by decide +kernel) ⟨(Nat.le_of_ble_eq_true rfl), (Nat.le_of_ble_eq_true rfl)⟩) ⟨pcW_blind (sr_okZ2 adK adV), pcW_c (sr_okZ2 adK adV) hS hA hP hD hK hz⟩ rfl rfl hl.1 rfl (lv_room (Nat.le_of_ble_eq_true rfl)) dL_359 ⟨hc, hs⟩) hS hA hP hD (fun r u H locs hru hP hD hS => ?_)
      have hw2 : lw_w dC dI s H locs ([lw_x obX obT obD obC kq pq obS xh xf xk, lw_k kq cQ kf, lw_o oq cJ of] ++ (wT ++ (wS ++ (wD ++ (wK ++ (lw_p pq cJ ps :: (wC ++ (lw_fl ks ++ T)))))))) := ⟨hP, hD, hS⟩
      exact kk _ of _ H locs _ _ (by omega) (by omega) ⟨0, Or.inr ⟨p0, p1, hq0, hq1, hx0, hx1, Or.inl ⟨Or.inr ((hKF p1 hq1).mp (by rw [← hz1]; exact hk1)), hru⟩⟩, (fun z => absurd (hru.symm.trans z) (by decide))⟩ ⟨obT, obD, obC, obK, kq, pq, obS, ps, wT, wS, wD, wK, wC, ks, hTB, hSB, hDB, hKB, hCB, hks, hps, rfl⟩ (hw2.p (fun f => by simp only [sr_tot_app, sr_tot]; omega))
    | some obV =>
      obtain ⟨wW, hmW, hsW⟩ := hks.1 _ _ hk0
      obtain ⟨ks1, hfl1, hi1, -⟩ := lw_one hmW
      obtain ⟨wq_plain, wq_kinds, wq_meant, wq_firsts, wq_nexts, wq_names, wq_fieldNames, wq_amounts, wq_fieldDefaults, wq_enumDefaults, w_letterCount, w_slotCount, w_plain, w_kinds, w_meant, w_firsts, w_nexts, w_names, w_fieldNames, w_amounts, w_fieldDefaults, w_enumDefaults, hfw, hnw, hgw, hmw, hlw, hiw, hwW⟩ := hsW
      by_cases he : (xs (6 * j + 1)).toNatClampNeg = (xs (6 * j + 2)).toNatClampNeg
      · have hk1 : kf (xs (6 * j + 2)).toNatClampNeg = some obW := by rw [← he]; exact hk0
        have hw3 : lw_w dC dI s H locs ([lw_x obX obT obD obC kq pq obS xh xf xk, lw_k kq cQ kf, (obW, .inr (8, [.ref wq_plain, .ref wq_kinds, .ref wq_meant, .ref wq_firsts, .ref wq_nexts, .ref wq_names, .ref wq_fieldNames, .ref wq_amounts, .ref wq_fieldDefaults, .ref wq_enumDefaults, .int w_letterCount, .int w_slotCount])), (wq_plain, .inl (cB, 4096, .inl w_plain)), (wq_kinds, .inl (cI, 128, .inl w_kinds)), (wq_meant, .inl (cI, 128, .inl w_meant)), (wq_firsts, .inl (cI, 128, .inl w_firsts)), (wq_names, .inl (cI, 128, .inl w_names)), (wq_amounts, .inl (cI, 128, .inl w_amounts)), lw_o oq cJ of] ++ ((wq_nexts, .inl (cI, 128, .inl w_nexts)) :: (wq_fieldNames, .inl (cI, 128, .inl w_fieldNames)) :: (wq_fieldDefaults, .inl (cZ, 128, .inl w_fieldDefaults)) :: (wq_enumDefaults, .inl (cZ, 128, .inl w_enumDefaults)) :: (wT ++ (wS ++ (wD ++ (wK ++ (lw_p pq cJ ps :: (wC ++ (lw_fl ks1 ++ T))))))))) := hw.p (fun f => by simp only [sr_tot_app, sr_tot, hfl1 f, hwW]; omega)
        obtain ⟨hP, hD, hS⟩ := hw3
        obtain ⟨p0, hq0, hx0⟩ := cpl_i hp0
        obtain ⟨p1, hq1, hx1⟩ := cpl_i hp1
        have hz0 : (xs (6 * j + 1)).toNatClampNeg = p0 := by rw [hx0]; exact nI_clamp (by omega)
        have hz1 : (xs (6 * j + 2)).toNatClampNeg = p1 := by rw [hx1]; exact nI_clamp (by omega)
        obtain ⟨s0, e0⟩ : ∃ st, kst p0 = some st := by
          cases hkk : kst p0 with
          | none => exact absurd ((hKF p0 hq0).mpr hkk) (by rw [← hz0, hk0]; exact fun z => (nomatch z))
          | some st => exact ⟨st, rfl⟩
        obtain ⟨s1, e1⟩ : ∃ st, kst p1 = some st := by
          cases hkk : kst p1 with
          | none => exact absurd ((hKF p1 hq1).mpr hkk) (by rw [← hz1, hk1]; exact fun z => (nomatch z))
          | some st => exact ⟨st, rfl⟩
        obtain ⟨f0, f1, f2, hci0⟩ := hiw s0 (by rw [hz0]; exact e0)
        have e10 : s1 = s0 := by
          have z := e1
          rw [← hz1, ← he, hz0, e0] at z
          exact (Option.some.inj z).symm
        obtain ⟨r9, hm, hr9⟩ : ∃ r9, m_X5_isMatch1 w_plain w_kinds w_meant w_firsts w_names w_amounts w_letterCount 0 0 = some r9 ∧ r9 = (if mtT s0 s1 = true then 1 else 0) := ⟨_, cma_one hci0.sbi hci0 (hMK p0 hq0 s0 e0), by rw [e10]⟩
        have hb9 : r9 = 0 ∨ r9 = 1 := by
          rw [hr9]
          split
          · exact Or.inr rfl
          · exact Or.inl rfl
        have hc : cells + 1 ≤ 601024 := by omega
        have hs : slots + 3 ≤ 7293034 := by omega
        refine mr_cI (T := (wq_nexts, .inl (cI, 128, .inl w_nexts)) :: (wq_fieldNames, .inl (cI, 128, .inl w_fieldNames)) :: (wq_fieldDefaults, .inl (cZ, 128, .inl w_fieldDefaults)) :: (wq_enumDefaults, .inl (cZ, 128, .inl w_enumDefaults)) :: (wT ++ (wS ++ (wD ++ (wK ++ (lw_p pq cJ ps :: (wC ++ (lw_fl ks1 ++ T)))))))) (mc := 1) (ms := 3) (sr_runSW (g := F0 m 359 ls [.ref oq, .int (xs (6 * j + 2)), .int (xs (6 * j + 1)), .ref obX]) (As := [.ref obX, .int (xs (6 * j + 1)), .int (xs (6 * j + 2)), .ref oq]) (rest := []) ⟨hx, hb, hml, hown, hts⟩ (kX12_matches_one l htr dC dI adK adV cI cB cJ cZ cQ obX obT obD obC kq pq obS xh xf xk kf obW wq_plain wq_kinds wq_meant wq_firsts wq_nexts wq_names wq_fieldNames wq_amounts wq_fieldDefaults wq_enumDefaults w_letterCount w_slotCount w_plain w_kinds w_meant w_firsts w_names w_amounts oq of _ (xs (6 * j + 1)) (xs (6 * j + 2)) r9 hp0 hp1 hin0 hin1 hk0 hk1 hm hb9) (sr_cbS 4 hts rfl gwL_80 rfl rfl (by decide +kernel) ⟨(Nat.le_of_ble_eq_true rfl), (Nat.le_of_ble_eq_true rfl)⟩) ⟨pcW_blind (sr_okZ2 adK adV), pcW_c (sr_okZ2 adK adV) hS hA hP hD hK hz⟩ rfl rfl hl.1 rfl (lv_room (Nat.le_of_ble_eq_true rfl)) dL_359 ⟨hc, hs⟩) hS hA hP hD (fun r u H locs hru hP hD hS => ?_)
        have hw2 : lw_w dC dI s H locs ([lw_x obX obT obD obC kq pq obS xh xf xk, lw_k kq cQ kf, (obW, .inr (8, [.ref wq_plain, .ref wq_kinds, .ref wq_meant, .ref wq_firsts, .ref wq_nexts, .ref wq_names, .ref wq_fieldNames, .ref wq_amounts, .ref wq_fieldDefaults, .ref wq_enumDefaults, .int w_letterCount, .int w_slotCount])), (wq_plain, .inl (cB, 4096, .inl w_plain)), (wq_kinds, .inl (cI, 128, .inl w_kinds)), (wq_meant, .inl (cI, 128, .inl w_meant)), (wq_firsts, .inl (cI, 128, .inl w_firsts)), (wq_names, .inl (cI, 128, .inl w_names)), (wq_amounts, .inl (cI, 128, .inl w_amounts)), lw_o oq cJ (vp_updL of 0 (if r9 = 0 then 0 else 1))] ++ ((wq_nexts, .inl (cI, 128, .inl w_nexts)) :: (wq_fieldNames, .inl (cI, 128, .inl w_fieldNames)) :: (wq_fieldDefaults, .inl (cZ, 128, .inl w_fieldDefaults)) :: (wq_enumDefaults, .inl (cZ, 128, .inl w_enumDefaults)) :: (wT ++ (wS ++ (wD ++ (wK ++ (lw_p pq cJ ps :: (wC ++ (lw_fl ks1 ++ T))))))))) := ⟨hP, hD, hS⟩
        exact kk _ (vp_updL of 0 (if r9 = 0 then 0 else 1)) _ H locs _ _ (by omega) (by omega) ⟨r9, Or.inr ⟨p0, p1, hq0, hq1, hx0, hx1, Or.inr ⟨s0, s1, e0, e1, hru, hr9⟩⟩, fun _ => if_pos rfl⟩ ⟨obT, obD, obC, obK, kq, pq, obS, ps, wT, wS, wD, wK, wC, ks, hTB, hSB, hDB, hKB, hCB, hks, hps, rfl⟩ (hw2.p (fun f => by simp only [sr_tot_app, sr_tot, hfl1 f, hwW]; omega))
      · obtain ⟨wV, hmV, hsV⟩ := hks.1 _ _ hk1
        have hmV1 := (hi1 _ hmV).resolve_left (fun q => he (congrArg (fun z => z.1) q).symm)
        obtain ⟨ks2, hfl2, -, -⟩ := lw_one hmV1
        obtain ⟨vq_plain, vq_kinds, vq_meant, vq_firsts, vq_nexts, vq_names, vq_fieldNames, vq_amounts, vq_fieldDefaults, vq_enumDefaults, v_letterCount, v_slotCount, v_plain, v_kinds, v_meant, v_firsts, v_nexts, v_names, v_fieldNames, v_amounts, v_fieldDefaults, v_enumDefaults, hfv, hnv, hgv, hmv, hlv, hiv, hwV⟩ := hsV
        have hw3 : lw_w dC dI s H locs ([lw_x obX obT obD obC kq pq obS xh xf xk, lw_k kq cQ kf, (obW, .inr (8, [.ref wq_plain, .ref wq_kinds, .ref wq_meant, .ref wq_firsts, .ref wq_nexts, .ref wq_names, .ref wq_fieldNames, .ref wq_amounts, .ref wq_fieldDefaults, .ref wq_enumDefaults, .int w_letterCount, .int w_slotCount])), (wq_plain, .inl (cB, 4096, .inl w_plain)), (wq_kinds, .inl (cI, 128, .inl w_kinds)), (wq_meant, .inl (cI, 128, .inl w_meant)), (wq_firsts, .inl (cI, 128, .inl w_firsts)), (wq_names, .inl (cI, 128, .inl w_names)), (wq_amounts, .inl (cI, 128, .inl w_amounts)), (obV, .inr (8, [.ref vq_plain, .ref vq_kinds, .ref vq_meant, .ref vq_firsts, .ref vq_nexts, .ref vq_names, .ref vq_fieldNames, .ref vq_amounts, .ref vq_fieldDefaults, .ref vq_enumDefaults, .int v_letterCount, .int v_slotCount])), (vq_plain, .inl (cB, 4096, .inl v_plain)), (vq_kinds, .inl (cI, 128, .inl v_kinds)), (vq_meant, .inl (cI, 128, .inl v_meant)), (vq_firsts, .inl (cI, 128, .inl v_firsts)), (vq_names, .inl (cI, 128, .inl v_names)), (vq_amounts, .inl (cI, 128, .inl v_amounts)), lw_o oq cJ of] ++ ((wq_nexts, .inl (cI, 128, .inl w_nexts)) :: (wq_fieldNames, .inl (cI, 128, .inl w_fieldNames)) :: (wq_fieldDefaults, .inl (cZ, 128, .inl w_fieldDefaults)) :: (wq_enumDefaults, .inl (cZ, 128, .inl w_enumDefaults)) :: (vq_nexts, .inl (cI, 128, .inl v_nexts)) :: (vq_fieldNames, .inl (cI, 128, .inl v_fieldNames)) :: (vq_fieldDefaults, .inl (cZ, 128, .inl v_fieldDefaults)) :: (vq_enumDefaults, .inl (cZ, 128, .inl v_enumDefaults)) :: (wT ++ (wS ++ (wD ++ (wK ++ (lw_p pq cJ ps :: (wC ++ (lw_fl ks2 ++ T))))))))) := hw.p (fun f => by simp only [sr_tot_app, sr_tot, hfl1 f, hwW, hfl2 f, hwV]; omega)
        obtain ⟨hP, hD, hS⟩ := hw3
        obtain ⟨p0, hq0, hx0⟩ := cpl_i hp0
        obtain ⟨p1, hq1, hx1⟩ := cpl_i hp1
        have hz0 : (xs (6 * j + 1)).toNatClampNeg = p0 := by rw [hx0]; exact nI_clamp (by omega)
        have hz1 : (xs (6 * j + 2)).toNatClampNeg = p1 := by rw [hx1]; exact nI_clamp (by omega)
        obtain ⟨s0, e0⟩ : ∃ st, kst p0 = some st := by
          cases hkk : kst p0 with
          | none => exact absurd ((hKF p0 hq0).mpr hkk) (by rw [← hz0, hk0]; exact fun z => (nomatch z))
          | some st => exact ⟨st, rfl⟩
        obtain ⟨s1, e1⟩ : ∃ st, kst p1 = some st := by
          cases hkk : kst p1 with
          | none => exact absurd ((hKF p1 hq1).mpr hkk) (by rw [← hz1, hk1]; exact fun z => (nomatch z))
          | some st => exact ⟨st, rfl⟩
        obtain ⟨f0, f1, f2, hci0⟩ := hiw s0 (by rw [hz0]; exact e0)
        obtain ⟨g0, g1, g2, hci1⟩ := hiv s1 (by rw [hz1]; exact e1)
        obtain ⟨r9, hm, hr9⟩ : ∃ r9, m_X5_isMatch w_plain w_kinds w_meant w_firsts w_names w_amounts w_letterCount v_plain v_kinds v_meant v_firsts v_names v_amounts v_letterCount 0 0 = some r9 ∧ r9 = (if mtT s0 s1 = true then 1 else 0) := ⟨_, cma_two hci0.sbi hci1.sbi hci0 hci1 (hMK p0 hq0 s0 e0) (hMK p1 hq1 s1 e1), rfl⟩
        have hb9 : r9 = 0 ∨ r9 = 1 := by
          rw [hr9]
          split
          · exact Or.inr rfl
          · exact Or.inl rfl
        have hc : cells + 1 ≤ 601024 := by omega
        have hs : slots + 3 ≤ 7293034 := by omega
        refine mr_cI (T := (wq_nexts, .inl (cI, 128, .inl w_nexts)) :: (wq_fieldNames, .inl (cI, 128, .inl w_fieldNames)) :: (wq_fieldDefaults, .inl (cZ, 128, .inl w_fieldDefaults)) :: (wq_enumDefaults, .inl (cZ, 128, .inl w_enumDefaults)) :: (vq_nexts, .inl (cI, 128, .inl v_nexts)) :: (vq_fieldNames, .inl (cI, 128, .inl v_fieldNames)) :: (vq_fieldDefaults, .inl (cZ, 128, .inl v_fieldDefaults)) :: (vq_enumDefaults, .inl (cZ, 128, .inl v_enumDefaults)) :: (wT ++ (wS ++ (wD ++ (wK ++ (lw_p pq cJ ps :: (wC ++ (lw_fl ks2 ++ T)))))))) (mc := 1) (ms := 3) (sr_runSW (g := F0 m 359 ls [.ref oq, .int (xs (6 * j + 2)), .int (xs (6 * j + 1)), .ref obX]) (As := [.ref obX, .int (xs (6 * j + 1)), .int (xs (6 * j + 2)), .ref oq]) (rest := []) ⟨hx, hb, hml, hown, hts⟩ (kX12_matches_two l htr dC dI adK adV cI cB cJ cZ cQ obX obT obD obC kq pq obS xh xf xk kf obW obV wq_plain wq_kinds wq_meant wq_firsts wq_nexts wq_names wq_fieldNames wq_amounts wq_fieldDefaults wq_enumDefaults vq_plain vq_kinds vq_meant vq_firsts vq_nexts vq_names vq_fieldNames vq_amounts vq_fieldDefaults vq_enumDefaults w_letterCount w_slotCount v_letterCount v_slotCount w_plain w_kinds w_meant w_firsts w_names w_amounts v_plain v_kinds v_meant v_firsts v_names v_amounts oq of _ (xs (6 * j + 1)) (xs (6 * j + 2)) r9 hp0 hp1 hin0 hin1 hk0 hk1 hm hb9) (sr_cbS 4 hts rfl gwL_80 rfl rfl (by decide +kernel) ⟨(Nat.le_of_ble_eq_true rfl), (Nat.le_of_ble_eq_true rfl)⟩) ⟨pcW_blind (sr_okZ2 adK adV), pcW_c (sr_okZ2 adK adV) hS hA hP hD hK hz⟩ rfl rfl hl.1 rfl (lv_room (Nat.le_of_ble_eq_true rfl)) dL_359 ⟨hc, hs⟩) hS hA hP hD (fun r u H locs hru hP hD hS => ?_)
        have hw2 : lw_w dC dI s H locs ([lw_x obX obT obD obC kq pq obS xh xf xk, lw_k kq cQ kf, (obW, .inr (8, [.ref wq_plain, .ref wq_kinds, .ref wq_meant, .ref wq_firsts, .ref wq_nexts, .ref wq_names, .ref wq_fieldNames, .ref wq_amounts, .ref wq_fieldDefaults, .ref wq_enumDefaults, .int w_letterCount, .int w_slotCount])), (wq_plain, .inl (cB, 4096, .inl w_plain)), (wq_kinds, .inl (cI, 128, .inl w_kinds)), (wq_meant, .inl (cI, 128, .inl w_meant)), (wq_firsts, .inl (cI, 128, .inl w_firsts)), (wq_names, .inl (cI, 128, .inl w_names)), (wq_amounts, .inl (cI, 128, .inl w_amounts)), (obV, .inr (8, [.ref vq_plain, .ref vq_kinds, .ref vq_meant, .ref vq_firsts, .ref vq_nexts, .ref vq_names, .ref vq_fieldNames, .ref vq_amounts, .ref vq_fieldDefaults, .ref vq_enumDefaults, .int v_letterCount, .int v_slotCount])), (vq_plain, .inl (cB, 4096, .inl v_plain)), (vq_kinds, .inl (cI, 128, .inl v_kinds)), (vq_meant, .inl (cI, 128, .inl v_meant)), (vq_firsts, .inl (cI, 128, .inl v_firsts)), (vq_names, .inl (cI, 128, .inl v_names)), (vq_amounts, .inl (cI, 128, .inl v_amounts)), lw_o oq cJ (vp_updL of 0 (if r9 = 0 then 0 else 1))] ++ ((wq_nexts, .inl (cI, 128, .inl w_nexts)) :: (wq_fieldNames, .inl (cI, 128, .inl w_fieldNames)) :: (wq_fieldDefaults, .inl (cZ, 128, .inl w_fieldDefaults)) :: (wq_enumDefaults, .inl (cZ, 128, .inl w_enumDefaults)) :: (vq_nexts, .inl (cI, 128, .inl v_nexts)) :: (vq_fieldNames, .inl (cI, 128, .inl v_fieldNames)) :: (vq_fieldDefaults, .inl (cZ, 128, .inl v_fieldDefaults)) :: (vq_enumDefaults, .inl (cZ, 128, .inl v_enumDefaults)) :: (wT ++ (wS ++ (wD ++ (wK ++ (lw_p pq cJ ps :: (wC ++ (lw_fl ks2 ++ T))))))))) := ⟨hP, hD, hS⟩
        exact kk _ (vp_updL of 0 (if r9 = 0 then 0 else 1)) _ H locs _ _ (by omega) (by omega) ⟨r9, Or.inr ⟨p0, p1, hq0, hq1, hx0, hx1, Or.inr ⟨s0, s1, e0, e1, hru, hr9⟩⟩, fun _ => if_pos rfl⟩ ⟨obT, obD, obC, obK, kq, pq, obS, ps, wT, wS, wD, wK, wC, ks, hTB, hSB, hDB, hKB, hCB, hks, hps, rfl⟩ (hw2.p (fun f => by simp only [sr_tot_app, sr_tot, hfl1 f, hwW, hfl2 f, hwV]; omega))
end LWX37
