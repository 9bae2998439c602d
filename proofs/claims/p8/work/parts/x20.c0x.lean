-- the law: feed, the class
section LWX20
variable {p : Program} {l : Launch} {e : Env} {s : State} {m : MethodId} {below : List Frame} {meth : Method} {c : Code} {H : Heap} {locs : List Loc} {cells slots : Nat} {ls : Array Slot} {Q : State → Prop} {b L0 : Nat} {xs : Nat → Int32} {dC : Nat → ClassId} {dI : Nat → Nat → Nat} {adK adV : Nat → Nat} {cI cB cJ cZ cQ : ClassId} {c0 : Cond} {obX obM oq L j : Nat} {T wX wM : va_W} {of : Nat → Int64} {th : Int32} {t_tape m_tape m_sizes : Nat → Int32} {xh xf xk m_has m_place : Int32} {kf : Nat → Option Nat} {o : Option LSt}
theorem law_c0x (G : lw_cx p l s m c b L0 xs dC dI adK adV cI cB cJ cZ cQ c0) (hj : 6 * j + 6 ≤ L0) (hC : lw_CB cI cB cJ cZ cQ obX oq of L t_tape xh xf xk kf o wX) (hw : lw_w dC dI s H locs (wX ++ T)) (hl : lv_has ls 7 [(4, .int (nI (6 * j))), (0, .ref b), (1, .ref obX), (2, .ref obM), (3, .ref oq)]) (hc : cells + 1 ≤ 601024) (hs : slots + 6 ≤ 7293034)
    (kk : ∀ (wX : va_W) (of' : Nat → Int64) (L' : Nat) (k : Int32) (tp : Nat → Int32) (H : Heap) (locs : List Loc), ((k = 0 ∧ L' = L + 20 ∧ of' 0 = (nI (L + 20)).toInt64 ∧ L + 20 ≤ 4096 ∧ tp = (q20 t_tape L (xs (6 * j + 1)) (xs (6 * j + 2)) (xs (6 * j + 3)) (xs (6 * j + 4)) (xs (6 * j + 5)))) ∨ (k = 1 ∧ L' = L ∧ ¬ L + 20 ≤ 4096 ∧ tp = t_tape)) → lw_CB cI cB cJ cZ cQ obX oq of' L' tp xh xf xk kf o wX → lw_w dC dI s H locs (wX ++ T) → W p l e room_1 s m #[Value.ref b] below meth c H locs (cells + 1) (slots + 6) Q (F0 m 131 ls [.int k])) : W p l e room_1 s m #[Value.ref b] below meth c H locs cells slots Q (F0 m 96 ls []) := by
  have G0 := G
  obtain ⟨hx, hb, hml, hown, hts, hK, hz, htr, hX, hbl, hL0⟩ := G
  have hA : ∀ q, s.heap.size ≤ q → lw_A s q := fun _ h => h
  obtain ⟨obT, obD, obC, obK, kq, pq, obS, ps, wT, wS, wD, wK, wC, ks, hTB, hSB, hDB, hKB, hCB, hks, hps, rfl⟩ := hC
  obtain ⟨hL, tq_tape, tq_said, tq_inner, tq_next, tq_amount, t_wrongPlace, r0, rfl, hcl⟩ := hTB.cut
  have hw1 : lw_w dC dI s H locs ([lw_x obX obT obD obC kq pq obS xh xf xk, lw_o oq cJ of, lw_t obT tq_tape tq_said tq_inner tq_next tq_amount obK (nI L) t_wrongPlace, lw_b tq_tape cB 4096 t_tape] ++ (r0 ++ (wS ++ (wD ++ (wK ++ (lw_k kq cQ kf :: lw_p pq cJ ps :: (wC ++ (lw_fl ks ++ T)))))))) := hw.p (fun f => by simp only [sr_tot_app, sr_tot]; omega)
  obtain ⟨hP, hD, hS⟩ := hw1
  refine lv_aload_n hx hb dL_96 rfl (lv_at hl 2 rfl) ?_
  refine law_ld (pc := 97) (k := 1) G0 hj hS (lv_at hl 0 rfl) (lv_at hl 1 rfl) (by decide) rfl dL_97 dL_98 dL_100 dL_101 dL_102 ?_
  refine law_ld (pc := 103) (k := 2) G0 hj hS (lv_at hl 0 rfl) (lv_at hl 1 rfl) (by decide) rfl dL_103 dL_104 dL_106 dL_107 dL_108 ?_
  refine law_ld (pc := 109) (k := 3) G0 hj hS (lv_at hl 0 rfl) (lv_at hl 1 rfl) (by decide) rfl dL_109 dL_110 dL_112 dL_113 dL_114 ?_
  refine law_ld (pc := 115) (k := 4) G0 hj hS (lv_at hl 0 rfl) (lv_at hl 1 rfl) (by decide) rfl dL_115 dL_116 dL_118 dL_119 dL_120 ?_
  refine law_ld (pc := 121) (k := 5) G0 hj hS (lv_at hl 0 rfl) (lv_at hl 1 rfl) (by decide) rfl dL_121 dL_122 dL_124 dL_125 dL_126 ?_
  refine lv_aload_n hx hb dL_127 rfl (lv_at hl 4 rfl) ?_
  obtain ⟨k, of', tp, L', hL', hrel, hm⟩ : ∃ (k : Int32) (of' : Nat → Int64) (tp : Nat → Int32) (L' : Nat), L' ≤ 4096 ∧ ((k = 0 ∧ L' = L + 20 ∧ of' 0 = (nI (L + 20)).toInt64 ∧ L + 20 ≤ 4096 ∧ tp = (q20 t_tape L (xs (6 * j + 1)) (xs (6 * j + 2)) (xs (6 * j + 3)) (xs (6 * j + 4)) (xs (6 * j + 5)))) ∨ (k = 1 ∧ L' = L ∧ ¬ L + 20 ≤ 4096 ∧ tp = t_tape)) ∧ m_X12_feed of t_tape (nI L) 1 (xs (6 * j + 1)) (xs (6 * j + 2)) (xs (6 * j + 3)) (xs (6 * j + 4)) (xs (6 * j + 5)) = some (k, of', tp, nI L') := by
    by_cases h : L + 20 ≤ 4096
    · have hf := cfe_eq (T := t_tape) h (xs (6 * j + 1)) (xs (6 * j + 2)) (xs (6 * j + 3)) (xs (6 * j + 4)) (xs (6 * j + 5))
      refine ⟨0, vp_updL of (0 : Int32).toNatClampNeg ((nI (L + 20)).toInt64), (q20 t_tape L (xs (6 * j + 1)) (xs (6 * j + 2)) (xs (6 * j + 3)) (xs (6 * j + 4)) (xs (6 * j + 5))), L + 20, h, Or.inl ⟨rfl, rfl, ?_, h, rfl⟩, ?_⟩
      · have e0 : (0 : Int32).toNatClampNeg = 0 := by decide +kernel
        rw [e0]
        exact if_pos rfl
      · unfold m_X12_feed
        rw [hf, mr_tc_ok]
        exact if_neg (by decide +kernel)
    · refine ⟨1, of, t_tape, L, hL, Or.inr ⟨rfl, rfl, h, rfl⟩, ?_⟩
      unfold m_X12_feed
      rw [cfe_no hL h]
      rfl
  refine mr_cI (T := r0 ++ (wS ++ (wD ++ (wK ++ (lw_k kq cQ kf :: lw_p pq cJ ps :: (wC ++ (lw_fl ks ++ T))))))) (mc := 1) (ms := 6) (sr_runSW (g := F0 m 128 ls [.ref oq, .int (xs (6 * j + 5)), .int (xs (6 * j + 4)), .int (xs (6 * j + 3)), .int (xs (6 * j + 2)), .int (xs (6 * j + 1)), .ref obX]) (As := [.ref obX, .int (xs (6 * j + 1)), .int (xs (6 * j + 2)), .int (xs (6 * j + 3)), .int (xs (6 * j + 4)), .int (xs (6 * j + 5)), .ref oq]) (rest := []) ⟨hx, hb, hml, hown, hts⟩ (kX12_feed l htr dC dI adK adV cI cB cJ cZ cQ obX obT obD obC kq pq obS oq tq_tape tq_said tq_inner tq_next tq_amount obK xh xf xk (nI L) t_wrongPlace of t_tape _ 1 (xs (6 * j + 1)) (xs (6 * j + 2)) (xs (6 * j + 3)) (xs (6 * j + 4)) (xs (6 * j + 5)) _ hm) (sr_cbS 7 hts rfl gwL_41 rfl rfl (by decide +kernel) ⟨(Nat.le_of_ble_eq_true rfl), (Nat.le_of_ble_eq_true rfl)⟩) ⟨pcW_blind (sr_okZ adK adV), pcW_c (sr_okZ adK adV) hS hA hP hD hK hz.1⟩ rfl rfl hl.1 rfl (lv_room (Nat.le_of_ble_eq_true rfl)) dL_128 ⟨hc, hs⟩) hS hA hP hD (fun r u H locs hru hP hD hS => ?_)
  obtain ⟨rfl, rfl⟩ := hru
  have hw2 : lw_w dC dI s H locs ([lw_x obX obT obD obC kq pq obS xh xf xk, lw_o oq cJ of', lw_t obT tq_tape tq_said tq_inner tq_next tq_amount obK (nI L') t_wrongPlace, lw_b tq_tape cB 4096 tp] ++ (r0 ++ (wS ++ (wD ++ (wK ++ (lw_k kq cQ kf :: lw_p pq cJ ps :: (wC ++ (lw_fl ks ++ T)))))))) := ⟨hP, hD, hS⟩
  exact kk _ of' L' _ tp H locs hrel ⟨obT, obD, obC, obK, kq, pq, obS, ps, _, wS, wD, wK, wC, ks, hcl L' tp hL', hSB, hDB, hKB, hCB, hks, hps, rfl⟩ (hw2.p (fun f => by simp only [sr_tot_app, sr_tot]; omega))
end LWX20
