-- the law: place, both sides
section LWX58
variable {p : Program} {l : Launch} {e : Env} {s : State} {m : MethodId} {below : List Frame} {meth : Method} {c : Code} {H : Heap} {locs : List Loc} {cells slots : Nat} {ls : Array Slot} {Q : State → Prop} {b L0 : Nat} {xs : Nat → Int32} {dC : Nat → ClassId} {dI : Nat → Nat → Nat} {adK adV : Nat → Nat} {cI cB cJ cZ cQ : ClassId} {c0 : Cond} {obX obM oq L j : Nat} {T wX wM : va_W} {of : Nat → Int64} {th : Int32} {t_tape m_tape m_sizes : Nat → Int32} {xh xf xk m_has m_place : Int32} {kf : Nat → Option Nat} {o : Option LSt}
theorem law_c3y (G : lw_cx p l s m c b L0 xs dC dI adK adV cI cB cJ cZ cQ c0) (hj : 6 * j + 6 ≤ L0) (hC : lw_CB cI cB cJ cZ cQ obX oq of L t_tape xh xf xk kf o wX) (hw : lw_w dC dI s H locs (wX ++ T)) (hl : lv_has ls 7 [(4, .int (nI (6 * j))), (0, .ref b), (1, .ref obX), (2, .ref obM), (3, .ref oq)]) (hc : cells + 0 ≤ 601024) (hs : slots + 0 ≤ 7293034)
    (kk : W p l e room_1 s m #[Value.ref b] below meth c H locs cells slots Q (F0 m 214 ls [.int xf])) : W p l e room_1 s m #[Value.ref b] below meth c H locs cells slots Q (F0 m 210 ls []) := by
  have G0 := G
  obtain ⟨hx, hb, hml, hown, hts, hK, hz, htr, hX, hbl, hL0⟩ := G
  have hA : ∀ q, s.heap.size ≤ q → lw_A s q := fun _ h => h
  obtain ⟨obT, obD, obC, obK, kq, pq, obS, ps, wT, wS, wD, wK, wC, ks, hTB, hSB, hDB, hKB, hCB, hks, hps, rfl⟩ := hC
  have hw1 : lw_w dC dI s H locs ([lw_x obX obT obD obC kq pq obS xh xf xk] ++ (wT ++ (wS ++ (wD ++ (wK ++ (lw_k kq cQ kf :: lw_p pq cJ ps :: lw_o oq cJ of :: (wC ++ (lw_fl ks ++ T)))))))) := hw.p (fun f => by simp only [sr_tot_app, sr_tot]; omega)
  refine lv_aload_n hx hb dL_210 rfl (lv_at hl 2 rfl) ?_
  have hm : m_X8_place xf = some xf := rfl
  refine mr_pV (As := []) (rest := []) (sr_okZ adK adV) ⟨hx, hb, hml, hown, hts⟩ (kX8_place l htr dC dI adK adV cI cB cJ cZ cQ obX obT obD obC kq pq obS xh xf xk xf hm) (cwV 0 hts (gL_56 _) rfl rfl rfl (by decide +kernel) ⟨(Nat.le_of_ble_eq_true rfl), (Nat.le_of_ble_eq_true rfl)⟩) hw1.2.2 hw1.1 hK hz.1 [0] rfl (va_recv hK hw1.1 (ci := 2) (q0 := 0) rfl rfl) rfl rfl hl.1 (Nat.le_of_ble_eq_true rfl) dL_211 ⟨hc, hs⟩ ?_
  exact kk
theorem law_c3n {q9 : Int32} (G : lw_cx p l s m c b L0 xs dC dI adK adV cI cB cJ cZ cQ c0) (hj : 6 * j + 6 ≤ L0) (hM : lw_MB cI cB cJ cZ obM th L m_tape m_has m_place m_sizes o wM) (hw : lw_w dC dI s H locs (wM ++ T)) (hl : lv_has ls 7 [(4, .int (nI (6 * j))), (0, .ref b), (1, .ref obX), (2, .ref obM), (3, .ref oq)]) (hc : cells + 0 ≤ 601024) (hs : slots + 0 ≤ 7293034)
    (kk : ∀ (wM : va_W) (th : Int32) (H : Heap) (locs : List Loc), lw_MB cI cB cJ cZ obM th L m_tape m_has m_place m_sizes o wM → lw_w dC dI s H locs (wM ++ T) → W p l e room_1 s m #[Value.ref b] below meth c H locs cells slots Q (F0 m 219 ls [.int m_place])) : W p l e room_1 s m #[Value.ref b] below meth c H locs cells slots Q (F0 m 215 ls []) := by
  have G0 := G
  obtain ⟨hx, hb, hml, hown, hts, hK, hz, htr, hX, hbl, hL0⟩ := G
  have hA : ∀ q, s.heap.size ≤ q → lw_A s q := fun _ h => h
  obtain ⟨mq_tape, obY, obA, obB, mq_kept, mq_sizes, mq_asked, mq_pairs, m_many, m_kept, m_asked, m_pairs, yb, ab, bb, ypl, apl, bpl, yl, yp, al, ap, bl, bp, wY, wA, wB, hL, hH, hYO, hKP, hY, hYA, hYB, rfl⟩ := hM
  have hw1 : lw_w dC dI s H locs ([lw_m obM mq_tape obY obA obB mq_kept mq_sizes mq_asked mq_pairs th (nI L) m_has m_place m_many] ++ (lw_b mq_tape cB 4096 m_tape :: (wY ++ (lw_b mq_kept cB 32768 m_kept :: lw_b mq_sizes cI 8 m_sizes :: lw_b mq_asked cZ 19600 m_asked :: lw_b mq_pairs cI 19600 m_pairs :: (wA ++ (wB ++ T)))))) := hw.p (fun f => by simp only [sr_tot_app, sr_tot]; omega)
  obtain ⟨hP, hD, hS⟩ := hw1
  refine lv_aload_n hx hb dL_215 rfl (lv_at hl 3 rfl) ?_
  have hm : m_X10_place th m_place = some (m_place, 0) := rfl
  refine mr_cI (T := lw_b mq_tape cB 4096 m_tape :: (wY ++ (lw_b mq_kept cB 32768 m_kept :: lw_b mq_sizes cI 8 m_sizes :: lw_b mq_asked cZ 19600 m_asked :: lw_b mq_pairs cI 19600 m_pairs :: (wA ++ (wB ++ T))))) (mc := 0) (ms := 0) (va_runV (g := F0 m 216 ls [.ref obM]) (b := obM) (As := []) (rest := []) ⟨hx, hb, hml, hown, hts⟩ (kX10_place l htr dC dI adK adV cI cB cJ cZ cQ obM mq_tape obY obA obB mq_kept mq_sizes mq_asked mq_pairs th (nI L) m_has m_place m_many _ _ hm) (cwV 0 hts (gL_59 _) rfl rfl rfl (by decide +kernel) ⟨(Nat.le_of_ble_eq_true rfl), (Nat.le_of_ble_eq_true rfl)⟩) ⟨pcW_blind (sr_okZ adK adV), va_recv hK hP (ci := 1) (q0 := 0) rfl rfl, pcW_c (sr_okZ adK adV) hS hA hP hD hK hz.1⟩ rfl rfl hl.1 rfl (lv_room (Nat.le_of_ble_eq_true rfl)) dL_216 ⟨hc, hs⟩) hS hA hP hD (fun r u H locs hru hP hD hS => ?_)
  obtain ⟨e9, rfl⟩ := hru
  rw [e9]
  have hw2 : lw_w dC dI s H locs ([lw_m obM mq_tape obY obA obB mq_kept mq_sizes mq_asked mq_pairs 0 (nI L) m_has m_place m_many] ++ (lw_b mq_tape cB 4096 m_tape :: (wY ++ (lw_b mq_kept cB 32768 m_kept :: lw_b mq_sizes cI 8 m_sizes :: lw_b mq_asked cZ 19600 m_asked :: lw_b mq_pairs cI 19600 m_pairs :: (wA ++ (wB ++ T)))))) := ⟨hP, hD, hS⟩
  exact kk _ 0 H locs ⟨mq_tape, obY, obA, obB, mq_kept, mq_sizes, mq_asked, mq_pairs, m_many, m_kept, m_asked, m_pairs, yb, ab, bb, ypl, apl, bpl, yl, yp, al, ap, bl, bp, wY, wA, wB, hL, hH, hYO, hKP, hY, hYA, hYB, rfl⟩ (hw2.p (fun f => by simp only [sr_tot_app, sr_tot]; omega))
end LWX58
