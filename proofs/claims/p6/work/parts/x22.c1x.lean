-- the law: end, the class
section LWX22
variable {p : Program} {l : Launch} {e : Env} {s : State} {m : MethodId} {below : List Frame} {meth : Method} {c : Code} {H : Heap} {locs : List Loc} {cells slots : Nat} {ls : Array Slot} {Q : State → Prop} {b L0 : Nat} {xs : Nat → Int32} {dC : Nat → ClassId} {dI : Nat → Nat → Nat} {adK adV : Nat → Nat} {cI cB cJ cZ cQ : ClassId} {c0 : Cond} {obX obM oq L j : Nat} {T wX wM : va_W} {of : Nat → Int64} {th : Int32} {t_tape m_tape m_sizes : Nat → Int32} {xh xf xk m_has m_place : Int32} {kf : Nat → Option Nat} {o : Option LSt}
theorem law_c1x (G : lw_cx p l s m c b L0 xs dC dI adK adV cI cB cJ cZ cQ c0) (hj : 6 * j + 6 ≤ L0) (hC : lw_CB cI cB cJ cZ cQ obX oq of L t_tape xh xf xk kf o wX) (hw : lw_w dC dI s H locs (wX ++ T)) (hl : lv_has ls 7 [(4, .int (nI (6 * j))), (0, .ref b), (1, .ref obX), (2, .ref obM), (3, .ref oq)]) (hc : cells + 1 ≤ 601024) (hs : slots + 6 ≤ 7293034)
    (kk : ∀ (wX : va_W) (L' : Nat) (k : Int32) (H : Heap) (locs : List Loc), ((∃ a, a ≤ L ∧ (xs (6 * j + 1)) = nI a ∧ L' = a ∧ k = 0) ∨ ((∀ a, a ≤ L → (xs (6 * j + 1)) ≠ nI a) ∧ L' = L ∧ k = 1)) → lw_CB cI cB cJ cZ cQ obX oq of L' t_tape xh xf xk kf o wX → lw_w dC dI s H locs (wX ++ T) → W p l e room_1 s m #[Value.ref b] below meth c H locs (cells + 1) (slots + 6) Q (F0 m 182 ls [.int k])) : W p l e room_1 s m #[Value.ref b] below meth c H locs cells slots Q (F0 m 172 ls []) := by
  have G0 := G
  obtain ⟨hx, hb, hml, hown, hts, hK, hz, htr, hX, hbl, hL0⟩ := G
  have hA : ∀ q, s.heap.size ≤ q → lw_A s q := fun _ h => h
  obtain ⟨obT, obD, obC, obK, kq, pq, obS, ps, wT, wS, wD, wK, wC, ks, hTB, hSB, hDB, hKB, hCB, hks, hps, rfl⟩ := hC
  obtain ⟨hL, tq_tape, tq_said, tq_inner, tq_next, tq_amount, t_wrongPlace, r0, rfl, hcl⟩ := hTB.cut
  have hw1 : lw_w dC dI s H locs ([lw_x obX obT obD obC kq pq obS xh xf xk, lw_t obT tq_tape tq_said tq_inner tq_next tq_amount obK (nI L) t_wrongPlace] ++ (lw_b tq_tape cB 4096 t_tape :: (r0 ++ (wS ++ (wD ++ (wK ++ (lw_k kq cQ kf :: lw_p pq cJ ps :: lw_o oq cJ of :: (wC ++ (lw_fl ks ++ T))))))))) := hw.p (fun f => by simp only [sr_tot_app, sr_tot]; omega)
  obtain ⟨hP, hD, hS⟩ := hw1
  refine lv_aload_n hx hb dL_172 rfl (lv_at hl 2 rfl) ?_
  refine law_ld (pc := 173) (k := 1) G0 hj hS (lv_at hl 0 rfl) (lv_at hl 1 rfl) (by decide) rfl dL_173 dL_174 dL_176 dL_177 dL_178 ?_
  obtain ⟨k, L', hL', hrel, hm⟩ : ∃ (k : Int32) (L' : Nat), L' ≤ 4096 ∧ ((∃ a, a ≤ L ∧ (xs (6 * j + 1)) = nI a ∧ L' = a ∧ k = 0) ∨ ((∀ a, a ≤ L → (xs (6 * j + 1)) ≠ nI a) ∧ L' = L ∧ k = 1)) ∧ m_X12_end (nI L) (xs (6 * j + 1)) = some (k, nI L') := by
    by_cases h : ∃ a, a ≤ L ∧ (xs (6 * j + 1)) = nI a
    · obtain ⟨a, ha, e⟩ := h
      refine ⟨0, a, by omega, Or.inl ⟨a, ha, e, rfl, rfl⟩, ?_⟩
      unfold m_X12_end
      rw [e, cen_ok hL ha]
      rfl
    · refine ⟨1, L, hL, Or.inr ⟨fun a ha e => h ⟨a, ha, e⟩, rfl, rfl⟩, ?_⟩
      unfold m_X12_end
      rw [cen_no hL (fun a ha e => h ⟨a, ha, e⟩)]
      rfl
  refine mr_cI (T := lw_b tq_tape cB 4096 t_tape :: (r0 ++ (wS ++ (wD ++ (wK ++ (lw_k kq cQ kf :: lw_p pq cJ ps :: lw_o oq cJ of :: (wC ++ (lw_fl ks ++ T)))))))) (mc := 1) (ms := 6) (sr_runSW (g := F0 m 179 ls [.int (xs (6 * j + 1)), .ref obX]) (As := [.ref obX, .int (xs (6 * j + 1))]) (rest := []) ⟨hx, hb, hml, hown, hts⟩ (kX12_end l htr dC dI adK adV cI cB cJ cZ cQ obX obT obD obC kq pq obS tq_tape tq_said tq_inner tq_next tq_amount obK xh xf xk (nI L) t_wrongPlace _ (xs (6 * j + 1)) _ hm) (sr_cbS 2 hts rfl gwL_47 rfl rfl (by decide +kernel) ⟨(Nat.le_of_ble_eq_true rfl), (Nat.le_of_ble_eq_true rfl)⟩) ⟨pcW_blind (sr_okZ adK adV), pcW_c (sr_okZ adK adV) hS hA hP hD hK hz.1⟩ rfl rfl hl.1 rfl (lv_room (Nat.le_of_ble_eq_true rfl)) dL_179 ⟨hc, hs⟩) hS hA hP hD (fun r u H locs hru hP hD hS => ?_)
  obtain ⟨rfl, rfl⟩ := hru
  have hw2 : lw_w dC dI s H locs ([lw_x obX obT obD obC kq pq obS xh xf xk, lw_t obT tq_tape tq_said tq_inner tq_next tq_amount obK (nI L') t_wrongPlace] ++ (lw_b tq_tape cB 4096 t_tape :: (r0 ++ (wS ++ (wD ++ (wK ++ (lw_k kq cQ kf :: lw_p pq cJ ps :: lw_o oq cJ of :: (wC ++ (lw_fl ks ++ T))))))))) := ⟨hP, hD, hS⟩
  exact kk _ L' _ H locs hrel ⟨obT, obD, obC, obK, kq, pq, obS, ps, _, wS, wD, wK, wC, ks, hcl L' t_tape hL', hSB, hDB, hKB, hCB, hks, hps, rfl⟩ (hw2.p (fun f => by simp only [sr_tot_app, sr_tot]; omega))
end LWX22
