-- the law: end, the reference
section LWX42
variable {p : Program} {l : Launch} {e : Env} {s : State} {m : MethodId} {below : List Frame} {meth : Method} {c : Code} {H : Heap} {locs : List Loc} {cells slots : Nat} {ls : Array Slot} {Q : State → Prop} {b L0 : Nat} {xs : Nat → Int32} {dC : Nat → ClassId} {dI : Nat → Nat → Nat} {adK adV : Nat → Nat} {cI cB cJ cZ cQ : ClassId} {c0 : Cond} {obX obM oq L j : Nat} {T wX wM : va_W} {of : Nat → Int64} {th : Int32} {t_tape m_tape m_sizes : Nat → Int32} {xh xf xk m_has m_place : Int32} {kf : Nat → Option Nat} {o : Option LSt}
theorem law_c1m {L' : Nat} {k : Int32} (G : lw_cx p l s m c b L0 xs dC dI adK adV cI cB cJ cZ cQ c0) (hj : 6 * j + 6 ≤ L0) (hrel : ((∃ a, a ≤ L ∧ (xs (6 * j + 1)) = nI a ∧ L' = a ∧ k = 0) ∨ ((∀ a, a ≤ L → (xs (6 * j + 1)) ≠ nI a) ∧ L' = L ∧ k = 1))) (hM : lw_MB cI cB cJ cZ obM th L m_tape m_has m_place m_sizes o wM) (hw : lw_w dC dI s H locs (wM ++ T)) (hl : lv_has ls 7 [(4, .int (nI (6 * j))), (0, .ref b), (1, .ref obX), (2, .ref obM), (3, .ref oq)]) (hc : cells + 0 ≤ 601024) (hs : slots + 0 ≤ 7293034)
    (kk : ∀ (wM : va_W) (th : Int32) (H : Heap) (locs : List Loc), th = k → lw_MB cI cB cJ cZ obM th L' m_tape m_has m_place m_sizes o wM → lw_w dC dI s H locs (wM ++ T) → W p l e room_1 s m #[Value.ref b] below meth c H locs cells slots Q (F0 m 194 ls [])) : W p l e room_1 s m #[Value.ref b] below meth c H locs cells slots Q (F0 m 184 ls []) := by
  have G0 := G
  obtain ⟨hx, hb, hml, hown, hts, hK, hz, htr, hX, hbl, hL0⟩ := G
  have hA : ∀ q, s.heap.size ≤ q → lw_A s q := fun _ h => h
  obtain ⟨mq_tape, obY, obA, obB, mq_kept, mq_sizes, mq_asked, mq_pairs, m_many, m_kept, m_asked, m_pairs, yb, ab, bb, ypl, apl, bpl, yl, yp, al, ap, bl, bp, wY, wA, wB, hL, hH, hYO, hKP, hY, hYA, hYB, rfl⟩ := hM
  have hw1 : lw_w dC dI s H locs ([lw_m obM mq_tape obY obA obB mq_kept mq_sizes mq_asked mq_pairs th (nI L) m_has m_place m_many] ++ (lw_b mq_tape cB 4096 m_tape :: (wY ++ (lw_b mq_kept cB 32768 m_kept :: lw_b mq_sizes cI 8 m_sizes :: lw_b mq_asked cZ 19600 m_asked :: lw_b mq_pairs cI 19600 m_pairs :: (wA ++ (wB ++ T)))))) := hw.p (fun f => by simp only [sr_tot_app, sr_tot]; omega)
  obtain ⟨hP, hD, hS⟩ := hw1
  refine lv_aload_n hx hb dL_184 rfl (lv_at hl 3 rfl) ?_
  refine law_ld (pc := 185) (k := 1) G0 hj hS (lv_at hl 0 rfl) (lv_at hl 1 rfl) (by decide) rfl dL_185 dL_186 dL_188 dL_189 dL_190 ?_
  obtain ⟨hL', hm⟩ : L' ≤ 4096 ∧ m_X10_end th (nI L) (xs (6 * j + 1)) = some (k, nI L') := by
    rcases hrel with ⟨a, ha, e, rfl, rfl⟩ | ⟨hn, rfl, rfl⟩
    · refine ⟨by omega, ?_⟩
      rw [e]
      exact men_ok hL ha th
    · exact ⟨hL, men_no hL hn th⟩
  refine mr_cV (T := lw_b mq_tape cB 4096 m_tape :: (wY ++ (lw_b mq_kept cB 32768 m_kept :: lw_b mq_sizes cI 8 m_sizes :: lw_b mq_asked cZ 19600 m_asked :: lw_b mq_pairs cI 19600 m_pairs :: (wA ++ (wB ++ T))))) (mc := 0) (ms := 0) (va_runV (g := F0 m 191 ls [.int (xs (6 * j + 1)), .ref obM]) (b := obM) (As := [.int (xs (6 * j + 1))]) (rest := []) ⟨hx, hb, hml, hown, hts⟩ (kX10_end l htr dC dI adK adV cI cB cJ cZ cQ obM mq_tape obY obA obB mq_kept mq_sizes mq_asked mq_pairs th (nI L) m_has m_place m_many _ (xs (6 * j + 1)) _ hm) (cwV 1 hts (gL_50 _) rfl rfl rfl (by decide +kernel) ⟨(Nat.le_of_ble_eq_true rfl), (Nat.le_of_ble_eq_true rfl)⟩) ⟨pcW_blind (sr_okZ adK adV), va_recv hK hP (ci := 1) (q0 := 0) rfl rfl, pcW_c (sr_okZ adK adV) hS hA hP hD hK hz.1⟩ rfl rfl hl.1 rfl (lv_room (Nat.le_of_ble_eq_true rfl)) dL_191 ⟨hc, hs⟩) hS hA hP hD (fun u H locs hru hP hD hS => ?_)
  subst hru
  have hw2 : lw_w dC dI s H locs ([lw_m obM mq_tape obY obA obB mq_kept mq_sizes mq_asked mq_pairs k (nI L') m_has m_place m_many] ++ (lw_b mq_tape cB 4096 m_tape :: (wY ++ (lw_b mq_kept cB 32768 m_kept :: lw_b mq_sizes cI 8 m_sizes :: lw_b mq_asked cZ 19600 m_asked :: lw_b mq_pairs cI 19600 m_pairs :: (wA ++ (wB ++ T)))))) := ⟨hP, hD, hS⟩
  exact kk _ k H locs rfl ⟨mq_tape, obY, obA, obB, mq_kept, mq_sizes, mq_asked, mq_pairs, m_many, m_kept, m_asked, m_pairs, yb, ab, bb, ypl, apl, bpl, yl, yp, al, ap, bl, bp, wY, wA, wB, hL', hH, hYO, hKP, hY, hYA, hYB, rfl⟩ (hw2.p (fun f => by simp only [sr_tot_app, sr_tot]; omega))
end LWX42
