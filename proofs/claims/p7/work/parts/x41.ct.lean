-- the law: thrown
section LWX41
variable {p : Program} {l : Launch} {e : Env} {s : State} {m : MethodId} {below : List Frame} {meth : Method} {c : Code} {H : Heap} {locs : List Loc} {cells slots : Nat} {ls : Array Slot} {Q : State → Prop} {b L0 : Nat} {xs : Nat → Int32} {dC : Nat → ClassId} {dI : Nat → Nat → Nat} {adK adV : Nat → Nat} {cI cB cJ cZ cQ : ClassId} {c0 : Cond} {obX obM oq L j : Nat} {T wX wM : va_W} {of : Nat → Int64} {th : Int32} {t_tape m_tape m_sizes : Nat → Int32} {xh xf xk m_has m_place : Int32} {kf : Nat → Option Nat} {o : Option LSt}
theorem law_ct (G : lw_cx p l s m c b L0 xs dC dI adK adV cI cB cJ cZ cQ c0) (hj : 6 * j + 6 ≤ L0) (hM : lw_MB cI cB cJ cZ obM th L m_tape m_has m_place m_sizes o wM) (hw : lw_w dC dI s H locs (wM ++ T)) (hl : lv_has ls 7 [(4, .int (nI (6 * j))), (0, .ref b), (1, .ref obX), (2, .ref obM), (3, .ref oq)]) (hc : cells + 0 ≤ 601024) (hs : slots + 0 ≤ 7293034)
    (kk : W p l e room_1 s m #[Value.ref b] below meth c H locs cells slots Q (F0 m 265 ls [.int th])) : W p l e room_1 s m #[Value.ref b] below meth c H locs cells slots Q (F0 m 261 ls []) := by
  have G0 := G
  obtain ⟨hx, hb, hml, hown, hts, hK, hz, htr, hX, hbl, hL0⟩ := G
  have hA : ∀ q, s.heap.size ≤ q → lw_A s q := fun _ h => h
  obtain ⟨mq_tape, obY, obA, obB, mq_kept, mq_sizes, mq_asked, mq_pairs, m_many, m_kept, m_asked, m_pairs, yb, ab, bb, ypl, apl, bpl, yl, yp, al, ap, bl, bp, wY, wA, wB, hL, hH, hYO, hKP, hY, hYA, hYB, rfl⟩ := hM
  have hw1 : lw_w dC dI s H locs ([lw_m obM mq_tape obY obA obB mq_kept mq_sizes mq_asked mq_pairs th (nI L) m_has m_place m_many] ++ (lw_b mq_tape cB 4096 m_tape :: (wY ++ (lw_b mq_kept cB 32768 m_kept :: lw_b mq_sizes cI 8 m_sizes :: lw_b mq_asked cZ 19600 m_asked :: lw_b mq_pairs cI 19600 m_pairs :: (wA ++ (wB ++ T)))))) := hw.p (fun f => by simp only [sr_tot_app, sr_tot]; omega)
  refine lv_aload_n hx hb dL_261 rfl (lv_at hl 3 rfl) ?_
  have hm : m_X10_thrown th = some th := rfl
  refine mr_pV (As := []) (rest := []) (sr_okZ adK adV) ⟨hx, hb, hml, hown, hts⟩ (kX10_thrown l htr dC dI adK adV cI cB cJ cZ cQ obM mq_tape obY obA obB mq_kept mq_sizes mq_asked mq_pairs th (nI L) m_has m_place m_many th hm) (cwV 0 hts (gL_68 _) rfl rfl rfl (by decide +kernel) ⟨(Nat.le_of_ble_eq_true rfl), (Nat.le_of_ble_eq_true rfl)⟩) hw1.2.2 hw1.1 hK hz.1 [0] rfl (va_recv hK hw1.1 (ci := 1) (q0 := 0) rfl rfl) rfl rfl hl.1 (Nat.le_of_ble_eq_true rfl) dL_262 ⟨hc, hs⟩ ?_
  exact kk
end LWX41
