-- the law: keep, the reference
section LWX52
variable {p : Program} {l : Launch} {e : Env} {s : State} {m : MethodId} {below : List Frame} {meth : Method} {c : Code} {H : Heap} {locs : List Loc} {cells slots : Nat} {ls : Array Slot} {Q : State → Prop} {b L0 : Nat} {xs : Nat → Int32} {dC : Nat → ClassId} {dI : Nat → Nat → Nat} {adK adV : Nat → Nat} {cI cB cJ cZ cQ : ClassId} {c0 : Cond} {obX obM oq L j : Nat} {T wX wM : va_W} {of : Nat → Int64} {th : Int32} {t_tape m_tape m_sizes : Nat → Int32} {xh xf xk m_has m_place : Int32} {kf : Nat → Option Nat} {o : Option LSt}
theorem law_c7m {o' : Option LSt} (G : lw_cx p l s m c b L0 xs dC dI adK adV cI cB cJ cZ cQ c0) (hj : 6 * j + 6 ≤ L0) (ho9 : o' = o ∨ o' = none) (hM : lw_MB cI cB cJ cZ obM th L m_tape m_has m_place m_sizes o wM) (hw : lw_w dC dI s H locs (wM ++ T)) (hl : lv_has ls 7 [(4, .int (nI (6 * j))), (0, .ref b), (1, .ref obX), (2, .ref obM), (3, .ref oq)]) (hc : cells + 0 ≤ 601024) (hs : slots + 0 ≤ 7293034)
    (kk : ∀ (wM : va_W) (th : Int32) (r mh9 : Int32) (sz9 : Nat → Int32) (H : Heap) (locs : List Loc), kwM m_has m_sizes (xs (6 * j + 1)) r th mh9 sz9 → lw_MB cI cB cJ cZ obM th L m_tape mh9 m_place sz9 o' wM → lw_w dC dI s H locs (wM ++ T) → W p l e room_1 s m #[Value.ref b] below meth c H locs cells slots Q (F0 m 328 ls [.int r])) : W p l e room_1 s m #[Value.ref b] below meth c H locs cells slots Q (F0 m 318 ls []) := by
  have G0 := G
  obtain ⟨hx, hb, hml, hown, hts, hK, hz, htr, hX, hbl, hL0⟩ := G
  have hA : ∀ q, s.heap.size ≤ q → lw_A s q := fun _ h => h
  obtain ⟨mq_tape, obY, obA, obB, mq_kept, mq_sizes, mq_asked, mq_pairs, m_many, m_kept, m_asked, m_pairs, yb, ab, bb, ypl, apl, bpl, yl, yp, al, ap, bl, bp, wY, wA, wB, hL, hH, hYO, hKP, hY, hYA, hYB, rfl⟩ := hM
  obtain ⟨yq_bytes, yq_kinds, yq_firsts, yq_numbers, yq_sizes, yq_inner, yq_nexts, yq_letters, yq_sorts, yq_names, yq_wide, yq_kids, yq_many, yq_fallback, yq_kidShape, yq_kidName, yq_kidDefault, yq_kidNext, yq_finished, yq_plain, yq_told, y_at, y_deep, y_fault, y_place, y_end, y_nodes, y_lettered, y_shapes, y_looked, y_kidCount, y_done, y_root, r0, hcut⟩ := hY.cut
  have hw1 : lw_w dC dI s H locs ([lw_m obM mq_tape obY obA obB mq_kept mq_sizes mq_asked mq_pairs th (nI L) m_has m_place m_many, lw_b mq_kept cB 32768 m_kept, lw_b mq_sizes cI 8 m_sizes, lw_y obY yq_bytes yq_kinds yq_firsts yq_numbers yq_sizes yq_inner yq_nexts yq_letters yq_sorts yq_names yq_wide yq_kids yq_many yq_fallback yq_kidShape yq_kidName yq_kidDefault yq_kidNext yq_finished yq_plain yq_told yl y_at y_deep y_fault y_place y_end y_nodes y_lettered y_shapes y_looked y_kidCount y_done y_root yp, lw_b yq_bytes cB 4096 yb] ++ (lw_b mq_tape cB 4096 m_tape :: lw_b yq_plain cB 4200 ypl :: (r0 ++ (lw_b mq_asked cZ 19600 m_asked :: lw_b mq_pairs cI 19600 m_pairs :: (wA ++ (wB ++ T)))))) := hw.p (fun f => by simp only [sr_tot_app, sr_tot, hcut f]; omega)
  obtain ⟨hP, hD, hS⟩ := hw1
  refine lv_aload_n hx hb dL_318 rfl (lv_at hl 3 rfl) ?_
  refine law_ld (pc := 319) (k := 1) G0 hj hS (lv_at hl 0 rfl) (lv_at hl 1 rfl) (by decide) rfl dL_319 dL_320 dL_322 dL_323 dL_324 ?_
  obtain ⟨⟨q0, q1, q2, q3, q4⟩, hm, hk', hh'⟩ : SP (m_X10_keep th m_has m_kept m_sizes yb yl (xs (6 * j + 1))) (fun r => KP r.2.2.2.1 r.2.2.2.2 ∧ (r.2.2.1 = m_has ∨ r.2.2.1 = 0)) := mke_sp hH hKP th (xs (6 * j + 1))
  have hYO' : YO o' yb yl ypl yp := by
    rcases ho9 with e | e
    · rw [e]; exact hYO
    · rw [e]; exact fun st h => (nomatch h)
  have hH' : HP q2 yb yl yp := by
    rcases hh' with e | e
    · have e2 : q2 = m_has := e
      rw [e2]
      exact hH
    · exact Or.inl e
  have hkw : kwM m_has m_sizes (xs (6 * j + 1)) q0 q1 q2 q4 := by
    obtain ⟨z9, hz9, hw9⟩ := mke_w (kept := m_kept) (sizes := m_sizes) hH th (xs (6 * j + 1))
    have e9 := Option.some.inj (hm.symm.trans hz9)
    subst e9
    exact hw9
  refine mr_cI (T := lw_b mq_tape cB 4096 m_tape :: lw_b yq_plain cB 4200 ypl :: (r0 ++ (lw_b mq_asked cZ 19600 m_asked :: lw_b mq_pairs cI 19600 m_pairs :: (wA ++ (wB ++ T))))) (mc := 0) (ms := 0) (va_runV (g := F0 m 325 ls [.int (xs (6 * j + 1)), .ref obM]) (b := obM) (As := [.int (xs (6 * j + 1))]) (rest := []) ⟨hx, hb, hml, hown, hts⟩ (kX10_keep l htr dC dI adK adV cI cB cJ cZ cQ obM mq_tape obY obA obB mq_kept mq_sizes mq_asked mq_pairs yq_bytes yq_kinds yq_firsts yq_numbers yq_sizes yq_inner yq_nexts yq_letters yq_sorts yq_names yq_wide yq_kids yq_many yq_fallback yq_kidShape yq_kidName yq_kidDefault yq_kidNext yq_finished yq_plain yq_told th (nI L) m_has m_place m_many yl y_at y_deep y_fault y_place y_end y_nodes y_lettered y_shapes y_looked y_kidCount y_done y_root yp m_kept m_sizes yb _ (xs (6 * j + 1)) _ hm) (cwV 1 hts (gL_78 _) rfl rfl rfl (by decide +kernel) ⟨(Nat.le_of_ble_eq_true rfl), (Nat.le_of_ble_eq_true rfl)⟩) ⟨pcW_blind (sr_okZ adK adV), va_recv hK hP (ci := 1) (q0 := 0) rfl rfl, pcW_c (sr_okZ adK adV) hS hA hP hD hK hz.1⟩ rfl rfl hl.1 rfl (lv_room (Nat.le_of_ble_eq_true rfl)) dL_325 ⟨hc, hs⟩) hS hA hP hD (fun r u H locs hru hP hD hS => ?_)
  obtain ⟨rfl, rfl⟩ := hru
  have hw2 : lw_w dC dI s H locs ([lw_m obM mq_tape obY obA obB mq_kept mq_sizes mq_asked mq_pairs q1 (nI L) q2 m_place m_many, lw_b mq_kept cB 32768 q3, lw_b mq_sizes cI 8 q4, lw_y obY yq_bytes yq_kinds yq_firsts yq_numbers yq_sizes yq_inner yq_nexts yq_letters yq_sorts yq_names yq_wide yq_kids yq_many yq_fallback yq_kidShape yq_kidName yq_kidDefault yq_kidNext yq_finished yq_plain yq_told yl y_at y_deep y_fault y_place y_end y_nodes y_lettered y_shapes y_looked y_kidCount y_done y_root yp, lw_b yq_bytes cB 4096 yb] ++ (lw_b mq_tape cB 4096 m_tape :: lw_b yq_plain cB 4200 ypl :: (r0 ++ (lw_b mq_asked cZ 19600 m_asked :: lw_b mq_pairs cI 19600 m_pairs :: (wA ++ (wB ++ T)))))) := ⟨hP, hD, hS⟩
  exact kk _ q1 _ q2 q4 H locs hkw ⟨mq_tape, obY, obA, obB, mq_kept, mq_sizes, mq_asked, mq_pairs, m_many, q3, m_asked, m_pairs, yb, ab, bb, ypl, apl, bpl, yl, yp, al, ap, bl, bp, wY, wA, wB, hL, hH', hYO', hk', hY, hYA, hYB, rfl⟩ (hw2.p (fun f => by simp only [sr_tot_app, sr_tot, hcut f]; omega))
end LWX52
