-- the law: feed, both sides and what is compared
section LWX62
variable {p : Program} {l : Launch} {e : Env} {s : State} {m : MethodId} {below : List Frame} {meth : Method} {c : Code} {H : Heap} {locs : List Loc} {cells slots : Nat} {ls : Array Slot} {Q : State → Prop} {b L0 : Nat} {xs : Nat → Int32} {dC : Nat → ClassId} {dI : Nat → Nat → Nat} {adK adV : Nat → Nat} {cI cB cJ cZ cQ : ClassId} {c0 : Cond} {obX obM oq L j : Nat} {T wX wM : va_W} {of : Nat → Int64} {th : Int32} {t_tape m_tape m_sizes : Nat → Int32} {xh xf xk m_has m_place : Int32} {kf : Nat → Option Nat} {o : Option LSt} {kst : Nat → Option LSt}
theorem law_k0 (G : lw_cx p l s m c b L0 xs dC dI adK adV cI cB cJ cZ cQ c0) (hj : 6 * j + 6 ≤ L0) (hI : lw_I dC dI s cI cB cJ cZ cQ obX obM oq j H locs cells slots) (hl : lv_has ls 7 [(4, .int (nI (6 * j))), (0, .ref b), (1, .ref obX), (2, .ref obM), (3, .ref oq)])
    (kk : ∀ (ls : Array Slot) (H : Heap) (locs : List Loc) (cells slots : Nat), lv_has ls 7 [(4, .int (nI (6 * j))), (0, .ref b), (1, .ref obX), (2, .ref obM), (3, .ref oq)] → lw_I dC dI s cI cB cJ cZ cQ obX obM oq (j + 1) H locs cells slots → W p l e room_1 s m #[Value.ref b] below meth c H locs cells slots Q (F0 m 420 ls [])) : W p l e room_1 s m #[Value.ref b] below meth c H locs cells slots Q (F0 m 96 ls []) := by
  have G0 := G
  obtain ⟨hx, hb, -, -, -, hK, -, -, -, -, hL0⟩ := G
  obtain ⟨of, th, L, wX, wM, t_tape, m_tape, m_sizes, xh, xf, xk, m_has, m_place, kf, o, kst, hC, hM, hw, hc, hs, hR, hHH, hO, hKF⟩ := hI
  refine law_c0x G0 hj hC hw hl (by omega) (by omega) (fun wX of' L' k tp H locs hrel hC hw => ?_)
  refine lv_istore (lv' := (5, .int k) :: [(4, .int (nI (6 * j))), (0, .ref b), (1, .ref obX), (2, .ref obM), (3, .ref oq)]) hx hb dL_131 hl (by decide) rfl (fun ls hl => ?_)
  have hl : lv_has ls 7 [(4, .int (nI (6 * j))), (0, .ref b), (1, .ref obX), (2, .ref obM), (3, .ref oq)] := lv_sub hl [1, 2, 3, 4, 5] rfl
  refine law_c0m G0 hj hM hw.sw hl (by omega) (by omega) (fun wM th L2 v tp2 H locs hrm hM hw => ?_)
  refine lv_istore (lv' := (6, .int v) :: [(4, .int (nI (6 * j))), (0, .ref b), (1, .ref obX), (2, .ref obM), (3, .ref oq)]) hx hb dL_167 hl (by decide) rfl (fun ls hl => ?_)
  have hl : lv_has ls 7 [(4, .int (nI (6 * j))), (0, .ref b), (1, .ref obX), (2, .ref obM), (3, .ref oq)] := lv_sub hl [1, 2, 3, 4, 5] rfl
  obtain ⟨e2, hR⟩ : L2 = L' ∧ lw_R L' tp xf tp2 m_place := by
    rcases hrel with ⟨rfl, rfl, h1, h2, rfl⟩ | ⟨rfl, rfl, h2, rfl⟩
    · rcases hrm with ⟨rfl, rfl, rfl, h3, rfl⟩ | ⟨rfl, rfl, h3, rfl⟩
      · exact ⟨rfl, hR.feed⟩
      · exact absurd h2 h3
    · rcases hrm with ⟨rfl, rfl, rfl, h3, rfl⟩ | ⟨rfl, rfl, h3, rfl⟩
      · exact absurd h3 h2
      · exact ⟨rfl, hR⟩
  subst e2
  refine lv_goto (tgt := 420) hx hb dL_169 (by decide) ?_
  exact kk ls H locs _ _ hl ⟨of', th, L2, wX, wM, _, _, _, _, _, _, _, _, _, _, _, hC, hM, hw.sw, by omega, by omega, hR, hHH, hO, hKF⟩
end LWX62
