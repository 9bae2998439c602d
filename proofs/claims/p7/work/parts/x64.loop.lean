-- the law: its loop
section LWX64
variable {p : Program} {l : Launch} {e : Env} {s : State} {m : MethodId} {below : List Frame} {meth : Method} {c : Code} {H : Heap} {locs : List Loc} {cells slots : Nat} {ls : Array Slot} {Q : State → Prop} {b L0 : Nat} {xs : Nat → Int32} {dC : Nat → ClassId} {dI : Nat → Nat → Nat} {adK adV : Nat → Nat} {cI cB cJ cZ cQ : ClassId} {c0 : Cond} {obX obM oq L j : Nat} {T wX wM : va_W} {of : Nat → Int64} {th : Int32} {t_tape m_tape m_sizes : Nat → Int32} {xh xf xk m_has m_place : Int32} {kf : Nat → Option Nat} {o : Option LSt}
theorem law_loop (hr : meth.sig.returnType = ret) (hlocks : meth.locks = false) (G : lw_cx p l s m c b L0 xs dC dI adK adV cI cB cJ cZ cQ c0) (n : Nat) : ∀ (j : Nat) (ls : Array Slot) (H : Heap) (locs : List Loc) (cells slots : Nat), L0 - 6 * j ≤ n → 6 * j ≤ L0 → lw_I dC dI s cI cB cJ cZ cQ obX obM oq j H locs cells slots → lv_has ls 7 [(4, .int (nI (6 * j))), (0, .ref b), (1, .ref obX), (2, .ref obM), (3, .ref oq)] → W p l e room_1 s m #[Value.ref b] below meth c H locs cells slots (lw_Z below #[Value.ref b] s) (F0 m 23 ls []) := by
  have G0 := G
  obtain ⟨hx, hb, hml, hown, hts, hK, hz, htr, hX, hbl, hL0⟩ := G
  induction n with
  | zero =>
    intro j ls H locs cells slots hn hj hI hl
    obtain ⟨of, th, L, wX, wM, t_tape, m_tape, m_sizes, xh, xf, xk, m_has, m_place, kf, o, hC, hM, hw, hc, hs, hR, hHH, hO⟩ := hI
    refine law_head hx hb hL0 hj hX hbl hw.2.2 hl (law_out hx hb hr hlocks (by omega) (by omega) hw.2.2.2.2) (fun h => ?_)
    exfalso
    omega
  | succ n ih =>
    intro j ls H locs cells slots hn hj hI hl
    have hI0 := hI
    obtain ⟨of, th, L, wX, wM, t_tape, m_tape, m_sizes, xh, xf, xk, m_has, m_place, kf, o, hC, hM, hw, hc, hs, hR, hHH, hO⟩ := hI
    refine law_head hx hb hL0 hj hX hbl hw.2.2 hl (law_out hx hb hr hlocks (by omega) (by omega) hw.2.2.2.2) (fun h => ?_)
    have kk : ∀ (ls : Array Slot) (H : Heap) (locs : List Loc) (cells slots : Nat), lv_has ls 7 [(4, .int (nI (6 * j))), (0, .ref b), (1, .ref obX), (2, .ref obM), (3, .ref oq)] → lw_I dC dI s cI cB cJ cZ cQ obX obM oq (j + 1) H locs cells slots → W p l e room_1 s m #[Value.ref b] below meth c H locs cells slots (lw_Z below #[Value.ref b] s) (F0 m 413 ls []) := fun ls H locs cells slots hl hI => law_next hx hb hl (fun ls hl => ih (j + 1) ls H locs cells slots (by omega) (by omega) hI hl)
    have hI1 : lw_I dC dI s cI cB cJ cZ cQ obX obM oq (j + 1) H locs cells slots := ⟨of, th, L, wX, wM, t_tape, m_tape, m_sizes, xh, xf, xk, m_has, m_place, kf, o, hC, hM, hw, by omega, by omega, hR, hHH, hO⟩
    exact law_switch hx hb _ (law_k0 G0 h hI0 hl kk) (law_k1 G0 h hI0 hl kk) (law_k2 G0 h hI0 hl kk) (law_k3 G0 h hI0 hl kk) (law_k4 G0 h hI0 hl kk) (law_k5 G0 h hI0 hl kk) (law_k6 G0 h hI0 hl kk) (law_k7 G0 h hI0 hl kk) (law_k8 G0 h hI0 hl kk) (law_k9 G0 h hI0 hl kk) (kk ls H locs cells slots hl hI1)
end LWX64
