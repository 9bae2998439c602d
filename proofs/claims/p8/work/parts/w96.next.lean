-- the law's step to the next call
section LAWN
variable {p : Program} {l : Launch} {e : Env} {s : State} {m : MethodId} {args : Array Value} {below : List Frame} {meth : Method} {c : Code} {H : Heap} {locs : List Loc} {cells slots : Nat} {ls : Array Slot} {Q : State → Prop} {R : Room}
theorem law_next {b obX obM oq j : Nat} (hx : p.tables.exec = Jvm.exec) (hb : c.code = code) (hl : lv_has ls 7 [(4, .int (nI (6 * j))), (0, .ref b), (1, .ref obX), (2, .ref obM), (3, .ref oq)])
    (kk : ∀ ls : Array Slot, lv_has ls 7 [(4, .int (nI (6 * (j + 1)))), (0, .ref b), (1, .ref obX), (2, .ref obM), (3, .ref oq)] → W p l e R s m args below meth c H locs cells slots Q (F0 m 23 ls [])) : W p l e R s m args below meth c H locs cells slots Q (F0 m 386 ls []) := by
  refine lv_iinc (v := nI (6 * (j + 1))) (lv' := [(4, .int (nI (6 * (j + 1)))), (0, .ref b), (1, .ref obX), (2, .ref obM), (3, .ref oq)]) hx hb dL_386 hl (k := 0) rfl ?_ (by decide) rfl (fun ls hl => ?_)
  · rw [show Int32.ofInt 6 = nI 6 from rfl, nI_add, show 6 * j + 6 = 6 * (j + 1) by omega]
  · exact lv_goto (tgt := 23) hx hb dL_389 (by decide) (kk ls hl)
end LAWN
