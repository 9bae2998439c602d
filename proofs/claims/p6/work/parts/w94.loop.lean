-- the law's loop: its head, its end
theorem nI_sub6 {L i : Nat} (hL : L ≤ 3072) (hi : i ≤ 3072) : (Int32.ofNat L - 6 < nI i ↔ L < i + 6) := by
  by_cases h : 6 ≤ L
  · obtain ⟨k, rfl⟩ : ∃ k, L = k + 6 := ⟨L - 6, by omega⟩
    have e : Int32.ofNat (k + 6) - 6 = nI k := by
      rw [show Int32.ofNat (k + 6) = nI k + 6 from (nI_add k 6).symm]
      exact Int32.add_sub_cancel _ _
    rw [e]
    constructor
    · intro q
      apply Nat.lt_of_not_le
      intro z
      exact absurd q (Int32.not_lt.mpr (nI_le (show i ≤ k by omega) (by omega)))
    · intro q
      exact nI_lt (show k < i by omega) (by omega)
  · have h6 : ∀ n, n < 6 → Int32.ofNat n - 6 < 0 := by decide +kernel
    exact ⟨fun _ => by omega, fun _ => Int32.lt_of_lt_of_le (h6 L (by omega)) (nI_pos' (by omega))⟩
section LAWL
variable {p : Program} {l : Launch} {e : Env} {s : State} {m : MethodId} {below : List Frame} {meth : Method} {c : Code} {H : Heap} {locs : List Loc} {cells slots : Nat} {ls : Array Slot} {b L : Nat} {xs : Nat → Int32}
theorem law_out (hx : p.tables.exec = Jvm.exec) (hb : c.code = code) (hr : meth.sig.returnType = ret) (hlocks : meth.locks = false) (hc : cells ≤ 601024) (hs : slots ≤ 7293034) (hf : ∀ q ∈ locs, s.heap.size ≤ q.base) : W p l e room_1 s m #[Value.ref b] below meth c H locs cells slots (lw_Z below #[Value.ref b] s) (F0 m 391 ls []) := by
  refine lv_iconst (v := 1) hx hb dL_391 (by decide) ?_
  exact va_forget hf (W.widen hc hs (lw_ret hx hb hr hlocks dL_392))
theorem law_head {Q : State → Prop} {R : Room} {obX obM oq j : Nat} (hx : p.tables.exec = Jvm.exec) (hb : c.code = code) (hL : L ≤ 3072) (hj : 6 * j ≤ L) (hX : va_X b L xs s s.heap) (hbl : b < s.heap.size) (hS : va_S (fun q => s.heap.size ≤ q) s.heap H locs) (hl : lv_has ls 7 [(4, .int (nI (6 * j))), (0, .ref b), (1, .ref obX), (2, .ref obM), (3, .ref oq)])
    (kout : W p l e R s m #[Value.ref b] below meth c H locs cells slots Q (F0 m 391 ls [])) (kin : 6 * j + 6 ≤ L → W p l e R s m #[Value.ref b] below meth c H locs cells slots Q (F0 m 40 ls [.int (xs (6 * j) &&& 15)])) : W p l e R s m #[Value.ref b] below meth c H locs cells slots Q (F0 m 23 ls []) := by
  have hbA : ¬ s.heap.size ≤ b := by omega
  refine lv_iload hx hb dL_23 (lv_at hl 0 rfl) ?_
  refine lv_aload_n hx hb dL_25 rfl (lv_at hl 1 rfl) ?_
  refine va_slen hx hb hX hbl hbA hS dL_26 ?_
  refine lv_bipush (v := 6) hx hb dL_27 (by decide) ?_
  refine lv_isub hx hb dL_29 ?_
  refine lv_icmp_gt (tgt := 391) hx hb dL_30 (by decide) (fun _ => kout) (fun h => ?_)
  have hin : 6 * j + 6 ≤ L := Nat.le_of_not_lt (fun q => h ((nI_sub6 hL (by omega)).mpr q))
  refine lv_aload_n hx hb dL_33 rfl (lv_at hl 1 rfl) ?_
  refine lv_iload hx hb dL_34 (lv_at hl 0 rfl) ?_
  refine va_sld hx hb hX hbl hbA hS (show vp_in (nI (6 * j)) L from nI_in (by omega) (by omega)) dL_36 ?_
  rw [nI_clamp (show 6 * j < 2 ^ 31 by omega)]
  refine lv_bipush (v := 15) hx hb dL_37 (by decide) ?_
  refine lv_iand hx hb dL_39 ?_
  exact kin hin
end LAWL
