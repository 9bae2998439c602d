def sr_byteAt (len : Int32) (ft : Nat → Int32) (p : Int32) : Int32 := if p < 0 then -1 else if len ≤ p then -1 else ft p.toNatClampNeg &&& 255
theorem sr_vin {p len : Int32} {n : Nat} (h0 : ¬ p < 0) (h1 : ¬ len ≤ p) (hl : len ≤ nI n) (hn : n < 2 ^ 31) : vp_in p n := by
  refine vp_in_iff.mpr ⟨?_, ?_⟩
  · have := h0; rw [Int32.lt_iff_toInt_lt] at this; simpa using this
  · have h2 := nI_toInt hn
    rw [Int32.le_iff_toInt_le] at h1 hl
    rw [h2] at hl
    omega
set_option maxHeartbeats 4000000 in
set_option maxRecDepth 100000 in
theorem kX7_byteAt (l : Launch) (dC : Nat → ClassId) (dI : Nat → Nat → Nat) (h0 q0 q1 q2 q3 q4 q5 : Nat) (len wp : Int32) (ft : Nat → Int32) (cB : ClassId) (jp : Int32) (hlen : len ≤ nI 4096) : Met l yX7_byteAt wsX7_byteAt ({ frames := 0, cells := 0, slots := 0, locals := 0 }) (va_Pc [.ref h0, .int jp] (fun U => va_P (dC, dI) vwCl [(h0, .inr (3, [.ref q0, .ref q1, .ref q2, .ref q3, .ref q4, .ref q5, .int len, .int wp])), (q0, .inl (cB, 4096, .inl ft))] U.heap ∧ va_K (dC, dI) vwCl [(cB, .byte)] U)) (k2_QcV (.int (sr_byteAt len ft jp))) 0 0 (fun _ => False) := by
  refine Met.ofW (cc := cX7_byteAt) (maxL := 2) (ret := some .int) (by decide) rfl ?_
  intro p e s m args below meth c s₁ B hml hv
  obtain ⟨rfl, hP, hK⟩ := hv
  have hx := B.exec
  have hb := B.bytes
  have hr := B.returns
  have hts := atoms_spec (ws := wsX7_byteAt) B.pre
  have hown : s.vm.findClass RX7 = some m.cls := findClass_of_methodNamed B.named
  have hlocks := B.notSynchronized
  have hl := lv_entry [.ref h0, .int jp] (n := 2) (Nat.le_of_ble_eq_true rfl)
  rw [lg_entry_eq]
  generalize (lg_sl [.ref h0, .int jp] ++ List.replicate (2 - (lg_sl [.ref h0, .int jp]).length) Slot.unset).toArray = ls at hl ⊢
  have hl : lv_has ls 2 [(0, .ref h0), (1, .int jp)] := hl
  refine lv_iload_n hx hb dX7_byteAt_0 rfl (lv_at hl 1 rfl) ?_
  refine lv_if_lt (tgt := 25) hx hb dX7_byteAt_1 (by decide) (fun c1 => ?_) (fun c1 => ?_)
  · refine lv_iconst (v := -1) hx hb dX7_byteAt_25 (by decide) ?_
    exact W.iret (v := (-1)) hx hb hr (fun t ht hW => ⟨by simp [sr_byteAt, c1], ht⟩) (fun q h => by cases h) dX7_byteAt_26
  · refine lv_iload_n hx hb dX7_byteAt_4 rfl (lv_at hl 1 rfl) ?_
    refine lv_aload_n hx hb dX7_byteAt_5 rfl (lv_at hl 0 rfl) ?_
    refine va_get (D := (dC, dI)) (ci := 3) (v := .int len) (C := RX7) (T := TX7) (N := 8) hx hb hts (by decide +kernel) hown hK hP 0 rfl rfl 6 (by decide) (hts (.fieldLink RX7 35 "SchemaReader$Text" "length" "I") (by decide +kernel)) (fun _ h9 => h9) rfl dX7_byteAt_6 ?_
    refine lv_icmp_ge (tgt := 25) hx hb dX7_byteAt_9 (by decide) (fun c2 => ?_) (fun c2 => ?_)
    · refine lv_iconst (v := -1) hx hb dX7_byteAt_25 (by decide) ?_
      exact W.iret (v := (-1)) hx hb hr (fun t ht hW => ⟨by simp [sr_byteAt, c1, c2], ht⟩) (fun q h => by cases h) dX7_byteAt_26
    · refine lv_aload_n hx hb dX7_byteAt_12 rfl (lv_at hl 0 rfl) ?_
      refine va_get (D := (dC, dI)) (ci := 3) (v := .ref q0) (C := RX7) (T := TX7) (N := 8) hx hb hts (by decide +kernel) hown hK hP 0 rfl rfl 0 (by decide) (hts (.fieldLink RX7 9 "SchemaReader$Text" "tape" "[B") (by decide +kernel)) (fun _ h9 => h9) rfl dX7_byteAt_13 ?_
      refine lv_iload_n hx hb dX7_byteAt_16 rfl (lv_at hl 1 rfl) ?_
      refine va_bald hx hb hK hP 1 0 rfl rfl (sr_vin c1 c2 hlen (by decide)) dX7_byteAt_17 ?_
      refine lv_topi (fun x3 ex3 => ?_)
      refine lv_sipush (v := 255) hx hb dX7_byteAt_18 (by decide) ?_
      refine lv_iand hx hb dX7_byteAt_21 ?_
      refine lv_topi (fun x4 ex4 => ?_)
      refine lv_goto (tgt := 26) hx hb dX7_byteAt_22 (by decide) ?_
      exact W.iret (v := x4) hx hb hr (fun t ht hW => ⟨by simp [sr_byteAt, c1, c2, ex3, ex4], ht⟩) (fun q h => by cases h) dX7_byteAt_26
