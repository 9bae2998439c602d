-- the law: what holds all the way; a cell of the script
def lw_cx (p : Program) (l : Launch) (s : State) (m : MethodId) (c : Code) (b L0 : Nat) (xs : Nat → Int32) (dC : Nat → ClassId) (dI : Nat → Nat → Nat) (adK adV : Nat → Nat) (cI cB cJ cZ cQ : ClassId) (c0 : Cond) : Prop :=
  p.tables.exec = Jvm.exec ∧ c.code = code ∧ c.maxLocals = 7 ∧ s.vm.findClass RX12 = some m.cls ∧ (∀ w ∈ c0 :: sr_G, w.before #[Value.ref b] s = true) ∧ va_K (dC, dI) srCl (lw_ty cI cB cJ cZ cQ) s ∧ sr_Z2 adK adV (lw_A s) s s.heap ∧ l.stackTraces = false ∧ va_X b L0 xs s s.heap ∧ b < s.heap.size ∧ L0 ≤ 3072
section LWX14
variable {p : Program} {l : Launch} {e : Env} {s : State} {m : MethodId} {below : List Frame} {meth : Method} {c : Code} {H : Heap} {locs : List Loc} {cells slots : Nat} {ls : Array Slot} {Q : State → Prop} {b L0 : Nat} {xs : Nat → Int32} {dC : Nat → ClassId} {dI : Nat → Nat → Nat} {adK adV : Nat → Nat} {cI cB cJ cZ cQ : ClassId} {c0 : Cond} {obX obM oq L j : Nat} {T wX wM : va_W} {of : Nat → Int64} {th : Int32}
theorem law_ld {pc k : Nat} {kz : Int} {st : List Value} (G : lw_cx p l s m c b L0 xs dC dI adK adV cI cB cJ cZ cQ c0) (hj : 6 * j + 6 ≤ L0) (hS : va_S (lw_A s) s.heap H locs) (h4 : ls[4]? = some (.val (.int (nI (6 * j))))) (h0 : ls[0]? = some (.val (.ref b))) (hk : k < 6) (hv : Int32.ofInt kz = nI k) (d1 : decode code pc = .ok (.aload_n 0, 1)) (d2 : decode code (pc + 1) = .ok (.iload 4, 2)) (d3 : decode code (pc + 1 + 2) = .ok (.iconst kz, 1)) (d4 : decode code (pc + 1 + 2 + 1) = .ok (.iadd, 1)) (d5 : decode code (pc + 1 + 2 + 1 + 1) = .ok (.iaload, 1))
    (kk : W p l e room_1 s m #[Value.ref b] below meth c H locs cells slots Q (F0 m (pc + 1 + 2 + 1 + 1 + 1) ls (.int (xs (6 * j + k)) :: st))) : W p l e room_1 s m #[Value.ref b] below meth c H locs cells slots Q (F0 m pc ls st) := by
  obtain ⟨hx, hb, hml, hown, hts, hK, hz, htr, hX, hbl, hL0⟩ := G
  have hbA : ¬ lw_A s b := fun h => by
    have h2 : s.heap.size ≤ b := h
    omega
  refine lv_aload_n hx hb d1 rfl h0 ?_
  refine lv_iload hx hb d2 h4 ?_
  refine lv_iconst (v := nI k) hx hb d3 hv ?_
  refine lv_iadd hx hb d4 ?_
  rw [nI_add]
  refine va_sld hx hb hX hbl hbA hS (show vp_in (nI (6 * j + k)) L0 from nI_in (by omega) (by omega)) d5 ?_
  rw [nI_clamp (show 6 * j + k < 2 ^ 31 by omega)]
  exact kk
theorem lw_w.sw {w1 w2 : va_W} (h : lw_w dC dI s H locs (w1 ++ w2)) : lw_w dC dI s H locs (w2 ++ w1) := h.p (fun f => by simp only [sr_tot_app]; omega)
theorem mr_tc_ok {U V R : Type} (v : V) (u : U) (k : V → U → Option R) (g : U → Option R) : mr_tc (some (.ok (v, u))) k g = k v u := rfl
theorem plc_two (a : Int32) : m_X8_isPlace a = some 0 ∨ m_X8_isPlace a = some 1 ∧ vp_in a 8 := by
  obtain ⟨r, h, h2⟩ := plc_sp a
  rcases h2 with rfl | ⟨rfl, i, hi, rfl⟩
  · exact Or.inl h
  · exact Or.inr ⟨h, nI_in hi (by omega)⟩
end LWX14
abbrev lw_y (ob yq_bytes yq_kinds yq_firsts yq_numbers yq_sizes yq_inner yq_nexts yq_letters yq_sorts yq_names yq_wide yq_kids yq_many yq_fallback yq_kidShape yq_kidName yq_kidDefault yq_kidNext yq_finished yq_plain yq_told : Nat) (y_length y_at y_deep y_fault y_place y_end y_nodes y_lettered y_shapes y_looked y_kidCount y_done y_root y_plainSize : Int32) : Nat × va_E := (ob, .inr (0, [.ref yq_bytes, .int y_length, .int y_at, .int y_deep, .int y_fault, .int y_place, .int y_end, .int y_nodes, .ref yq_kinds, .ref yq_firsts, .ref yq_numbers, .ref yq_sizes, .ref yq_inner, .ref yq_nexts, .ref yq_letters, .int y_lettered, .int y_shapes, .int y_looked, .ref yq_sorts, .ref yq_names, .ref yq_wide, .ref yq_kids, .ref yq_many, .ref yq_fallback, .int y_kidCount, .ref yq_kidShape, .ref yq_kidName, .ref yq_kidDefault, .ref yq_kidNext, .int y_done, .ref yq_finished, .int y_root, .ref yq_plain, .int y_plainSize, .ref yq_told]))
theorem lw_YB.cut {cI cB cJ cZ : ClassId} {ob : Nat} {yb : Nat → Int32} {yl yp : Int32} {w : va_W} (h : lw_YB cI cB cJ cZ ob yb yl yp w) : ∃ (yq_bytes yq_kinds yq_firsts yq_numbers yq_sizes yq_inner yq_nexts yq_letters yq_sorts yq_names yq_wide yq_kids yq_many yq_fallback yq_kidShape yq_kidName yq_kidDefault yq_kidNext yq_finished yq_plain yq_told : Nat) (y_at y_deep y_fault y_place y_end y_nodes y_lettered y_shapes y_looked y_kidCount y_done y_root : Int32) (y_plain : Nat → Int32) (r : va_W), ∀ f : Nat × va_E → Nat, sr_tot f w = f (lw_y ob yq_bytes yq_kinds yq_firsts yq_numbers yq_sizes yq_inner yq_nexts yq_letters yq_sorts yq_names yq_wide yq_kids yq_many yq_fallback yq_kidShape yq_kidName yq_kidDefault yq_kidNext yq_finished yq_plain yq_told yl y_at y_deep y_fault y_place y_end y_nodes y_lettered y_shapes y_looked y_kidCount y_done y_root yp) + (f (lw_b yq_bytes cB 4096 yb) + (f (lw_b yq_plain cB 4200 y_plain) + sr_tot f r)) := by
  obtain ⟨yq_bytes, yq_kinds, yq_firsts, yq_numbers, yq_sizes, yq_inner, yq_nexts, yq_letters, yq_sorts, yq_names, yq_wide, yq_kids, yq_many, yq_fallback, yq_kidShape, yq_kidName, yq_kidDefault, yq_kidNext, yq_finished, yq_plain, yq_told, y_at, y_deep, y_fault, y_place, y_end, y_nodes, y_lettered, y_shapes, y_looked, y_kidCount, y_done, y_root, y_kinds, y_firsts, y_sizes, y_inner, y_nexts, y_letters, y_sorts, y_names, y_wide, y_kids, y_many, y_fallback, y_kidShape, y_kidName, y_kidDefault, y_kidNext, y_finished, y_plain, y_told, y_numbers, rfl⟩ := h
  refine ⟨yq_bytes, yq_kinds, yq_firsts, yq_numbers, yq_sizes, yq_inner, yq_nexts, yq_letters, yq_sorts, yq_names, yq_wide, yq_kids, yq_many, yq_fallback, yq_kidShape, yq_kidName, yq_kidDefault, yq_kidNext, yq_finished, yq_plain, yq_told, y_at, y_deep, y_fault, y_place, y_end, y_nodes, y_lettered, y_shapes, y_looked, y_kidCount, y_done, y_root, y_plain, [(yq_kinds, .inl (cI, 4200, .inl y_kinds)), (yq_firsts, .inl (cI, 4200, .inl y_firsts)), (yq_numbers, .inl (cJ, 4200, .inr (.inl y_numbers))), (yq_sizes, .inl (cI, 4200, .inl y_sizes)), (yq_inner, .inl (cI, 4200, .inl y_inner)), (yq_nexts, .inl (cI, 4200, .inl y_nexts)), (yq_letters, .inl (cB, 4200, .inl y_letters)), (yq_sorts, .inl (cI, 140, .inl y_sorts)), (yq_names, .inl (cI, 140, .inl y_names)), (yq_wide, .inl (cI, 140, .inl y_wide)), (yq_kids, .inl (cI, 140, .inl y_kids)), (yq_many, .inl (cI, 140, .inl y_many)), (yq_fallback, .inl (cI, 140, .inl y_fallback)), (yq_kidShape, .inl (cI, 2200, .inl y_kidShape)), (yq_kidName, .inl (cI, 2200, .inl y_kidName)), (yq_kidDefault, .inl (cI, 2200, .inl y_kidDefault)), (yq_kidNext, .inl (cI, 2200, .inl y_kidNext)), (yq_finished, .inl (cI, 2200, .inl y_finished)), (yq_told, .inl (cZ, 140, .inl y_told))], fun f => ?_⟩
  simp only [sr_tot, lw_y, lw_b]
  omega
