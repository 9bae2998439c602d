-- the start: the literals
def lt_P : Cond → Bool
  | .eq (.string _ _) (.string _ _) => false
  | _ => true
abbrev lt_T (i : Nat) : Term := .string (srL.getD i ("", 0, "")).1 (srL.getD i ("", 0, "")).2.1
abbrev lt_V (i : Nat) : Term := .field (lt_T i) "java/lang/String" "value" "[B"
def lt_el (i j : Nat) : Cond := .eq (.elem (lt_V i) (.int (Int32.ofNat j))) (.int ((bytS.getD i []).getD j 0))
def lt_one (i : Nat) : List Cond := [.exactly (lt_T i) "java/lang/String", .eq (.field (lt_T i) "java/lang/String" "coder" "B") (.int 0), .arrayOf (lt_V i) .byte, .eq (.length (lt_V i)) (.int (Int32.ofNat (lenS.getD i 0)))] ++ (List.range (lenS.getD i 0)).map (lt_el i)
theorem lt_all : ((flatC narrow_1).drop 45).filter lt_P = (List.range 75).flatMap lt_one := by decide +kernel
theorem lt_mem {i : Nat} (hi : i < 75) {w : Cond} (hw : w ∈ lt_one i) : w ∈ flatC narrow_1 := by
  have h : w ∈ ((flatC narrow_1).drop 45).filter lt_P := by
    rw [lt_all]
    exact List.mem_flatMap.mpr ⟨i, List.mem_range.mpr hi, hw⟩
  exact List.mem_of_mem_drop (List.mem_filter.mp h).1
theorem lt_len : ∀ i, i < 75 → lenS.getD i 0 < 2 ^ 31 := by decide +kernel
theorem lt_ref : ∀ i, i < 75 → (Cond.stringRef (srL.getD i ("", 0, "")).1 (srL.getD i ("", 0, "")).2.1 (srL.getD i ("", 0, "")).2.2) ∈ tables_1 := by decide +kernel
theorem lt_lits {args : Array Value} {s : State} {A : Nat → Prop} (hn : narrow_1.before args s = true) (hts : ∀ w ∈ lw_tbl, w.before args s = true) (hA : ∀ a : Nat, a < s.heap.size → ¬ A a) : ∃ adK adV : Nat → Nat, ∀ i : Nat, i < nS → (va_O "java/lang/String" (adK i) A s s.heap ∧ va_OF "java/lang/String" "coder" "B" (.int 0) (adK i) A s s.heap ∧ va_OF "java/lang/String" "value" "[B" (.ref (adV i)) (adK i) A s s.heap ∧ va_T .byte (adV i) (lenS.getD i 0) (fun j => .int ((bytS.getD i []).getD j 0)) A s s.heap) ∧ vk_R (srL.getD i ("", 0, "")).1 (srL.getD i ("", 0, "")).2.1 (srL.getD i ("", 0, "")).2.2 (adK i) s := by
  have hf := flat_of_before _ hn
  have h0 : ∀ i : Nat, ∃ q : Nat × Nat, i < 75 → (va_O "java/lang/String" q.1 A s s.heap ∧ va_OF "java/lang/String" "coder" "B" (.int 0) q.1 A s s.heap ∧ va_OF "java/lang/String" "value" "[B" (.ref q.2) q.1 A s s.heap ∧ va_T .byte q.2 (lenS.getD i 0) (fun j => .int ((bytS.getD i []).getD j 0)) A s s.heap) ∧ vk_R (srL.getD i ("", 0, "")).1 (srL.getD i ("", 0, "")).2.1 (srL.getD i ("", 0, "")).2.2 q.1 s := by
    intro i
    by_cases hi : i < 75
    · have hex : (Cond.exactly (lt_T i) "java/lang/String").before args s = true := hf _ (lt_mem hi (List.mem_append_left _ (List.mem_of_getElem? (i := 0) rfl)))
      have hco : (Cond.eq (.field (lt_T i) "java/lang/String" "coder" "B") (.int 0)).before args s = true := hf _ (lt_mem hi (List.mem_append_left _ (List.mem_of_getElem? (i := 1) rfl)))
      have har : (Cond.arrayOf (lt_V i) .byte).before args s = true := hf _ (lt_mem hi (List.mem_append_left _ (List.mem_of_getElem? (i := 2) rfl)))
      have hle : (Cond.eq (.length (lt_V i)) (.int (Int32.ofNat (lenS.getD i 0)))).before args s = true := hf _ (lt_mem hi (List.mem_append_left _ (List.mem_of_getElem? (i := 3) rfl)))
      have hel : ∀ j : Nat, j < lenS.getD i 0 → (lt_el i j).before args s = true := fun j hj => hf _ (lt_mem hi (List.mem_append_right _ (List.mem_map.mpr ⟨j, List.mem_range.mpr hj, rfl⟩)))
      obtain ⟨a, c, cA, kA, q1, q2, q3, q4, q5, q6, -⟩ := Cond.exactly_spec (args := args) (first := s) (o := none) (s := s) (idx := []) (t := lt_T i) (cls := "java/lang/String") hex
      obtain ⟨t, ht, hT⟩ := va_Tof (f := fun j => .int ((bytS.getD i []).getD j 0)) (A := A) (lt_len i hi) har (va_eqt hle) (fun j hj => va_eqt (hel j hj)) hA
      exact ⟨(a, t), fun _ => ⟨⟨⟨cA, q3, q5, by rw [q6]; exact q2, hA a (Array.getElem?_eq_some_iff.mp q3).1⟩, vk_OFof q1 (va_eqt hco) hA, vk_OFof q1 ht hA, hT⟩, vk_R.of (A := args) (hts _ (List.mem_append_right _ (lt_ref i hi))) q1⟩⟩
    · exact ⟨(0, 0), fun h => absurd h hi⟩
  obtain ⟨ad, had⟩ := Classical.axiomOfChoice h0
  exact ⟨fun i => (ad i).1, fun i => (ad i).2, fun i hi => had i hi⟩
