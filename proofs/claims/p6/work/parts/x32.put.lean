-- the law: what is kept
theorem lw_KS.put {cI cB cZ : ClassId} {kf : Nat → Option Nat} {ks ks' : List (Nat × Nat × va_W)} {p obS : Nat} {wS : va_W} (h : lw_KS cI cB cZ kf ks) (hS : lw_SB cI cB cZ none obS wS) (h1 : ∀ k, k ∈ ks → k.1 ≠ p → k ∈ ks') (h2 : ∀ k, k ∈ ks' → k ∈ ks) : lw_KS cI cB cZ (va_up kf p (some obS)) ((p, obS, wS) :: ks') := by
  refine ⟨fun i ob hi => ?_, fun k hk => ?_⟩
  · by_cases e : i = p
    · rw [e, va_up_self] at hi
      rw [e, ← Option.some.inj hi]
      exact ⟨wS, List.mem_cons_self⟩
    · rw [va_up_ne _ _ e] at hi
      obtain ⟨w, hw⟩ := h.1 i ob hi
      exact ⟨w, List.mem_cons_of_mem _ (h1 _ hw e)⟩
  · rcases List.mem_cons.mp hk with q | q
    · rw [q]
      exact hS
    · exact h.2 _ (h2 _ q)
theorem nI_0' : nI 0 = 0 := by decide +kernel
theorem lw_SB.new {cI cB cZ : ClassId} (u sq_plain sq_kinds sq_meant sq_firsts sq_nexts sq_names sq_fieldNames sq_amounts sq_fieldDefaults sq_enumDefaults : Nat) : lw_SB cI cB cZ none u [(u, .inr (8, [.ref sq_plain, .ref sq_kinds, .ref sq_meant, .ref sq_firsts, .ref sq_nexts, .ref sq_names, .ref sq_fieldNames, .ref sq_amounts, .ref sq_fieldDefaults, .ref sq_enumDefaults, .int 0, .int 0])), (sq_plain, .inl (cB, 4096, .inl (fun _ => 0))), (sq_kinds, .inl (cI, 128, .inl (fun _ => 0))), (sq_meant, .inl (cI, 128, .inl (fun _ => 0))), (sq_firsts, .inl (cI, 128, .inl (fun _ => 0))), (sq_nexts, .inl (cI, 128, .inl (fun _ => 0))), (sq_names, .inl (cI, 128, .inl (fun _ => 0))), (sq_fieldNames, .inl (cI, 128, .inl (fun _ => 0))), (sq_amounts, .inl (cI, 128, .inl (fun _ => 0))), (sq_fieldDefaults, .inl (cZ, 128, .inl (fun _ => 0))), (sq_enumDefaults, .inl (cZ, 128, .inl (fun _ => 0)))] :=
  ⟨sq_plain, sq_kinds, sq_meant, sq_firsts, sq_nexts, sq_names, sq_fieldNames, sq_amounts, sq_fieldDefaults, sq_enumDefaults, 0, 0, fun _ => 0, fun _ => 0, fun _ => 0, fun _ => 0, fun _ => 0, fun _ => 0, fun _ => 0, fun _ => 0, fun _ => 0, fun _ => 0, fun _ _ => Or.inr ⟨0, Nat.zero_le _, nI_0'.symm⟩, fun _ _ => Or.inr ⟨0, Nat.zero_le _, nI_0'.symm⟩, fun _ _ => Or.inr ⟨0, Nat.zero_le _, nI_0'.symm⟩, fun _ _ => ⟨0, Nat.zero_le _, nI_0'.symm⟩, ⟨0, Nat.zero_le _, nI_0'.symm⟩, fun st h => (nomatch h), rfl⟩
