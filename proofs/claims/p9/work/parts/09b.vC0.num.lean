-- numbers as the class takes them
theorem one_dig : ∀ c, c < 10 → -((0 : Int64) * 10 - (nI c).toInt64) = lN c := by decide +kernel
theorem ite_inr {c : Prop} {i : Decidable c} {a b q : Nat} (h : (@ite _ c i (Sum.inr b) (Sum.inl a) : Nat ⊕ Nat) = .inr q) : b = q := by
  by_cases hc : c
  · rw [if_pos hc] at h
    exact Sum.inr.inj h
  · rw [if_neg hc] at h
    cases h
theorem snum_d {T : Nat → Int32} {L p q : Nat} (h : snum T L p = .inr q) : (if cb T L p = 45 then p + 1 else p) < q ∧ (∀ i, (if cb T L p = 45 then p + 1 else p) ≤ i → i < q → 48 ≤ cb T L i ∧ cb T L i ≤ 57) ∧ (if cb T L (if cb T L p = 45 then p + 1 else p) = 48 then (if cb T L p = 45 then p + 1 else p) + 1 else sdg T L ((if cb T L p = 45 then p + 1 else p) + 1)) = q := by
  simp only [snum] at h
  generalize (if cb T L p = 45 then p + 1 else p) = f at h ⊢
  by_cases c1 : 48 ≤ cb T L f ∧ cb T L f ≤ 57
  · rw [if_pos c1] at h
    have e := ite_inr h
    have hd := sdgf_le (B := T) (L := L) (L - (f + 1)) (f + 1)
    refine ⟨?_, fun i i1 i2 => ?_, e⟩
    · unfold sdg at e
      by_cases c2 : cb T L f = 48
      · rw [if_pos c2] at e; omega
      · rw [if_neg c2] at e; omega
    · by_cases ei : i = f
      · rw [ei]; exact c1
      · by_cases c2 : cb T L f = 48
        · rw [if_pos c2] at e; omega
        · rw [if_neg c2] at e
          unfold sdg at e
          exact hd.2.2 i (by omega) (by omega)
  · rw [if_neg c1] at h; cases h
theorem snv1 {T : Nat → Int32} {L p q : Nat} (h : snum T L p = .inr q) (hq : p + 1 = q) : ∃ k, k ≤ 9 ∧ snv T L p = lN k := by
  obtain ⟨h1, h2, h3⟩ := snum_d h
  by_cases c0 : cb T L p = 45
  · rw [if_pos c0] at h1; omega
  · simp only [if_neg c0] at h1 h2 h3
    have hd := h2 p (Nat.le_refl _) h1
    refine ⟨cb T L p - 48, by omega, ?_⟩
    simp only [snv, if_neg c0]
    rw [h3, show q - p = 1 by omega]
    exact one_dig _ (by omega)
section NUMC
variable {T : Nat → Int32} {L : Nat}
theorem numc_go (hL : L ≤ 4096) {b : Nat} (hb : b ≤ L) (hnd : ¬ (48 ≤ cb T L b ∧ cb T L b ≤ 57)) (x2 : Int32) : ∀ (n q : Nat) (v : Int64) (fuel : Nat), q + n = b → (∀ i, q ≤ i → i < b → 48 ≤ cb T L i ∧ cb T L i ≤ 57) → n < fuel → m_X7_numberAt_31 T (nI L) fuel x2 v (nI q) = some (if x2 = 0 then -(swv T L n q v) else swv T L n q v) := by
  intro n
  induction n with
  | zero =>
    intro q v fuel hq _ hf
    obtain ⟨fu, rfl⟩ : ∃ k, fuel = k + 1 := ⟨fuel - 1, by omega⟩
    have e : q = b := by omega
    subst e
    simp only [m_X7_numberAt_31, swv]
    by_cases c : L ≤ q
    · rw [if_pos (nI_le c (by omega))]
      split <;> rfl
    · rw [if_neg (nI_ge (show q < L by omega) (by omega)), byt_eq hL (by omega)]
      simp only [Option.bind_some, dig_eq, if_neg hnd, if_true]
      split <;> rfl
  | succ n ih =>
    intro q v fuel hq hd hf
    obtain ⟨fu, rfl⟩ : ∃ k, fuel = k + 1 := ⟨fuel - 1, by omega⟩
    obtain ⟨d1, d2⟩ := hd q (Nat.le_refl _) (by omega)
    have eu : ubI (cb T L q) - 48 = nI (cb T L q - 48) := by
      rw [show ubI (cb T L q) = nI (cb T L q) from if_neg (by omega), show (48 : Int32) = nI 48 from rfl, pk_sub d1]
    simp only [m_X7_numberAt_31, nI_1]
    rw [if_neg (nI_ge (show q < L by omega) (by omega)), byt_eq hL (by omega)]
    simp only [Option.bind_some, dig_eq, if_pos (show 48 ≤ cb T L q ∧ cb T L q ≤ 57 from ⟨d1, d2⟩), if_neg (show ¬ (1 : Int32) = 0 by decide), eu]
    exact ih (q + 1) _ fu (by omega) (fun i i1 i2 => hd i (by omega) i2) (by omega)
theorem numc_eq (hL : L ≤ 4096) {p q : Nat} (hp : p < L) (h : snum T L p = .inr q) (hq : q ≤ L) (hnd : ¬ (48 ≤ cb T L q ∧ cb T L q ≤ 57)) : m_X7_numberAt T (nI L) (nI p) = some (snv T L p) := by
  obtain ⟨h1, h2, h3⟩ := snum_d h
  unfold m_X7_numberAt m_X7_numberAt_15 snv
  rw [byt_eq hL (by omega)]
  simp only [Option.bind_some, ub45]
  rw [h3]
  by_cases c : cb T L p = 45
  · simp only [if_pos c, nI_1] at h1 h2 ⊢
    rw [if_neg (show ¬ (1 : Int32) = 0 by decide), numc_go hL hq hnd 1 (q - (p + 1)) (p + 1) 0 sr_fuel (by omega) h2 (by unfold sr_fuel; omega), if_neg (show ¬ (1 : Int32) = 0 by decide)]
  · simp only [if_neg c] at h1 h2 ⊢
    rw [if_pos trivial, numc_go hL hq hnd 0 (q - p) p 0 sr_fuel (by omega) h2 (by unfold sr_fuel; omega), if_pos (show (0 : Int32) = 0 from rfl)]
end NUMC
section NUMV
variable {T : Nat → Int32} {L : Nat} {Sd In Nx Am K F S I X Lt : Nat → Int32} {N : Nat → Int64} {l : Nat}
theorem VV.nmc (hL : L ≤ 4096) {n p q : Nat} (h : VV T L Sd In Nx Am K F N S I X Lt l n p q) (hc : cb T L p = 45 ∨ (48 ≤ cb T L p ∧ cb T L p ≤ 57)) : m_X7_numberAt T (nI L) (nI p) = some (snv T L p) := by
  obtain ⟨h1, h2⟩ := h.num hc
  obtain ⟨b1, b2, b3, b4⟩ := h.base
  exact numc_eq hL (by omega) h2 b2 h.nd
theorem VV.nm1 {n p q : Nat} (h : VV T L Sd In Nx Am K F N S I X Lt l n p q) (hc : cb T L p = 45 ∨ (48 ≤ cb T L p ∧ cb T L p ≤ 57)) (hq : p + 1 = q) : ∃ k, k ≤ 9 ∧ snv T L p = lN k := snv1 (h.num hc).2 hq
end NUMV
