-- the loops of the two constructors
theorem pst_sp (x : Int32) : SP (m_X8_printStep x) (fun _ => True) := by
  have go : ∀ (fuel j : Nat) (x1 : Int64), j ≤ 8 → 8 - j < fuel → SP (m_X8_printStep_5 fuel x1 (nI j)) (fun _ => True) := by
    intro fuel
    induction fuel with
    | zero => intro j x1 _ hf; exact absurd hf (Nat.not_lt_zero _)
    | succ fuel ih =>
      intro j x1 hj hf
      simp only [m_X8_printStep_5, m_X8_printStep_24, nI_1]
      refine SP.ite (fun _ => SP.ok trivial) (fun hc => ?_)
      have hlt : j < 8 := Nat.lt_of_not_le (fun q => hc (nI_le (a := 8) q (by omega)))
      have ih1 := fun y => ih (j + 1) y (by omega) (by omega)
      exact SP.ite (fun _ => SP.ite (fun _ => ih1 _) (fun _ => ih1 _)) (fun _ => SP.ite (fun _ => ih1 _) (fun _ => ih1 _))
  unfold m_X8_printStep
  have := go sr_fuel 0 x.toInt64 (Nat.zero_le _) (by unfold sr_fuel; omega)
  rw [nI_0] at this
  exact this
theorem i35_sp (f : Nat → Int64) : SP (m_X8_init_35 sr_fuel f 0) (fun _ => True) := by
  have go : ∀ (fuel j : Nat) (f : Nat → Int64), j ≤ 256 → 256 - j < fuel → SP (m_X8_init_35 fuel f (nI j)) (fun _ => True) := by
    intro fuel
    induction fuel with
    | zero => intro j f _ hf; exact absurd hf (Nat.not_lt_zero _)
    | succ fuel ih =>
      intro j f hj hf
      simp only [m_X8_init_35, nI_1]
      refine SP.ite (fun _ => SP.ok trivial) (fun hc => SP.bind (pst_sp _) (fun r _ => ?_))
      have hlt : j < 256 := Nat.lt_of_not_le (fun q => hc (nI_le (a := 256) q (by omega)))
      rw [bd_go hlt (by decide)]
      exact ih (j + 1) _ (by omega) (by omega)
  have := go sr_fuel 0 f (Nat.zero_le _) (by unfold sr_fuel; omega)
  rw [nI_0] at this
  exact this
theorem i87_sp (f : Nat → Int32) : SP (m_X10_init_87 sr_fuel f 0) (fun r => ∀ i, i < 8 → r i = -1) := by
  have go : ∀ (fuel j : Nat) (f : Nat → Int32), j ≤ 8 → 8 - j < fuel → (∀ i, i < j → f i = -1) → SP (m_X10_init_87 fuel f (nI j)) (fun r => ∀ i, i < 8 → r i = -1) := by
    intro fuel
    induction fuel with
    | zero => intro j f _ hf; exact absurd hf (Nat.not_lt_zero _)
    | succ fuel ih =>
      intro j f hj hf h
      simp only [m_X10_init_87, nI_1]
      refine SP.ite (fun hc => ?_) (fun hc => ?_)
      · have : j = 8 := Nat.le_antisymm hj (Nat.le_of_not_lt (fun q => nI_ge (b := 8) q (by omega) hc))
        subst this
        exact SP.ok h
      · have hlt : j < 8 := Nat.lt_of_not_le (fun q => hc (nI_le (a := 8) q (by omega)))
        rw [bd_go hlt (by decide), nI_clamp (show j < 2 ^ 31 by omega)]
        refine ih (j + 1) _ (by omega) (by omega) (fun i hi => ?_)
        by_cases e : i = j
        · subst e; exact pk_us
        · rw [pk_un e]; exact h i (by omega)
  have := go sr_fuel 0 f (Nat.zero_le _) (by unfold sr_fuel; omega) (fun i hi => absurd hi (Nat.not_lt_zero _))
  rw [nI_0] at this
  exact this
