theorem mr_by {α : Type} {v : Int32} {a : Option α} {r : α} (h : (if v = 0 ∨ v = 1 then a else none) = some r) : (narrow .boolean (.int v) = .int v ∧ fits .boolean (.int v) = true) ∧ a = some r := by
  by_cases hc : v = 0 ∨ v = 1
  · rw [if_pos hc] at h
    exact ⟨by rcases hc with rfl | rfl <;> exact ⟨by decide +kernel, by decide +kernel⟩, h⟩
  · rw [if_neg hc] at h; cases h
