-- the class's strings, exactly
def hexv (n : Nat) : Nat := if 48 ≤ n ∧ n ≤ 57 then n - 48 else if 97 ≤ n ∧ n ≤ 102 then n - 87 else if 65 ≤ n ∧ n ≤ 70 then n - 55 else 16
theorem hexv_le (n : Nat) : hexv n ≤ 16 := by
  unfold hexv
  repeat' split
  all_goals omega
theorem hexd_eq {B : Nat → Int32} {L a : Nat} : m_X7_hexDigit (ubI (cb B L a)) = some (if hexv (cb B L a) = 16 then -1 else nI (hexv (cb B L a))) := by
  have h0 := cb_le B L a
  unfold m_X7_hexDigit m_X7_hexDigit_17 m_X7_hexDigit_37
  simp only [ubl48, ubg57, ubl97, ubg102, ubl65, ubg70]
  generalize cb B L a = n at h0 ⊢
  unfold hexv ubI
  by_cases h1 : 48 ≤ n ∧ n ≤ 57
  · rw [if_neg (by omega), if_neg (by omega), if_pos h1, if_neg (by omega), if_neg (by omega), show (48 : Int32) = nI 48 from rfl, pk_sub h1.1]
  · by_cases h2 : 97 ≤ n ∧ n ≤ 102
    · have e : nI n - 97 + 10 = nI (n - 87) := by
        rw [show (97 : Int32) = nI 97 from rfl, pk_sub h2.1, show (10 : Int32) = nI 10 from rfl, nI_add]
        congr 1
        omega
      rw [if_neg h1, if_pos h2, if_neg (show ¬ n - 87 = 16 by omega)]
      rw [if_neg (show ¬ (n = 256 ∨ n < 48) by omega), if_pos (show n ≠ 256 ∧ 57 < n by omega), if_neg (show ¬ (n = 256 ∨ n < 97) by omega), if_neg (show ¬ (n ≠ 256 ∧ 102 < n) by omega), if_neg (show ¬ n = 256 by omega), e]
    · by_cases h3 : 65 ≤ n ∧ n ≤ 70
      · have e : nI n - 65 + 10 = nI (n - 55) := by
          rw [show (65 : Int32) = nI 65 from rfl, pk_sub h3.1, show (10 : Int32) = nI 10 from rfl, nI_add]
          congr 1
          omega
        rw [if_neg h1, if_neg h2, if_pos h3, if_neg (show ¬ n - 55 = 16 by omega)]
        rw [if_neg (show ¬ (n = 256 ∨ n < 48) by omega), if_pos (show n ≠ 256 ∧ 57 < n by omega), if_pos (show n = 256 ∨ n < 97 by omega), if_neg (show ¬ (n = 256 ∨ n < 65) by omega), if_neg (show ¬ (n ≠ 256 ∧ 70 < n) by omega), if_neg (show ¬ n = 256 by omega), e]
      · rw [if_neg h1, if_neg h2, if_neg h3, if_pos rfl]
        by_cases q1 : n = 256 ∨ n < 48
        · rw [if_pos q1, if_pos (show n = 256 ∨ n < 97 by omega), if_pos (show n = 256 ∨ n < 65 by omega)]
        · rw [if_neg q1, if_pos (show n ≠ 256 ∧ 57 < n by omega)]
          by_cases q2 : n = 256 ∨ n < 97
          · rw [if_pos q2]
            by_cases q3 : n = 256 ∨ n < 65
            · rw [if_pos q3]
            · rw [if_neg q3, if_pos (show n ≠ 256 ∧ 70 < n by omega)]
          · rw [if_neg q2, if_pos (show n ≠ 256 ∧ 102 < n by omega), if_neg (show ¬ (n = 256 ∨ n < 65) by omega), if_pos (show n ≠ 256 ∧ 70 < n by omega)]
/-- four digits, and what they stand for -/
def shex (B : Nat → Int32) (L a : Nat) : Nat → Nat → Nat → Nat ⊕ Nat
  | 0, _, v => if v ≤ 255 then .inr v else .inl a
  | n + 1, j, v => if hexv (cb B L j) = 16 then .inl j else shex B L a n (j + 1) (v * 16 + hexv (cb B L j))
def sesc (B : Nat → Int32) (L a : Nat) : Nat ⊕ Nat :=
  if cb B L (a + 1) = 34 then .inr 34 else if cb B L (a + 1) = 47 then .inr 47 else if cb B L (a + 1) = 92 then .inr 92 else if cb B L (a + 1) = 98 then .inr 8 else if cb B L (a + 1) = 102 then .inr 12 else if cb B L (a + 1) = 110 then .inr 10 else if cb B L (a + 1) = 114 then .inr 13 else if cb B L (a + 1) = 116 then .inr 9 else if cb B L (a + 1) = 117 then shex B L a 4 (a + 2) 0 else .inl (a + 1)
def sO (wp : Int32) : Nat ⊕ Nat → Int32 × Int32
  | .inl w => (-1, nI w)
  | .inr v => (nI v, wp)
theorem shex_le {B : Nat → Int32} {L a : Nat} : ∀ (n j v w : Nat), shex B L a n j v = .inr w → w ≤ 255 := by
  intro n
  induction n with
  | zero =>
    intro j v w h
    simp only [shex] at h
    by_cases q : v ≤ 255
    · rw [if_pos q] at h; cases h; exact q
    · rw [if_neg q] at h; cases h
  | succ n ih =>
    intro j v w h
    simp only [shex] at h
    by_cases q : hexv (cb B L j) = 16
    · rw [if_pos q] at h; cases h
    · rw [if_neg q] at h; exact ih _ _ _ h
theorem sesc_le {B : Nat → Int32} {L a w : Nat} (h : sesc B L a = .inr w) : w ≤ 255 := by
  unfold sesc at h
  repeat' (split at h)
  all_goals first | (cases h; omega) | exact shex_le _ _ _ _ h | cases h
section CSTR
variable {T : Nat → Int32} {L : Nat}
theorem resc_eq (hL : L ≤ 4096) (wp : Int32) {a : Nat} (ha : a < L) : m_X7_readEscape T (nI L) wp (nI a) = some (sO wp (sesc T L a)) := by
  have go : ∀ (n fuel j v : Nat), j + n = a + 6 → n < fuel → (v + 1) * 16 ^ n ≤ 65536 → m_X7_readEscape_127 T (nI L) fuel wp (nI a) (nI v) (nI j) = some (sO wp (shex T L a n j v)) := by
    intro n
    induction n with
    | zero =>
      intro fuel j v hj hf hv
      obtain ⟨f, rfl⟩ : ∃ f, fuel = f + 1 := ⟨fuel - 1, by omega⟩
      have e6 : nI a + 6 = nI (a + 6) := nI_add a 6
      simp only [m_X7_readEscape_127, m_X7_refuse, Option.bind_some, e6, shex]
      rw [if_pos (nI_le (show a + 6 ≤ j by omega) (by omega))]
      by_cases h : v ≤ 255
      · rw [if_pos (show nI v ≤ 255 from nI_le (b := 255) h (by decide)), if_pos h]
        rfl
      · have hv' : v + 1 ≤ 65536 := by rw [Nat.pow_zero, Nat.mul_one] at hv; exact hv
        rw [if_neg (show ¬ nI v ≤ 255 from fun q => h ((nI_leI (b := 255) (by omega) (by decide)).mp q)), if_neg h]
        rfl
    | succ n ih =>
      intro fuel j v hj hf hv
      obtain ⟨f, rfl⟩ : ∃ f, fuel = f + 1 := ⟨fuel - 1, by omega⟩
      have e6 : nI a + 6 = nI (a + 6) := nI_add a 6
      simp only [m_X7_readEscape_127, m_X7_refuse, Option.bind_some, e6, shex, nI_1]
      rw [if_neg (fun q => absurd ((nI_leI (by omega) (by omega)).mp q) (by omega)), byt_eq hL (by omega)]
      simp only [Option.bind_some, hexd_eq]
      have hx := hexv_le (cb T L j)
      by_cases h : hexv (cb T L j) = 16
      · simp only [if_pos h, Option.bind_some, if_true]
        rfl
      · have hp : (0 : Nat) < 16 ^ (n + 1) := Nat.pow_pos (by decide)
        have hv2 : v + 1 ≤ 65536 := Nat.le_trans (Nat.le_mul_of_pos_right _ hp) hv
        have hm : ¬ (nI (hexv (cb T L j)) = -1) := fun q => by
          have := nI_pos' (n := hexv (cb T L j)) (by omega)
          rw [q] at this
          exact absurd this (by decide)
        have ev : nI v * 16 + nI (hexv (cb T L j)) = nI (v * 16 + hexv (cb T L j)) := by
          rw [show (16 : Int32) = nI 16 from rfl, pk_mul, nI_add]
        simp only [if_neg h, Option.bind_some, if_neg hm, ev]
        refine ih f (j + 1) _ (by omega) (by omega) ?_
        refine Nat.le_trans (Nat.mul_le_mul_right _ (show v * 16 + hexv (cb T L j) + 1 ≤ (v + 1) * 16 by omega)) ?_
        rw [Nat.mul_assoc, Nat.mul_comm 16, ← Nat.pow_succ]
        exact hv
  have e2 : nI a + 2 = nI (a + 2) := nI_add a 2
  unfold m_X7_readEscape
  simp only [m_X7_refuse, Option.bind_some, e2, nI_1]
  rw [byt_eq hL (by omega)]
  simp only [Option.bind_some, ub34, ub47, ub92, ub98, ub102, ub110, ub114, ub116, ub117]
  have g := go 4 sr_fuel (a + 2) 0 (by omega) (by unfold sr_fuel; omega) (by decide)
  rw [nI_0] at g
  unfold sesc
  by_cases c1 : cb T L (a + 1) = 34
  · simp only [if_pos c1, c1]; rfl
  by_cases c2 : cb T L (a + 1) = 47
  · simp only [if_neg c1, if_pos c2, c2]; rfl
  by_cases c3 : cb T L (a + 1) = 92
  · simp only [if_neg c1, if_neg c2, if_pos c3, c3]; rfl
  by_cases c4 : cb T L (a + 1) = 98
  · simp only [if_neg c1, if_neg c2, if_neg c3, if_pos c4]; rfl
  by_cases c5 : cb T L (a + 1) = 102
  · simp only [if_neg c1, if_neg c2, if_neg c3, if_neg c4, if_pos c5]; rfl
  by_cases c6 : cb T L (a + 1) = 110
  · simp only [if_neg c1, if_neg c2, if_neg c3, if_neg c4, if_neg c5, if_pos c6]; rfl
  by_cases c7 : cb T L (a + 1) = 114
  · simp only [if_neg c1, if_neg c2, if_neg c3, if_neg c4, if_neg c5, if_neg c6, if_pos c7]; rfl
  by_cases c8 : cb T L (a + 1) = 116
  · simp only [if_neg c1, if_neg c2, if_neg c3, if_neg c4, if_neg c5, if_neg c6, if_neg c7, if_pos c8]; rfl
  by_cases c9 : cb T L (a + 1) = 117
  · simp only [if_neg c1, if_neg c2, if_neg c3, if_neg c4, if_neg c5, if_neg c6, if_neg c7, if_neg c8, if_pos c9]; exact g
  · simp only [if_neg c1, if_neg c2, if_neg c3, if_neg c4, if_neg c5, if_neg c6, if_neg c7, if_neg c8, if_neg c9]; rfl
end CSTR
