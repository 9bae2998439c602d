-- WHAT A TEXT SAYS, apart from either program: its bytes as numbers below 256, and 256 behind its end
def bv (x : Int32) : Nat := x.toBitVec.toNat % 256
def cb (B : Nat → Int32) (L a : Nat) : Nat := if L ≤ a then 256 else bv (B a)
theorem cb_le (B : Nat → Int32) (L a : Nat) : cb B L a ≤ 256 := by
  unfold cb bv
  by_cases h : L ≤ a
  · rw [if_pos h]; omega
  · rw [if_neg h]; omega
theorem cb_end {B : Nat → Int32} {L a : Nat} (h : L ≤ a) : cb B L a = 256 := if_pos h
theorem cb_lt {B : Nat → Int32} {L a : Nat} (h : cb B L a ≠ 256) : a < L := Nat.lt_of_not_le (fun q => h (cb_end q))
/-- a byte as the class has it -/
def ubI (n : Nat) : Int32 := if n = 256 then -1 else nI n
theorem ub_e {n c : Nat} (hn : n ≤ 256) (hc : c < 256) : (ubI n = nI c) ↔ n = c := by
  unfold ubI
  by_cases h : n = 256
  · rw [if_pos h]
    refine ⟨fun q => ?_, fun q => by omega⟩
    have h1 := nI_pos' (n := c) (by omega)
    rw [← q] at h1
    exact absurd h1 (by decide)
  · rw [if_neg h]
    exact nI_eq (by omega) (by omega)
theorem ub_l {n c : Nat} (hn : n ≤ 256) (hc : c < 256) : (ubI n < nI c) ↔ n = 256 ∨ n < c := by
  unfold ubI
  by_cases h : n = 256
  · rw [if_pos h]
    exact ⟨fun _ => Or.inl h, fun _ => Int32.lt_of_lt_of_le (show (-1 : Int32) < 0 by decide) (nI_pos' (by omega))⟩
  · rw [if_neg h, nI_ltI (by omega) (by omega)]
    exact ⟨Or.inr, fun q => q.resolve_left h⟩
theorem ub_g {n c : Nat} (hn : n ≤ 256) (hc : c < 256) : (nI c < ubI n) ↔ n ≠ 256 ∧ c < n := by
  unfold ubI
  by_cases h : n = 256
  · rw [if_pos h]
    refine ⟨fun q => ?_, fun q => absurd h q.1⟩
    exact absurd (Int32.lt_of_lt_of_le q (show (-1 : Int32) ≤ 0 by decide)) (nI_pos (n := c) (by omega))
  · rw [if_neg h, nI_ltI (by omega) (by omega)]
    exact ⟨fun q => ⟨h, q⟩, fun q => q.2⟩
section UB
variable {B : Nat → Int32} {L a : Nat}
theorem ub9 : (ubI (cb B L a) = 9) = (cb B L a = 9) := propext (ub_e (cb_le B L a) (c := 9) (by decide))
theorem ub10 : (ubI (cb B L a) = 10) = (cb B L a = 10) := propext (ub_e (cb_le B L a) (c := 10) (by decide))
theorem ub13 : (ubI (cb B L a) = 13) = (cb B L a = 13) := propext (ub_e (cb_le B L a) (c := 13) (by decide))
theorem ub32 : (ubI (cb B L a) = 32) = (cb B L a = 32) := propext (ub_e (cb_le B L a) (c := 32) (by decide))
theorem ub34 : (ubI (cb B L a) = 34) = (cb B L a = 34) := propext (ub_e (cb_le B L a) (c := 34) (by decide))
theorem ub44 : (ubI (cb B L a) = 44) = (cb B L a = 44) := propext (ub_e (cb_le B L a) (c := 44) (by decide))
theorem ub45 : (ubI (cb B L a) = 45) = (cb B L a = 45) := propext (ub_e (cb_le B L a) (c := 45) (by decide))
theorem ub47 : (ubI (cb B L a) = 47) = (cb B L a = 47) := propext (ub_e (cb_le B L a) (c := 47) (by decide))
theorem ub48 : (ubI (cb B L a) = 48) = (cb B L a = 48) := propext (ub_e (cb_le B L a) (c := 48) (by decide))
theorem ub58 : (ubI (cb B L a) = 58) = (cb B L a = 58) := propext (ub_e (cb_le B L a) (c := 58) (by decide))
theorem ub91 : (ubI (cb B L a) = 91) = (cb B L a = 91) := propext (ub_e (cb_le B L a) (c := 91) (by decide))
theorem ub92 : (ubI (cb B L a) = 92) = (cb B L a = 92) := propext (ub_e (cb_le B L a) (c := 92) (by decide))
theorem ub93 : (ubI (cb B L a) = 93) = (cb B L a = 93) := propext (ub_e (cb_le B L a) (c := 93) (by decide))
theorem ub98 : (ubI (cb B L a) = 98) = (cb B L a = 98) := propext (ub_e (cb_le B L a) (c := 98) (by decide))
theorem ub102 : (ubI (cb B L a) = 102) = (cb B L a = 102) := propext (ub_e (cb_le B L a) (c := 102) (by decide))
theorem ub110 : (ubI (cb B L a) = 110) = (cb B L a = 110) := propext (ub_e (cb_le B L a) (c := 110) (by decide))
theorem ub114 : (ubI (cb B L a) = 114) = (cb B L a = 114) := propext (ub_e (cb_le B L a) (c := 114) (by decide))
theorem ub116 : (ubI (cb B L a) = 116) = (cb B L a = 116) := propext (ub_e (cb_le B L a) (c := 116) (by decide))
theorem ub117 : (ubI (cb B L a) = 117) = (cb B L a = 117) := propext (ub_e (cb_le B L a) (c := 117) (by decide))
theorem ub123 : (ubI (cb B L a) = 123) = (cb B L a = 123) := propext (ub_e (cb_le B L a) (c := 123) (by decide))
theorem ub125 : (ubI (cb B L a) = 125) = (cb B L a = 125) := propext (ub_e (cb_le B L a) (c := 125) (by decide))
theorem ubl32 : (ubI (cb B L a) < 32) = (cb B L a = 256 ∨ cb B L a < 32) := propext (ub_l (cb_le B L a) (c := 32) (by decide))
theorem ubl48 : (ubI (cb B L a) < 48) = (cb B L a = 256 ∨ cb B L a < 48) := propext (ub_l (cb_le B L a) (c := 48) (by decide))
theorem ubl65 : (ubI (cb B L a) < 65) = (cb B L a = 256 ∨ cb B L a < 65) := propext (ub_l (cb_le B L a) (c := 65) (by decide))
theorem ubl97 : (ubI (cb B L a) < 97) = (cb B L a = 256 ∨ cb B L a < 97) := propext (ub_l (cb_le B L a) (c := 97) (by decide))
theorem ubg57 : (57 < ubI (cb B L a)) = (cb B L a ≠ 256 ∧ 57 < cb B L a) := propext (ub_g (cb_le B L a) (c := 57) (by decide))
theorem ubg70 : (70 < ubI (cb B L a)) = (cb B L a ≠ 256 ∧ 70 < cb B L a) := propext (ub_g (cb_le B L a) (c := 70) (by decide))
theorem ubg102 : (102 < ubI (cb B L a)) = (cb B L a ≠ 256 ∧ 102 < cb B L a) := propext (ub_g (cb_le B L a) (c := 102) (by decide))
theorem ubg126 : (126 < ubI (cb B L a)) = (cb B L a ≠ 256 ∧ 126 < cb B L a) := propext (ub_g (cb_le B L a) (c := 126) (by decide))
theorem byt_eq {T : Nat → Int32} (hL : L ≤ 4096) (ha : a < 2 ^ 31) : m_X7_byteAt T (nI L) (nI a) = some (ubI (cb T L a)) := by
  unfold m_X7_byteAt
  rw [if_neg (nI_pos ha)]
  by_cases h : L ≤ a
  · rw [if_pos (nI_le h ha), cb_end h]
    rfl
  · rw [if_neg (fun q => h ((nI_leI (by omega) ha).mp q)), bd_go (show a < 4096 by omega) (by decide), nI_clamp ha, pk_and (T a) 8 (by decide)]
    unfold ubI cb
    rw [if_neg h, if_neg (show ¬ bv (T a) = 256 by unfold bv; omega)]
    rfl
def isBl (n : Nat) : Prop := n = 32 ∨ n = 9 ∨ n = 10 ∨ n = 13
def isDg (n : Nat) : Prop := 48 ≤ n ∧ n ≤ 57
theorem dig_eq : m_X8_isDigit (ubI (cb B L a)) = some (if 48 ≤ cb B L a ∧ cb B L a ≤ 57 then 1 else 0) := by
  unfold m_X8_isDigit
  simp only [ubl48, ubg57]
  have h0 := cb_le B L a
  by_cases h : 48 ≤ cb B L a ∧ cb B L a ≤ 57
  · rw [if_neg (by omega), if_neg (by omega), if_pos h]
  · rw [if_neg h]
    by_cases h1 : cb B L a = 256 ∨ cb B L a < 48
    · rw [if_pos h1]
    · rw [if_neg h1, if_pos (by omega)]
end UB
-- blanks
def sblf (B : Nat → Int32) (L : Nat) : Nat → Nat → Nat
  | 0, a => a
  | n + 1, a => if cb B L a = 32 ∨ cb B L a = 9 ∨ cb B L a = 10 ∨ cb B L a = 13 then sblf B L n (a + 1) else a
def sbl (B : Nat → Int32) (L a : Nat) : Nat := sblf B L (L - a) a
theorem sbl_s {B : Nat → Int32} {L a : Nat} : sbl B L a = if cb B L a = 32 ∨ cb B L a = 9 ∨ cb B L a = 10 ∨ cb B L a = 13 then sbl B L (a + 1) else a := by
  unfold sbl
  by_cases h : L ≤ a
  · rw [show L - a = 0 by omega, cb_end h]
    rfl
  · rw [show L - a = (L - (a + 1)) + 1 by omega]
    rfl
theorem sblf_le {B : Nat → Int32} {L : Nat} : ∀ (n a : Nat), a ≤ sblf B L n a ∧ sblf B L n a ≤ a + n := by
  intro n
  induction n with
  | zero => intro a; exact ⟨Nat.le_refl _, Nat.le_refl _⟩
  | succ n ih =>
    intro a
    simp only [sblf]
    have := ih (a + 1)
    by_cases h : cb B L a = 32 ∨ cb B L a = 9 ∨ cb B L a = 10 ∨ cb B L a = 13
    · rw [if_pos h]; omega
    · rw [if_neg h]; omega
theorem sbl_le {B : Nat → Int32} {L a : Nat} : a ≤ sbl B L a := (sblf_le _ _).1
theorem sbl_le2 {B : Nat → Int32} {L a : Nat} (h : a ≤ L) : sbl B L a ≤ L := by
  have := (sblf_le (B := B) (L := L) (L - a) a).2
  unfold sbl
  omega
section BBL
variable {T : Nat → Int32} {L : Nat}
theorem bbl_eq (hL : L ≤ 4096) {a : Nat} (ha : a ≤ 6000) : m_X7_behindBlanks T (nI L) (nI a) = some (nI (sbl T L a)) := by
  have go : ∀ (fuel a : Nat), a ≤ 6000 → L - a < fuel → m_X7_behindBlanks_2 T (nI L) fuel (nI a) = some (nI (sbl T L a)) := by
    intro fuel
    induction fuel with
    | zero => intro a _ hf; exact absurd hf (Nat.not_lt_zero _)
    | succ fuel ih =>
      intro a ha hf
      simp only [m_X7_behindBlanks_2, nI_1]
      rw [sbl_s]
      by_cases h : L ≤ a
      · rw [if_pos (nI_le h (by omega)), cb_end h]
        rfl
      · rw [if_neg (fun q => h ((nI_leI (by omega) (by omega)).mp q)), byt_eq hL (by omega)]
        simp only [Option.bind_some, m_X7_isBlank, ub32, ub10, ub13, ub9]
        have ih1 := ih (a + 1) (by omega) (by omega)
        by_cases h1 : cb T L a = 32
        · rw [if_pos h1, if_pos (Or.inl h1)]
          simp only [Option.bind_some]
          rw [if_neg (by decide)]
          exact ih1
        · by_cases h2 : cb T L a = 10
          · rw [if_neg h1, if_pos h2, if_pos (Or.inr (Or.inr (Or.inl h2)))]
            simp only [Option.bind_some]
            rw [if_neg (by decide)]
            exact ih1
          · by_cases h3 : cb T L a = 13
            · rw [if_neg h1, if_neg h2, if_pos h3, if_pos (Or.inr (Or.inr (Or.inr h3)))]
              simp only [Option.bind_some]
              rw [if_neg (by decide)]
              exact ih1
            · by_cases h4 : cb T L a = 9
              · rw [if_neg h1, if_neg h2, if_neg h3, if_pos h4, if_pos (Or.inr (Or.inl h4))]
                simp only [Option.bind_some]
                rw [if_neg (by decide)]
                exact ih1
              · rw [if_neg h1, if_neg h2, if_neg h3, if_neg h4, if_neg (by omega)]
                simp only [Option.bind_some, if_true]
  exact go sr_fuel a ha (by unfold sr_fuel; omega)
end BBL
