-- the reference's bytes, and what they are as numbers
def BY (B : Nat → Int32) (L : Nat) : Prop := ∀ i, i < L → (B i).toInt8.toInt32 = B i
def sbI (n : Nat) : Int32 := if n = 256 then -1 else if n < 128 then nI n else nI n - 256
theorem byte_int (x : Int32) : x.toInt8.toInt32.toInt = if bv x < 128 then (bv x : Int) else (bv x : Int) - 256 := by
  rw [Int8.toInt_toInt32, Int32.toInt_toInt8, Int.bmod_def]
  have e : x.toInt = if 2 * x.toBitVec.toNat < 2 ^ 32 then (x.toBitVec.toNat : Int) else (x.toBitVec.toNat : Int) - ((2 ^ 32 : Nat) : Int) := BitVec.toInt_eq_toNat_cond x.toBitVec
  have hl : x.toBitVec.toNat < 2 ^ 32 := x.toBitVec.isLt
  rw [e]
  unfold bv
  generalize x.toBitVec.toNat = n at hl ⊢
  by_cases h : 2 * n < 2 ^ 32
  · simp only [if_pos h]
    by_cases h2 : n % 256 < 128
    · rw [if_pos h2, if_pos (by omega)]
      omega
    · rw [if_neg h2, if_neg (by omega)]
      omega
  · simp only [if_neg h]
    by_cases h2 : n % 256 < 128
    · rw [if_pos h2, if_pos (by omega)]
      omega
    · rw [if_neg h2, if_neg (by omega)]
      omega
theorem sbI_int {n : Nat} (hn : n ≤ 256) : (sbI n).toInt = if n = 256 then -1 else if n < 128 then (n : Int) else (n : Int) - 256 := by
  unfold sbI
  by_cases h : n = 256
  · rw [if_pos h, if_pos h]
    rfl
  · rw [if_neg h, if_neg h]
    by_cases h2 : n < 128
    · rw [if_pos h2, if_pos h2, nI_toInt (by omega)]
    · rw [if_neg h2, if_neg h2, show (256 : Int32) = nI 256 from rfl, pk_sub_toInt (by omega) (by omega)]
      rfl
theorem rk_sb {B : Nat → Int32} {L : Nat} (hB : BY B L) (a : Nat) : rk B L a = sbI (cb B L a) := by
  unfold rk cb
  by_cases h : L ≤ a
  · rw [if_pos h, if_pos h]
    rfl
  · rw [if_neg h, if_neg h]
    have hb : bv (B a) < 256 := Nat.mod_lt _ (by decide)
    apply Int32.toInt_inj.mp
    rw [sbI_int (by omega), if_neg (by omega), ← byte_int, hB a (by omega)]
theorem sb_e {n c : Nat} (hn : n ≤ 256) (hc : c < 128) : (sbI n = nI c) ↔ n = c := by
  rw [← Int32.toInt_inj, sbI_int hn, nI_toInt (by omega)]
  by_cases h : n = 256
  · rw [if_pos h]; omega
  · rw [if_neg h]
    by_cases h2 : n < 128
    · rw [if_pos h2]; omega
    · rw [if_neg h2]; omega
theorem sb_l {n c : Nat} (hn : n ≤ 256) (hc : c < 128) : (sbI n < nI c) ↔ n = 256 ∨ 128 ≤ n ∨ n < c := by
  rw [Int32.lt_iff_toInt_lt, sbI_int hn, nI_toInt (by omega)]
  by_cases h : n = 256
  · rw [if_pos h]; omega
  · rw [if_neg h]
    by_cases h2 : n < 128
    · rw [if_pos h2]; omega
    · rw [if_neg h2]; omega
theorem sb_g {n c : Nat} (hn : n ≤ 256) (hc : c < 128) : (nI c < sbI n) ↔ n < 128 ∧ c < n := by
  rw [Int32.lt_iff_toInt_lt, sbI_int hn, nI_toInt (by omega)]
  by_cases h : n = 256
  · rw [if_pos h]; omega
  · rw [if_neg h]
    by_cases h2 : n < 128
    · rw [if_pos h2]; omega
    · rw [if_neg h2]; omega
section SB
variable {B : Nat → Int32} {L a : Nat}
theorem sb9 : (sbI (cb B L a) = 9) = (cb B L a = 9) := propext (sb_e (cb_le B L a) (c := 9) (by decide))
theorem sb10 : (sbI (cb B L a) = 10) = (cb B L a = 10) := propext (sb_e (cb_le B L a) (c := 10) (by decide))
theorem sb13 : (sbI (cb B L a) = 13) = (cb B L a = 13) := propext (sb_e (cb_le B L a) (c := 13) (by decide))
theorem sb32 : (sbI (cb B L a) = 32) = (cb B L a = 32) := propext (sb_e (cb_le B L a) (c := 32) (by decide))
theorem sb34 : (sbI (cb B L a) = 34) = (cb B L a = 34) := propext (sb_e (cb_le B L a) (c := 34) (by decide))
theorem sb44 : (sbI (cb B L a) = 44) = (cb B L a = 44) := propext (sb_e (cb_le B L a) (c := 44) (by decide))
theorem sb45 : (sbI (cb B L a) = 45) = (cb B L a = 45) := propext (sb_e (cb_le B L a) (c := 45) (by decide))
theorem sb47 : (sbI (cb B L a) = 47) = (cb B L a = 47) := propext (sb_e (cb_le B L a) (c := 47) (by decide))
theorem sb48 : (sbI (cb B L a) = 48) = (cb B L a = 48) := propext (sb_e (cb_le B L a) (c := 48) (by decide))
theorem sb58 : (sbI (cb B L a) = 58) = (cb B L a = 58) := propext (sb_e (cb_le B L a) (c := 58) (by decide))
theorem sb91 : (sbI (cb B L a) = 91) = (cb B L a = 91) := propext (sb_e (cb_le B L a) (c := 91) (by decide))
theorem sb92 : (sbI (cb B L a) = 92) = (cb B L a = 92) := propext (sb_e (cb_le B L a) (c := 92) (by decide))
theorem sb93 : (sbI (cb B L a) = 93) = (cb B L a = 93) := propext (sb_e (cb_le B L a) (c := 93) (by decide))
theorem sb98 : (sbI (cb B L a) = 98) = (cb B L a = 98) := propext (sb_e (cb_le B L a) (c := 98) (by decide))
theorem sb102 : (sbI (cb B L a) = 102) = (cb B L a = 102) := propext (sb_e (cb_le B L a) (c := 102) (by decide))
theorem sb110 : (sbI (cb B L a) = 110) = (cb B L a = 110) := propext (sb_e (cb_le B L a) (c := 110) (by decide))
theorem sb114 : (sbI (cb B L a) = 114) = (cb B L a = 114) := propext (sb_e (cb_le B L a) (c := 114) (by decide))
theorem sb116 : (sbI (cb B L a) = 116) = (cb B L a = 116) := propext (sb_e (cb_le B L a) (c := 116) (by decide))
theorem sb117 : (sbI (cb B L a) = 117) = (cb B L a = 117) := propext (sb_e (cb_le B L a) (c := 117) (by decide))
theorem sb123 : (sbI (cb B L a) = 123) = (cb B L a = 123) := propext (sb_e (cb_le B L a) (c := 123) (by decide))
theorem sb125 : (sbI (cb B L a) = 125) = (cb B L a = 125) := propext (sb_e (cb_le B L a) (c := 125) (by decide))
theorem sbl32 : (sbI (cb B L a) < 32) = (cb B L a = 256 ∨ 128 ≤ cb B L a ∨ cb B L a < 32) := propext (sb_l (cb_le B L a) (c := 32) (by decide))
theorem sbl48 : (sbI (cb B L a) < 48) = (cb B L a = 256 ∨ 128 ≤ cb B L a ∨ cb B L a < 48) := propext (sb_l (cb_le B L a) (c := 48) (by decide))
theorem sbl65 : (sbI (cb B L a) < 65) = (cb B L a = 256 ∨ 128 ≤ cb B L a ∨ cb B L a < 65) := propext (sb_l (cb_le B L a) (c := 65) (by decide))
theorem sbl97 : (sbI (cb B L a) < 97) = (cb B L a = 256 ∨ 128 ≤ cb B L a ∨ cb B L a < 97) := propext (sb_l (cb_le B L a) (c := 97) (by decide))
theorem sbg57 : (57 < sbI (cb B L a)) = (cb B L a < 128 ∧ 57 < cb B L a) := propext (sb_g (cb_le B L a) (c := 57) (by decide))
theorem sbg70 : (70 < sbI (cb B L a)) = (cb B L a < 128 ∧ 70 < cb B L a) := propext (sb_g (cb_le B L a) (c := 70) (by decide))
theorem sbg102 : (102 < sbI (cb B L a)) = (cb B L a < 128 ∧ 102 < cb B L a) := propext (sb_g (cb_le B L a) (c := 102) (by decide))
theorem sbg126 : (126 < sbI (cb B L a)) = (cb B L a < 128 ∧ 126 < cb B L a) := propext (sb_g (cb_le B L a) (c := 126) (by decide))
theorem rbl_eq (hB : BY B L) (hL : L ≤ 4096) (g : Nat → Int32) (ha : a ≤ L) : m_X9_blanks (ov L B g) (nI L) (nI a) = some (nI (sbl B L a)) := by
  have go : ∀ (n a : Nat), a ≤ L → L - a < n → m_X9_blanks_0 (ov L B g) (nI L) n (nI a) = some (nI (sbl B L a)) := by
    intro n
    induction n with
    | zero => intro a _ h; exact absurd h (Nat.not_lt_zero _)
    | succ n ih =>
      intro a ha hn
      rw [blanks_step hL ha, sbl_s, rk_sb hB]
      simp only [sb32, sb9, sb10, sb13]
      by_cases h : cb B L a = 32 ∨ cb B L a = 9 ∨ cb B L a = 10 ∨ cb B L a = 13
      · rw [if_pos h, if_pos h]
        have hlt : a < L := cb_lt (B := B) (by omega)
        exact ih (a + 1) (by omega) (by omega)
      · rw [if_neg h, if_neg h]
  exact go sr_fuel a ha (by unfold sr_fuel; omega)
end SB
