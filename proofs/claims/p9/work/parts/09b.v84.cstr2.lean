-- a string, exactly
def sC (v : Nat) : Nat ⊕ (List Nat × Nat) → Nat ⊕ (List Nat × Nat)
  | .inl w => .inl w
  | .inr (l, q) => .inr (v :: l, q)
def sE (x : Nat ⊕ Nat) (k : Nat → Nat ⊕ (List Nat × Nat)) : Nat ⊕ (List Nat × Nat) := match x with
  | .inl w => .inl w
  | .inr v => sC v (k v)
def elen (B : Nat → Int32) (L q : Nat) : Nat := if cb B L (q + 1) = 117 then 6 else 2
def sstrf (B : Nat → Int32) (L : Nat) : Nat → Nat → Nat ⊕ (List Nat × Nat)
  | 0, q => .inl q
  | n + 1, q => if L ≤ q then .inl q else if cb B L q = 34 then .inr ([], q + 1) else if cb B L q < 32 ∨ 126 < cb B L q then .inl q else if cb B L q = 92 then sE (sesc B L q) (fun _ => sstrf B L n (q + elen B L q)) else sC (cb B L q) (sstrf B L n (q + 1))
theorem sstr_any {B : Nat → Int32} {L : Nat} : ∀ (n m q : Nat), L - q < n → L - q < m → sstrf B L n q = sstrf B L m q := by
  intro n
  induction n with
  | zero => intro m q h _; exact absurd h (Nat.not_lt_zero _)
  | succ n ih =>
    intro m q hn hm
    obtain ⟨m, rfl⟩ : ∃ k, m = k + 1 := ⟨m - 1, by omega⟩
    simp only [sstrf]
    by_cases h : L ≤ q
    · rw [if_pos h, if_pos h]
    · have he : 2 ≤ elen B L q := by
        unfold elen
        split <;> omega
      rw [ih m (q + elen B L q) (by omega) (by omega), ih m (q + 1) (by omega) (by omega)]
def sstr (B : Nat → Int32) (L q : Nat) : Nat ⊕ (List Nat × Nat) := sstrf B L (L + 1) q
theorem sstr_s {B : Nat → Int32} {L q : Nat} : sstr B L q = if L ≤ q then .inl q else if cb B L q = 34 then .inr ([], q + 1) else if cb B L q < 32 ∨ 126 < cb B L q then .inl q else if cb B L q = 92 then sE (sesc B L q) (fun _ => sstr B L (q + elen B L q)) else sC (cb B L q) (sstr B L (q + 1)) := by
  unfold sstr
  by_cases h : L ≤ q
  · simp only [sstrf, if_pos h]
  · have he : 2 ≤ elen B L q := by
      unfold elen
      split <;> omega
    rw [← sstr_any L (L + 1) (q + elen B L q) (by omega) (by omega), ← sstr_any L (L + 1) (q + 1) (by omega) (by omega)]
    rfl
theorem shex_pos {B : Nat → Int32} {L a : Nat} : ∀ (n j v w : Nat), shex B L a n j v = .inr w → n = 0 ∨ j + n ≤ L := by
  intro n
  induction n with
  | zero => intro j v w _; exact Or.inl rfl
  | succ n ih =>
    intro j v w h
    simp only [shex] at h
    by_cases q : hexv (cb B L j) = 16
    · rw [if_pos q] at h; cases h
    · rw [if_neg q] at h
      have hj : j < L := cb_lt (fun e => q (by rw [e]; decide))
      rcases ih _ _ _ h with e | e
      · right; omega
      · right; omega
theorem sesc_pos {B : Nat → Int32} {L a w : Nat} (h : sesc B L a = .inr w) : a + elen B L a ≤ L := by
  unfold elen
  by_cases c : cb B L (a + 1) = 117
  · rw [if_pos c]
    unfold sesc at h
    rw [c] at h
    have h2 : shex B L a 4 (a + 2) 0 = .inr w := h
    rcases shex_pos _ _ _ _ h2 with e | e
    · exact absurd e (by decide)
    · omega
  · rw [if_neg c]
    have : a + 1 < L := by
      apply cb_lt
      intro e
      unfold sesc at h
      rw [e] at h
      exact absurd h (by simp)
    omega
def wrS (f : Nat → Int32) (i : Nat) : List Nat → (Nat → Int32)
  | [] => f
  | v :: t => wrS (upd f i (vp_nar .byte ((nI v).toInt8.toInt32))) (i + 1) t
section CSTR2
variable {T Sd Am : Nat → Int32} {L : Nat}
theorem etr_eq {row : Nat → Int32} {n i : Nat} {v : Int32} (hn : n < 2 ^ 31) (hi : i < n) : m_X8_enter row n (nI i) v = some (upd row i v) := by
  unfold m_X8_enter
  rw [if_neg (nI_pos (by omega)), if_neg (show ¬ Int32.ofNat n ≤ nI i from fun q => absurd ((nI_leI (a := n) (b := i) (by omega) (by omega)).mp q) (by omega)), bd_go hi hn, nI_clamp (by omega)]
theorem say_eq {i : Nat} (hi : i < 4096) (b : Int32) : m_X7_say Sd (nI i) b = some (upd Sd i (vp_nar .byte (b.toInt8.toInt32))) := by
  unfold m_X7_say
  rw [if_neg (nI_pos (by omega)), if_neg (show ¬ Int32.ofNat 4096 ≤ nI i from fun q => absurd ((nI_leI (a := 4096) (b := i) (by omega) (by omega)).mp q) (by omega)), bd_go hi (by decide), nI_clamp (by omega)]
theorem rstr_go (hL : L ≤ 4096) (wp : Int32) {a : Nat} (ha : a < L) : ∀ (fuel k q : Nat) (Sd : Nat → Int32), q ≤ L → a + 1 + k ≤ q → L - q < fuel →
    (∃ w Sd', sstr T L q = .inl w ∧ m_X7_readString_6 T (nI L) fuel Sd Am wp (nI a) (nI k) (nI q) = some (-1, Sd', Am, nI w)) ∨ (∃ l q', sstr T L q = .inr (l, q') ∧ q < q' ∧ q' ≤ L ∧ q + l.length < q' ∧ m_X7_readString_6 T (nI L) fuel Sd Am wp (nI a) (nI k) (nI q) = some (nI q', wrS Sd (a + k) l, upd Am a (nI (k + l.length)), wp)) := by
  intro fuel
  induction fuel with
  | zero => intro k q Sd _ _ hf; exact absurd hf (Nat.not_lt_zero _)
  | succ fuel ih =>
    intro k q Sd hq hk hf
    have e5 : nI q + 5 = nI (q + 5) := nI_add q 5
    rw [sstr_s]
    simp only [m_X7_readString_6, m_X7_refuse, Option.bind_some, m_X7_readString_55, m_X7_readString_101, m_X7_readString_103, e5, nI_1]
    by_cases h : L ≤ q
    · rw [if_pos (nI_le h (by omega)), if_pos h]
      have e : L = q := by omega
      exact Or.inl ⟨q, Sd, rfl, by rw [e]⟩
    · rw [if_neg (fun z => h ((nI_leI (by omega) (by omega)).mp z)), if_neg h, byt_eq hL (by omega)]
      have hlt : q < L := by omega
      have hne : cb T L q ≠ 256 := by
        unfold cb bv
        rw [if_neg h]
        omega
      have hle := cb_le T L q
      simp only [Option.bind_some, ub34, ubl32, ub92]
      by_cases h1 : cb T L q = 34
      · rw [if_pos h1, if_pos h1, etr_eq (by decide) (show a < 4096 by omega)]
        exact Or.inr ⟨[], q + 1, rfl, by omega, by omega, by simp, rfl⟩
      · rw [if_neg h1, if_neg h1]
        by_cases h2 : cb T L q < 32
        · rw [if_pos (Or.inr h2), if_pos (Or.inl h2)]
          exact Or.inl ⟨q, Sd, rfl, rfl⟩
        · rw [if_neg (show ¬ (cb T L q = 256 ∨ cb T L q < 32) by omega)]
          have eu : ubI (cb T L q) = nI (cb T L q) := if_neg hne
          by_cases h3 : 126 < cb T L q
          · rw [if_neg (show ¬ ubI (cb T L q) ≤ 126 from fun z => absurd ((nI_leI (a := cb T L q) (b := 126) (by omega) (by decide)).mp (by rw [← eu]; exact z)) (by omega)), if_pos (Or.inr h3)]
            exact Or.inl ⟨q, Sd, rfl, rfl⟩
          · rw [if_pos (show ubI (cb T L q) ≤ 126 from by rw [eu]; exact nI_le (b := 126) (by omega) (by decide)), if_neg (show ¬ (cb T L q < 32 ∨ 126 < cb T L q) by omega)]
            by_cases h4 : cb T L q = 92
            · rw [if_pos h4, if_pos h4, resc_eq hL _ hlt]
              simp only [Option.bind_some]
              cases he : sesc T L q with
              | inl w => exact Or.inl ⟨w, Sd, rfl, rfl⟩
              | inr v =>
                have hv := sesc_le he
                have hp := sesc_pos he
                have hm : ¬ (nI v = -1) := fun z => by
                  have := nI_pos' (n := v) (by omega)
                  rw [z] at this
                  exact absurd this (by decide)
                simp only [sO, if_neg hm, sE, byt_eq hL (show q + 1 < 2 ^ 31 by omega), Option.bind_some, ub117, nI_add, say_eq (Sd := Sd) (show a + k < 4096 by omega)]
                have step : ∀ z, z = q + elen T L q → (∃ w Sd', sC v (sstr T L (q + elen T L q)) = .inl w ∧ m_X7_readString_6 T (nI L) fuel (upd Sd (a + k) (vp_nar .byte ((nI v).toInt8.toInt32))) Am wp (nI a) (nI (k + 1)) (nI z) = some (-1, Sd', Am, nI w)) ∨ (∃ l q', sC v (sstr T L (q + elen T L q)) = .inr (l, q') ∧ q < q' ∧ q' ≤ L ∧ q + l.length < q' ∧ m_X7_readString_6 T (nI L) fuel (upd Sd (a + k) (vp_nar .byte ((nI v).toInt8.toInt32))) Am wp (nI a) (nI (k + 1)) (nI z) = some (nI q', wrS Sd (a + k) l, upd Am a (nI (k + l.length)), wp)) := by
                  intro z hz
                  subst hz
                  have h2 : 2 ≤ elen T L q := by
                    unfold elen
                    split <;> omega
                  rcases ih (k + 1) (q + elen T L q) (upd Sd (a + k) (vp_nar .byte ((nI v).toInt8.toInt32))) hp (by omega) (by omega) with ⟨w, Sd', g1, g2⟩ | ⟨l, q', g1, g2, g3, g4, g5⟩
                  · exact Or.inl ⟨w, Sd', by rw [g1]; rfl, g2⟩
                  · refine Or.inr ⟨v :: l, q', by rw [g1]; rfl, by omega, g3, by simp only [List.length_cons]; omega, ?_⟩
                    rw [g5, List.length_cons, show k + (l.length + 1) = k + 1 + l.length by omega]
                    rfl
                by_cases h5 : cb T L (q + 1) = 117
                · rw [if_pos h5]
                  exact step _ (by unfold elen; rw [if_pos h5])
                · rw [if_neg h5]
                  exact step _ (by unfold elen; rw [if_neg h5])
            · rw [if_neg h4, if_neg h4]
              simp only [nI_add, say_eq (Sd := Sd) (show a + k < 4096 by omega), Option.bind_some, eu]
              rcases ih (k + 1) (q + 1) (upd Sd (a + k) (vp_nar .byte ((nI (cb T L q)).toInt8.toInt32))) (by omega) (by omega) (by omega) with ⟨w, Sd', g1, g2⟩ | ⟨l, q', g1, g2, g3, g4, g5⟩
              · exact Or.inl ⟨w, Sd', by rw [g1]; rfl, g2⟩
              · refine Or.inr ⟨cb T L q :: l, q', by rw [g1]; rfl, by omega, g3, by simp only [List.length_cons]; omega, ?_⟩
                rw [g5, List.length_cons, show k + (l.length + 1) = k + 1 + l.length by omega]
                rfl
theorem rstr_eq (hL : L ≤ 4096) (wp : Int32) {a : Nat} (ha : a < L) : (∃ w Sd', sstr T L (a + 1) = .inl w ∧ m_X7_readString T Sd Am (nI L) wp (nI a) = some (-1, Sd', Am, nI w)) ∨ (∃ l q', sstr T L (a + 1) = .inr (l, q') ∧ a + 1 < q' ∧ q' ≤ L ∧ a + 1 + l.length < q' ∧ m_X7_readString T Sd Am (nI L) wp (nI a) = some (nI q', wrS Sd a l, upd Am a (nI l.length), wp)) := by
  unfold m_X7_readString
  have := rstr_go (T := T) (Am := Am) hL wp ha sr_fuel 0 (a + 1) Sd (by omega) (by omega) (by unfold sr_fuel; omega)
  simp only [nI_0, Nat.add_zero, Nat.zero_add] at this
  simp only [nI_1]
  exact this
end CSTR2
