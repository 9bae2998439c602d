-- words and numbers, exactly
theorem ls_get {s : List Nat} {j : Nat} (h : j < s.length) : s.getD j 0 = s[j] := by
  rw [List.getD_eq_getElem?_getD, List.getElem?_eq_getElem h]
  rfl
def wdl (w : Nat) : List Nat := [[116, 114, 117, 101], [102, 97, 108, 115, 101], [110, 117, 108, 108]].getD w []
theorem wdl_len : ∀ w, w < 3 → lenS.getD w 0 = (wdl w).length := by decide +kernel
theorem wdl_chr : ∀ w, w < 3 → ∀ j, j < (wdl w).length → (bytS.getD w []).getD j 0 = nI ((wdl w).getD j 0) ∧ (wdl w).getD j 0 < 256 := by decide +kernel
theorem wdl_sm : ∀ w, w < 3 → (wdl w).length ≤ 5 := by decide +kernel
def swd (B : Nat → Int32) (L : Nat) : List Nat → Nat → Nat ⊕ Nat
  | [], p => .inr p
  | c :: t, p => if cb B L p = c then swd B L t (p + 1) else .inl p
theorem swd_r {B : Nat → Int32} {L : Nat} : ∀ (l : List Nat) (p q : Nat), swd B L l p = .inr q → q = p + l.length := by
  intro l
  induction l with
  | nil => intro p q h; cases h; rfl
  | cons c t ih =>
    intro p q h
    simp only [swd] at h
    by_cases e : cb B L p = c
    · rw [if_pos e] at h
      have := ih _ _ h
      rw [List.length_cons]
      omega
    · rw [if_neg e] at h; cases h
def sdgf (B : Nat → Int32) (L : Nat) : Nat → Nat → Nat
  | 0, a => a
  | n + 1, a => if 48 ≤ cb B L a ∧ cb B L a ≤ 57 then sdgf B L n (a + 1) else a
def sdg (B : Nat → Int32) (L a : Nat) : Nat := sdgf B L (L - a) a
theorem sdg_s {B : Nat → Int32} {L a : Nat} : sdg B L a = if 48 ≤ cb B L a ∧ cb B L a ≤ 57 then sdg B L (a + 1) else a := by
  unfold sdg
  by_cases h : L ≤ a
  · rw [show L - a = 0 by omega, cb_end h]
    rfl
  · rw [show L - a = (L - (a + 1)) + 1 by omega]
    rfl
theorem sdgf_le {B : Nat → Int32} {L : Nat} : ∀ (n a : Nat), a ≤ sdgf B L n a ∧ sdgf B L n a ≤ a + n ∧ ∀ q, a ≤ q → q < sdgf B L n a → 48 ≤ cb B L q ∧ cb B L q ≤ 57 := by
  intro n
  induction n with
  | zero => intro a; exact ⟨Nat.le_refl _, Nat.le_refl _, fun q h1 h2 => absurd h2 (Nat.not_lt_of_le h1)⟩
  | succ n ih =>
    intro a
    simp only [sdgf]
    obtain ⟨h1, h2, h3⟩ := ih (a + 1)
    by_cases h : 48 ≤ cb B L a ∧ cb B L a ≤ 57
    · rw [if_pos h]
      refine ⟨by omega, by omega, fun q q1 q2 => ?_⟩
      by_cases e : q = a
      · rw [e]; exact h
      · exact h3 q (by omega) q2
    · rw [if_neg h]
      exact ⟨Nat.le_refl _, by omega, fun q q1 q2 => absurd q2 (Nat.not_lt_of_le q1)⟩
/-- whether the digits from q on, n of them, stay within a long; v: what stood before, below 0 -/
def swl (B : Nat → Int32) (L : Nat) (last : Nat) : Nat → Nat → Int64 → Bool
  | 0, _, _ => true
  | n + 1, q, v => if lg_cmp v (-922337203685477580) < 0 then false else if lg_cmp v (-922337203685477580) = 0 ∧ last < cb B L q - 48 then false else swl B L last n (q + 1) (v * 10 - (nI (cb B L q - 48)).toInt64)
def snum (B : Nat → Int32) (L a : Nat) : Nat ⊕ Nat :=
  let f := if cb B L a = 45 then a + 1 else a
  if 48 ≤ cb B L f ∧ cb B L f ≤ 57 then
    let b := if cb B L f = 48 then f + 1 else sdg B L (f + 1)
    if swl B L (if cb B L a = 45 then 8 else 7) (b - f) f 0 = true then .inr b else .inl a
  else .inl f
section CNUM
variable {T : Nat → Int32} {L : Nat}
theorem rwrd_eq (hL : L ≤ 4096) {w : Nat} (hw : w < 3) (wp : Int32) {a : Nat} (ha : a ≤ L) : m_X7_readWord T (nI L) wp (nI a) w = some (sO wp (swd T L (wdl w) a)) := by
  have hS : ¬ nS ≤ w := by unfold nS; omega
  have hln := wdl_len w hw
  have hsm := wdl_sm w hw
  have go : ∀ (fuel j : Nat), j ≤ (wdl w).length → (wdl w).length - j < fuel → m_X7_readWord_2 T (nI L) fuel wp (nI a) w (nI j) = some (sO wp (swd T L ((wdl w).drop j) (a + j))) := by
    intro fuel
    induction fuel with
    | zero => intro j _ hf; exact absurd hf (Nat.not_lt_zero _)
    | succ fuel ih =>
      intro j hj hf
      simp only [m_X7_readWord_2, if_neg hS, len_eq w (by omega), Option.bind_some, m_X7_refuse, hln, nI_add]
      by_cases h : (wdl w).length ≤ j
      · rw [if_pos (nI_le h (by omega)), List.drop_of_length_le h]
        have e : (wdl w).length = j := by omega
        rw [e]
        rfl
      · have hlt : j < (wdl w).length := by omega
        rw [if_neg (fun q => h ((nI_leI (by omega) (by omega)).mp q)), byt_eq hL (by omega)]
        obtain ⟨hc1, hc2⟩ := wdl_chr w hw j hlt
        simp only [Option.bind_some, chr_eq w (by omega) j (by rw [hln]; exact hlt), hc1, nI_1]
        have hd : (wdl w).drop j = (wdl w).getD j 0 :: (wdl w).drop (j + 1) := by
          rw [List.drop_eq_getElem_cons hlt, ls_get hlt]
        rw [hd]
        simp only [swd]
        by_cases hc : cb T L (a + j) = (wdl w).getD j 0
        · rw [if_pos ((ub_e (cb_le T L (a + j)) hc2).mpr hc), if_pos hc]
          exact ih (j + 1) (by omega) (by omega)
        · rw [if_neg (fun q => hc ((ub_e (cb_le T L (a + j)) hc2).mp q)), if_neg hc]
          rfl
  unfold m_X7_readWord
  have := go sr_fuel 0 (Nat.zero_le _) (by unfold sr_fuel; omega)
  rw [nI_0, List.drop_zero, Nat.add_zero] at this
  exact this
theorem iwl_eq (hL : L ≤ 4096) {f b : Nat} (hb : b ≤ L) (hfb : f ≤ b) (hd : ∀ q, f ≤ q → q < b → 48 ≤ cb T L q ∧ cb T L q ≤ 57) (x : Int32) : m_X7_isWithinLong T (nI L) (nI f) (nI b) x = some (if swl T L (if x = 0 then 7 else 8) (b - f) f 0 = true then 1 else 0) := by
  have go : ∀ (n fuel q last : Nat) (v : Int64), last < 10 → q + n = b → f ≤ q → n < fuel → m_X7_isWithinLong_19 T (nI L) fuel (nI b) (nI last) v (nI q) = some (if swl T L last n q v = true then 1 else 0) := by
    intro n
    induction n with
    | zero =>
      intro fuel q last v _ hq _ hf
      obtain ⟨fu, rfl⟩ : ∃ k, fuel = k + 1 := ⟨fuel - 1, by omega⟩
      simp only [m_X7_isWithinLong_19]
      rw [if_pos (nI_le (show b ≤ q by omega) (by omega))]
      rfl
    | succ n ih =>
      intro fuel q last v hlast hq hfq hf
      obtain ⟨fu, rfl⟩ : ∃ k, fuel = k + 1 := ⟨fuel - 1, by omega⟩
      obtain ⟨d1, d2⟩ := hd q hfq (by omega)
      simp only [m_X7_isWithinLong_19, m_X7_isWithinLong_63, nI_1]
      rw [if_neg (fun z => absurd ((nI_leI (a := b) (b := q) (by omega) (by omega)).mp z) (by omega)), byt_eq hL (by omega)]
      have eu : ubI (cb T L q) - 48 = nI (cb T L q - 48) := by
        rw [show ubI (cb T L q) = nI (cb T L q) from if_neg (by omega), show (48 : Int32) = nI 48 from rfl, pk_sub d1]
      simp only [Option.bind_some, eu]
      have hs : swl T L last (n + 1) q v = if lg_cmp v (-922337203685477580) < 0 then false else if lg_cmp v (-922337203685477580) = 0 ∧ last < cb T L q - 48 then false else swl T L last n (q + 1) (v * 10 - (nI (cb T L q - 48)).toInt64) := rfl
      by_cases c1 : lg_cmp v (-922337203685477580) < 0
      · rw [if_pos c1] at hs ⊢
        rw [hs]
        rfl
      · rw [if_neg c1] at hs ⊢
        have ih1 := ih fu (q + 1) last (v * 10 - (nI (cb T L q - 48)).toInt64) hlast (by omega) (by omega) (by omega)
        by_cases c2 : lg_cmp v (-922337203685477580) = 0
        · rw [if_pos c2]
          by_cases c3 : last < cb T L q - 48
          · rw [if_neg (fun z => absurd ((nI_leI (a := cb T L q - 48) (b := last) (by omega) (by omega)).mp z) (by omega))]
            rw [if_pos ⟨c2, c3⟩] at hs
            rw [hs]
            rfl
          · rw [if_pos (nI_le (by omega) (by omega))]
            rw [if_neg (fun z => c3 z.2)] at hs
            rw [hs]
            exact ih1
        · rw [if_neg c2]
          rw [if_neg (fun z => c2 z.1)] at hs
          rw [hs]
          exact ih1
  unfold m_X7_isWithinLong m_X7_isWithinLong_11
  by_cases h : x = 0
  · rw [if_pos h, if_pos h]
    exact go (b - f) sr_fuel f 7 0 (by decide) (by omega) (Nat.le_refl _) (by unfold sr_fuel; omega)
  · rw [if_neg h, if_neg h]
    exact go (b - f) sr_fuel f 8 0 (by decide) (by omega) (Nat.le_refl _) (by unfold sr_fuel; omega)
theorem rnum_eq (hL : L ≤ 4096) (wp : Int32) {a : Nat} (ha : a < L) : m_X7_readNumber T (nI L) wp (nI a) = some (sO wp (snum T L a)) := by
  have h87 : ∀ (x2 : Int32) (f b : Nat), f ≤ b → b ≤ L → (∀ q, f ≤ q → q < b → 48 ≤ cb T L q ∧ cb T L q ≤ 57) → m_X7_readNumber_87 T (nI L) wp (nI a) x2 (nI f) (nI b) = some (sO wp (if swl T L (if x2 = 0 then 7 else 8) (b - f) f 0 = true then .inr b else .inl a)) := by
    intro x2 f b h1 h2 h3
    unfold m_X7_readNumber_87
    rw [iwl_eq hL h2 h1 h3]
    simp only [Option.bind_some, m_X7_refuse]
    by_cases h : swl T L (if x2 = 0 then 7 else 8) (b - f) f 0 = true
    · rw [if_pos h, if_pos h, if_neg (by decide)]
      rfl
    · rw [if_neg h, if_neg h, if_pos rfl]
      rfl
  have go : ∀ (fuel b : Nat) (x2 : Int32) (f : Nat), f ≤ b → b ≤ L → L - b < fuel → (∀ q, f ≤ q → q < b → 48 ≤ cb T L q ∧ cb T L q ≤ 57) → m_X7_readNumber_60 T (nI L) fuel wp (nI a) x2 (nI f) (nI b) = some (sO wp (if swl T L (if x2 = 0 then 7 else 8) (sdg T L b - f) f 0 = true then .inr (sdg T L b) else .inl a)) := by
    intro fuel
    induction fuel with
    | zero => intro b x2 f _ _ hf _; exact absurd hf (Nat.not_lt_zero _)
    | succ fuel ih =>
      intro b x2 f h1 h2 hf h3
      simp only [m_X7_readNumber_60, nI_1]
      rw [sdg_s]
      by_cases h : L ≤ b
      · rw [if_pos (nI_le h (by omega)), if_neg (show ¬ (48 ≤ cb T L b ∧ cb T L b ≤ 57) by rw [cb_end h]; omega)]
        exact h87 x2 f b h1 h2 h3
      · rw [if_neg (fun z => h ((nI_leI (by omega) (by omega)).mp z)), byt_eq hL (by omega)]
        simp only [Option.bind_some, dig_eq]
        by_cases hd : 48 ≤ cb T L b ∧ cb T L b ≤ 57
        · simp only [if_pos hd, Option.bind_some]
          rw [if_neg (by decide)]
          refine ih (b + 1) x2 f (by omega) (by omega) (by omega) (fun q q1 q2 => ?_)
          by_cases e : q = b
          · rw [e]; exact hd
          · exact h3 q q1 (by omega)
        · simp only [if_neg hd, Option.bind_some, if_true]
          exact h87 x2 f b h1 h2 h3
  have h27 : ∀ (x2 : Int32) (f : Nat), f ≤ L → m_X7_readNumber_27 T (nI L) wp (nI a) x2 (nI f) = some (sO wp (if 48 ≤ cb T L f ∧ cb T L f ≤ 57 then (if swl T L (if x2 = 0 then 7 else 8) ((if cb T L f = 48 then f + 1 else sdg T L (f + 1)) - f) f 0 = true then .inr (if cb T L f = 48 then f + 1 else sdg T L (f + 1)) else .inl a) else .inl f)) := by
    intro x2 f hf
    unfold m_X7_readNumber_27
    rw [byt_eq hL (by omega)]
    simp only [Option.bind_some, dig_eq, m_X7_refuse, nI_1]
    by_cases hd : 48 ≤ cb T L f ∧ cb T L f ≤ 57
    · have hfL : f < L := cb_lt (B := T) (by omega)
      have h3 : ∀ q, f ≤ q → q < f + 1 → 48 ≤ cb T L q ∧ cb T L q ≤ 57 := fun q q1 q2 => by
        rw [show q = f by omega]
        exact hd
      simp only [if_pos hd, Option.bind_some]
      rw [if_neg (by decide)]
      simp only [ub48]
      by_cases h0 : cb T L f = 48
      · rw [if_pos h0, if_pos h0]
        exact h87 x2 f (f + 1) (by omega) (by omega) h3
      · rw [if_neg h0, if_neg h0]
        exact go sr_fuel (f + 1) x2 f (by omega) (by omega) (by unfold sr_fuel; omega) h3
    · simp only [if_neg hd, Option.bind_some, if_true]
      rfl
  unfold m_X7_readNumber m_X7_readNumber_15 snum
  rw [byt_eq hL (by omega)]
  simp only [Option.bind_some, ub45, nI_1]
  by_cases h : cb T L a = 45
  · simp only [if_pos h]
    rw [if_neg (by decide), h27 1 (a + 1) (by omega)]
    rw [if_neg (show ¬ (1 : Int32) = 0 by decide)]
  · simp only [if_neg h]
    rw [if_pos trivial, h27 0 a (by omega), if_pos rfl]
end CNUM
