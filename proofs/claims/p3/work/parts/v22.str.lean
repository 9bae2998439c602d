-- strings in the rows: names, words, members
/-- one answer, whatever lay in the stale rows -/
def DET {α : Type} (x : Gs → Option α) (P : α → Prop) : Prop := ∃ r, P r ∧ ∀ g, x g = some r
section DETs
variable {α β : Type} {P : α → Prop} {Q : β → Prop}
theorem DET.ok {r : α} (h : P r) : DET (fun _ => some r) P := ⟨r, h, fun _ => rfl⟩
theorem DET.ite {c : Prop} {i : Decidable c} {x y : Gs → Option α} (ht : c → DET x P) (hf : ¬ c → DET y P) : DET (fun g => @ite _ c i (x g) (y g)) P := by
  by_cases h : c
  · simp only [if_pos h]; exact ht h
  · simp only [if_neg h]; exact hf h
theorem DET.bind {x : Gs → Option α} {k : Gs → α → Option β} (h : DET x P) (hk : ∀ r, P r → DET (fun g => k g r) Q) : DET (fun g => (x g).bind (k g)) Q := by
  obtain ⟨r, h1, h2⟩ := h
  simp only [h2, Option.bind_some]
  exact hk r h1
theorem DET.mono {P' : α → Prop} {x : Gs → Option α} (h : DET x P) (hk : ∀ r, P r → P' r) : DET x P' := by
  obtain ⟨r, h1, h2⟩ := h
  exact ⟨r, hk r h1, h2⟩
theorem RES.bind {U V : Type} {fp : U → Int32 × Int32} {R : V → (Gs → U) → Prop} {x : Gs → Option α} {k : Gs → α → Option (Except U (V × U))} (h : DET x P) (hk : ∀ r, P r → RES (fun g => k g r) fp R) : RES (fun g => (x g).bind (k g)) fp R := by
  obtain ⟨r, h1, h2⟩ := h
  simp only [h2, Option.bind_some]
  exact hk r h1
end DETs
/-- the row x is a string of sz letters -/
def strN (K : Nat → Int32) (N : Nat → Int64) (S : Nat → Int32) (n l x sz : Nat) : Prop := x < n ∧ K x = 2 ∧ S x = nI sz ∧ ∃ st, N x = lN st ∧ st + sz ≤ l
/-- the row x says the literal w -/
def StrIs (K : Nat → Int32) (N : Nat → Int64) (S Lt : Nat → Int32) (n l x w : Nat) : Prop :=
  x < n ∧ K x = 2 ∧ S x = nI (lenS.getD w 0) ∧ ∃ st, N x = lN st ∧ st + lenS.getD w 0 ≤ l ∧ ∀ j, j < lenS.getD w 0 → Lt (st + j) = (bytS.getD w []).getD j 0
noncomputable def isV (K : Nat → Int32) (N : Nat → Int64) (S Lt : Nat → Int32) (n l x w : Nat) : Int32 := @ite Int32 (StrIs K N S Lt n l x w) (Classical.propDecidable _) 1 0
theorem isV_t {K S Lt : Nat → Int32} {N : Nat → Int64} {n l x w : Nat} (h : StrIs K N S Lt n l x w) : isV K N S Lt n l x w = 1 := if_pos h
theorem isV_f {K S Lt : Nat → Int32} {N : Nat → Int64} {n l x w : Nat} (h : ¬ StrIs K N S Lt n l x w) : isV K N S Lt n l x w = 0 := if_neg h
theorem isV_n {K S Lt : Nat → Int32} {N : Nat → Int64} {n l x w : Nat} (h : ¬ isV K N S Lt n l x w = 0) : StrIs K N S Lt n l x w := by
  by_cases hs : StrIs K N S Lt n l x w
  · exact hs
  · exact absurd (isV_f hs) h
theorem len_lt : ∀ w, w < 75 → lenS.getD w 0 < 40 := by decide +kernel
theorem is0 {tK tS tL : Nat → Int32} {tN : Nat → Int64} {n w : Nat} {x x4 : Int32} (hw : w < 75) : m_X9_is_32 tK tN tS tL (n + 1) x w 0 x4 = some 0 := by
  simp only [m_X9_is_32, if_neg (show ¬ nS ≤ w by unfold nS; omega), len_eq w hw, Option.bind_some]
  split <;> simp
theorem is_eq {K S Lt gK gS gL : Nat → Int32} {N gN : Nat → Int64} {n l x w : Nat} (hw : w < 75) (hx : x < n) (hn : n ≤ 4200) (hl : l ≤ 4200) (hs : K x = 2 → ∃ sz, strN K N S n l x sz) : m_X9_is (ov n K gK) (ov n N gN) (ov n S gS) (ov l Lt gL) (nI x) w = some (isV K N S Lt n l x w) := by
  have hlw := len_lt w hw
  simp only [m_X9_is, bd_go (show x < 4200 by omega) (by decide), bd_gc (show x < 4200 by omega) (by decide), nI_clamp (show x < 2 ^ 31 by omega), ov_lt hx, if_neg (show ¬ nS ≤ w by unfold nS; omega), len_eq w hw, Option.bind_some]
  by_cases h2 : K x = 2
  · obtain ⟨sz, -, -, hsz, st, hst, hle⟩ := hs h2
    rw [if_pos h2, hsz]
    by_cases hlen : sz = lenS.getD w 0
    · rw [if_pos (by rw [hlen])]
      have go : ∀ (n' j : Nat), j ≤ sz → sz - j < n' → (∀ i, i < j → Lt (st + i) = (bytS.getD w []).getD i 0) → m_X9_is_32 (ov n K gK) (ov n N gN) (ov n S gS) (ov l Lt gL) n' (nI x) w 1 (nI j) = some (isV K N S Lt n l x w) := by
        intro n'
        induction n' with
        | zero => intro j _ h; exact absurd h (Nat.not_lt_zero _)
        | succ n' ih =>
          intro j hj hn' hall
          simp only [m_X9_is_32, if_neg (show ¬ nS ≤ w by unfold nS; omega), len_eq w hw, Option.bind_some, ← hlen]
          by_cases hc : sz ≤ j
          · rw [if_pos (nI_le hc (by omega)), if_pos (Or.inr rfl), isV_t]
            exact ⟨hx, h2, by rw [← hlen]; exact hsz, st, hst, by omega, fun i hi => hall i (by omega)⟩
          · rw [if_neg (nI_ge (show j < sz by omega) (by omega)), if_neg (show ¬ (1 : Int32) = 0 by decide), bd_go (show x < 4200 by omega) (by decide), nI_clamp (show x < 2 ^ 31 by omega), ov_lt hx, hst, lN_i, nI_add, bd_go (show st + j < 4200 by omega) (by decide), chr_eq w hw j (by omega), Option.bind_some, nI_clamp (show st + j < 2 ^ 31 by omega), ov_lt (show st + j < l by omega)]
            by_cases hq : Lt (st + j) = (bytS.getD w []).getD j 0
            · rw [if_pos hq, nI_1]
              refine ih (j + 1) (by omega) (by omega) (fun i hi => ?_)
              by_cases hij : i = j
              · rw [hij]; exact hq
              · exact hall i (by omega)
            · rw [if_neg hq]
              obtain ⟨n'', rfl⟩ : ∃ n'', n' = n'' + 1 := ⟨n' - 1, by omega⟩
              rw [is0 hw, isV_f]
              rintro ⟨-, -, -, st', q1, q5, q2⟩
              rw [hst] at q1
              have e : st = st' := by
                have q3 := congrArg Int64.toInt32 q1
                rw [lN_i, lN_i] at q3
                exact (nI_eq (by omega) (by omega)).mp q3
              subst e
              exact hq (q2 j (by omega))
      exact go sr_fuel 0 (by omega) (by unfold sr_fuel; omega) (fun i hi => absurd hi (Nat.not_lt_zero _))
    · rw [if_neg (fun q => hlen ((nI_eq (by omega) (by omega)).mp q)), isV_f]
      · exact is0 (n := 99999) hw
      · rintro ⟨-, -, q, -⟩
        rw [hsz] at q
        exact hlen ((nI_eq (by omega) (by omega)).mp q)
  · rw [if_neg h2, isV_f (fun q => h2 q.2.1)]
    exact is0 (n := 99999) hw
