-- THE CLASS: its methods never say none; the tape, the strings, the members
def SP {α : Type} (x : Option α) (P : α → Prop) : Prop := ∃ r, x = some r ∧ P r
section SPs
variable {α β : Type} {P P' : α → Prop} {Q : β → Prop}
theorem SP.ok {r : α} (h : P r) : SP (some r) P := ⟨r, rfl, h⟩
theorem SP.bind {x : Option α} {f : α → Option β} (h : SP x P) (k : ∀ r, P r → SP (f r) Q) : SP (x.bind f) Q := by
  obtain ⟨r, rfl, h⟩ := h
  exact k r h
theorem SP.ite {c : Prop} {i : Decidable c} {x y : Option α} (ht : c → SP x P) (hf : ¬ c → SP y P) : SP (@ite _ c i x y) P := by
  by_cases h : c
  · rw [if_pos h]; exact ht h
  · rw [if_neg h]; exact hf h
theorem SP.mono {x : Option α} (h : SP x P) (k : ∀ r, P r → P' r) : SP x P' := by
  obtain ⟨r, h1, h2⟩ := h
  exact ⟨r, h1, k r h2⟩
theorem SP.any {x : Option α} (h : SP x P) : SP x (fun _ => True) := h.mono (fun _ _ => trivial)
end SPs
theorem fuel_s : ∃ f, sr_fuel = f + 1 ∧ 90000 < f := ⟨99999, rfl, by omega⟩
def b01 (r : Int32) : Prop := r = 0 ∨ r = 1
theorem ent_sp {row : Nat → Int32} {n : Nat} (hn : n < 2 ^ 31) (p : Int32) : SP (m_X8_entry row n p) (fun r => r = -1 ∨ ∃ i, i < n ∧ p = nI i ∧ r = row i) := by
  unfold m_X8_entry
  refine SP.ite (fun _ => SP.ok (Or.inl rfl)) (fun h0 => ?_)
  obtain ⟨i, hi, rfl⟩ := nI_of h0
  refine SP.ite (fun _ => SP.ok (Or.inl rfl)) (fun h1 => ?_)
  have hin : i < n := by
    apply Nat.lt_of_not_le
    intro q
    exact h1 (nI_le q hi)
  rw [bd_go hin hn, nI_clamp hi]
  exact SP.ok (Or.inr ⟨i, hin, rfl, rfl⟩)
theorem etr_sp {row : Nat → Int32} {n : Nat} {v : Int32} (hn : n < 2 ^ 31) (p : Int32) : SP (m_X8_enter row n p v) (fun r => r = row ∨ ∃ i, i < n ∧ p = nI i ∧ r = upd row i v) := by
  unfold m_X8_enter
  refine SP.ite (fun _ => SP.ok (Or.inl rfl)) (fun h0 => ?_)
  obtain ⟨i, hi, rfl⟩ := nI_of h0
  refine SP.ite (fun _ => SP.ok (Or.inl rfl)) (fun h1 => ?_)
  have hin : i < n := by
    apply Nat.lt_of_not_le
    intro q
    exact h1 (nI_le q hi)
  rw [bd_go hin hn, nI_clamp hi]
  exact SP.ok (Or.inr ⟨i, hin, rfl, rfl⟩)
theorem dig_sp (c : Int32) : SP (m_X8_isDigit c) b01 := by
  unfold m_X8_isDigit
  exact SP.ite (fun _ => SP.ok (Or.inl rfl)) (fun _ => SP.ite (fun _ => SP.ok (Or.inl rfl)) (fun _ => SP.ok (Or.inr rfl)))
theorem ltr_sp (c : Int32) : SP (m_X8_isLetter c) b01 := by
  unfold m_X8_isLetter
  repeat' (first | exact SP.ok (Or.inl rfl) | exact SP.ok (Or.inr rfl) | refine SP.ite (fun _ => ?_) (fun _ => ?_))
theorem plc_sp (c : Int32) : SP (m_X8_isPlace c) (fun r => r = 0 ∨ r = 1 ∧ ∃ i, i < 8 ∧ c = nI i) := by
  unfold m_X8_isPlace
  refine SP.ite (fun _ => SP.ok (Or.inl rfl)) (fun h0 => SP.ite (fun _ => SP.ok (Or.inl rfl)) (fun h1 => SP.ok (Or.inr ⟨rfl, ?_⟩)))
  obtain ⟨i, hi, rfl⟩ := nI_of h0
  refine ⟨i, ?_, rfl⟩
  apply Nat.lt_of_not_le
  intro q
  exact h1 (nI_le (a := 8) q hi)
/-- the amounts of a text's values -/
def AM (am : Nat → Int32) : Prop := ∀ i, i < 4096 → ∃ k, k ≤ 4096 ∧ am i = nI k
theorem AM.etr {am r : Nat → Int32} {k : Nat} {p : Int32} (h : AM am) (hk : k ≤ 4096) (hr : r = am ∨ ∃ i, i < 4096 ∧ p = nI i ∧ r = upd am i (nI k)) : AM r := by
  rcases hr with rfl | ⟨j, hj, -, rfl⟩
  · exact h
  · intro i hi
    by_cases e : i = j
    · subst e; exact ⟨k, hk, pk_us⟩
    · rw [pk_un e]; exact h i hi
theorem amt_sp {am : Nat → Int32} (h : AM am) (p : Int32) : SP (m_X8_entry am 4096 p) (fun r => r = -1 ∨ ∃ k, k ≤ 4096 ∧ r = nI k) := by
  refine (ent_sp (by decide) p).mono ?_
  rintro r (h1 | ⟨i, hi, -, rfl⟩)
  · exact Or.inl h1
  · exact Or.inr (h i hi)
theorem amo_sp {am : Nat → Int32} (h : AM am) (p : Int32) : SP (m_X7_amount am p) (fun r => r = -1 ∨ ∃ k, k ≤ 4096 ∧ r = nI k) := by
  unfold m_X7_amount
  exact SP.bind (amt_sp h p) (fun r hr => SP.ok hr)
theorem inn_sp {row : Nat → Int32} (p : Int32) : SP (m_X7_inner row p) (fun _ => True) := by
  unfold m_X7_inner
  exact SP.bind (ent_sp (by decide) p) (fun r _ => SP.ok trivial)
theorem nxt_sp {row : Nat → Int32} (p : Int32) : SP (m_X7_next row p) (fun _ => True) := by
  unfold m_X7_next
  exact SP.bind (ent_sp (by decide) p) (fun r _ => SP.ok trivial)
section CTX
variable {T Sd In Nx Am : Nat → Int32} {L : Nat}
theorem byt_sp (hL : L ≤ 4096) (p : Int32) : SP (m_X7_byteAt T (nI L) p) (fun r => r = -1 ∨ ∃ a, a < L ∧ p = nI a) := by
  unfold m_X7_byteAt
  refine SP.ite (fun _ => SP.ok (Or.inl rfl)) (fun h0 => ?_)
  obtain ⟨i, hi, rfl⟩ := nI_of h0
  refine SP.ite (fun _ => SP.ok (Or.inl rfl)) (fun h1 => ?_)
  have hin : i < L := by
    apply Nat.lt_of_not_le
    intro q
    exact h1 (nI_le q hi)
  rw [bd_go (show i < 4096 by omega) (by decide)]
  exact SP.ok (Or.inr ⟨i, hin, rfl⟩)
theorem byt_neg {p : Int32} (h : p < 0) : m_X7_byteAt T (nI L) p = some (-1) := by
  unfold m_X7_byteAt
  rw [if_pos h]
theorem iss_sp (hL : L ≤ 4096) (p : Int32) : SP (m_X7_isString T (nI L) p) (fun r => r = 0 ∨ r = 1 ∧ ∃ a, a < L ∧ p = nI a) := by
  unfold m_X7_isString
  refine SP.bind (byt_sp hL p) (fun r hr => SP.ite (fun e => SP.ok (Or.inr ⟨rfl, ?_⟩)) (fun _ => SP.ok (Or.inl rfl)))
  rcases hr with rfl | h
  · exact absurd e (by decide)
  · exact h
theorem isl_sp (hL : L ≤ 4096) (p : Int32) : SP (m_X7_isList T (nI L) p) b01 := by
  unfold m_X7_isList
  exact SP.bind (byt_sp hL p) (fun r hr => SP.ite (fun e => SP.ok (Or.inr rfl)) (fun _ => SP.ok (Or.inl rfl)))
theorem iso_sp (hL : L ≤ 4096) (p : Int32) : SP (m_X7_isObject T (nI L) p) b01 := by
  unfold m_X7_isObject
  exact SP.bind (byt_sp hL p) (fun r hr => SP.ite (fun e => SP.ok (Or.inr rfl)) (fun _ => SP.ok (Or.inl rfl)))
theorem isn_sp (hL : L ≤ 4096) (p : Int32) : SP (m_X7_isNumber T (nI L) p) (fun r => r = 0 ∨ r = 1 ∧ ∃ a, a < L ∧ p = nI a) := by
  unfold m_X7_isNumber
  refine SP.bind (byt_sp hL p) (fun r hr => SP.ite (fun e => SP.ok (Or.inr ⟨rfl, ?_⟩)) (fun _ => ?_))
  · rcases hr with rfl | h
    · exact absurd e (by decide)
    · exact h
  · rcases hr with rfl | h
    · have : m_X8_isDigit (-1) = some 0 := by decide +kernel
      rw [this]
      exact SP.ok (Or.inl rfl)
    · exact SP.bind (dig_sp r) (fun z hz => SP.ite (fun _ => SP.ok (Or.inl rfl)) (fun _ => SP.ok (Or.inr ⟨rfl, h⟩)))
theorem sai_sp (p : Int32) : SP (m_X7_saidAt Sd p) (fun _ => True) := by
  unfold m_X7_saidAt
  refine SP.ite (fun _ => SP.ok trivial) (fun h0 => ?_)
  obtain ⟨i, hi, rfl⟩ := nI_of h0
  refine SP.ite (fun _ => SP.ok trivial) (fun h1 => ?_)
  have hin : i < 4096 := by
    apply Nat.lt_of_not_le
    intro q
    exact h1 (nI_le (a := 4096) q hi)
  rw [bd_go hin (by decide)]
  exact SP.ok trivial
theorem says_sp (hL : L ≤ 4096) {w : Nat} (hw : w < 75) (p : Int32) : SP (m_X7_says T Sd Am (nI L) p w) b01 := by
  have hlw := len_lt w hw
  have hS : ¬ nS ≤ w := by unfold nS; omega
  have go : ∀ (fuel j : Nat), j ≤ lenS.getD w 0 → lenS.getD w 0 - j < fuel → SP (m_X7_says_29 T Sd Am (nI L) fuel p w (nI j)) b01 := by
    intro fuel
    induction fuel with
    | zero => intro j _ hf; exact absurd hf (Nat.not_lt_zero _)
    | succ fuel ih =>
      intro j hj hf
      simp only [m_X7_says_29, if_neg hS, len_eq w hw, Option.bind_some]
      refine SP.ite (fun _ => SP.ok (Or.inr rfl)) (fun hc => ?_)
      have hlt : j < lenS.getD w 0 := by
        apply Nat.lt_of_not_le
        intro q
        exact hc (nI_le q (by omega))
      refine SP.bind (sai_sp _) (fun r _ => ?_)
      simp only [chr_eq w hw j hlt, Option.bind_some, nI_1]
      exact SP.ite (fun _ => ih (j + 1) (by omega) (by omega)) (fun _ => SP.ok (Or.inl rfl))
  unfold m_X7_says
  refine SP.bind (byt_sp hL p) (fun r hr => SP.ite (fun _ => ?_) (fun _ => SP.ok (Or.inl rfl)))
  refine SP.bind (ent_sp (by decide) p) (fun r3 _ => ?_)
  simp only [if_neg hS, len_eq w hw, Option.bind_some]
  refine SP.ite (fun _ => ?_) (fun _ => SP.ok (Or.inl rfl))
  have := go sr_fuel 0 (by omega) (by unfold sr_fuel; omega)
  rw [nI_0] at this
  exact this
/-- a loop up to a number that may be -1 -/
theorem up_to {α : Type} {P : α → Prop} {x : Int32} (hx : x = -1 ∨ ∃ k, k ≤ 4096 ∧ x = nI k) {f : Nat → Nat → Option α} (hneg : x = -1 → SP (f sr_fuel 0) P) (hpos : ∀ k, k ≤ 4096 → x = nI k → ∀ (fuel j : Nat), j ≤ k → k - j < fuel → SP (f fuel j) P) : SP (f sr_fuel 0) P := by
  rcases hx with h | ⟨k, hk, h⟩
  · exact hneg h
  · exact hpos k hk h sr_fuel 0 (Nat.zero_le _) (by unfold sr_fuel; omega)
theorem sasa_sp (hA : AM Am) (p q : Int32) : SP (m_X7_saysSame Sd Am p q) b01 := by
  unfold m_X7_saysSame
  refine SP.bind (amt_sp hA p) (fun r hr => SP.bind (amt_sp hA q) (fun r2 _ => SP.ite (fun _ => ?_) (fun _ => SP.ok (Or.inl rfl))))
  have key : SP ((fun fuel j => m_X7_saysSame_26 Sd Am fuel p q r (nI j)) sr_fuel 0) b01 := by
    refine up_to (f := fun fuel j => m_X7_saysSame_26 Sd Am fuel p q r (nI j)) hr (fun e => ?_) (fun k hk e => ?_)
    · subst e
      obtain ⟨fu, hfu, hfb⟩ := fuel_s
      show SP (m_X7_saysSame_26 Sd Am sr_fuel p q (-1) (nI 0)) b01
      rw [hfu]
      simp only [m_X7_saysSame_26, if_pos (show (-1 : Int32) ≤ nI 0 by decide)]
      exact SP.ok (Or.inr rfl)
    · subst e
      intro fuel
      induction fuel with
      | zero => intro j _ hf; exact absurd hf (Nat.not_lt_zero _)
      | succ fuel ih =>
        intro j hj hf
        show SP (m_X7_saysSame_26 Sd Am (fuel + 1) p q (nI k) (nI j)) b01
        simp only [m_X7_saysSame_26, nI_1]
        refine SP.ite (fun _ => SP.ok (Or.inr rfl)) (fun hc => SP.bind (sai_sp _) (fun _ _ => SP.bind (sai_sp _) (fun _ _ => SP.ite (fun _ => ih (j + 1) ?_ ?_) (fun _ => SP.ok (Or.inl rfl)))))
        · have : j < k := Nat.lt_of_not_le (fun q => hc (nI_le q (by omega)))
          omega
        · have : j < k := Nat.lt_of_not_le (fun q => hc (nI_le q (by omega)))
          omega
  simp only [nI_0] at key
  exact key
theorem hash_sp (hA : AM Am) (p : Int32) : SP (m_X7_hash Sd Am p) (fun _ => True) := by
  unfold m_X7_hash
  refine SP.bind (amt_sp hA p) (fun r hr => ?_)
  have key : ∀ x3 : Int32, SP ((fun fuel j => m_X7_hash_14 Sd Am fuel p r x3 (nI j)) sr_fuel 0) (fun _ => True) := by
    rcases hr with e | ⟨k, hk, e⟩
    · intro x3
      subst e
      obtain ⟨fu, hfu, hfb⟩ := fuel_s
      show SP (m_X7_hash_14 Sd Am sr_fuel p (-1) x3 (nI 0)) _
      rw [hfu]
      simp only [m_X7_hash_14, if_pos (show (-1 : Int32) ≤ nI 0 by decide)]
      exact SP.ok trivial
    · subst e
      have go : ∀ (fuel j : Nat) (x3 : Int32), j ≤ k → k - j < fuel → SP (m_X7_hash_14 Sd Am fuel p (nI k) x3 (nI j)) (fun _ => True) := by
        intro fuel
        induction fuel with
        | zero => intro j x3 _ hf; exact absurd hf (Nat.not_lt_zero _)
        | succ fuel ih =>
          intro j x3 hj hf
          simp only [m_X7_hash_14, nI_1]
          refine SP.ite (fun _ => SP.ok trivial) (fun hc => SP.bind (sai_sp _) (fun _ _ => ih (j + 1) _ ?_ ?_))
          · have : j < k := Nat.lt_of_not_le (fun q => hc (nI_le q (by omega)))
            omega
          · have : j < k := Nat.lt_of_not_le (fun q => hc (nI_le q (by omega)))
            omega
      exact fun x3 => go sr_fuel 0 x3 (Nat.zero_le _) (by unfold sr_fuel; omega)
  have := key r
  simp only [nI_0] at this
  exact this
theorem sanm_sp (hL : L ≤ 4096) (hA : AM Am) (p : Int32) : SP (m_X7_saysName T Sd Am (nI L) p) b01 := by
  unfold m_X7_saysName
  refine SP.bind (amo_sp hA p) (fun r hr => SP.bind (iss_sp hL p) (fun _ _ => SP.ite (fun _ => SP.ok (Or.inl rfl)) (fun _ => SP.ite (fun _ => SP.ok (Or.inl rfl)) (fun h1 => SP.ite (fun _ => SP.ok (Or.inl rfl)) (fun _ => SP.bind (sai_sp _) (fun _ _ => SP.bind (dig_sp _) (fun _ _ => SP.ite (fun _ => ?_) (fun _ => SP.ok (Or.inl rfl)))))))))
  rcases hr with e | ⟨k, hk, e⟩
  · subst e; exact absurd (by decide) h1
  · subst e
    have go : ∀ (fuel j : Nat), j ≤ k → k - j < fuel → SP (m_X7_saysName_40 T Sd Am (nI L) fuel p (nI k) (nI j)) b01 := by
      intro fuel
      induction fuel with
      | zero => intro j _ hf; exact absurd hf (Nat.not_lt_zero _)
      | succ fuel ih =>
        intro j hj hf
        simp only [m_X7_saysName_40, nI_1]
        refine SP.ite (fun _ => SP.ok (Or.inr rfl)) (fun hc => ?_)
        have : j < k := Nat.lt_of_not_le (fun q => hc (nI_le q (by omega)))
        have ih1 := ih (j + 1) (by omega) (by omega)
        exact SP.bind (sai_sp _) (fun _ _ => SP.bind (ltr_sp _) (fun _ _ => SP.ite (fun _ => SP.bind (dig_sp _) (fun _ _ => SP.ite (fun _ => SP.ite (fun _ => ih1) (fun _ => SP.ok (Or.inl rfl))) (fun _ => ih1))) (fun _ => ih1)))
    have := go sr_fuel 0 (Nat.zero_le _) (by unfold sr_fuel; omega)
    rw [nI_0] at this
    exact this
theorem mbr_sp (hL : L ≤ 4096) (hA : AM Am) {w : Nat} (hw : w < 75) (p : Int32) : SP (m_X7_member T Sd In Nx Am (nI L) p w) (fun _ => True) := by
  have go : ∀ (fuel j : Nat) (x3 : Int32), j ≤ 4097 → 4097 - j < fuel → SP (m_X7_member_9 T Sd In Nx Am (nI L) fuel p w x3 (nI j)) (fun _ => True) := by
    intro fuel
    induction fuel with
    | zero => intro j x3 _ hf; exact absurd hf (Nat.not_lt_zero _)
    | succ fuel ih =>
      intro j x3 hj hf
      simp only [m_X7_member_9, nI_1]
      refine SP.bind (amo_sp hA p) (fun r hr => SP.ite (fun _ => SP.ok trivial) (fun hc => ?_))
      have hlt : j < 4096 := by
        rcases hr with e | ⟨k, hk, e⟩
        · subst e
          exact absurd (Int32.le_trans (by decide) (nI_pos' (show j < 2 ^ 31 by omega))) hc
        · subst e
          have : j < k := Nat.lt_of_not_le (fun q => hc (nI_le q (by omega)))
          omega
      exact SP.bind (says_sp hL hw _) (fun _ _ => SP.ite (fun _ => SP.bind (nxt_sp _) (fun _ _ => ih (j + 1) _ (by omega) (by omega))) (fun _ => SP.bind (inn_sp _) (fun _ _ => SP.ok trivial)))
  unfold m_X7_member
  refine SP.bind (inn_sp _) (fun r _ => ?_)
  have := go sr_fuel 0 r (Nat.zero_le _) (by unfold sr_fuel; omega)
  rw [nI_0] at this
  exact this
theorem numat_sp (hL : L ≤ 4096) (p : Int32) : SP (m_X7_numberAt T (nI L) p) (fun _ => True) := by
  have go : ∀ (fuel b : Nat) (x2 : Int32) (x3 : Int64), b ≤ L → L - b < fuel → SP (m_X7_numberAt_31 T (nI L) fuel x2 x3 (nI b)) (fun _ => True) := by
    intro fuel
    induction fuel with
    | zero => intro b x2 x3 _ hf; exact absurd hf (Nat.not_lt_zero _)
    | succ fuel ih =>
      intro b x2 x3 hb hf
      simp only [m_X7_numberAt_31, nI_1]
      refine SP.ite (fun _ => SP.ite (fun _ => SP.ok trivial) (fun _ => SP.ok trivial)) (fun hc => ?_)
      have : b < L := Nat.lt_of_not_le (fun q => hc (nI_le q (by omega)))
      exact SP.bind (byt_sp hL _) (fun _ _ => SP.bind (dig_sp _) (fun _ _ => SP.ite (fun _ => SP.ite (fun _ => SP.ok trivial) (fun _ => SP.ok trivial)) (fun _ => SP.bind (byt_sp hL _) (fun _ _ => ih (b + 1) _ _ (by omega) (by omega)))))
  have all : ∀ (x2 : Int32) (x3 : Int64) (q : Int32), SP (m_X7_numberAt_31 T (nI L) sr_fuel x2 x3 q) (fun _ => True) := by
    intro x2 x3 q
    by_cases h0 : q < 0
    · obtain ⟨fu, hfu, hfb⟩ := fuel_s
      show SP (m_X7_numberAt_31 T (nI L) sr_fuel x2 x3 q) _
      rw [hfu]
      have hd : m_X8_isDigit (-1) = some 0 := by decide +kernel
      simp only [m_X7_numberAt_31, byt_neg h0, Option.bind_some, hd, if_true]
      exact SP.ite (fun _ => SP.ite (fun _ => SP.ok trivial) (fun _ => SP.ok trivial)) (fun _ => SP.ite (fun _ => SP.ok trivial) (fun _ => SP.ok trivial))
    · obtain ⟨i, hi, rfl⟩ := nI_of h0
      by_cases h1 : L ≤ i
      · obtain ⟨fu, hfu, hfb⟩ := fuel_s
        show SP (m_X7_numberAt_31 T (nI L) sr_fuel x2 x3 (nI i)) _
        rw [hfu]
        simp only [m_X7_numberAt_31, if_pos (nI_le h1 hi)]
        exact SP.ite (fun _ => SP.ok trivial) (fun _ => SP.ok trivial)
      · exact go sr_fuel i x2 x3 (by omega) (by unfold sr_fuel; omega)
  unfold m_X7_numberAt m_X7_numberAt_15
  exact SP.bind (byt_sp hL p) (fun _ _ => SP.ite (fun _ => SP.ite (fun _ => all _ _ _) (fun _ => all _ _ _)) (fun _ => SP.ite (fun _ => all _ _ _) (fun _ => all _ _ _)))
theorem bbl_sp (hL : L ≤ 4096) (p : Int32) : SP (m_X7_behindBlanks T (nI L) p) (fun _ => True) := by
  have blk : ∀ c, SP (m_X7_isBlank c) b01 := fun c => by
    unfold m_X7_isBlank
    repeat' (first | exact SP.ok (Or.inl rfl) | exact SP.ok (Or.inr rfl) | refine SP.ite (fun _ => ?_) (fun _ => ?_))
  have go : ∀ (fuel b : Nat), b ≤ L → L - b < fuel → SP (m_X7_behindBlanks_2 T (nI L) fuel (nI b)) (fun _ => True) := by
    intro fuel
    induction fuel with
    | zero => intro b _ hf; exact absurd hf (Nat.not_lt_zero _)
    | succ fuel ih =>
      intro b hb hf
      simp only [m_X7_behindBlanks_2, nI_1]
      refine SP.ite (fun _ => SP.ok trivial) (fun hc => ?_)
      have : b < L := Nat.lt_of_not_le (fun q => hc (nI_le q (by omega)))
      exact SP.bind (byt_sp hL _) (fun _ _ => SP.bind (blk _) (fun _ _ => SP.ite (fun _ => SP.ok trivial) (fun _ => ih (b + 1) (by omega) (by omega))))
  unfold m_X7_behindBlanks
  by_cases h0 : p < 0
  · obtain ⟨fu, hfu, hfb⟩ := fuel_s
    show SP (m_X7_behindBlanks_2 T (nI L) sr_fuel p) _
    rw [hfu]
    have hd : m_X7_isBlank (-1) = some 0 := by decide +kernel
    simp only [m_X7_behindBlanks_2, byt_neg h0, Option.bind_some, hd, if_true]
    exact SP.ite (fun _ => SP.ok trivial) (fun _ => SP.ok trivial)
  · obtain ⟨i, hi, rfl⟩ := nI_of h0
    by_cases h1 : L ≤ i
    · obtain ⟨fu, hfu, hfb⟩ := fuel_s
      show SP (m_X7_behindBlanks_2 T (nI L) sr_fuel (nI i)) _
      rw [hfu]
      simp only [m_X7_behindBlanks_2, if_pos (nI_le h1 hi)]
      exact SP.ok trivial
    · exact go sr_fuel i (by omega) (by unfold sr_fuel; omega)
end CTX
