-- the reference's face: tape, letters, print, keep
/-- a text that reads well -/
def gT (B : Nat → Int32) (L : Nat) : Prop := L ≤ 4096 ∧ ∃ (a e n l sh lk kc dn root w : Nat) (K F : Nat → Int32) (N : Nat → Int64) (S I X Lt So Na Wi Ki Ma Fa kS kN kD kX Fi Pl To : Nat → Int32), rdOK B L a e n l sh lk kc dn root w K F N S I X Lt So Na Wi Ki Ma Fa kS kN kD kX Fi Pl To
/-- the kept texts -/
def KP (kept sizes : Nat → Int32) : Prop := ∀ p, p < 8 → sizes p = -1 ∨ ∃ B L, gT B L ∧ sizes p = nI L ∧ ∀ i, i < L → vp_nar .byte (kept (4096 * p + i)) = B i
/-- the text read last, if it read well -/
def HP (has : Int32) (yb : Nat → Int32) (yl ps : Int32) : Prop := has = 0 ∨ has = 1 ∧ ∃ B L w, gT B L ∧ yl = nI L ∧ (∀ i, i < L → vp_nar .byte (yb i) = B i) ∧ w ≤ 4096 ∧ ps = nI w
section MFC
variable {T : Nat → Int32} {L : Nat}
theorem adi_sp (hL : L + 4 ≤ 4096) (a : Int32) : SP (m_X10_addInt T (nI L) a) (fun r => r.2 = nI (L + 4)) := by
  have e0 : (24 : Int32) + -8 = 16 := by decide +kernel
  have e1 : (16 : Int32) + -8 = 8 := by decide +kernel
  have e2 : (8 : Int32) + -8 = 0 := by decide +kernel
  have e3 : (0 : Int32) + -8 = -8 := by decide +kernel
  have step : ∀ (f : Nat) (T : Nat → Int32) (i : Nat) (x : Int32), i < 4096 → ¬ x < 0 → ∃ T', m_X10_addInt_3 (f + 1) T (nI i) a x = m_X10_addInt_3 f T' (nI (i + 1)) a (x + -8) := by
    intro f T i x hi hx
    simp only [m_X10_addInt_3, if_neg hx, nI_1]
    rw [bd_go hi (by decide)]
    exact ⟨_, rfl⟩
  unfold m_X10_addInt
  obtain ⟨f, hf⟩ : ∃ f, sr_fuel = f + 1 + 1 + 1 + 1 + 1 := ⟨99995, rfl⟩
  rw [hf]
  obtain ⟨T1, h1⟩ := step (f + 1 + 1 + 1 + 1) T L 24 (by omega) (by decide)
  obtain ⟨T2, h2⟩ := step (f + 1 + 1 + 1) T1 (L + 1) 16 (by omega) (by decide)
  obtain ⟨T3, h3⟩ := step (f + 1 + 1) T2 (L + 1 + 1) 8 (by omega) (by decide)
  obtain ⟨T4, h4⟩ := step (f + 1) T3 (L + 1 + 1 + 1) 0 (by omega) (by decide)
  rw [h1, e0, h2, e1, h3, e2, h4, e3]
  simp only [m_X10_addInt_3, if_pos (show (-8 : Int32) < 0 by decide)]
  exact SP.ok rfl
theorem ref_0 (th : Int32) : m_X10_refused th 0 0 = some (0, 0) := by unfold m_X10_refused; decide +kernel
theorem ref_1 (th y : Int32) : m_X10_refused th 1 y = some (1, 1) := by unfold m_X10_refused; simp only [if_neg (show ¬ (1 : Int32) = 0 by decide)]; decide +kernel
theorem ref_2 (th : Int32) : m_X10_refused th 0 1 = some (1, 2) := by unfold m_X10_refused; decide +kernel
theorem mfe_ok (hL : L + 20 ≤ 4096) (th a0 a1 a2 a3 a4 : Int32) : ∃ T', m_X10_feed th T (nI L) a0 a1 a2 a3 a4 = some (nI (L + 20), (0, T', nI (L + 20))) := by
  have e20 : nI L + 20 = nI (L + 20) := nI_add L 20
  have h : SP (m_X10_feed th T (nI L) a0 a1 a2 a3 a4) (fun r => ∃ T', r = (nI (L + 20), (0, T', nI (L + 20)))) := by
    unfold m_X10_feed m_X10_feed_19
    rw [e20, if_pos (show nI (L + 20) ≤ 4096 from nI_le (b := 4096) hL (by omega))]
    simp only [ref_0, Option.bind_some, if_true]
    refine SP.bind (adi_sp (by omega) a0) ?_
    rintro ⟨T1, l1⟩ h1
    dsimp only at h1; subst h1
    refine SP.bind (adi_sp (by omega) a1) ?_
    rintro ⟨T2, l2⟩ h2
    dsimp only at h2; subst h2
    refine SP.bind (adi_sp (by omega) a2) ?_
    rintro ⟨T3, l3⟩ h3
    dsimp only at h3; subst h3
    refine SP.bind (adi_sp (by omega) a3) ?_
    rintro ⟨T4, l4⟩ h4
    dsimp only at h4; subst h4
    refine SP.bind (adi_sp (by omega) a4) ?_
    rintro ⟨T5, l5⟩ h5
    dsimp only at h5; subst h5
    exact SP.ok ⟨T5, rfl⟩
  obtain ⟨r, h1, T', h2⟩ := h
  exact ⟨T', by rw [h1, h2]⟩
theorem mfe_no (h0 : L ≤ 4096) (hL : ¬ L + 20 ≤ 4096) (th a0 a1 a2 a3 a4 : Int32) : m_X10_feed th T (nI L) a0 a1 a2 a3 a4 = some (0, (1, T, nI L)) := by
  have e20 : nI L + 20 = nI (L + 20) := nI_add L 20
  unfold m_X10_feed m_X10_feed_19
  rw [e20, if_neg (show ¬ nI (L + 20) ≤ 4096 from nI_ge (a := 4096) (by omega) (by omega))]
  simp only [ref_1, Option.bind_some, if_neg (show ¬ (1 : Int32) = 0 by decide)]
theorem wit_1 {x : Int32} {a n : Nat} (hn : n < 2 ^ 31) (ha : a ≤ n) (e : x = nI a) : m_X10_within x 0 (nI n) = some 1 := by
  subst e
  unfold m_X10_within
  rw [if_neg (nI_pos (by omega)), if_neg (Int32.not_lt.mpr (nI_le ha hn))]
theorem wit_0 {x : Int32} {n : Nat} (hn : n < 2 ^ 31) (hx : ∀ a, a ≤ n → x ≠ nI a) : m_X10_within x 0 (nI n) = some 0 := by
  unfold m_X10_within
  by_cases h : x < 0
  · rw [if_pos h]
  · obtain ⟨i, hi, rfl⟩ := nI_of h
    rw [if_neg h, if_pos]
    exact nI_lt (Nat.lt_of_not_le (fun z => hx i z rfl)) hi
theorem wit_sp {x : Int32} {n : Nat} (hn : n < 2 ^ 31) : (∃ a, a ≤ n ∧ x = nI a) ∧ m_X10_within x 0 (nI n) = some 1 ∨ (∀ a, a ≤ n → x ≠ nI a) ∧ m_X10_within x 0 (nI n) = some 0 := by
  by_cases h : ∃ a, a ≤ n ∧ x = nI a
  · obtain ⟨a, ha, e⟩ := h
    exact Or.inl ⟨⟨a, ha, e⟩, wit_1 hn ha e⟩
  · have : ∀ a, a ≤ n → x ≠ nI a := fun a ha e => h ⟨a, ha, e⟩
    exact Or.inr ⟨this, wit_0 hn this⟩
theorem men_ok {a : Nat} (h0 : L ≤ 4096) (ha : a ≤ L) (th : Int32) : m_X10_end th (nI L) (nI a) = some (0, nI a) := by
  unfold m_X10_end m_X10_end_18
  rw [wit_1 (by omega) ha rfl]
  simp only [ref_0, Option.bind_some, if_neg (show ¬ (1 : Int32) = 0 by decide), if_true]
theorem men_no {x : Int32} (h0 : L ≤ 4096) (hx : ∀ a, a ≤ L → x ≠ nI a) (th : Int32) : m_X10_end th (nI L) x = some (1, nI L) := by
  unfold m_X10_end m_X10_end_18
  rw [wit_0 (by omega) hx]
  simp only [ref_1, Option.bind_some, if_neg (show ¬ (1 : Int32) = 0 by decide), if_true]
theorem mpl_sp (x : Int32) : SP (m_X10_isPlace x) (fun r => r = 0 ∨ r = 1 ∧ ∃ i, i < 8 ∧ x = nI i) := by
  have e7 : (7 : Int32) = nI 7 := rfl
  unfold m_X10_isPlace
  rw [e7]
  rcases wit_sp (x := x) (n := 7) (by omega) with ⟨⟨a, ha, e⟩, h⟩ | ⟨-, h⟩
  · rw [h]
    exact SP.bb (Or.inr rfl) (SP.ok (Or.inr ⟨rfl, a, by omega, e⟩))
  · rw [h]
    exact SP.bb (Or.inl rfl) (SP.ok (Or.inl rfl))
theorem mle_sp {has : Int32} {yb yp : Nat → Int32} {yl ps : Int32} (hH : HP has yb yl ps) (th x : Int32) : SP (m_X10_letter th has yp ps x) (fun _ => True) := by
  unfold m_X10_letter m_X10_letter_25 m_X10_letter_30
  simp only [ref_0, ref_1, Option.bind_some, if_neg (show ¬ (1 : Int32) = 0 by decide), if_true]
  rcases hH with rfl | ⟨rfl, B, L, w, -, -, -, hw, rfl⟩
  · rw [if_pos rfl]; exact SP.ok trivial
  · rw [if_neg (by decide)]
    cases w with
    | zero =>
      have e1 : nI 0 - 1 = -1 := by decide +kernel
      have : m_X10_within x 0 (nI 0 - 1) = some 0 := by
        rw [e1]
        unfold m_X10_within
        by_cases h : x < 0
        · rw [if_pos h]
        · obtain ⟨i, hi, rfl⟩ := nI_of h
          rw [if_neg h, if_pos]
          exact Int32.lt_of_lt_of_le (by decide) (nI_pos' hi)
      rw [this]
      exact SP.ok trivial
    | succ w =>
      have e1 : nI (w + 1) - 1 = nI w := by rw [← nI_1]; exact Int32.add_sub_cancel _ _
      rw [e1]
      rcases wit_sp (x := x) (n := w) (by omega) with ⟨⟨a, ha, e⟩, h⟩ | ⟨-, h⟩
      · rw [h]
        subst e
        simp only [Option.bind_some, if_neg (show ¬ (1 : Int32) = 0 by decide)]
        rw [bd_go (show a < 4200 by omega) (by decide)]
        exact SP.ok trivial
      · rw [h]
        exact SP.ok trivial
theorem mpr_sp {has : Int32} {yb yp : Nat → Int32} {yl ps : Int32} (hH : HP has yb yl ps) (th : Int32) : SP (m_X10_print th has yp ps) (fun _ => True) := by
  unfold m_X10_print
  rcases hH with rfl | ⟨rfl, B, L, w, -, -, -, hw, rfl⟩
  · rw [if_pos rfl]; exact SP.ok trivial
  · rw [if_neg (by decide)]
    have inner : ∀ (K : Int64 → Int32 → Option Int64) (x3 : Int32), (∀ y, SP (K y (x3 + 1)) (fun _ => True)) → ∀ (fuel j : Nat) (x1 x4 : Int64), j ≤ 8 → 8 - j < fuel → SP (m_X9_print_32 yp (nI w) K fuel x1 x3 x4 (nI j)) (fun _ => True) := by
      intro K x3 hK fuel
      induction fuel with
      | zero => intro j x1 x4 _ hf; exact absurd hf (Nat.not_lt_zero _)
      | succ fuel ih =>
        intro j x1 x4 hj hf
        simp only [m_X9_print_32, nI_1]
        refine SP.ite (fun _ => hK _) (fun hc => ?_)
        have hlt : j < 8 := Nat.lt_of_not_le (fun q => hc (nI_le (a := 8) q (by omega)))
        exact SP.ite (fun _ => ih (j + 1) _ _ (by omega) (by omega)) (fun _ => ih (j + 1) _ _ (by omega) (by omega))
    have go : ∀ (fuel j : Nat) (x1 : Int64), j ≤ w → w - j < fuel → SP (m_X9_print_6 yp (nI w) fuel x1 (nI j)) (fun _ => True) := by
      intro fuel
      induction fuel with
      | zero => intro j x1 _ hf; exact absurd hf (Nat.not_lt_zero _)
      | succ fuel ih =>
        intro j x1 hj hf
        simp only [m_X9_print_6]
        refine SP.ite (fun _ => SP.ok trivial) (fun hc => ?_)
        have hlt : j < w := Nat.lt_of_not_le (fun q => hc (nI_le q (by omega)))
        rw [bd_go (show j < 4200 by omega) (by decide)]
        have := inner (m_X9_print_6 yp (nI w) fuel) (nI j) (fun y => by rw [nI_1]; exact ih (j + 1) y (by omega) (by omega)) sr_fuel 0 x1 ((x1 ^^^ ((yp ((nI j).toNatClampNeg)).toInt64)) &&& 255) (by omega) (by unfold sr_fuel; omega)
        rw [nI_0] at this
        exact this
    unfold m_X9_print
    have := go sr_fuel 0 (-4513414715797952619) (Nat.zero_le _) (by unfold sr_fuel; omega)
    rw [nI_0] at this
    exact SP.bind this (fun _ _ => SP.ok trivial)
end MFC
