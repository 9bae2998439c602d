-- strings in the rows: names, words, members
/-- one answer, whatever lay in the stale rows -/
def DET {α : Type} (x : Gs → Option α) (P : α → Prop) : Prop := ∃ r, P r ∧ ∀ g, x g = some r
section DETs
variable {α β : Type} {P : α → Prop} {Q : β → Prop}
theorem DET.ok {r : α} (h : P r) : DET (fun _ => some r) P := ⟨r, h, fun _ => rfl⟩
theorem DET.ite {c : Prop} {i : Decidable c} {x y : Gs → Option α} (ht : c → DET x P) (hf : ¬ c → DET y P) : DET (fun g => @ite _ c i (x g) (y g)) P := by
  by_cases h : c
  · simp only [if_pos h]; exact ht h
  · simp only [if_neg h]; exact hf h
theorem DET.bind {x : Gs → Option α} {k : Gs → α → Option β} (h : DET x P) (hk : ∀ r, P r → DET (fun g => k g r) Q) : DET (fun g => (x g).bind (k g)) Q := by
  obtain ⟨r, h1, h2⟩ := h
  simp only [h2, Option.bind_some]
  exact hk r h1
theorem DET.mono {P' : α → Prop} {x : Gs → Option α} (h : DET x P) (hk : ∀ r, P r → P' r) : DET x P' := by
  obtain ⟨r, h1, h2⟩ := h
  exact ⟨r, hk r h1, h2⟩
theorem RES.bind {U V : Type} {fp : U → Int32 × Int32} {R : V → (Gs → U) → Prop} {x : Gs → Option α} {k : Gs → α → Option (Except U (V × U))} (h : DET x P) (hk : ∀ r, P r → RES (fun g => k g r) fp R) : RES (fun g => (x g).bind (k g)) fp R := by
  obtain ⟨r, h1, h2⟩ := h
  simp only [h2, Option.bind_some]
  exact hk r h1
end DETs
/-- the row x is a string of sz letters -/
def strN (K : Nat → Int32) (N : Nat → Int64) (S : Nat → Int32) (n l x sz : Nat) : Prop := x < n ∧ K x = 2 ∧ S x = nI sz ∧ ∃ st, N x = lN st ∧ st + sz ≤ l
/-- the row x says the literal w -/
def StrIs (K : Nat → Int32) (N : Nat → Int64) (S Lt : Nat → Int32) (n l x w : Nat) : Prop :=
  x < n ∧ K x = 2 ∧ S x = nI (lenS.getD w 0) ∧ ∃ st, N x = lN st ∧ st + lenS.getD w 0 ≤ l ∧ ∀ j, j < lenS.getD w 0 → Lt (st + j) = (bytS.getD w []).getD j 0
noncomputable def isV (K : Nat → Int32) (N : Nat → Int64) (S Lt : Nat → Int32) (n l x w : Nat) : Int32 := @ite Int32 (StrIs K N S Lt n l x w) (Classical.propDecidable _) 1 0
theorem isV_t {K S Lt : Nat → Int32} {N : Nat → Int64} {n l x w : Nat} (h : StrIs K N S Lt n l x w) : isV K N S Lt n l x w = 1 := if_pos h
theorem isV_f {K S Lt : Nat → Int32} {N : Nat → Int64} {n l x w : Nat} (h : ¬ StrIs K N S Lt n l x w) : isV K N S Lt n l x w = 0 := if_neg h
theorem isV_n {K S Lt : Nat → Int32} {N : Nat → Int64} {n l x w : Nat} (h : ¬ isV K N S Lt n l x w = 0) : StrIs K N S Lt n l x w := by
  by_cases hs : StrIs K N S Lt n l x w
  · exact hs
  · exact absurd (isV_f hs) h
theorem len_lt : ∀ w, w < 75 → lenS.getD w 0 < 40 := by decide +kernel
theorem is0 {tK tS tL : Nat → Int32} {tN : Nat → Int64} {n w : Nat} {x x4 : Int32} (hw : w < 75) : m_X9_is_32 tK tN tS tL (n + 1) x w 0 x4 = some 0 := by
  simp only [m_X9_is_32, if_neg (show ¬ nS ≤ w by unfold nS; omega), len_eq w hw, Option.bind_some]
  split <;> simp
theorem is_eq {K S Lt gK gS gL : Nat → Int32} {N gN : Nat → Int64} {n l x w : Nat} (hw : w < 75) (hx : x < n) (hn : n ≤ 4200) (hl : l ≤ 4200) (hs : K x = 2 → ∃ sz, strN K N S n l x sz) : m_X9_is (ov n K gK) (ov n N gN) (ov n S gS) (ov l Lt gL) (nI x) w = some (isV K N S Lt n l x w) := by
  have hlw := len_lt w hw
  simp only [m_X9_is, bd_go (show x < 4200 by omega) (by decide), bd_gc (show x < 4200 by omega) (by decide), nI_clamp (show x < 2 ^ 31 by omega), ov_lt hx, if_neg (show ¬ nS ≤ w by unfold nS; omega), len_eq w hw, Option.bind_some]
  by_cases h2 : K x = 2
  · obtain ⟨sz, -, -, hsz, st, hst, hle⟩ := hs h2
    rw [if_pos h2, hsz]
    by_cases hlen : sz = lenS.getD w 0
    · rw [if_pos (by rw [hlen])]
      have go : ∀ (n' j : Nat), j ≤ sz → sz - j < n' → (∀ i, i < j → Lt (st + i) = (bytS.getD w []).getD i 0) → m_X9_is_32 (ov n K gK) (ov n N gN) (ov n S gS) (ov l Lt gL) n' (nI x) w 1 (nI j) = some (isV K N S Lt n l x w) := by
        intro n'
        induction n' with
        | zero => intro j _ h; exact absurd h (Nat.not_lt_zero _)
        | succ n' ih =>
          intro j hj hn' hall
          simp only [m_X9_is_32, if_neg (show ¬ nS ≤ w by unfold nS; omega), len_eq w hw, Option.bind_some, ← hlen]
          by_cases hc : sz ≤ j
          · rw [if_pos (nI_le hc (by omega)), if_pos (Or.inr trivial), isV_t]
            exact ⟨hx, h2, by rw [← hlen]; exact hsz, st, hst, by omega, fun i hi => hall i (by omega)⟩
          · rw [if_neg (nI_ge (show j < sz by omega) (by omega)), if_neg (show ¬ (1 : Int32) = 0 by decide), bd_go (show x < 4200 by omega) (by decide), nI_clamp (show x < 2 ^ 31 by omega), ov_lt hx, hst, lN_i, nI_add, bd_go (show st + j < 4200 by omega) (by decide), chr_eq w hw j (by omega), Option.bind_some, nI_clamp (show st + j < 2 ^ 31 by omega), ov_lt (show st + j < l by omega)]
            by_cases hq : Lt (st + j) = (bytS.getD w []).getD j 0
            · rw [if_pos hq, nI_1]
              refine ih (j + 1) (by omega) (by omega) (fun i hi => ?_)
              by_cases hij : i = j
              · rw [hij]; exact hq
              · exact hall i (by omega)
            · rw [if_neg hq]
              obtain ⟨n'', rfl⟩ : ∃ n'', n' = n'' + 1 := ⟨n' - 1, by omega⟩
              rw [is0 hw, isV_f]
              rintro ⟨-, -, -, st', q1, q5, q2⟩
              rw [hst] at q1
              have e : st = st' := by
                have q3 := congrArg Int64.toInt32 q1
                rw [lN_i, lN_i] at q3
                exact (nI_eq (by omega) (by omega)).mp q3
              subst e
              exact hq (q2 j (by omega))
      exact go sr_fuel 0 (by omega) (by unfold sr_fuel; omega) (fun i hi => absurd hi (Nat.not_lt_zero _))
    · rw [if_neg (fun q => hlen ((nI_eq (by omega) (by omega)).mp q)), isV_f]
      · exact is0 (n := 99999) hw
      · rintro ⟨-, -, q, -⟩
        rw [hsz] at q
        exact hlen ((nI_eq (by omega) (by omega)).mp q)
  · rw [if_neg h2, isV_f (fun q => h2 q.2.1)]
    exact is0 (n := 99999) hw
theorem mem_ok {K S I X Lt : Nat → Int32} {N : Nat → Int64} {n l v k w : Nat} {c : Nat → Nat} (hw : w < 75) (hn : n ≤ 4200) (hl : l ≤ 4200) (hv : v < n) (hk : k ≤ 5000) (hI : I v = (if k = 0 then -1 else nI (c 0)))
    (hc : ∀ i, i < k → c i + 1 < n ∧ X (c i) = nI (c i + 1) ∧ X (c i + 1) = (if i + 1 = k then -1 else nI (c (i + 1))) ∧ ∃ sz, strN K N S n l (c i) sz) :
    DET (fun g => m_X9_member (ov n K (g.1 0)) (ov n N g.2) (ov n S (g.1 2)) (ov n I (g.1 3)) (ov n X (g.1 4)) (ov l Lt (g.1 5)) (nI v) w) (fun r => r = -1 ∨ ∃ i, i < k ∧ r = nI (c i + 1) ∧ StrIs K N S Lt n l (c i) w) := by
  have go : ∀ (fuel i : Nat), i ≤ k → k - i < fuel → DET (fun g => m_X9_member_7 (ov n K (g.1 0)) (ov n N g.2) (ov n S (g.1 2)) (ov n I (g.1 3)) (ov n X (g.1 4)) (ov l Lt (g.1 5)) fuel w (if i = k then -1 else nI (c i))) (fun r => r = -1 ∨ ∃ i, i < k ∧ r = nI (c i + 1) ∧ StrIs K N S Lt n l (c i) w) := by
    intro fuel
    induction fuel with
    | zero => intro i _ hf; exact absurd hf (Nat.not_lt_zero _)
    | succ fuel ih =>
      intro i hi hf
      by_cases hik : i = k
      · simp only [if_pos hik, m_X9_member_7, if_pos (show (-1 : Int32) < 0 by decide)]
        exact DET.ok (Or.inl rfl)
      · obtain ⟨c1, c2, c3, sz, c4⟩ := hc i (by omega)
        simp only [if_neg hik, m_X9_member_7, if_neg (nI_pos (show c i < 2 ^ 31 by omega)), is_eq hw c4.1 hn hl (fun _ => ⟨sz, c4⟩), Option.bind_some]
        refine DET.ite (fun h0 => ?_) (fun h0 => ?_)
        · simp only [bd_go (show c i < 4200 by omega) (by decide), bd_gc (show c i < 4200 by omega) (by decide), nI_clamp (show c i < 2 ^ 31 by omega), ov_lt (show c i < n by omega), c2, bd_go (show c i + 1 < 4200 by omega) (by decide), bd_gc (show c i + 1 < 4200 by omega) (by decide), nI_clamp (show c i + 1 < 2 ^ 31 by omega), ov_lt c1, c3]
          exact ih (i + 1) (by omega) (by omega)
        · simp only [bd_go (show c i < 4200 by omega) (by decide), bd_gc (show c i < 4200 by omega) (by decide), nI_clamp (show c i < 2 ^ 31 by omega), ov_lt (show c i < n by omega), c2]
          exact DET.ok (Or.inr ⟨i, by omega, rfl, isV_n h0⟩)
  have hstart : (if k = 0 then (-1 : Int32) else nI (c 0)) = (if 0 = k then -1 else nI (c 0)) := by
    by_cases hk : k = 0
    · rw [if_pos hk, if_pos hk.symm]
    · rw [if_neg hk, if_neg (fun q => hk q.symm)]
  simp only [m_X9_member, bd_go (show v < 4200 by omega) (by decide), bd_gc (show v < 4200 by omega) (by decide), nI_clamp (show v < 2 ^ 31 by omega), ov_lt hv, hI, hstart]
  exact go sr_fuel 0 (by omega) (by unfold sr_fuel; omega)
theorem nm0 {tK tS tL : Nat → Int32} {tN : Nat → Int64} {n x : Nat} {x3 : Int32} (hx : x < 4200) : m_X9_isName_38 tK tN tS tL (n + 1) (nI x) 0 x3 = some 0 := by
  simp only [m_X9_isName_38, bd_go hx (by decide)]
  split <;> simp
theorem nm_ok {K S Lt : Nat → Int32} {N : Nat → Int64} {n l x : Nat} (hx : x < n) (hn : n ≤ 4200) (hl : l ≤ 4200) (hs : K x = 2 → ∃ sz, strN K N S n l x sz) :
    DET (fun g => m_X9_isName (ov n K (g.1 0)) (ov n N g.2) (ov n S (g.1 2)) (ov l Lt (g.1 5)) (nI x)) (fun r => r = 0 ∨ r = 1 ∧ ∃ sz, strN K N S n l x sz ∧ 1 ≤ sz ∧ sz ≤ 32) := by
  have e0 : DET (fun g => m_X9_isName_38 (ov n K (g.1 0)) (ov n N g.2) (ov n S (g.1 2)) (ov l Lt (g.1 5)) sr_fuel (nI x) 0 0) (fun r => r = 0 ∨ r = 1 ∧ ∃ sz, strN K N S n l x sz ∧ 1 ≤ sz ∧ sz ≤ 32) :=
    ⟨0, Or.inl rfl, fun g => nm0 (n := 99999) (by omega)⟩
  simp only [m_X9_isName, bd_go (show x < 4200 by omega) (by decide), bd_gc (show x < 4200 by omega) (by decide), nI_clamp (show x < 2 ^ 31 by omega), ov_lt hx]
  by_cases h2 : K x = 2
  · obtain ⟨sz, hsx⟩ := hs h2
    obtain ⟨-, -, hsz, st, hst, hle⟩ := hsx
    simp only [if_pos h2, hsz]
    refine DET.ite (fun _ => e0) (fun h1 => DET.ite (fun _ => e0) (fun h33 => ?_))
    have hs1 : 1 ≤ sz := by
      apply Nat.pos_of_ne_zero
      intro q
      exact h1 (by rw [q, nI_0]; decide)
    have hs32 : sz ≤ 32 := by
      apply Nat.le_of_not_lt
      intro q
      exact h33 (nI_le (a := 33) q (by omega))
    have go : ∀ (fuel j : Nat) (b : Int32), (b = 0 ∨ b = 1) → j ≤ sz → sz - j < fuel → DET (fun g => m_X9_isName_38 (ov n K (g.1 0)) (ov n N g.2) (ov n S (g.1 2)) (ov l Lt (g.1 5)) fuel (nI x) b (nI j)) (fun r => r = 0 ∨ r = 1) := by
      intro fuel
      induction fuel with
      | zero => intro j b _ _ hf; exact absurd hf (Nat.not_lt_zero _)
      | succ fuel ih =>
        intro j b hb hj hf
        rcases hb with rfl | rfl
        · exact ⟨0, Or.inl rfl, fun g => nm0 (by omega)⟩
        · by_cases hc : sz ≤ j
          · simp only [m_X9_isName_38, bd_go (show x < 4200 by omega) (by decide), bd_gc (show x < 4200 by omega) (by decide), nI_clamp (show x < 2 ^ 31 by omega), ov_lt hx, hsz, if_pos (nI_le hc (show j < 2 ^ 31 by omega)), or_true, if_true]
            exact DET.ok (Or.inr rfl)
          · have ih0 := ih (j + 1) 0 (Or.inl rfl) (by omega) (by omega)
            have ih1 := ih (j + 1) 1 (Or.inr rfl) (by omega) (by omega)
            simp only [m_X9_isName_38, m_X9_isName_86, m_X9_isName_87, m_X9_isName_103, m_X9_isName_117, m_X9_isName_133, bd_go (show x < 4200 by omega) (by decide), bd_gc (show x < 4200 by omega) (by decide), nI_clamp (show x < 2 ^ 31 by omega), ov_lt hx, hsz, if_neg (nI_ge (show j < sz by omega) (by omega)), if_neg (show ¬ (1 : Int32) = 0 by decide), hst, lN_i, nI_add, bd_go (show st + j < 4200 by omega) (by decide), bd_gc (show st + j < 4200 by omega) (by decide), nI_clamp (show st + j < 2 ^ 31 by omega), ov_lt (show st + j < l by omega), nI_1]
            repeat' (first | exact ih0 | exact ih1 | refine DET.ite (fun _ => ?_) (fun _ => ?_))
    refine (go sr_fuel 0 1 (Or.inr rfl) (by omega) (by unfold sr_fuel; omega)).mono ?_
    rintro r (h | h)
    · exact Or.inl h
    · exact Or.inr ⟨h, sz, ⟨hx, h2, hsz, st, hst, hle⟩, hs1, hs32⟩
  · simp only [if_neg h2]
    exact e0
theorem word_ok {K S Lt : Nat → Int32} {N : Nat → Int64} {n l x : Nat} (hx : x < n) (hn : n ≤ 4200) (hl : l ≤ 4200) (hs : K x = 2 → ∃ sz, strN K N S n l x sz) :
    DET (fun g => m_X9_word (ov n K (g.1 0)) (ov n N g.2) (ov n S (g.1 2)) (ov l Lt (g.1 5)) (nI x)) (fun r => r = -1 ∨ ∃ j, j < 6 ∧ r = nI j ∧ StrIs K N S Lt n l x (42 + j)) := by
  simp only [m_X9_word, is_eq (show 42 < 75 by decide) hx hn hl hs, is_eq (show 43 < 75 by decide) hx hn hl hs, is_eq (show 44 < 75 by decide) hx hn hl hs, is_eq (show 45 < 75 by decide) hx hn hl hs, is_eq (show 46 < 75 by decide) hx hn hl hs, is_eq (show 47 < 75 by decide) hx hn hl hs, Option.bind_some]
  refine DET.ite (fun _ => DET.ite (fun _ => DET.ite (fun _ => DET.ite (fun _ => DET.ite (fun _ => DET.ite (fun _ => ?_) (fun h => ?_)) (fun h => ?_)) (fun h => ?_)) (fun h => ?_)) (fun h => ?_)) (fun h => ?_)
  · exact DET.ok (Or.inl rfl)
  · exact DET.ok (Or.inr ⟨5, by decide, by decide, isV_n h⟩)
  · exact DET.ok (Or.inr ⟨4, by decide, by decide, isV_n h⟩)
  · exact DET.ok (Or.inr ⟨3, by decide, by decide, isV_n h⟩)
  · exact DET.ok (Or.inr ⟨2, by decide, by decide, isV_n h⟩)
  · exact DET.ok (Or.inr ⟨1, by decide, by decide, isV_n h⟩)
  · exact DET.ok (Or.inr ⟨0, by decide, by decide, isV_n h⟩)
/-- whether two strings of two texts are the same: one answer -/
theorem same_ok {K S Lt K' S' Lt' : Nat → Int32} {N N' : Nat → Int64} {n l n' l' x y sz sy : Nat} (hn : n ≤ 4200) (hl : l ≤ 4200) (hn' : n' ≤ 4200) (hl' : l' ≤ 4200) (hx : strN K N S n l x sz) (hy : strN K' N' S' n' l' y sy) :
    ∃ r : Int32, (r = 0 ∨ r = 1 ∧ sz = sy) ∧ ∀ (gN gN' : Nat → Int64) (gS gS' gL gL' : Nat → Int32), m_X9_same (ov n N gN) (ov n S gS) (ov l Lt gL) (ov n' N' gN') (ov n' S' gS') (ov l' Lt' gL') (nI x) (nI y) = some r := by
  obtain ⟨x1, -, x2, st, x3, x4⟩ := hx
  obtain ⟨y1, -, y2, st', y3, y4⟩ := hy
  by_cases h : sz = sy ∧ ∀ j, j < sz → Lt (st + j) = Lt' (st' + j)
  · obtain ⟨rfl, h⟩ := h
    refine ⟨1, Or.inr ⟨rfl, rfl⟩, fun gN gN' gS gS' gL gL' => ?_⟩
    refine same_t (st := st) (st' := st') (sz := sz) (by omega) (by omega) (by rw [ov_lt x1]; exact x3) (by rw [ov_lt x1]; exact x2) (by rw [ov_lt y1]; exact y3) (by rw [ov_lt y1]; exact y2) (by omega) (by omega) (fun j hj => ?_)
    rw [ov_lt (by omega), ov_lt (by omega)]; exact h j hj
  · refine ⟨0, Or.inl rfl, fun gN gN' gS gS' gL gL' => ?_⟩
    refine same_f (st := st) (st' := st') (sz := sz) (sz' := sy) (by omega) (by omega) (by rw [ov_lt x1]; exact x3) (by rw [ov_lt x1]; exact x2) (by rw [ov_lt y1]; exact y3) (by rw [ov_lt y1]; exact y2) (by omega) (by omega) (fun q => h ⟨q.1, fun j hj => ?_⟩)
    have := q.2 j hj
    rw [ov_lt (by omega), ov_lt (by have := q.1; omega)] at this
    exact this
theorem def_ok {K S Lt Na : Nat → Int32} {N : Nat → Int64} {n l x sz sh : Nat} (hn : n ≤ 4200) (hl : l ≤ 4200) (hx : strN K N S n l x sz) (hs6 : 6 ≤ sh) (hsh : sh ≤ 140) (hNa : ∀ s, 6 ≤ s → s < sh → Na s = -1 ∨ ∃ y sy, Na s = nI y ∧ strN K N S n l y sy) :
    DET (fun g => m_X9_defined (ov n N g.2) (ov n S (g.1 2)) (ov l Lt (g.1 5)) (nI sh) (ov sh Na (g.1 8)) (nI x)) (fun r => r = -1 ∨ ∃ s y, 6 ≤ s ∧ s < sh ∧ r = nI s ∧ Na s = nI y ∧ strN K N S n l y sz) := by
  have go : ∀ (fuel s : Nat), 6 ≤ s → s ≤ sh → sh - s < fuel → DET (fun g => m_X9_defined_3 (ov n N g.2) (ov n S (g.1 2)) (ov l Lt (g.1 5)) (nI sh) (ov sh Na (g.1 8)) fuel (nI x) (nI s)) (fun r => r = -1 ∨ ∃ s y, 6 ≤ s ∧ s < sh ∧ r = nI s ∧ Na s = nI y ∧ strN K N S n l y sz) := by
    intro fuel
    induction fuel with
    | zero => intro s _ _ hf; exact absurd hf (Nat.not_lt_zero _)
    | succ fuel ih =>
      intro s h6 hs hf
      by_cases hc : sh ≤ s
      · simp only [m_X9_defined_3, if_pos (nI_le hc (show s < 2 ^ 31 by omega))]
        exact DET.ok (Or.inl rfl)
      · have ih1 := ih (s + 1) (by omega) (by omega) (by omega)
        simp only [m_X9_defined_3, if_neg (nI_ge (show s < sh by omega) (by omega)), bd_go (show s < 140 by omega) (by decide), bd_gc (show s < 140 by omega) (by decide), nI_clamp (show s < 2 ^ 31 by omega), ov_lt (show s < sh by omega), nI_1]
        rcases hNa s h6 (by omega) with e | ⟨y, sy, e, hy⟩
        · simp only [e, if_pos (show (-1 : Int32) < 0 by decide)]
          exact ih1
        · obtain ⟨r, hr, hr2⟩ := same_ok (Lt := Lt) (Lt' := Lt) hn hl hn hl hy hx
          have hy' := hy.1
          simp only [e, if_neg (nI_pos (show y < 2 ^ 31 by omega)), hr2, Option.bind_some]
          refine DET.ite (fun _ => ih1) (fun h0 => ?_)
          rcases hr with rfl | ⟨rfl, rfl⟩
          · exact absurd rfl h0
          · exact DET.ok (Or.inr ⟨s, y, h6, by omega, rfl, e, hy⟩)
  exact go sr_fuel 6 (Nat.le_refl _) hs6 (by unfold sr_fuel; omega)
-- what a row of the tree is
section VDATA
variable {K F S I X Lt : Nat → Int32} {N : Nat → Int64} {n l h v m p q : Nat}
theorem Val.str (hv : Val K F N S I X l h v m p q) (h2 : K v = 2) (hm : m ≤ n) : ∃ sz, strN K N S n l v sz ∧ p + sz + 2 ≤ q := by
  have hlt := hv.basic.1
  have leaf : leafV K F N S l v m p q → ∃ sz, strN K N S n l v sz ∧ p + sz + 2 ≤ q := by
    rintro ⟨h1, h2', h3, ⟨-, st, sz, a1, a2, a3, a4⟩ | ⟨hk, -⟩ | hk | hk | hk⟩
    · exact ⟨sz, ⟨by omega, h2, a1, st, a2, a3⟩, a4⟩
    all_goals rw [h2] at hk; exact absurd hk (by decide)
  cases h with
  | zero => exact leaf hv
  | succ h =>
    rcases hv with hv | ⟨hk, -⟩ | ⟨hk, -⟩
    · exact leaf hv
    all_goals rw [h2] at hk; exact absurd hk (by decide)
theorem Val.row (hv : Val K F N S I X l h v m p q) (hm : m ≤ n) : v < n ∧ (K v = 2 → ∃ sz, strN K N S n l v sz) :=
  ⟨Nat.lt_of_lt_of_le hv.basic.1 hm, fun h2 => by obtain ⟨sz, h3, -⟩ := hv.str h2 hm; exact ⟨sz, h3⟩⟩
theorem Val.lst (hv : Val K F N S I X l h v m p q) (h1 : K v = 1) : ∃ (h' a k : Nat) (c e u t : Nat → Nat), h = h' + 1 ∧ q = a + 1 ∧ k + p < a ∧ S v = nI k ∧ I v = (if k = 0 then -1 else nI (c 0)) ∧ kidsL (Val K F N S I X l h') X v m p a k c e u t := by
  have leaf : ¬ leafV K F N S l v m p q := by
    rintro ⟨-, -, -, ⟨hk, -⟩ | ⟨hk, -⟩ | hk | hk | hk⟩
    all_goals rw [h1] at hk; exact absurd hk (by decide)
  cases h with
  | zero => exact absurd hv leaf
  | succ h =>
    rcases hv with hv | ⟨-, -, -, a, k, c, e, u, t, r⟩ | ⟨hk, -⟩
    · exact absurd hv leaf
    · exact ⟨h, a, k, c, e, u, t, rfl, r⟩
    · rw [h1] at hk; exact absurd hk (by decide)
theorem Val.obj (hv : Val K F N S I X l h v m p q) (h0 : K v = 0) : ∃ (h' a k : Nat) (c e u r s t : Nat → Nat), h = h' + 1 ∧ q = a + 1 ∧ k + p < a ∧ I v = (if k = 0 then -1 else nI (c 0)) ∧ kidsO (Val K F N S I X l h') (keyV K F N S l) X v m p a k c e u r s t := by
  have leaf : ¬ leafV K F N S l v m p q := by
    rintro ⟨-, -, -, ⟨hk, -⟩ | ⟨hk, -⟩ | hk | hk | hk⟩
    all_goals rw [h0] at hk; exact absurd hk (by decide)
  cases h with
  | zero => exact absurd hv leaf
  | succ h =>
    rcases hv with hv | ⟨hk, -⟩ | ⟨-, -, -, a, k, c, e, u, r, s, t, z⟩
    · exact absurd hv leaf
    · rw [h0] at hk; exact absurd hk (by decide)
    · exact ⟨h, a, k, c, e, u, r, s, t, rfl, z⟩
/-- a member of an object: where it is -/
theorem kidsO.mem {P : Nat → Nat → Nat → Nat → Prop} {a k w : Nat} {c e u r s t : Nat → Nat} (hw : w < 75) (hn : n ≤ 4200) (hl : l ≤ 4200) (hv : v < n) (hm : m ≤ n) (hk : k ≤ 5000) (hI : I v = (if k = 0 then -1 else nI (c 0))) (hks : kidsO P (keyV K F N S l) X v m p a k c e u r s t) :
    DET (fun g => m_X9_member (ov n K (g.1 0)) (ov n N g.2) (ov n S (g.1 2)) (ov n I (g.1 3)) (ov n X (g.1 4)) (ov l Lt (g.1 5)) (nI v) w) (fun y => y = -1 ∨ ∃ i, i < k ∧ y = nI (c i + 1) ∧ StrIs K N S Lt n l (c i) w ∧ u i + lenS.getD w 0 + 2 ≤ r i) := by
  refine (mem_ok hw hn hl hv hk hI (fun i hi => ?_)).mono ?_
  · obtain ⟨⟨k1, k2, st, sz, k3, k4, k5, k6⟩, q1, q2, q2', q3, q4, q5, -⟩ := hks.1 i hi
    exact ⟨by omega, q2, q2', sz, by omega, k1, k3, st, k4, k5⟩
  · rintro y (h | ⟨i, hi, h1, h2⟩)
    · exact Or.inl h
    · refine Or.inr ⟨i, hi, h1, h2, ?_⟩
      obtain ⟨⟨k1, k2, st, sz, k3, k4, k5, k6⟩, -⟩ := hks.1 i hi
      have h3 := h2.2.2.1
      rw [k3] at h3
      have := len_lt w hw
      have := (nI_eq (by omega) (by omega)).mp h3
      omega
theorem StrIs.same {x w w' : Nat} (hw : w < 75) (hw' : w' < 75) (hl : l ≤ 4200) (h : StrIs K N S Lt n l x w) (h' : StrIs K N S Lt n l x w') : lenS.getD w 0 = lenS.getD w' 0 ∧ ∀ j, j < lenS.getD w 0 → (bytS.getD w []).getD j 0 = (bytS.getD w' []).getD j 0 := by
  obtain ⟨-, -, a1, st, a2, a3, a4⟩ := h
  obtain ⟨-, -, b1, st', b2, b3, b4⟩ := h'
  have e1 : lenS.getD w 0 = lenS.getD w' 0 := by
    have := len_lt w hw
    have := len_lt w' hw'
    exact (nI_eq (by omega) (by omega)).mp (a1.symm.trans b1)
  have e2 : st = st' := by
    have q3 := congrArg Int64.toInt32 (a2.symm.trans b2)
    rw [lN_i, lN_i] at q3
    exact (nI_eq (by omega) (by omega)).mp q3
  subst e2
  exact ⟨e1, fun j hj => (a4 j hj).symm.trans (b4 j (by omega))⟩
end VDATA
