-- the shapes that a schema's text has made: which kids they have, what their plain forms cost
def wl (s : Nat) : Nat := lenS.getD (42 + s) 0 + 2
section OCC
variable (T : Nat → Nat → Prop) (So Na Wi Ki kS kN kX : Nat → Int32)
/-- a word, or a name that is there already -/
def base (s c c' w : Nat) : Prop := c' = c ∧ ((s < 6 ∧ w = wl s) ∨ (6 ≤ s ∧ s < c ∧ (So s = 9 ∨ So s = 10 ∨ So s = 11) ∧ ∃ x sz, Na s = nI x ∧ T x sz ∧ w = sz + 2))
/-- the shape s made here, those that lie in it up to c', its kids and theirs k0 .. k1 - 1 -/
def Cre (P : Nat → Nat → Nat → Nat → Nat → Nat → Prop) (s c' k0 k1 w : Nat) : Prop :=
  ((So s = 6 ∨ So s = 7) ∧ ∃ t w', Ki s = nI k0 ∧ kX k0 = -1 ∧ k0 < k1 ∧ kS k0 = nI t ∧ P t (s + 1) c' (k0 + 1) k1 w' ∧ w = (if So s = 6 then 25 else 24) + w') ∨
  (So s = 8 ∧ ∃ (m : Nat) (c t b W : Nat → Nat), (0 < m ∧ m ≤ 32) ∧ Ki s = nI (c 0) ∧ t 0 = s + 1 ∧ t m = c' ∧ W 0 = 0 ∧ w = 2 + (W m - 1) ∧ ∀ i, i < m → s < t i ∧ t (i + 1) ≤ c' ∧ k0 ≤ b i ∧ b i ≤ c i ∧ c i < k1 ∧ kX (c i) = (if i + 1 = m then -1 else nI (c (i + 1))) ∧ ∃ x w', kS (c i) = nI x ∧ P x (t i) (t (i + 1)) (b i) (c i) w' ∧ So x ≠ 8 ∧ W (i + 1) = W i + w' + 1) ∨
  (So s = 9 ∧ c' = s + 1 ∧ ∃ x sz d, Na s = nI x ∧ T x sz ∧ Wi s = nI d ∧ d ≤ 64 ∧ w = 34 + sz + (if 9 < d then 2 else 1)) ∨
  (So s = 10 ∧ c' = s + 1 ∧ ∃ (x sz m : Nat) (c W : Nat → Nat), Na s = nI x ∧ T x sz ∧ (0 < m ∧ m ≤ 32) ∧ Ki s = nI (c 0) ∧ W 0 = 0 ∧ w = 38 + sz + (W m - 1) ∧ ∀ i, i < m → k0 ≤ c i ∧ c i < k1 ∧ kX (c i) = (if i + 1 = m then -1 else nI (c (i + 1))) ∧ ∃ y sy, kN (c i) = nI y ∧ T y sy ∧ W (i + 1) = W i + sy + 3) ∨
  (So s = 11 ∧ ∃ (x sz m : Nat) (c t e W : Nat → Nat), Na s = nI x ∧ (T x sz ∧ m ≤ 32) ∧ Ki s = (if m = 0 then -1 else nI (c 0)) ∧ t 0 = s + 1 ∧ t m = c' ∧ W 0 = 0 ∧ w = 39 + sz + (W m - 1) ∧ ∀ i, i < m → s < t i ∧ t (i + 1) ≤ c' ∧ k0 ≤ c i ∧ c i < e i ∧ e i ≤ k1 ∧ kX (c i) = (if i + 1 = m then -1 else nI (c (i + 1))) ∧ ∃ y sy z w', kN (c i) = nI y ∧ T y sy ∧ kS (c i) = nI z ∧ P z (t i) (t (i + 1)) (c i + 1) (e i) w' ∧ W (i + 1) = W i + w' + sy + 20)
def Occ : Nat → Nat → Nat → Nat → Nat → Nat → Nat → Prop
  | 0, s, c, c', _, _, w => base T So Na s c c' w
  | h + 1, s, c, c', k0, k1, w => base T So Na s c c' w ∨ (s = c ∧ c < c' ∧ Cre T So Na Wi Ki kS kN kX (Occ h) s c' k0 k1 w)
end OCC
section OCCs
variable {T : Nat → Nat → Prop} {So Na Wi Ki kS kN kX So' Na' Wi' Ki' kS' kN' kX' : Nat → Int32}
theorem Occ.le {h s c c' k0 k1 w : Nat} (ho : Occ T So Na Wi Ki kS kN kX h s c c' k0 k1 w) : c ≤ c' := by
  cases h with
  | zero => exact Nat.le_of_eq ho.1.symm
  | succ h =>
    rcases ho with ho | ⟨h1, h2, -⟩
    · exact Nat.le_of_eq ho.1.symm
    · omega
theorem base.keep {s c c' w : Nat} (hb : base T So Na s c c' w) (h1 : ∀ i, i < c → So i = So' i ∧ Na i = Na' i) : base T So' Na' s c c' w := by
  obtain ⟨b1, b2 | ⟨b2, b3, b4, x, sz, b5, b6⟩⟩ := hb
  · exact ⟨b1, Or.inl b2⟩
  · obtain ⟨e1, e2⟩ := h1 s b3
    exact ⟨b1, Or.inr ⟨b2, b3, by rw [← e1]; exact b4, x, sz, by rw [← e2]; exact b5, b6⟩⟩
theorem Cre.keep {P P' : Nat → Nat → Nat → Nat → Nat → Nat → Prop} {s c' k0 k1 w : Nat} (hc : Cre T So Na Wi Ki kS kN kX P s c' k0 k1 w) (hs : s < c') (h1 : ∀ i, i < c' → So i = So' i ∧ Na i = Na' i) (h2 : Wi s = Wi' s ∧ Ki s = Ki' s) (h3 : ∀ i, k0 ≤ i → i < k1 → kS i = kS' i ∧ kN i = kN' i ∧ kX i = kX' i)
    (hP : ∀ x a b d e z, s < a → b ≤ c' → k0 ≤ d → e ≤ k1 → P x a b d e z → x < c' ∧ P' x a b d e z) : Cre T So' Na' Wi' Ki' kS' kN' kX' P' s c' k0 k1 w := by
  obtain ⟨e1, e2⟩ := h1 s hs
  obtain ⟨e3, e4⟩ := h2
  rcases hc with ⟨c1, t, w', c2, c3, c4, c5, c6, c7⟩ | ⟨c1, m, c, t, b, W, c2, c3, c4, c5, c6, c7, c8⟩ | ⟨c1, c2, x, sz, d, c3, c4, c5, c6⟩ | ⟨c1, c2, x, sz, m, c, W, c3, c4, c5, c6, c7, c8, c9⟩ | ⟨c1, x, sz, m, c, t, e, W, c3, c4, c5, c6, c7, c8, c9, c10⟩
  · obtain ⟨f1, f2, f3⟩ := h3 k0 (Nat.le_refl _) c4
    refine Or.inl ⟨by rw [← e1]; exact c1, t, w', by rw [← e4]; exact c2, by rw [← f3]; exact c3, c4, by rw [← f1]; exact c5, (hP _ _ _ _ _ _ (by omega) (Nat.le_refl _) (by omega) (Nat.le_refl _) c6).2, by rw [← e1]; exact c7⟩
  · refine Or.inr (Or.inl ⟨by rw [← e1]; exact c1, m, c, t, b, W, c2, by rw [← e4]; exact c3, c4, c5, c6, c7, fun i hi => ?_⟩)
    obtain ⟨d1, d2, d3, d4, d5, d6, x, w', d7, d8, d9, d10⟩ := c8 i hi
    obtain ⟨f1, f2, f3⟩ := h3 (c i) (by omega) d5
    obtain ⟨q1, q2⟩ := hP _ _ _ _ _ _ d1 d2 d3 (by omega) d8
    exact ⟨d1, d2, d3, d4, d5, by rw [← f3]; exact d6, x, w', by rw [← f1]; exact d7, q2, by rw [← (h1 x q1).1]; exact d9, d10⟩
  · exact Or.inr (Or.inr (Or.inl ⟨by rw [← e1]; exact c1, c2, x, sz, d, by rw [← e2]; exact c3, c4, by rw [← e3]; exact c5, c6⟩))
  · refine Or.inr (Or.inr (Or.inr (Or.inl ⟨by rw [← e1]; exact c1, c2, x, sz, m, c, W, by rw [← e2]; exact c3, c4, c5, by rw [← e4]; exact c6, c7, c8, fun i hi => ?_⟩)))
    obtain ⟨d1, d2, d3, y, sy, d4, d5⟩ := c9 i hi
    obtain ⟨f1, f2, f3⟩ := h3 (c i) d1 d2
    exact ⟨d1, d2, by rw [← f3]; exact d3, y, sy, by rw [← f2]; exact d4, d5⟩
  · refine Or.inr (Or.inr (Or.inr (Or.inr ⟨by rw [← e1]; exact c1, x, sz, m, c, t, e, W, by rw [← e2]; exact c3, c4, by rw [← e4]; exact c5, c6, c7, c8, c9, fun i hi => ?_⟩)))
    obtain ⟨d1, d2, d3, d4, d5, d6, y, sy, z, w', d7, d8, d9, d10, d11⟩ := c10 i hi
    obtain ⟨f1, f2, f3⟩ := h3 (c i) (by omega) (by omega)
    exact ⟨d1, d2, d3, d4, d5, by rw [← f3]; exact d6, y, sy, z, w', by rw [← f2]; exact d7, d8, by rw [← f1]; exact d9, (hP _ _ _ _ _ _ d1 d2 (by omega) d5 d10).2, d11⟩
theorem Occ.lt {h s c c' k0 k1 w : Nat} (h6 : 6 ≤ c) (ho : Occ T So Na Wi Ki kS kN kX h s c c' k0 k1 w) : s < c' := by
  have bs : base T So Na s c c' w → s < c' := by
    rintro ⟨b1, ⟨b2, -⟩ | ⟨-, b3, -⟩⟩ <;> omega
  cases h with
  | zero => exact bs ho
  | succ h =>
    rcases ho with ho | ⟨h1, h2, -⟩
    · exact bs ho
    · omega
theorem Occ.keep : ∀ (h s c c' k0 k1 w : Nat), 6 ≤ c → Occ T So Na Wi Ki kS kN kX h s c c' k0 k1 w → (∀ i, i < c' → So i = So' i ∧ Na i = Na' i) → (∀ i, c ≤ i → i < c' → Wi i = Wi' i ∧ Ki i = Ki' i) → (∀ i, k0 ≤ i → i < k1 → kS i = kS' i ∧ kN i = kN' i ∧ kX i = kX' i) → Occ T So' Na' Wi' Ki' kS' kN' kX' h s c c' k0 k1 w := by
  intro h
  induction h with
  | zero =>
    intro s c c' k0 k1 w h6 ho h1 h2 h3
    exact base.keep ho (fun i hi => h1 i (by have := ho.1; omega))
  | succ h ih =>
    intro s c c' k0 k1 w h6 ho h1 h2 h3
    rcases ho with ho | ⟨e1, e2, ho⟩
    · exact Or.inl (base.keep ho (fun i hi => h1 i (by have := ho.1; omega)))
    · subst e1
      refine Or.inr ⟨rfl, e2, Cre.keep ho e2 h1 (h2 s (Nat.le_refl _) e2) h3 (fun x a b d e z q1 q2 q3 q4 q5 => ⟨?_, ?_⟩)⟩
      · have := Occ.lt (by omega) q5; omega
      · exact ih _ _ _ _ _ _ (by omega) q5 (fun i hi => h1 i (by omega)) (fun i i1 i2 => h2 i (by omega) (by omega)) (fun i i1 i2 => h3 i (by omega) (by omega))
/-- between two marks of a rising row -/
theorem rise {t : Nat → Nat} : ∀ (m x : Nat), t 0 ≤ x → x < t m → ∃ i, i < m ∧ t i ≤ x ∧ x < t (i + 1) := by
  intro m
  induction m with
  | zero => intro x h1 h2; omega
  | succ m ih =>
    intro x h1 h2
    by_cases h : x < t m
    · obtain ⟨i, h3, h4⟩ := ih x h1 h
      exact ⟨i, by omega, h4⟩
    · exact ⟨m, by omega, by omega, h2⟩
/-- each shape that was made has its making -/
theorem Occ.all : ∀ (h s c c' k0 k1 w : Nat), Occ T So Na Wi Ki kS kN kX h s c c' k0 k1 w → ∀ x, c ≤ x → x < c' → ∃ h' c2 a b w', h' < h ∧ x < c2 ∧ c2 ≤ c' ∧ k0 ≤ a ∧ b ≤ k1 ∧ Cre T So Na Wi Ki kS kN kX (Occ T So Na Wi Ki kS kN kX h') x c2 a b w' := by
  intro h
  induction h with
  | zero => intro s c c' k0 k1 w ho x h1 h2; have := ho.1; omega
  | succ h ih =>
    intro s c c' k0 k1 w ho x h1 h2
    rcases ho with ho | ⟨e1, e2, ho⟩
    · have := ho.1; omega
    · subst e1
      by_cases hx : x = s
      · subst hx
        exact ⟨h, c', k0, k1, w, Nat.lt_succ_self _, e2, Nat.le_refl _, Nat.le_refl _, Nat.le_refl _, ho⟩
      · have step : ∀ (y a b d e z : Nat), a ≤ x → x < b → b ≤ c' → k0 ≤ d → e ≤ k1 → Occ T So Na Wi Ki kS kN kX h y a b d e z → ∃ h' c2 a b w', h' < h + 1 ∧ x < c2 ∧ c2 ≤ c' ∧ k0 ≤ a ∧ b ≤ k1 ∧ Cre T So Na Wi Ki kS kN kX (Occ T So Na Wi Ki kS kN kX h') x c2 a b w' := by
          intro y a b d e z q1 q2 q3 q4 q5 q6
          obtain ⟨h', c2, a', b', w', r1, r2, r3, r4, r5, r6⟩ := ih _ _ _ _ _ _ q6 x q1 q2
          exact ⟨h', c2, a', b', w', by omega, r2, by omega, by omega, by omega, r6⟩
        rcases ho with ⟨c1, t, w', c2, c3, c4, c5, c6, c7⟩ | ⟨c1, m, c, t, b, W, c2, c3, c4, c5, c6, c7, c8⟩ | ⟨c1, c2, -⟩ | ⟨c1, c2, -⟩ | ⟨c1, y, sz, m, c, t, e, W, c3, c4, c5, c6, c7, c8, c9, c10⟩
        · exact step _ _ _ _ _ _ (by omega) h2 (Nat.le_refl _) (by omega) (Nat.le_refl _) c6
        · obtain ⟨i, i1, i2, i3⟩ := rise (t := t) m x (by omega) (by omega)
          obtain ⟨d1, d2, d3, d4, d5, d6, z, w', d7, d8, d9, d10⟩ := c8 i i1
          exact step _ _ _ _ _ _ i2 i3 d2 d3 (by omega) d8
        · omega
        · omega
        · obtain ⟨i, i1, i2, i3⟩ := rise (t := t) m x (by omega) (by omega)
          obtain ⟨d1, d2, d3, d4, d5, d6, y', sy, z, w', d7, d8, d9, d10, d11⟩ := c10 i i1
          exact step _ _ _ _ _ _ i2 i3 d2 (by omega) d5 d10
end OCCs
