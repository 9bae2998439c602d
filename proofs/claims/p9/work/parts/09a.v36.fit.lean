-- the reference's fitting of defaults
section CREs
variable {T : Nat → Nat → Prop} {So Na Wi Ki kS kN kX : Nat → Int32} {P : Nat → Nat → Nat → Nat → Nat → Nat → Prop} {s c' k0 k1 w : Nat}
theorem Cre.arr (h : Cre T So Na Wi Ki kS kN kX P s c' k0 k1 w) (hs : So s = 6 ∨ So s = 7) : ∃ t w', Ki s = nI k0 ∧ kX k0 = -1 ∧ k0 < k1 ∧ kS k0 = nI t ∧ P t (s + 1) c' (k0 + 1) k1 w' ∧ w = (if So s = 6 then 25 else 24) + w' := by
  rcases h with ⟨-, h⟩ | ⟨h, -⟩ | ⟨h, -⟩ | ⟨h, -⟩ | ⟨h, -⟩
  · exact h
  all_goals rw [h] at hs; exact absurd hs (by decide)
theorem Cre.uni (h : Cre T So Na Wi Ki kS kN kX P s c' k0 k1 w) (hs : So s = 8) : ∃ (m : Nat) (c t b W : Nat → Nat), (0 < m ∧ m ≤ 32) ∧ Ki s = nI (c 0) ∧ t 0 = s + 1 ∧ t m = c' ∧ W 0 = 0 ∧ w = 2 + (W m - 1) ∧ ∀ i, i < m → s < t i ∧ t (i + 1) ≤ c' ∧ k0 ≤ b i ∧ b i ≤ c i ∧ c i < k1 ∧ kX (c i) = (if i + 1 = m then -1 else nI (c (i + 1))) ∧ ∃ x w', kS (c i) = nI x ∧ P x (t i) (t (i + 1)) (b i) (c i) w' ∧ So x ≠ 8 ∧ W (i + 1) = W i + w' + 1 := by
  rcases h with ⟨h, -⟩ | ⟨-, h⟩ | ⟨h, -⟩ | ⟨h, -⟩ | ⟨h, -⟩
  · rw [hs] at h; exact absurd h (by decide)
  · exact h
  all_goals rw [h] at hs; exact absurd hs (by decide)
theorem Cre.fix (h : Cre T So Na Wi Ki kS kN kX P s c' k0 k1 w) (hs : So s = 9) : c' = s + 1 ∧ ∃ x sz d, Na s = nI x ∧ T x sz ∧ Wi s = nI d ∧ d ≤ 64 ∧ w = 34 + sz + (if 9 < d then 2 else 1) := by
  rcases h with ⟨h, -⟩ | ⟨h, -⟩ | ⟨-, h⟩ | ⟨h, -⟩ | ⟨h, -⟩
  · rw [hs] at h; exact absurd h (by decide)
  · rw [h] at hs; exact absurd hs (by decide)
  · exact h
  all_goals rw [h] at hs; exact absurd hs (by decide)
theorem Cre.enm (h : Cre T So Na Wi Ki kS kN kX P s c' k0 k1 w) (hs : So s = 10) : c' = s + 1 ∧ ∃ (x sz m : Nat) (c W : Nat → Nat), Na s = nI x ∧ T x sz ∧ (0 < m ∧ m ≤ 32) ∧ Ki s = nI (c 0) ∧ W 0 = 0 ∧ w = 38 + sz + (W m - 1) ∧ ∀ i, i < m → k0 ≤ c i ∧ c i < k1 ∧ kX (c i) = (if i + 1 = m then -1 else nI (c (i + 1))) ∧ ∃ y sy, kN (c i) = nI y ∧ T y sy ∧ W (i + 1) = W i + sy + 3 := by
  rcases h with ⟨h, -⟩ | ⟨h, -⟩ | ⟨h, -⟩ | ⟨-, h⟩ | ⟨h, -⟩
  · rw [hs] at h; exact absurd h (by decide)
  · rw [h] at hs; exact absurd hs (by decide)
  · rw [h] at hs; exact absurd hs (by decide)
  · exact h
  · rw [h] at hs; exact absurd hs (by decide)
theorem Cre.rec' (h : Cre T So Na Wi Ki kS kN kX P s c' k0 k1 w) (hs : So s = 11) : ∃ (x sz m : Nat) (c t e W : Nat → Nat), Na s = nI x ∧ (T x sz ∧ m ≤ 32) ∧ Ki s = (if m = 0 then -1 else nI (c 0)) ∧ t 0 = s + 1 ∧ t m = c' ∧ W 0 = 0 ∧ w = 39 + sz + (W m - 1) ∧ ∀ i, i < m → s < t i ∧ t (i + 1) ≤ c' ∧ k0 ≤ c i ∧ c i < e i ∧ e i ≤ k1 ∧ kX (c i) = (if i + 1 = m then -1 else nI (c (i + 1))) ∧ ∃ y sy z w', kN (c i) = nI y ∧ T y sy ∧ kS (c i) = nI z ∧ P z (t i) (t (i + 1)) (c i + 1) (e i) w' ∧ W (i + 1) = W i + w' + sy + 20 := by
  rcases h with ⟨h, -⟩ | ⟨h, -⟩ | ⟨h, -⟩ | ⟨h, -⟩ | ⟨-, h⟩
  · rw [hs] at h; exact absurd h (by decide)
  · rw [h] at hs; exact absurd hs (by decide)
  · rw [h] at hs; exact absurd hs (by decide)
  · rw [h] at hs; exact absurd hs (by decide)
  · exact h
theorem Cre.sort (h : Cre T So Na Wi Ki kS kN kX P s c' k0 k1 w) : (So s = 6 ∨ So s = 7) ∨ So s = 8 ∨ So s = 9 ∨ So s = 10 ∨ So s = 11 := by
  rcases h with ⟨h, -⟩ | ⟨h, -⟩ | ⟨h, -⟩ | ⟨h, -⟩ | ⟨h, -⟩
  · exact Or.inl h
  · exact Or.inr (Or.inl h)
  · exact Or.inr (Or.inr (Or.inl h))
  · exact Or.inr (Or.inr (Or.inr (Or.inl h)))
  · exact Or.inr (Or.inr (Or.inr (Or.inr h)))
end CREs
/-- how many kids at most: a chain in k0 .. k1 - 1 may not come back, as it ends -/
def fpT : Int32 × Int32 → Int32 × Int32 := fun u => u
abbrev FF : Type := Int32 → Int32 → (Nat → Int32) → (Nat → Int32) → (Nat → Int64) → (Nat → Int32) → (Nat → Int32) → (Nat → Int32) → (Nat → Int32) → (Nat → Int32) → (Nat → Int32) → (Nat → Int32) → (Nat → Int32) → (Nat → Int32) → (Nat → Int32) → Int32 → Int32 → Option (Except (Int32 × Int32) (Unit × (Int32 × Int32)))
theorem mlk_ok {K F S I X Lt : Nat → Int32} {N : Nat → Int64} {n l : Nat} {P : Nat → Nat → Nat → Nat → Prop} {v m p a k y sy : Nat} {c e u r s t : Nat → Nat} (hn : n ≤ 4200) (hl : l ≤ 4200) (hv : v < n) (hm : m ≤ n) (hk : k ≤ 5000) (hI : I v = (if k = 0 then -1 else nI (c 0))) (hO : kidsO P (keyV K F N S l) X v m p a k c e u r s t) (hy : strN K N S n l y sy) :
    DET (fun g => m_X9_memberLike (ov n N g.2) (ov n S (g.1 2)) (ov n I (g.1 3)) (ov n X (g.1 4)) (ov l Lt (g.1 5)) (nI v) (nI y)) (fun z => z = -1 ∨ ∃ i, i < k ∧ z = nI (c i + 1)) := by
  have go : ∀ (fuel i : Nat), i ≤ k → k - i < fuel → DET (fun g => m_X9_memberLike_7 (ov n N g.2) (ov n S (g.1 2)) (ov n I (g.1 3)) (ov n X (g.1 4)) (ov l Lt (g.1 5)) fuel (nI y) (if i = k then -1 else nI (c i))) (fun z => z = -1 ∨ ∃ i, i < k ∧ z = nI (c i + 1)) := by
    intro fuel
    induction fuel with
    | zero => intro i _ hf; exact absurd hf (Nat.not_lt_zero _)
    | succ fuel ih =>
      intro i hi hf
      by_cases hik : i = k
      · simp only [if_pos hik, m_X9_memberLike_7, if_pos (show (-1 : Int32) < 0 by decide)]
        exact DET.ok (Or.inl rfl)
      · obtain ⟨⟨k1, k2, st, sz, k3, k4, k5, k6⟩, q1, q2, q2', q3, q4, q5, -⟩ := hO.1 i (by omega)
        have hstr : strN K N S n l (c i) sz := ⟨by omega, k1, k3, st, k4, k5⟩
        obtain ⟨z, -, hz⟩ := same_ok (Lt := Lt) (Lt' := Lt) hn hl hn hl hstr hy
        simp only [if_neg hik, m_X9_memberLike_7, if_neg (nI_pos (show c i < 2 ^ 31 by omega)), hz, Option.bind_some, bd_go (show c i < 4200 by omega) (by decide), bd_gc (show c i < 4200 by omega) (by decide), nI_clamp (show c i < 2 ^ 31 by omega), ov_lt (show c i < n by omega), q2, bd_go (show c i + 1 < 4200 by omega) (by decide), bd_gc (show c i + 1 < 4200 by omega) (by decide), nI_clamp (show c i + 1 < 2 ^ 31 by omega), ov_lt (show c i + 1 < n by omega), q2']
        refine DET.ite (fun _ => ih (i + 1) (by omega) (by omega)) (fun _ => DET.ok (Or.inr ⟨i, by omega, rfl⟩))
  have hstart : (if k = 0 then (-1 : Int32) else nI (c 0)) = (if 0 = k then -1 else nI (c 0)) := by
    by_cases hk : k = 0
    · rw [if_pos hk, if_pos hk.symm]
    · rw [if_neg hk, if_neg (fun q => hk q.symm)]
  simp only [m_X9_memberLike, bd_go (show v < 4200 by omega) (by decide), bd_gc (show v < 4200 by omega) (by decide), nI_clamp (show v < 2 ^ 31 by omega), ov_lt hv, hI, hstart]
  exact go sr_fuel 0 (by omega) (by unfold sr_fuel; omega)
section FITs
variable {K F S I X Lt So Na Wi Ki kS kN kX : Nat → Int32} {N : Nat → Int64} {n l sh kc : Nat}
theorem fit_350 {ff : FF} {s k0 t k : Nat} {c : Nat → Nat} {fl pl : Int32} (hn : n ≤ 4200) (hsh : sh ≤ 140) (hkc : kc ≤ 2200) (hs : s < sh) (hk0 : k0 < kc) (hKi : Ki s = nI k0) (hkS : kS k0 = nI t) (hc : ∀ i, i < k → c i < n ∧ X (c i) = (if i + 1 = k then -1 else nI (c (i + 1))) ∧ RES (fun g => ff fl pl (ov n K (g.1 0)) (ov n F (g.1 1)) (ov n N g.2) (ov n S (g.1 2)) (ov n I (g.1 3)) (ov n X (g.1 4)) (ov l Lt (g.1 5)) (ov sh So (g.1 7)) (ow sh Wi (g.1 9)) (ov sh Ki (g.1 10)) (ov kc kS (g.1 13)) (ov kc kN (g.1 14)) (ov kc kX (g.1 16)) (nI (c i)) (nI t)) fpT (fun _ u => u = fun _ => (fl, pl))) :
    ∀ (fuel i : Nat), i ≤ k → k - i < fuel → RES (fun g => m_X9_fit_350 ff (ov n K (g.1 0)) (ov n F (g.1 1)) (ov n N g.2) (ov n S (g.1 2)) (ov n I (g.1 3)) (ov n X (g.1 4)) (ov l Lt (g.1 5)) (ov sh So (g.1 7)) (ow sh Wi (g.1 9)) (ov sh Ki (g.1 10)) (ov kc kS (g.1 13)) (ov kc kN (g.1 14)) (ov kc kX (g.1 16)) fuel fl pl (nI s) (if i = k then -1 else nI (c i))) fpT (fun _ u => u = fun _ => (fl, pl)) := by
  intro fuel
  induction fuel with
  | zero => intro i _ hf; exact absurd hf (Nat.not_lt_zero _)
  | succ fuel ih =>
    intro i hi hf
    by_cases hik : i = k
    · simp only [if_pos hik, m_X9_fit_350, if_pos (show (-1 : Int32) < 0 by decide)]
      exact RES.ok rfl
    · obtain ⟨c1, c2, c3⟩ := hc i (by omega)
      simp only [if_neg hik, m_X9_fit_350, if_neg (nI_pos (show c i < 2 ^ 31 by omega)), bd_go (show s < 140 by omega) (by decide), bd_gc (show s < 140 by omega) (by decide), nI_clamp (show s < 2 ^ 31 by omega), ov_lt hs, hKi, bd_go (show k0 < 2200 by omega) (by decide), bd_gc (show k0 < 2200 by omega) (by decide), nI_clamp (show k0 < 2 ^ 31 by omega), ov_lt hk0, hkS]
      refine RES.try c3 ?_ (fun g u => rfl)
      rintro _ _ rfl
      dsimp only
      simp only [bd_go (show c i < 4200 by omega) (by decide), bd_gc (show c i < 4200 by omega) (by decide), nI_clamp (show c i < 2 ^ 31 by omega), ov_lt c1, c2]
      exact ih (i + 1) (by omega) (by omega)
theorem fit_416 {ff : FF} {s k0 t k : Nat} {c : Nat → Nat} {fl pl : Int32} (hn : n ≤ 4200) (hsh : sh ≤ 140) (hkc : kc ≤ 2200) (hs : s < sh) (hk0 : k0 < kc) (hKi : Ki s = nI k0) (hkS : kS k0 = nI t) (hc : ∀ i, i < k → c i + 1 < n ∧ X (c i) = nI (c i + 1) ∧ X (c i + 1) = (if i + 1 = k then -1 else nI (c (i + 1))) ∧ RES (fun g => ff fl pl (ov n K (g.1 0)) (ov n F (g.1 1)) (ov n N g.2) (ov n S (g.1 2)) (ov n I (g.1 3)) (ov n X (g.1 4)) (ov l Lt (g.1 5)) (ov sh So (g.1 7)) (ow sh Wi (g.1 9)) (ov sh Ki (g.1 10)) (ov kc kS (g.1 13)) (ov kc kN (g.1 14)) (ov kc kX (g.1 16)) (nI (c i + 1)) (nI t)) fpT (fun _ u => u = fun _ => (fl, pl))) :
    ∀ (fuel i : Nat), i ≤ k → k - i < fuel → RES (fun g => m_X9_fit_416 ff (ov n K (g.1 0)) (ov n F (g.1 1)) (ov n N g.2) (ov n S (g.1 2)) (ov n I (g.1 3)) (ov n X (g.1 4)) (ov l Lt (g.1 5)) (ov sh So (g.1 7)) (ow sh Wi (g.1 9)) (ov sh Ki (g.1 10)) (ov kc kS (g.1 13)) (ov kc kN (g.1 14)) (ov kc kX (g.1 16)) fuel fl pl (nI s) (if i = k then -1 else nI (c i))) fpT (fun _ u => u = fun _ => (fl, pl)) := by
  intro fuel
  induction fuel with
  | zero => intro i _ hf; exact absurd hf (Nat.not_lt_zero _)
  | succ fuel ih =>
    intro i hi hf
    by_cases hik : i = k
    · simp only [if_pos hik, m_X9_fit_416, if_pos (show (-1 : Int32) < 0 by decide)]
      exact RES.ok rfl
    · obtain ⟨c1, c2, c2', c3⟩ := hc i (by omega)
      simp only [if_neg hik, m_X9_fit_416, if_neg (nI_pos (show c i < 2 ^ 31 by omega)), bd_go (show c i < 4200 by omega) (by decide), bd_gc (show c i < 4200 by omega) (by decide), nI_clamp (show c i < 2 ^ 31 by omega), ov_lt (show c i < n by omega), c2, bd_go (show s < 140 by omega) (by decide), bd_gc (show s < 140 by omega) (by decide), nI_clamp (show s < 2 ^ 31 by omega), ov_lt hs, hKi, bd_go (show k0 < 2200 by omega) (by decide), bd_gc (show k0 < 2200 by omega) (by decide), nI_clamp (show k0 < 2 ^ 31 by omega), ov_lt hk0, hkS]
      refine RES.try c3 ?_ (fun g u => rfl)
      rintro _ _ rfl
      dsimp only
      simp only [bd_go (show c i < 4200 by omega) (by decide), bd_gc (show c i < 4200 by omega) (by decide), nI_clamp (show c i < 2 ^ 31 by omega), ov_lt (show c i < n by omega), c2, bd_go (show c i + 1 < 4200 by omega) (by decide), bd_gc (show c i + 1 < 4200 by omega) (by decide), nI_clamp (show c i + 1 < 2 ^ 31 by omega), ov_lt c1, c2']
      exact ih (i + 1) (by omega) (by omega)
theorem fit_492 {ff : FF} {P : Nat → Nat → Nat → Nat → Prop} {v m p a k mk : Nat} {c e u r s' t ck : Nat → Nat} {fl pl x3 : Int32} (hn : n ≤ 4200) (hl : l ≤ 4200) (hkc : kc ≤ 2200) (hv : v < n) (hm : m ≤ n) (hk : k ≤ 5000) (hI : I v = (if k = 0 then -1 else nI (c 0))) (hO : kidsO P (keyV K F N S l) X v m p a k c e u r s' t)
    (hc : ∀ i, i < mk → ck i < kc ∧ kX (ck i) = (if i + 1 = mk then -1 else nI (ck (i + 1))) ∧ ∃ y sy z, kN (ck i) = nI y ∧ strN K N S n l y sy ∧ kS (ck i) = nI z ∧ ∀ j, j < k → RES (fun g => ff fl pl (ov n K (g.1 0)) (ov n F (g.1 1)) (ov n N g.2) (ov n S (g.1 2)) (ov n I (g.1 3)) (ov n X (g.1 4)) (ov l Lt (g.1 5)) (ov sh So (g.1 7)) (ow sh Wi (g.1 9)) (ov sh Ki (g.1 10)) (ov kc kS (g.1 13)) (ov kc kN (g.1 14)) (ov kc kX (g.1 16)) (nI (c j + 1)) (nI z)) fpT (fun _ u => u = fun _ => (fl, pl))) :
    ∀ (fuel i : Nat), i ≤ mk → mk - i < fuel → RES (fun g => m_X9_fit_492 ff (ov n K (g.1 0)) (ov n F (g.1 1)) (ov n N g.2) (ov n S (g.1 2)) (ov n I (g.1 3)) (ov n X (g.1 4)) (ov l Lt (g.1 5)) (ov sh So (g.1 7)) (ow sh Wi (g.1 9)) (ov sh Ki (g.1 10)) (ov kc kS (g.1 13)) (ov kc kN (g.1 14)) (ov kc kX (g.1 16)) fuel fl pl (nI v) x3 (if i = mk then -1 else nI (ck i))) fpT (fun _ u => u = fun _ => (fl, pl)) := by
  intro fuel
  induction fuel with
  | zero => intro i _ hf; exact absurd hf (Nat.not_lt_zero _)
  | succ fuel ih =>
    intro i hi hf
    by_cases hik : i = mk
    · simp only [if_pos hik, m_X9_fit_492, if_pos (show (-1 : Int32) < 0 by decide)]
      exact RES.ok rfl
    · obtain ⟨c1, c2, y, sy, z, c3, c4, c5, c6⟩ := hc i (by omega)
      obtain ⟨b, hb, hb2⟩ := mlk_ok (Lt := Lt) hn hl hv hm hk hI hO c4
      simp only [if_neg hik, m_X9_fit_492, if_neg (nI_pos (show ck i < 2 ^ 31 by omega)), bd_go (show ck i < 2200 by omega) (by decide), bd_gc (show ck i < 2200 by omega) (by decide), nI_clamp (show ck i < 2 ^ 31 by omega), ov_lt c1, c3, hb2, Option.bind_some, m_X9_fit_522, need_0, need_1, try_e, try_o, c5, c2]
      rcases hb with rfl | ⟨j, hj, rfl⟩
      · simp only [if_pos (show (-1 : Int32) < 0 by decide)]
        exact RES.er (fun g => rfl)
      · have hcj := (hO.1 j hj).2.2.2.2.2.1
        have hej := (hO.1 j hj).2.2.2.2.2.2.1
        simp only [if_neg (nI_pos (show c j + 1 < 2 ^ 31 by omega))]
        refine RES.try (c6 j hj) ?_ (fun g u => rfl)
        rintro _ _ rfl
        dsimp only
        exact ih (i + 1) (by omega) (by omega)
theorem six_ne : ∀ s, s < 6 → ¬ nI s = 6 ∧ ¬ nI s = 7 ∧ ¬ nI s = 8 ∧ ¬ nI s = 9 ∧ ¬ nI s = 10 ∧ ¬ nI s = 11 := by decide
theorem six_in : ∀ s, s < 6 → nI s = 0 ∨ nI s = 1 ∨ nI s = 2 ∨ nI s = 3 ∨ nI s = 4 ∨ nI s = 5 := by decide
theorem fit_ok (hn : n ≤ 4200) (hl : l ≤ 4200) (hsh : sh ≤ 140) (hkc : kc ≤ 2200) (h6 : ∀ s, s < 6 → So s = nI s) (hall : ∀ s, 6 ≤ s → s < sh → ∃ h' c2 a b w', s < c2 ∧ c2 ≤ sh ∧ b ≤ kc ∧ Cre (strN K N S n l) So Na Wi Ki kS kN kX (Occ (strN K N S n l) So Na Wi Ki kS kN kX h') s c2 a b w') :
    ∀ (D hv v m p q s : Nat) (fl pl : Int32), m ≤ n → p + 5000 ≥ q → Val K F N S I X l hv v m p q → s < sh → 2 * hv + (if So s = 8 then 2 else 1) ≤ D → RES (fun g => m_X9_fit D fl pl (ov n K (g.1 0)) (ov n F (g.1 1)) (ov n N g.2) (ov n S (g.1 2)) (ov n I (g.1 3)) (ov n X (g.1 4)) (ov l Lt (g.1 5)) (ov sh So (g.1 7)) (ow sh Wi (g.1 9)) (ov sh Ki (g.1 10)) (ov kc kS (g.1 13)) (ov kc kN (g.1 14)) (ov kc kX (g.1 16)) (nI v) (nI s)) fpT (fun _ u => u = fun _ => (fl, pl)) := by
  intro D
  induction D with
  | zero =>
    intro hv v m p q s fl pl _ _ _ _ hf
    by_cases h8 : So s = 8
    · rw [if_pos h8] at hf; omega
    · rw [if_neg h8] at hf; omega
  | succ D ih =>
    intro hv v m p q s fl pl hm hpq hV hs hf
    have hvn : v < n := Nat.lt_of_lt_of_le hV.basic.1 hm
    have hne : ∀ k : Int32, So s = k → (k = 6 ∨ k = 7 ∨ k = 8 ∨ k = 9 ∨ k = 10 ∨ k = 11) → 6 ≤ s := by
      intro k hk hk2
      apply Nat.le_of_not_lt
      intro q
      rw [h6 s q] at hk
      obtain ⟨a1, a2, a3, a4, a5, a6⟩ := six_ne s q
      rcases hk2 with e | e | e | e | e | e <;> rw [e] at hk
      · exact a1 hk
      · exact a2 hk
      · exact a3 hk
      · exact a4 hk
      · exact a5 hk
      · exact a6 hk
    have ok : RES (fun _ => some (Except.ok ((), (fl, pl)))) fpT (fun _ u => u = fun _ => (fl, pl)) := RES.ok rfl
    have er : RES (fun _ => some (Except.error (12, nI p))) fpT (fun (_ : Unit) (u : Gs → Int32 × Int32) => u = fun _ => (fl, pl)) := RES.er (fun g => rfl)
    simp only [m_X9_fit, bd_go (show v < 4200 by omega) (by decide), bd_gc (show v < 4200 by omega) (by decide), nI_clamp (show v < 2 ^ 31 by omega), bd_go (show s < 140 by omega) (by decide), bd_gc (show s < 140 by omega) (by decide), nI_clamp (show s < 2 ^ 31 by omega), ov_lt hvn, ov_lt hs, hV.basic.2.2, m_X9_fit_89, m_X9_fit_119, m_X9_fit_124, m_X9_fit_166, m_X9_fit_167, m_X9_fit_192, m_X9_fit_217, m_X9_fit_256, m_X9_fit_257, m_X9_fit_291, m_X9_fit_292, m_X9_fit_336, m_X9_fit_402, m_X9_fit_478, need_0, need_1, try_e, try_o]
    refine RES.ite (fun _ => RES.ite (fun _ => ok) (fun _ => er)) (fun h0 => RES.ite (fun _ => RES.ite (fun _ => ok) (fun _ => RES.ite (fun _ => ok) (fun _ => er))) (fun h1 => RES.ite (fun _ => RES.ite (fun _ => RES.ite (fun _ => ok) (fun _ => er)) (fun _ => er)) (fun h2 => RES.ite (fun _ => RES.ite (fun _ => ok) (fun _ => er)) (fun h3 => RES.ite (fun _ => RES.ite (fun _ => ok) (fun _ => er)) (fun h4 => RES.ite (fun _ => RES.ite (fun _ => ok) (fun _ => er)) (fun h5 => RES.ite (fun e6 => ?_) (fun n6 => RES.ite (fun e7 => ?_) (fun n7 => RES.ite (fun e8 => ?_) (fun n8 => RES.ite (fun e9 => ?_) (fun n9 => RES.ite (fun e10 => ?_) (fun n10 => ?_)))))))))))
    · -- an array
      have hs6 := hne 6 e6 (Or.inl rfl)
      rw [if_neg (by rw [e6]; decide)] at hf
      refine RES.ite (fun hK => ?_) (fun _ => er)
      obtain ⟨h', a, k, c, e, u, t, rfl, rfl, hka, hS, hI, hL⟩ := hV.lst hK
      obtain ⟨h2, c2, a2, b2, w2, r1, r2, r3, hcre⟩ := hall s hs6 hs
      obtain ⟨t2, w3, y1, y2, y3, y4, y5, -⟩ := hcre.arr (Or.inl e6)
      have ht := y5.lt (by omega)
      have hst : (if k = 0 then (-1 : Int32) else nI (c 0)) = (if 0 = k then -1 else nI (c 0)) := by
        by_cases h0 : k = 0
        · rw [if_pos h0, if_pos h0.symm]
        · rw [if_neg h0, if_neg (fun q => h0 q.symm)]
      simp only [hI, hst]
      refine fit_350 (ff := m_X9_fit D) hn hsh hkc hs (show a2 < kc by omega) y1 y4 (fun i hi => ?_) sr_fuel 0 (by omega) (by unfold sr_fuel; omega)
      obtain ⟨q1, q2, q3, q4, q5, q6, q7, q8⟩ := hL.1 i hi
      refine ⟨by omega, q2, ih h' (c i) (e i) (u i) (t i) t2 fl pl (by omega) (by omega) q1 (by omega) ?_⟩
      split <;> omega
    · -- a map
      have hs6 := hne 7 e7 (Or.inr (Or.inl rfl))
      rw [if_neg (by rw [e7]; decide)] at hf
      refine RES.ite (fun hK => ?_) (fun _ => er)
      obtain ⟨h', a, k, c, e, u, r, s', t, rfl, rfl, hka, hI, hO⟩ := hV.obj hK
      obtain ⟨h2, c2, a2, b2, w2, r1, r2, r3, hcre⟩ := hall s hs6 hs
      obtain ⟨t2, w3, y1, y2, y3, y4, y5, -⟩ := hcre.arr (Or.inr e7)
      have ht := y5.lt (by omega)
      have hst : (if k = 0 then (-1 : Int32) else nI (c 0)) = (if 0 = k then -1 else nI (c 0)) := by
        by_cases h0 : k = 0
        · rw [if_pos h0, if_pos h0.symm]
        · rw [if_neg h0, if_neg (fun q => h0 q.symm)]
      simp only [hI, hst]
      refine fit_416 (ff := m_X9_fit D) hn hsh hkc hs (show a2 < kc by omega) y1 y4 (fun i hi => ?_) sr_fuel 0 (by omega) (by unfold sr_fuel; omega)
      obtain ⟨q0, q1, q2, q2', q3, q4, q5, q6, q7, q8, q9, q10⟩ := hO.1 i hi
      refine ⟨by omega, q2, q2', ih h' (c i + 1) (e i) (s' i) (t i) t2 fl pl (by omega) (by omega) q1 (by omega) ?_⟩
      split <;> omega
    · -- a union
      have hs6 := hne 8 e8 (Or.inr (Or.inr (Or.inl rfl)))
      rw [if_pos e8] at hf
      obtain ⟨h2, c2, a2, b2, w2, r1, r2, r3, hcre⟩ := hall s hs6 hs
      obtain ⟨mk, ck, t, b, W, y1, y2, y3, y4, y5, y6, y7⟩ := hcre.uni e8
      obtain ⟨d1, d2, d3, d4, d5, d6, x, w', d7, d8, d9, d10⟩ := y7 0 y1.1
      have hx := d8.lt (by omega)
      simp only [y2, bd_go (show ck 0 < 2200 by omega) (by decide), bd_gc (show ck 0 < 2200 by omega) (by decide), nI_clamp (show ck 0 < 2 ^ 31 by omega), ov_lt (show ck 0 < kc by omega), d7]
      refine RES.try (ih hv v m p q x fl pl hm hpq hV (by omega) (by rw [if_neg d9]; omega)) ?_ (fun g u => rfl)
      rintro _ _ rfl
      exact ok
    · -- a fixed
      have hs6 := hne 9 e9 (Or.inr (Or.inr (Or.inr (Or.inl rfl))))
      simp only [ow_lt hs6 hs]
      exact RES.ite (fun _ => RES.ite (fun _ => ok) (fun _ => er)) (fun _ => er)
    · -- an enum
      have hs6 := hne 10 e10 (Or.inr (Or.inr (Or.inr (Or.inr (Or.inl rfl)))))
      refine RES.ite (fun hK => ?_) (fun _ => er)
      obtain ⟨sz, hsz, -⟩ := hV.str hK hm
      obtain ⟨h2, c2, a2, b2, w2, r1, r2, r3, hcre⟩ := hall s hs6 hs
      obtain ⟨-, x, sx, mk, ck, W, y1, y2, y3, y4, y5, y6, y7⟩ := hcre.enm e10
      obtain ⟨z, hz⟩ := symbol_ok (Lt := Lt) (Lt' := Lt) (c := ck) (Ki := Ki) (kN := kN) (kX := kX) (m := mk) hn hl hn hl hs hsh hkc (by omega) hsz (by rw [y4, if_neg (by omega)]) (fun i hi => by
        obtain ⟨d1, d2, d3, y, sy, d4, d5, -⟩ := y7 i hi
        exact ⟨by omega, d3, y, sy, d4, d5⟩)
      simp only [hz, Option.bind_some]
      exact RES.ite (fun _ => er) (fun _ => ok)
    · -- a record
      rw [if_neg n8] at hf
      have hs6 : 6 ≤ s := by
        apply Nat.le_of_not_lt
        intro q
        rw [h6 s q] at h0 h1 h2 h3 h4 h5
        rcases six_in s q with e | e | e | e | e | e
        · exact h0 e
        · exact h1 e
        · exact h2 e
        · exact h3 e
        · exact h4 e
        · exact h5 e
      refine RES.ite (fun hK => ?_) (fun _ => er)
      obtain ⟨h', a, k, c, e, u, r, s', t, rfl, rfl, hka, hI, hO⟩ := hV.obj hK
      obtain ⟨h2', c2, a2, b2, w2, r1, r2, r3, hcre⟩ := hall s hs6 hs
      have e11 : So s = 11 := by
        rcases hcre.sort with (e | e) | e | e | e | e
        · exact absurd e n6
        · exact absurd e n7
        · exact absurd e n8
        · exact absurd e n9
        · exact absurd e n10
        · exact e
      obtain ⟨x, sx, mk, ck, tt, ee, W, y1, y2, y3, y4, y5, y6, y7, y8⟩ := hcre.rec' e11
      have hst : (if mk = 0 then (-1 : Int32) else nI (ck 0)) = (if 0 = mk then -1 else nI (ck 0)) := by
        by_cases h0 : mk = 0
        · rw [if_pos h0, if_pos h0.symm]
        · rw [if_neg h0, if_neg (fun q => h0 q.symm)]
      simp only [y3, hst]
      refine fit_492 (ff := m_X9_fit D) hn hl hkc hvn hm (show k ≤ 5000 by omega) hI hO (fun i hi => ?_) sr_fuel 0 (by omega) (by unfold sr_fuel; omega)
      obtain ⟨d1, d2, d3, d4, d5, d6, y, sy, z, w', d7, d8, d9, d10, d11⟩ := y8 i hi
      have hz := d10.lt (by omega)
      refine ⟨by omega, d6, y, sy, z, d7, d8, d9, fun j hj => ?_⟩
      obtain ⟨q0, q1, q2, q2', q3, q4, q5, q6, q7, q8, q9, q10⟩ := hO.1 j hj
      refine ih h' (c j + 1) (e j) (s' j) (t j) z fl pl (by omega) (by omega) q1 (by omega) ?_
      split <;> omega
end FITs
