-- chains in rows; fields and symbols by name
def ICH (X : Nat → Int32) (h : Int32) (k : Nat) (c : Nat → Nat) (hi : Nat) : Prop := (∀ i, i < k → c i < hi ∧ X (c i) = (if i + 1 = k then -1 else nI (c (i + 1)))) ∧ (∀ i j, i < j → j < k → c i < c j) ∧ h = (if k = 0 then -1 else nI (c 0))
theorem ICH.nil {X : Nat → Int32} {hi : Nat} {c : Nat → Nat} : ICH X (-1) 0 c hi := ⟨fun i hi => absurd hi (Nat.not_lt_zero _), fun i j _ hj => absurd hj (Nat.not_lt_zero _), rfl⟩
theorem ICH.keep {X X' : Nat → Int32} {h : Int32} {k hi hi' : Nat} {c : Nat → Nat} (hc : ICH X h k c hi) (hh : hi ≤ hi') (ha : ∀ i, i < hi → X' i = X i) : ICH X' h k c hi' := by
  obtain ⟨a1, a2, a3⟩ := hc
  refine ⟨fun i hi => ?_, a2, a3⟩
  obtain ⟨b1, b2⟩ := a1 i hi
  exact ⟨by omega, by rw [ha _ b1]; exact b2⟩
theorem ICH.push {X X2 : Nat → Int32} {h h2 : Int32} {k hi hi' n : Nat} {c : Nat → Nat} (hc : ICH X h k c hi) (hn : hi ≤ n) (hn' : n < hi') (hx : ∀ i, i < hi → X2 i = (if k = 0 then X else upd X (c (k - 1)) (nI n)) i) (hxn : X2 n = -1) (hh : h2 = (if k = 0 then nI n else h)) : ICH X2 h2 (k + 1) (snc c k n) hi' := by
  obtain ⟨a1, a2, a3⟩ := hc
  refine ⟨fun i hik => ?_, fun i j hij hj => ?_, ?_⟩
  · by_cases e : i = k
    · subst e
      rw [snc_s, if_pos rfl]
      exact ⟨hn', hxn⟩
    · obtain ⟨b1, b2⟩ := a1 i (by omega)
      rw [snc_n e, if_neg (show ¬ i + 1 = k + 1 by omega), hx _ b1, if_neg (by omega)]
      refine ⟨by omega, ?_⟩
      by_cases e2 : i + 1 = k
      · rw [show k - 1 = i by omega, pk_us, e2, snc_s]
      · have := a2 i (k - 1) (by omega) (by omega)
        rw [pk_un (by omega), snc_n e2, b2, if_neg e2]
  · by_cases e : j = k
    · subst e
      rw [snc_s, snc_n (by omega)]
      have := (a1 i (by omega)).1
      omega
    · rw [snc_n e, snc_n (by omega)]
      exact a2 i j hij (by omega)
  · rw [hh, if_neg (show ¬ k + 1 = 0 by omega)]
    by_cases e : k = 0
    · subst e
      rw [if_pos rfl, snc_s]
    · rw [if_neg e, snc_n (by omega), a3, if_neg e]
theorem ICH.ptr {X : Nat → Int32} {h : Int32} {k hi : Nat} {c : Nat → Nat} (hc : ICH X h k c hi) : h = (if 0 = k then -1 else nI (c 0)) := by
  rw [hc.2.2]
  by_cases e : k = 0
  · rw [if_pos e, if_pos e.symm]
  · rw [if_neg e, if_neg (fun z => e z.symm)]
section NAMES
variable {Sd Am : Nat → Int32}
theorem hfd_eq {Pl Me Fi Ne Fn Ac : Nat → Int32} {lc r k p : Nat} {c : Nat → Nat} {nm : Nat → List Nat} {t : List Nat} (hr : r < 128) (hme : Me r = nI r) (hac : Ac r = nI k) (hk : k < 1000) (hch : ICH Ne (Fi r) k c 128) (hnm : ∀ i, i < k → ∃ x, Fn (c i) = nI x ∧ PN Pl lc x (nm i)) (ht : SAID Sd Am p t) :
    ((∃ i, i < k ∧ nm i = t) ∧ m_X6_hasField Pl Me Fi Ne Fn Ac (nI lc) Sd Am (nI r) (nI p) = some 1) ∨ ((¬ ∃ i, i < k ∧ nm i = t) ∧ m_X6_hasField Pl Me Fi Ne Fn Ac (nI lc) Sd Am (nI r) (nI p) = some 0) := by
  have go : ∀ (fuel j : Nat), j ≤ k → k - j < fuel → (∀ i, i < j → nm i ≠ t) → ((∃ i, i < k ∧ nm i = t) ∧ m_X6_hasField_10 Pl Me Fi Ne Fn Ac (nI lc) Sd Am fuel (nI r) (nI p) (if j = k then -1 else nI (c j)) (nI j) = some 1) ∨ ((¬ ∃ i, i < k ∧ nm i = t) ∧ m_X6_hasField_10 Pl Me Fi Ne Fn Ac (nI lc) Sd Am fuel (nI r) (nI p) (if j = k then -1 else nI (c j)) (nI j) = some 0) := by
    intro fuel
    induction fuel with
    | zero => intro j _ hf; exact absurd hf (Nat.not_lt_zero _)
    | succ fuel ih =>
      intro j hj hf ha
      simp only [m_X6_hasField_10, m_X6_amount, ent_eq (n := 128) (by decide) hr, hme, hac, Option.bind_some, nI_1]
      by_cases e : j = k
      · simp only [if_pos (nI_le (show k ≤ j by omega) (show j < 2 ^ 31 by omega))]
        exact Or.inr ⟨fun ⟨i, i1, i2⟩ => ha i (by omega) i2, trivial⟩
      · obtain ⟨c1, c2⟩ := hch.1 j (by omega)
        obtain ⟨x, x1, x2⟩ := hnm j (by omega)
        simp only [if_neg e, if_neg (nI_ge (show j < k by omega) (show k < 2 ^ 31 by omega)), m_X6_fieldName, ent_eq (n := 128) (by decide) c1, x1, Option.bind_some, isd_eq x2 ht, m_X6_next, c2]
        by_cases q : nm j = t
        · simp only [if_pos q, if_neg (show ¬ (1 : Int32) = 0 by decide)]
          exact Or.inl ⟨⟨j, by omega, q⟩, trivial⟩
        · simp only [if_neg q, if_true]
          refine ih (j + 1) (by omega) (by omega) (fun i hi => ?_)
          by_cases e2 : i = j
          · rw [e2]; exact q
          · exact ha i (by omega)
  unfold m_X6_hasField
  simp only [m_X6_first, ent_eq (n := 128) (by decide) hr, hme, Option.bind_some]
  have := go sr_fuel 0 (by omega) (by unfold sr_fuel; omega) (fun i hi => absurd hi (Nat.not_lt_zero _))
  rw [nI_0, ← hch.ptr] at this
  exact this
/-- symbols one behind the other in the plain form -/
def SYM (Pl : Nat → Int32) (lc k : Nat) (x : Nat → Nat) (sy : Nat → List Nat) : Prop := (∀ i, i < k → PN Pl lc (x i) (sy i)) ∧ ∀ i, i + 1 < k → x (i + 1) = x i + (sy i).length + 3
theorem nxs_eq {Pl : Nat → Int32} {lc x : Nat} {s : List Nat} (h : PN Pl lc x s) : m_X6_nextSymbol Pl (nI lc) (nI x) = some (nI (x + s.length + 3)) := by
  obtain ⟨a1, a2, a3, a4, a5⟩ := h
  have go : ∀ (fuel j : Nat), j ≤ s.length → s.length - j < fuel → m_X6_nextSymbol_2 Pl (nI lc) fuel (nI (x + j)) = some (nI (x + s.length + 3)) := by
    intro fuel
    induction fuel with
    | zero => intro j _ hf; exact absurd hf (Nat.not_lt_zero _)
    | succ fuel ih =>
      intro j hj hf
      simp only [m_X6_nextSymbol_2, nI_1]
      rw [if_neg (nI_ge (show x + j < lc by omega) (by omega)), lat_eq a2 (by omega), if_pos (show x + j < lc by omega)]
      simp only [Option.bind_some]
      by_cases e : j = s.length
      · rw [e, a5, if_pos (show nI 34 = 34 from rfl), show (3 : Int32) = nI 3 from rfl, nI_add]
      · have hq := nm_q a3 (show j < s.length by omega)
        have hb := bv_lt (Pl (x + j))
        rw [a4 j (by omega)] at hb ⊢
        rw [if_neg (show ¬ nI (s.getD j 0) = 34 from fun z => hq ((nI_eq (b := 34) (by omega) (by decide)).mp z))]
        exact ih (j + 1) (by omega) (by omega)
  have := go sr_fuel 0 (by omega) (by have := a3.2.1; unfold sr_fuel; omega)
  rw [Nat.add_zero] at this
  exact this
theorem hsy_eq {Pl Me Fi Ac : Nat → Int32} {lc r m k p : Nat} {x : Nat → Nat} {sy : Nat → List Nat} {t : List Nat} (hr : r < 128) (hm : m < 128) (hme : Me r = nI m) (hac : Ac m = nI k) (hk : k < 1000) (hfi : 0 < k → Fi m = nI (x 0)) (hsy : SYM Pl lc k x sy) (ht : SAID Sd Am p t) :
    ((∃ i, i < k ∧ sy i = t) ∧ m_X6_hasSymbol Pl Me Fi Ac (nI lc) Sd Am (nI r) (nI p) = some 1) ∨ ((¬ ∃ i, i < k ∧ sy i = t) ∧ m_X6_hasSymbol Pl Me Fi Ac (nI lc) Sd Am (nI r) (nI p) = some 0) := by
  have go : ∀ (fuel j : Nat) (y : Int32), j ≤ k → k - j < fuel → (j < k → y = nI (x j)) → (∀ i, i < j → sy i ≠ t) → ((∃ i, i < k ∧ sy i = t) ∧ m_X6_hasSymbol_10 Pl Me Fi Ac (nI lc) Sd Am fuel (nI r) (nI p) y (nI j) = some 1) ∨ ((¬ ∃ i, i < k ∧ sy i = t) ∧ m_X6_hasSymbol_10 Pl Me Fi Ac (nI lc) Sd Am fuel (nI r) (nI p) y (nI j) = some 0) := by
    intro fuel
    induction fuel with
    | zero => intro j y _ hf; exact absurd hf (Nat.not_lt_zero _)
    | succ fuel ih =>
      intro j y hj hf hy ha
      simp only [m_X6_hasSymbol_10, m_X6_amount, ent_eq (n := 128) (by decide) hr, hme, ent_eq (n := 128) (by decide) hm, hac, Option.bind_some, nI_1]
      by_cases e : k ≤ j
      · simp only [if_pos (nI_le e (show j < 2 ^ 31 by omega))]
        exact Or.inr ⟨fun ⟨i, i1, i2⟩ => ha i (by omega) i2, trivial⟩
      · have hp := hsy.1 j (by omega)
        rw [hy (by omega)]
        simp only [if_neg (nI_ge (show j < k by omega) (show k < 2 ^ 31 by omega)), isd_eq hp ht, Option.bind_some, nxs_eq hp]
        by_cases q : sy j = t
        · simp only [if_pos q, if_neg (show ¬ (1 : Int32) = 0 by decide)]
          exact Or.inl ⟨⟨j, by omega, q⟩, trivial⟩
        · simp only [if_neg q, if_true]
          refine ih (j + 1) _ (by omega) (by omega) (fun h => by rw [hsy.2 j h]) (fun i hi => ?_)
          by_cases e2 : i = j
          · rw [e2]; exact q
          · exact ha i (by omega)
  unfold m_X6_hasSymbol
  simp only [m_X6_first, ent_eq (n := 128) (by decide) hr, hme, ent_eq (n := 128) (by decide) hm, Option.bind_some]
  have := go sr_fuel 0 (Fi m) (by omega) (by unfold sr_fuel; omega) hfi (fun i hi => absurd hi (Nat.not_lt_zero _))
  rw [nI_0] at this
  exact this
end NAMES
section RNAMES
variable {N : Nat → Int64} {S Lt : Nat → Int32} {l : Nat}
/-- a row that says s -/
def RNm (N : Nat → Int64) (S Lt : Nat → Int32) (l : Nat) (x : Int32) (s : List Nat) : Prop := ∃ n, x = nI n ∧ n < 4200 ∧ RSt N S Lt l n s ∧ ∀ v, v ∈ s → v ≤ 255
theorem rsy_eq {Ki Kn Kx : Nat → Int32} {t k n kc : Nat} {e : Nat → Nat} {sy : Nat → List Nat} {u : List Nat} (hl : l ≤ 4200) (ht : t < 140) (hkc : kc ≤ 2200) (hch : ICH Kx (Ki t) k e kc) (hnm : ∀ i, i < k → RNm N S Lt l (Kn (e i)) (sy i)) (hu : RNm N S Lt l (nI n) u) (hn : n < 4200) (hk : k < 90000) :
    ((∃ i, i < k ∧ sy i = u) ∧ ∃ j, j < k ∧ m_X9_symbol N S Lt Ki Kn Kx N S Lt (nI t) (nI n) = some (nI j)) ∨ ((¬ ∃ i, i < k ∧ sy i = u) ∧ m_X9_symbol N S Lt Ki Kn Kx N S Lt (nI t) (nI n) = some (-1)) := by
  obtain ⟨n', en, _, hu1, hu2⟩ := hu
  have en2 : n = n' := (nI_eq (by omega) (by omega)).mp en
  subst en2
  have go : ∀ (fuel j : Nat), j ≤ k → k - j < fuel → (∀ i, i < j → sy i ≠ u) → ((∃ i, i < k ∧ sy i = u) ∧ ∃ j', j' < k ∧ m_X9_symbol_11 N S Lt Ki Kn Kx N S Lt fuel (nI n) (nI j) (if j = k then -1 else nI (e j)) = some (nI j')) ∨ ((¬ ∃ i, i < k ∧ sy i = u) ∧ m_X9_symbol_11 N S Lt Ki Kn Kx N S Lt fuel (nI n) (nI j) (if j = k then -1 else nI (e j)) = some (-1)) := by
    intro fuel
    induction fuel with
    | zero => intro j _ hf; exact absurd hf (Nat.not_lt_zero _)
    | succ fuel ih =>
      intro j hj hf ha
      by_cases ej : j = k
      · simp only [if_pos ej, m_X9_symbol_11, if_pos (show (-1 : Int32) < 0 by decide)]
        exact Or.inr ⟨fun ⟨i, i1, i2⟩ => ha i (by omega) i2, trivial⟩
      · obtain ⟨c1, c2⟩ := hch.1 j (by omega)
        obtain ⟨m, m1, m2, m3, m4⟩ := hnm j (by omega)
        simp only [if_neg ej, m_X9_symbol_11, if_neg (nI_pos (show e j < 2 ^ 31 by omega)), bd_go (show e j < 2200 by omega) (by decide), bd_gc (show e j < 2200 by omega) (by decide), nI_clamp (show e j < 2 ^ 31 by omega), m1, same_r m2 hn hl hl m3 hu1 m4 hu2, Option.bind_some, c2, nI_1]
        by_cases q : sy j = u
        · simp only [if_pos q, if_neg (show ¬ (1 : Int32) = 0 by decide)]
          exact Or.inl ⟨⟨j, by omega, q⟩, j, by omega, rfl⟩
        · simp only [if_neg q, if_true]
          refine ih (j + 1) (by omega) (by omega) (fun i hi => ?_)
          by_cases e2 : i = j
          · rw [e2]; exact q
          · exact ha i (by omega)
  unfold m_X9_symbol
  rw [bd_go ht (by decide), nI_clamp (by omega)]
  have := go sr_fuel 0 (by omega) (by unfold sr_fuel; omega) (fun i hi => absurd hi (Nat.not_lt_zero _))
  rw [nI_0, ← hch.ptr] at this
  exact this
theorem dfr_eq {Nm : Nat → Int32} {sh n : Nat} {u : List Nat} (hl : l ≤ 4200) (h6 : 6 ≤ sh) (hsh : sh ≤ 140) (hnm : ∀ t, 6 ≤ t → t < sh → Nm t = -1 ∨ ∃ s, RNm N S Lt l (Nm t) s) (hu : RNm N S Lt l (nI n) u) (hn : n < 4200) :
    (∃ t, 6 ≤ t ∧ t < sh ∧ RNm N S Lt l (Nm t) u ∧ m_X9_defined N S Lt (nI sh) Nm (nI n) = some (nI t)) ∨ ((∀ t, 6 ≤ t → t < sh → ¬ RNm N S Lt l (Nm t) u) ∧ m_X9_defined N S Lt (nI sh) Nm (nI n) = some (-1)) := by
  obtain ⟨n', en, _, hu1, hu2⟩ := hu
  have en2 : n = n' := (nI_eq (by omega) (by omega)).mp en
  subst en2
  have go : ∀ (fuel j : Nat), 6 ≤ j → j ≤ sh → sh - j < fuel → (∀ t, 6 ≤ t → t < j → ¬ RNm N S Lt l (Nm t) u) → (∃ t, 6 ≤ t ∧ t < sh ∧ RNm N S Lt l (Nm t) u ∧ m_X9_defined_3 N S Lt (nI sh) Nm fuel (nI n) (nI j) = some (nI t)) ∨ ((∀ t, 6 ≤ t → t < sh → ¬ RNm N S Lt l (Nm t) u) ∧ m_X9_defined_3 N S Lt (nI sh) Nm fuel (nI n) (nI j) = some (-1)) := by
    intro fuel
    induction fuel with
    | zero => intro j _ _ hf; exact absurd hf (Nat.not_lt_zero _)
    | succ fuel ih =>
      intro j h6j hj hf ha
      simp only [m_X9_defined_3, nI_1]
      by_cases c : sh ≤ j
      · simp only [if_pos (nI_le c (show j < 2 ^ 31 by omega))]
        exact Or.inr ⟨fun t h1 h2 => ha t h1 (by omega), trivial⟩
      · simp only [if_neg (nI_ge (show j < sh by omega) (show sh < 2 ^ 31 by omega)), bd_go (show j < 140 by omega) (by decide), bd_gc (show j < 140 by omega) (by decide), nI_clamp (show j < 2 ^ 31 by omega)]
        have nxt : ¬ RNm N S Lt l (Nm j) u → _ := fun hx => ih (j + 1) (by omega) (by omega) (by omega) (fun t h1 h2 => by
          by_cases e : t = j
          · rw [e]; exact hx
          · exact ha t h1 (by omega))
        rcases hnm j h6j (by omega) with e | ⟨s, m, m1, m2, m3, m4⟩
        · simp only [e, if_pos (show (-1 : Int32) < 0 by decide)]
          refine nxt (fun ⟨x, x1, x2, _⟩ => ?_)
          rw [e] at x1
          exact nI_m1 (n := x) (by omega) x1.symm
        · simp only [m1, if_neg (nI_pos (show m < 2 ^ 31 by omega)), same_r m2 hn hl hl m3 hu1 m4 hu2, Option.bind_some]
          by_cases q : s = u
          · simp only [if_pos q, if_neg (show ¬ (1 : Int32) = 0 by decide)]
            exact Or.inl ⟨j, h6j, by omega, ⟨m, m1, m2, by rw [← q]; exact m3, hu2⟩, rfl⟩
          · simp only [if_neg q, if_true]
            refine nxt (fun ⟨x, x1, x2, x3, x4⟩ => q ?_)
            have e2 : m = x := (nI_eq (by omega) (by omega)).mp (m1.symm.trans x1)
            subst e2
            have a := same_r m2 m2 hl hl m3 m3 m4 m4
            have b := same_r m2 m2 hl hl m3 x3 m4 x4
            rw [if_pos rfl] at a
            rw [a] at b
            by_cases e3 : s = u
            · exact e3
            · rw [if_neg e3] at b
              exact absurd (Option.some.inj b) (by decide)
  unfold m_X9_defined
  have := go sr_fuel 6 (by omega) h6 (by unfold sr_fuel; omega) (fun t h1 h2 => by omega)
  exact this
end RNAMES
