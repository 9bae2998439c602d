-- the tree of values in the reference's rows
/-- a leaf: its row, its bytes p .. q-1; a string's letters lie below l -/
def leafV (K F : Nat → Int32) (N : Nat → Int64) (S : Nat → Int32) (l n m p q : Nat) : Prop :=
  m = n + 1 ∧ p < q ∧ F n = nI p ∧ ((K n = 2 ∧ ∃ st sz, S n = nI sz ∧ N n = lN st ∧ st + sz ≤ l ∧ p + sz + 2 ≤ q) ∨ (K n = 3 ∧ (9 < N n → p + 2 ≤ q)) ∨ K n = 4 ∨ K n = 5 ∨ K n = 6)
def keyV (K F : Nat → Int32) (N : Nat → Int64) (S : Nat → Int32) (l c u r : Nat) : Prop :=
  K c = 2 ∧ F c = nI u ∧ ∃ st sz, S c = nI sz ∧ N c = lN st ∧ st + sz ≤ l ∧ u + sz + 2 ≤ r
/-- k values in a row: rows c i .. e i - 1, bytes u i .. v i - 1 -/
def kidsL (P : Nat → Nat → Nat → Nat → Prop) (X : Nat → Int32) (n0 n p0 a k : Nat) (c e u v : Nat → Nat) : Prop :=
  (∀ i, i < k → P (c i) (e i) (u i) (v i) ∧ X (c i) = (if i + 1 = k then -1 else nI (c (i + 1))) ∧ n0 < c i ∧ c i < e i ∧ e i ≤ n ∧ p0 < u i ∧ u i < v i ∧ v i ≤ a) ∧ (∀ i j, i < j → j < k → e i ≤ c j ∧ v i < u j)
/-- k members: the string's row c i, bytes u i .. r i - 1; the value's rows c i + 1 .. e i - 1, bytes s i .. v i - 1 -/
def kidsO (P : Nat → Nat → Nat → Nat → Prop) (Q : Nat → Nat → Nat → Prop) (X : Nat → Int32) (n0 n p0 a k : Nat) (c e u r s v : Nat → Nat) : Prop :=
  (∀ i, i < k → Q (c i) (u i) (r i) ∧ P (c i + 1) (e i) (s i) (v i) ∧ X (c i) = nI (c i + 1) ∧ X (c i + 1) = (if i + 1 = k then -1 else nI (c (i + 1))) ∧ n0 < c i ∧ c i + 1 < e i ∧ e i ≤ n ∧ p0 < u i ∧ u i < r i ∧ r i < s i ∧ s i < v i ∧ v i ≤ a) ∧ (∀ i j, i < j → j < k → e i ≤ c j ∧ v i < u j)
def Val (K F : Nat → Int32) (N : Nat → Int64) (S I X : Nat → Int32) (l : Nat) : Nat → Nat → Nat → Nat → Nat → Prop
  | 0, n, m, p, q => leafV K F N S l n m p q
  | h + 1, n, m, p, q => leafV K F N S l n m p q ∨
    (K n = 1 ∧ F n = nI p ∧ n < m ∧ ∃ (a k : Nat) (c e u v : Nat → Nat), q = a + 1 ∧ k + p < a ∧ S n = nI k ∧ I n = (if k = 0 then -1 else nI (c 0)) ∧ kidsL (Val K F N S I X l h) X n m p a k c e u v) ∨
    (K n = 0 ∧ F n = nI p ∧ n < m ∧ ∃ (a k : Nat) (c e u r s v : Nat → Nat), q = a + 1 ∧ k + p < a ∧ I n = (if k = 0 then -1 else nI (c 0)) ∧ kidsO (Val K F N S I X l h) (keyV K F N S l) X n m p a k c e u r s v)
theorem Val.basic {K F S I X : Nat → Int32} {N : Nat → Int64} {l h n m p q : Nat} (hv : Val K F N S I X l h n m p q) : n < m ∧ p < q ∧ F n = nI p := by
  cases h with
  | zero => obtain ⟨h1, h2, h3, -⟩ := hv; exact ⟨by omega, h2, h3⟩
  | succ h =>
    rcases hv with ⟨h1, h2, h3, -⟩ | ⟨-, h2, h3, a, k, c, e, u, v, h4, h5, -⟩ | ⟨-, h2, h3, a, k, c, e, u, r, s, v, h4, h5, -⟩
    · exact ⟨by omega, h2, h3⟩
    · exact ⟨h3, by omega, h2⟩
    · exact ⟨h3, by omega, h2⟩
theorem Val.leaf {K F S I X : Nat → Int32} {N : Nat → Int64} {l h n m p q : Nat} (hv : leafV K F N S l n m p q) : Val K F N S I X l h n m p q := by
  cases h with
  | zero => exact hv
  | succ h => exact Or.inl hv
section VKEEP
variable {K F S I X K' F' S' I' X' : Nat → Int32} {N N' : Nat → Int64} {l l' : Nat}
theorem leafV.keep {n m p q : Nat} (h : leafV K F N S l n m p q) (hk : K n = K' n) (hf : F n = F' n) (hN : N n = N' n) (hS : S n = S' n) (hl : l ≤ l') : leafV K' F' N' S' l' n m p q := by
  obtain ⟨h1, h2, h3, h4⟩ := h
  refine ⟨h1, h2, by rw [← hf]; exact h3, ?_⟩
  rw [← hk, ← hN, ← hS]
  rcases h4 with ⟨a, st, sz, b1, b2, b3, b4⟩ | h4
  · exact Or.inl ⟨a, st, sz, b1, b2, by omega, b4⟩
  · exact Or.inr h4
theorem keyV.keep {n p q : Nat} (h : keyV K F N S l n p q) (hk : K n = K' n) (hf : F n = F' n) (hN : N n = N' n) (hS : S n = S' n) (hl : l ≤ l') : keyV K' F' N' S' l' n p q := by
  obtain ⟨h1, h2, st, sz, h3, h4, h5, h6⟩ := h
  exact ⟨by rw [← hk]; exact h1, by rw [← hf]; exact h2, st, sz, by rw [← hS]; exact h3, by rw [← hN]; exact h4, by omega, h6⟩
theorem Val.keep : ∀ (h n m p q : Nat), Val K F N S I X l h n m p q → (∀ i, n ≤ i → i < m → K i = K' i ∧ F i = F' i ∧ N i = N' i ∧ S i = S' i ∧ I i = I' i) → (∀ i, n < i → i < m → X i = X' i) → l ≤ l' → Val K' F' N' S' I' X' l' h n m p q := by
  intro h
  induction h with
  | zero =>
    intro n m p q hv he hx hl
    obtain ⟨e1, e2, e3, e4, -⟩ := he n (Nat.le_refl _) hv.basic.1
    exact leafV.keep hv e1 e2 e3 e4 hl
  | succ h ih =>
    intro n m p q hv he hx hl
    have hnm : n < m := hv.basic.1
    obtain ⟨e1, e2, e3, e4, e5⟩ := he n (Nat.le_refl _) hnm
    rcases hv with hv | ⟨h1, h2, h3, a, k, c, e, u, v, h4, h5, h6, h7, h8⟩ | ⟨h1, h2, h3, a, k, c, e, u, r, s, v, h4, h5, h7, h8⟩
    · exact Or.inl (leafV.keep hv e1 e2 e3 e4 hl)
    · refine Or.inr (Or.inl ⟨by rw [← e1]; exact h1, by rw [← e2]; exact h2, h3, a, k, c, e, u, v, h4, h5, by rw [← e4]; exact h6, by rw [← e5]; exact h7, fun i hi => ?_, h8.2⟩)
      obtain ⟨q1, q2, q3, q4, q5, q6⟩ := h8.1 i hi
      refine ⟨ih _ _ _ _ q1 (fun j j1 j2 => he j (by omega) (by omega)) (fun j j1 j2 => hx j (by omega) (by omega)) hl, ?_, q3, q4, q5, q6⟩
      rw [← hx (c i) q3 (by omega)]; exact q2
    · refine Or.inr (Or.inr ⟨by rw [← e1]; exact h1, by rw [← e2]; exact h2, h3, a, k, c, e, u, r, s, v, h4, h5, by rw [← e5]; exact h7, fun i hi => ?_, h8.2⟩)
      obtain ⟨q0, q1, q2, q2', q3, q4, q5, q6⟩ := h8.1 i hi
      obtain ⟨f1, f2, f3, f4, -⟩ := he (c i) (by omega) (by omega)
      refine ⟨keyV.keep q0 f1 f2 f3 f4 hl, ih _ _ _ _ q1 (fun j j1 j2 => he j (by omega) (by omega)) (fun j j1 j2 => hx j (by omega) (by omega)) hl, ?_, ?_, q3, q4, q5, q6⟩
      · rw [← hx (c i) q3 (by omega)]; exact q2
      · rw [← hx (c i + 1) (by omega) (by omega)]; exact q2'
end VKEEP
def snc (f : Nat → Nat) (k x : Nat) : Nat → Nat := fun i => if i = k then x else f i
theorem snc_s {f : Nat → Nat} {k x : Nat} : snc f k x k = x := if_pos rfl
theorem snc_n {f : Nat → Nat} {k x i : Nat} (h : i ≠ k) : snc f k x i = f i := if_neg h
theorem kidsL_push {P P2 : Nat → Nat → Nat → Nat → Prop} {X X2 : Nat → Int32} {n0 n n' p0 a b k : Nat} {c e u v : Nat → Nat} (hk : kidsL P X n0 n p0 a k c e u v) (hva : ∀ i, i < k → v i < a) (hn0 : n0 < n) (hnn : n < n') (hp : p0 < a) (hab : a < b)
    (hP : ∀ i, i < k → P (c i) (e i) (u i) (v i) → P2 (c i) (e i) (u i) (v i)) (hN : P2 n n' a b) (hX : ∀ i, i + 1 < k → X2 (c i) = X (c i)) (hXl : ∀ i, i + 1 = k → X2 (c i) = nI n) (hXn : X2 n = -1) :
    kidsL P2 X2 n0 n' p0 b (k + 1) (snc c k n) (snc e k n') (snc u k a) (snc v k b) := by
  refine ⟨fun i hi => ?_, fun i j hij hj => ?_⟩
  · by_cases h : i = k
    · subst h
      simp only [snc_s]
      exact ⟨hN, by rw [if_pos trivial]; exact hXn, hn0, hnn, Nat.le_refl _, hp, hab, Nat.le_refl _⟩
    · obtain ⟨q1, q2, q3, q4, q5, q6, q7, q8⟩ := hk.1 i (by omega)
      simp only [snc_n h]
      refine ⟨hP i (by omega) q1, ?_, q3, q4, by omega, q6, q7, by omega⟩
      rw [if_neg (by omega)]
      by_cases h2 : i + 1 = k
      · rw [hXl i h2, h2, snc_s]
      · rw [snc_n h2, hX i (by omega), q2, if_neg h2]
  · by_cases h : j = k
    · subst h
      have hi : i ≠ j := by omega
      simp only [snc_s, snc_n hi]
      obtain ⟨q1, q2, q3, q4, q5, q6, q7, q8⟩ := hk.1 i (by omega)
      exact ⟨q5, hva i (by omega)⟩
    · have hi : i ≠ k := by omega
      simp only [snc_n h, snc_n hi]
      exact hk.2 i j hij (by omega)
theorem kidsO_push {P P2 : Nat → Nat → Nat → Nat → Prop} {Q Q2 : Nat → Nat → Nat → Prop} {X X2 : Nat → Int32} {n0 n n' p0 a w y b k : Nat} {c e u r s v : Nat → Nat} (hk : kidsO P Q X n0 n p0 a k c e u r s v) (hva : ∀ i, i < k → v i < a) (hn0 : n0 < n) (hnn : n + 1 < n') (hp : p0 < a) (haw : a < w) (hwy : w < y) (hyb : y < b)
    (hP : ∀ i, i < k → P (c i + 1) (e i) (s i) (v i) → P2 (c i + 1) (e i) (s i) (v i)) (hQ : ∀ i, i < k → Q (c i) (u i) (r i) → Q2 (c i) (u i) (r i)) (hN : P2 (n + 1) n' y b) (hM : Q2 n a w)
    (hX0 : ∀ i, i < k → X2 (c i) = X (c i)) (hX : ∀ i, i + 1 < k → X2 (c i + 1) = X (c i + 1)) (hXl : ∀ i, i + 1 = k → X2 (c i + 1) = nI n) (hXn : X2 n = nI (n + 1)) (hXv : X2 (n + 1) = -1) :
    kidsO P2 Q2 X2 n0 n' p0 b (k + 1) (snc c k n) (snc e k n') (snc u k a) (snc r k w) (snc s k y) (snc v k b) := by
  refine ⟨fun i hi => ?_, fun i j hij hj => ?_⟩
  · by_cases h : i = k
    · subst h
      simp only [snc_s]
      exact ⟨hM, hN, hXn, by rw [if_pos trivial]; exact hXv, hn0, hnn, Nat.le_refl _, hp, haw, hwy, hyb, Nat.le_refl _⟩
    · obtain ⟨q0, q1, q2, q2', q3, q4, q5, q6, q7, q8, q9, q10⟩ := hk.1 i (by omega)
      simp only [snc_n h]
      refine ⟨hQ i (by omega) q0, hP i (by omega) q1, by rw [hX0 i (by omega)]; exact q2, ?_, q3, q4, by omega, q6, q7, q8, q9, by omega⟩
      rw [if_neg (by omega)]
      by_cases h2 : i + 1 = k
      · rw [hXl i h2, h2, snc_s]
      · rw [snc_n h2, hX i (by omega), q2', if_neg h2]
  · by_cases h : j = k
    · subst h
      have hi : i ≠ j := by omega
      simp only [snc_s, snc_n hi]
      obtain ⟨q0, q1, q2, q2', q3, q4, q5, -⟩ := hk.1 i (by omega)
      exact ⟨q5, hva i (by omega)⟩
    · have hi : i ≠ k := by omega
      simp only [snc_n h, snc_n hi]
      exact hk.2 i j hij (by omega)
-- whether two strings are the same
theorem same_t {tN oN : Nat → Int64} {tS tL oS oL : Nat → Int32} {x y st sz st' : Nat} (hx : x < 4200) (hy : y < 4200) (h1 : tN x = lN st) (h2 : tS x = nI sz) (h3 : oN y = lN st') (h4 : oS y = nI sz) (h5 : st + sz ≤ 4200) (h6 : st' + sz ≤ 4200) (h : ∀ j, j < sz → tL (st + j) = oL (st' + j)) : m_X9_same tN tS tL oN oS oL (nI x) (nI y) = some 1 := by
  have go : ∀ (n j : Nat), j ≤ sz → sz - j < n → m_X9_same_20 tN tS tL oN oS oL n (nI x) (nI y) (nI j) = some 1 := by
    intro n
    induction n with
    | zero => intro j _ hn; exact absurd hn (Nat.not_lt_zero _)
    | succ n ih =>
      intro j hj hn
      simp only [m_X9_same_20, bd_go hx (by decide), bd_gc hx (by decide), bd_go hy (by decide), bd_gc hy (by decide), nI_clamp (show x < 2 ^ 31 by omega), nI_clamp (show y < 2 ^ 31 by omega), h1, h2, h3, lN_i, nI_add, nI_1]
      by_cases hc : sz ≤ j
      · rw [if_pos (nI_le hc (by omega))]
      · rw [if_neg (nI_ge (by omega) (by omega)), bd_go (show st + j < 4200 by omega) (by decide), bd_go (show st' + j < 4200 by omega) (by decide), nI_clamp (show st + j < 2 ^ 31 by omega), nI_clamp (show st' + j < 2 ^ 31 by omega), if_pos (h j (by omega))]
        exact ih (j + 1) (by omega) (by omega)
  simp only [m_X9_same, bd_go hx (by decide), bd_gc hx (by decide), bd_go hy (by decide), bd_gc hy (by decide), nI_clamp (show x < 2 ^ 31 by omega), nI_clamp (show y < 2 ^ 31 by omega), h2, h4, if_true]
  exact go sr_fuel 0 (by omega) (by unfold sr_fuel; omega)
theorem same_f {tN oN : Nat → Int64} {tS tL oS oL : Nat → Int32} {x y st sz st' sz' : Nat} (hx : x < 4200) (hy : y < 4200) (h1 : tN x = lN st) (h2 : tS x = nI sz) (h3 : oN y = lN st') (h4 : oS y = nI sz') (h5 : st + sz ≤ 4200) (h6 : st' + sz' ≤ 4200) (h : ¬ (sz = sz' ∧ ∀ j, j < sz → tL (st + j) = oL (st' + j))) : m_X9_same tN tS tL oN oS oL (nI x) (nI y) = some 0 := by
  simp only [m_X9_same, bd_go hx (by decide), bd_gc hx (by decide), bd_go hy (by decide), bd_gc hy (by decide), nI_clamp (show x < 2 ^ 31 by omega), nI_clamp (show y < 2 ^ 31 by omega), h2, h4]
  by_cases he : sz = sz'
  · subst he
    rw [if_pos rfl]
    have go : ∀ (n j : Nat), j ≤ sz → sz - j < n → (∀ i, i < j → tL (st + i) = oL (st' + i)) → m_X9_same_20 tN tS tL oN oS oL n (nI x) (nI y) (nI j) = some 0 := by
      intro n
      induction n with
      | zero => intro j _ hn; exact absurd hn (Nat.not_lt_zero _)
      | succ n ih =>
        intro j hj hn ha
        simp only [m_X9_same_20, bd_go hx (by decide), bd_gc hx (by decide), bd_go hy (by decide), bd_gc hy (by decide), nI_clamp (show x < 2 ^ 31 by omega), nI_clamp (show y < 2 ^ 31 by omega), h1, h2, h3, lN_i, nI_add, nI_1]
        by_cases hc : sz ≤ j
        · exact absurd ⟨rfl, fun i hi => ha i (by omega)⟩ h
        · rw [if_neg (nI_ge (by omega) (by omega)), bd_go (show st + j < 4200 by omega) (by decide), bd_go (show st' + j < 4200 by omega) (by decide), nI_clamp (show st + j < 2 ^ 31 by omega), nI_clamp (show st' + j < 2 ^ 31 by omega)]
          by_cases hq : tL (st + j) = oL (st' + j)
          · rw [if_pos hq]
            refine ih (j + 1) (by omega) (by omega) (fun i hi => ?_)
            by_cases hij : i = j
            · rw [hij]; exact hq
            · exact ha i (by omega)
          · rw [if_neg hq]
    exact go sr_fuel 0 (by omega) (by unfold sr_fuel; omega) (fun i hi => absurd hi (Nat.not_lt_zero _))
  · rw [if_neg (fun q => he ((nI_eq (by omega) (by omega)).mp q))]
