-- a value in the class's rows and in the reference's, side by side
def litN (w : Nat) : List Nat := (bytS.getD w []).map Int32.toNatClampNeg
theorem lit_len : ∀ w, w < 75 → (litN w).length = lenS.getD w 0 := by decide +kernel
theorem lit_b : ∀ w, w < 75 → ∀ c, c ∈ litN w → c < 128 := by decide +kernel
theorem lit_c : ∀ w, w < 75 → ∀ j, j < lenS.getD w 0 → (bytS.getD w []).getD j 0 = nI ((litN w).getD j 0) := by decide +kernel
theorem lit_len40 : ∀ w, w < 75 → (litN w).length < 40 := by decide +kernel
def ts (T : Nat → Int32) (L p : Nat) : List Nat := match sstr T L (p + 1) with
  | .inr (s, _) => s
  | .inl _ => []
theorem ts_eq {T : Nat → Int32} {L p q : Nat} {s : List Nat} (h : sstr T L (p + 1) = .inr (s, q)) : ts T L p = s := by
  unfold ts
  rw [h]
def kdn (b : Nat) : Int32 := if b = 34 then 2 else if b = 91 then 1 else if b = 123 then 0 else if b = 45 ∨ (48 ≤ b ∧ b ≤ 57) then 3 else if b = 116 then 4 else if b = 102 then 5 else 6
section BOTH
variable (T : Nat → Int32) (L : Nat) (Sd In Nx Am : Nat → Int32) (K F : Nat → Int32) (N : Nat → Int64) (S I X Lt : Nat → Int32) (l : Nat)
def VV (n p q : Nat) : Prop := ∃ d m, sval T L d p = .inr q ∧ TRE T L Sd In Nx Am d p ∧ RT T L K F N S I X Lt l d n m p ∧ m ≤ 4200 ∧ ¬ (48 ≤ cb T L q ∧ cb T L q ≤ 57) ∧ d ≤ 25
def LCH : List (Nat × Nat) → Nat → Nat → Int32 → Int32 → Prop
  | [], lo, hi, hc, hr => lo ≤ hi ∧ hc = -1 ∧ hr = -1
  | k :: t, lo, hi, hc, hr => ∃ c b, lo ≤ k.2 ∧ hc = nI k.2 ∧ hr = nI c ∧ VV T L Sd In Nx Am K F N S I X Lt l c k.2 b ∧ b < hi ∧ LCH t (b + 1) hi (Nx k.2) (X c)
def KEYB (c : Nat) (k : Nat × Nat) (s : List Nat) : Prop := In k.1 = nI k.2 ∧ X c = nI (c + 1) ∧ cb T L k.1 = 34 ∧ ts T L k.1 = s ∧ SAID Sd Am k.1 s ∧ RSt N S Lt l c s ∧ K c = 2 ∧ c + 1 < 4200 ∧ k.1 + s.length + 3 ≤ k.2 ∧ (∀ v, v ∈ s → v ≤ 255)
def OCH : List (Nat × Nat) → Nat → Nat → Int32 → Int32 → Prop
  | [], lo, hi, hc, hr => lo ≤ hi ∧ hc = -1 ∧ hr = -1
  | k :: t, lo, hi, hc, hr => ∃ c b s, lo ≤ k.1 ∧ hc = nI k.1 ∧ hr = nI c ∧ KEYB T L Sd In Am K N S X Lt l c k s ∧ VV T L Sd In Nx Am K F N S I X Lt l (c + 1) k.2 b ∧ b < hi ∧ OCH t (b + 1) hi (Nx k.1) (X (c + 1))
end BOTH
section BOTH2
variable {T : Nat → Int32} {L : Nat} {Sd In Nx Am K F S I X Lt : Nat → Int32} {N : Nat → Int64} {l : Nat}
theorem lch_of {d m : Nat} (hm : m ≤ 4200) (hd25 : d ≤ 25) : ∀ (ks : List (Nat × Nat)) (n part q lo : Nat) (seen : List (List Nat)) (hc hr : Int32), sgrp (sval T L d) T L false 93 n part seen = .inr (ks, q) → CHN Nx ks hc → (∀ k, k ∈ ks → TRE T L Sd In Nx Am d k.2) → RTL (RT T L K F N S I X Lt l d) X m ks lo hr → LCH T L Sd In Nx Am K F N S I X Lt l ks part q hc hr := by
  intro ks
  induction ks with
  | nil =>
    intro n part q lo seen hc hr hs
    have := (sgrp_p (by decide) (sval_p d) _ _ _ _ _ hs).2.2.1
    exact absurd this (by simp)
  | cons k t ih =>
    intro n part q lo seen hc hr hs h1 h2 h3
    cases n with
    | zero => cases hs
    | succ n =>
    have hq := sgrp_p (by decide) (sval_p d) _ _ _ _ _ hs
    rw [sgrp_f] at hs
    cases hv : sval T L d part with
    | inl w => rw [hv] at hs; cases hs
    | inr b =>
      rw [hv] at hs
      simp only at hs
      obtain ⟨c, e, r1, r2, r3, r4, r5, r6⟩ := h3
      have hb := sbl_le (B := T) (L := L) (a := b)
      have hnd : cb T L (sbl T L b) = 93 ∨ cb T L (sbl T L b) = 44 → ¬ (48 ≤ cb T L b ∧ cb T L b ≤ 57) := fun hx hd => by
        rw [sbl_s, if_neg (by omega)] at hx
        omega
      by_cases c1 : cb T L (sbl T L b) = 93
      · rw [if_pos c1] at hs
        cases hs
        exact ⟨c, b, Nat.le_refl _, h1.1, r1, ⟨d, e, hv, h2 _ List.mem_cons_self, r5, by omega, hnd (Or.inl c1), hd25⟩, by omega, by omega, h1.2, r6⟩
      · rw [if_neg c1] at hs
        by_cases c2 : cb T L (sbl T L b) = 44
        · rw [if_pos c2] at hs
          cases hr2 : sgrp (sval T L d) T L false 93 n (sbl T L (sbl T L b + 1)) ([] :: seen) with
          | inl w => rw [hr2] at hs; cases hs
          | inr y =>
            obtain ⟨t2, q2⟩ := y
            rw [hr2] at hs
            cases hs
            have g := ih n _ _ e _ _ _ hr2 h1.2 (fun k hk => h2 k (List.mem_cons_of_mem _ hk)) r6
            have hz := sgrp_p (by decide) (sval_p d) _ _ _ _ _ hr2
            have hz2 := sbl_le (B := T) (L := L) (a := sbl T L b + 1)
            refine ⟨c, b, Nat.le_refl _, h1.1, r1, ⟨d, e, hv, h2 _ List.mem_cons_self, r5, by omega, hnd (Or.inr c2), hd25⟩, by omega, ?_⟩
            cases t with
            | nil => exact absurd hz.2.2.1 (by simp)
            | cons k2 t2 =>
              obtain ⟨c', b', g1, g2, g3, g4⟩ := g
              exact ⟨c', b', by omega, g2, g3, g4⟩
        · rw [if_neg c2] at hs; cases hs
theorem och_of {d m : Nat} (hm : m ≤ 4200) (hd25 : d ≤ 25) : ∀ (ks : List (Nat × Nat)) (n part q lo : Nat) (seen : List (List Nat)) (hc hr : Int32), sgrp (sval T L d) T L true 125 n part seen = .inr (ks, q) → CHN Nx ks hc → (∀ k, k ∈ ks → TRE T L Sd In Nx Am d k.2 ∧ In k.1 = nI k.2 ∧ ∃ s q, sstr T L (k.1 + 1) = .inr (s, q) ∧ SAID Sd Am k.1 s) → RTO (RT T L K F N S I X Lt l d) (RKey T L K F N S Lt l) X m ks lo hr → OCH T L Sd In Nx Am K F N S I X Lt l ks part q hc hr := by
  intro ks
  induction ks with
  | nil =>
    intro n part q lo seen hc hr hs
    have := (sgrp_p (by decide) (sval_p d) _ _ _ _ _ hs).2.2.1
    exact absurd this (by simp)
  | cons k t ih =>
    intro n part q lo seen hc hr hs h1 h2 h3
    cases n with
    | zero => cases hs
    | succ n =>
    have hq := sgrp_p (by decide) (sval_p d) _ _ _ _ _ hs
    rw [sgrp_t] at hs
    cases hk : skey T L part seen with
    | inl w => rw [hk] at hs; cases hs
    | inr vs =>
    obtain ⟨v, s⟩ := vs
    rw [hk] at hs
    simp only at hs
    obtain ⟨e0, k1, k2, k3, k4, k5, k6, k7, k8⟩ := skey_p hk
    cases hv : sval T L d v with
    | inl w => rw [hv] at hs; cases hs
    | inr b =>
      rw [hv] at hs
      simp only at hs
      obtain ⟨c, e, r1, r2, r3, r4, r5, r6, r7, r8⟩ := h3
      have hb := sbl_le (B := T) (L := L) (a := b)
      have hnd : cb T L (sbl T L b) = 125 ∨ cb T L (sbl T L b) = 44 → ¬ (48 ≤ cb T L b ∧ cb T L b ≤ 57) := fun hx hd => by
        rw [sbl_s, if_neg (by omega)] at hx
        omega
      have hvb := sval_p _ _ _ hv
      have hkk : k = (part, v) := by
        by_cases c1 : cb T L (sbl T L b) = 125
        · rw [if_pos c1] at hs; cases hs; rfl
        · rw [if_neg c1] at hs
          by_cases c2 : cb T L (sbl T L b) = 44
          · rw [if_pos c2] at hs
            cases hr2 : sgrp (sval T L d) T L true 125 n (sbl T L (sbl T L b + 1)) (s :: seen) with
            | inl w => rw [hr2] at hs; cases hs
            | inr y => rw [hr2] at hs; cases hs; rfl
          · rw [if_neg c2] at hs; cases hs
      subst hkk
      have hkey : KEYB T L Sd In Am K N S X Lt l c (part, v) s := by
        obtain ⟨_, t2, s', q', t3, t4⟩ := h2 _ List.mem_cons_self
        obtain ⟨u1, u2, s'', q'', u3, u4⟩ := r5
        have e1 : s' = s := by
          have := t3.symm.trans k2
          cases this
          rfl
        have e2 : s'' = s := by
          have := u3.symm.trans k2
          cases this
          rfl
        subst e1
        subst e2
        exact ⟨t2, r7, k1, ts_eq k2, t4, u4, u1, by omega, by simp only; omega, sstrf_b _ _ _ _ k2⟩
      by_cases c1 : cb T L (sbl T L b) = 125
      · rw [if_pos c1] at hs
        cases hs
        exact ⟨c, b, s, Nat.le_refl _, h1.1, r1, hkey, ⟨d, e, hv, (h2 _ List.mem_cons_self).1, r6, by omega, hnd (Or.inl c1), hd25⟩, by omega, by omega, h1.2, r8⟩
      · rw [if_neg c1] at hs
        by_cases c2 : cb T L (sbl T L b) = 44
        · rw [if_pos c2] at hs
          cases hr2 : sgrp (sval T L d) T L true 125 n (sbl T L (sbl T L b + 1)) (s :: seen) with
          | inl w => rw [hr2] at hs; cases hs
          | inr y =>
            obtain ⟨t2, q2⟩ := y
            rw [hr2] at hs
            cases hs
            have g := ih n _ _ e _ _ _ hr2 h1.2 (fun k hk => h2 k (List.mem_cons_of_mem _ hk)) r8
            have hz := sgrp_p (by decide) (sval_p d) _ _ _ _ _ hr2
            have hz2 := sbl_le (B := T) (L := L) (a := sbl T L b + 1)
            refine ⟨c, b, s, Nat.le_refl _, h1.1, r1, hkey, ⟨d, e, hv, (h2 _ List.mem_cons_self).1, r6, by omega, hnd (Or.inr c2), hd25⟩, by omega, ?_⟩
            cases t with
            | nil => exact absurd hz.2.2.1 (by simp)
            | cons k2 t2 =>
              obtain ⟨c', b', s', g1, g2, g3, g4⟩ := g
              exact ⟨c', b', s', by omega, g2, g3, g4⟩
        · rw [if_neg c2] at hs; cases hs
theorem VV.base {n p q : Nat} (h : VV T L Sd In Nx Am K F N S I X Lt l n p q) : p < q ∧ q ≤ L ∧ n < 4200 ∧ F n = nI p := by
  obtain ⟨d, m, h1, h2, h3, h4, h5, h25⟩ := h
  have hp := sval_p _ _ _ h1
  cases d with
  | zero => cases h1
  | succ d => exact ⟨hp.1, hp.2, by have := h3.1; omega, h3.2.1⟩
theorem VV.kn {n p q : Nat} (h : VV T L Sd In Nx Am K F N S I X Lt l n p q) : K n = kdn (cb T L p) := by
  obtain ⟨d, m, h1, h2, h3, h4, h5, h25⟩ := h
  cases d with
  | zero => cases h1
  | succ d =>
    unfold kdn
    rcases h3.2.2 with ⟨c1, c2, _⟩ | ⟨c1, c2, _⟩ | ⟨c1, c2, _⟩ | ⟨c1, c2, _⟩ | ⟨c1, c2⟩ | ⟨c1, c2⟩ | ⟨c1, c2⟩
    · rw [if_pos c1]; exact c2
    · rw [if_neg (by omega), if_pos c1]; exact c2
    · rw [if_neg (by omega), if_neg (by omega), if_pos c1]; exact c2
    · rw [if_neg (by omega), if_neg (by omega), if_neg (by omega), if_pos c1]; exact c2
    · rw [if_neg (by omega), if_neg (by omega), if_neg (by omega), if_neg (by omega), if_pos c1]; exact c2
    · rw [if_neg (by omega), if_neg (by omega), if_neg (by omega), if_neg (by omega), if_neg (by omega), if_pos c1]; exact c2
    · rw [if_neg (by omega), if_neg (by omega), if_neg (by omega), if_neg (by omega), if_neg (by omega), if_neg (by omega)]; exact c2
theorem VV.any {n p q : Nat} (h : VV T L Sd In Nx Am K F N S I X Lt l n p q) : cb T L p = 34 ∨ cb T L p = 91 ∨ cb T L p = 123 ∨ (cb T L p = 45 ∨ (48 ≤ cb T L p ∧ cb T L p ≤ 57)) ∨ cb T L p = 116 ∨ cb T L p = 102 ∨ cb T L p = 110 := by
  obtain ⟨d, m, h1, h2, h3, h4, h5, h25⟩ := h
  cases d with
  | zero => cases h1
  | succ d =>
    rcases h3.2.2 with ⟨c1, c2, _⟩ | ⟨c1, c2, _⟩ | ⟨c1, c2, _⟩ | ⟨c1, c2, _⟩ | ⟨c1, c2⟩ | ⟨c1, c2⟩ | ⟨c1, c2⟩ <;> omega
theorem VV.str {n p q : Nat} (h : VV T L Sd In Nx Am K F N S I X Lt l n p q) (hc : cb T L p = 34) : ∃ s, sstr T L (p + 1) = .inr (s, q) ∧ ts T L p = s ∧ SAID Sd Am p s ∧ RSt N S Lt l n s ∧ p + s.length + 2 ≤ q ∧ (∀ v, v ∈ s → v ≤ 255) := by
  obtain ⟨d, m, h1, h2, h3, h4, h5, h25⟩ := h
  cases d with
  | zero => cases h1
  | succ d =>
    obtain ⟨s, q1, g1, g2⟩ := h2.1 hc
    have e : q = q1 := by
      simp only [sval] at h1
      rw [if_pos hc, g1] at h1
      cases h1
      rfl
    subst e
    have hp := sstrf_p _ _ _ _ g1
    rcases h3.2.2 with ⟨c1, c2, s', q', g3, g4⟩ | ⟨c1, c2, _⟩ | ⟨c1, c2, _⟩ | ⟨c1, c2, _⟩ | ⟨c1, c2⟩ | ⟨c1, c2⟩ | ⟨c1, c2⟩
    · have e2 := g3.symm.trans g1
      have e3 : s' = s := by
        cases e2
        rfl
      subst e3
      exact ⟨s', g1, ts_eq g1, g2, g4, by omega, sstrf_b _ _ _ _ g1⟩
    all_goals omega
theorem VV.nd {n p q : Nat} (h : VV T L Sd In Nx Am K F N S I X Lt l n p q) : ¬ (48 ≤ cb T L q ∧ cb T L q ≤ 57) := by
  obtain ⟨d, m, h1, h2, h3, h4, h5, h25⟩ := h
  exact h5
theorem VV.num {n p q : Nat} (h : VV T L Sd In Nx Am K F N S I X Lt l n p q) (hc : cb T L p = 45 ∨ (48 ≤ cb T L p ∧ cb T L p ≤ 57)) : N n = snv T L p ∧ snum T L p = .inr q := by
  obtain ⟨d, m, h1, h2, h3, h4, h5, h25⟩ := h
  cases d with
  | zero => cases h1
  | succ d =>
    refine ⟨?_, ?_⟩
    · rcases h3.2.2 with ⟨c1, c2, _⟩ | ⟨c1, c2, _⟩ | ⟨c1, c2, _⟩ | ⟨c1, c2, c3⟩ | ⟨c1, c2⟩ | ⟨c1, c2⟩ | ⟨c1, c2⟩
      case inr.inr.inr.inl => exact c3
      all_goals omega
    · simp only [sval] at h1
      rw [if_neg (by omega), if_neg (by omega), if_neg (by omega), if_neg (by omega), if_neg (by omega), if_pos hc] at h1
      exact h1
theorem gk_eq {d p : Nat} {a b : List (Nat × Nat)} (h1 : GK T L d p a) (h2 : GK T L d p b) : a = b := by
  rcases h1 with ⟨x1, x2⟩ | ⟨x1, q, x2⟩
  · rcases h2 with ⟨y1, y2⟩ | ⟨y1, _⟩
    · rw [x2, y2]
    · exact absurd x1 y1
  · rcases h2 with ⟨y1, _⟩ | ⟨_, q', y2⟩
    · exact absurd y1 x1
    · have := x2.symm.trans y2
      cases this
      rfl
theorem LCH.lo {ks : List (Nat × Nat)} {lo lo' hi : Nat} {hc hr : Int32} (h : LCH T L Sd In Nx Am K F N S I X Lt l ks lo hi hc hr) (hl : lo' ≤ lo) : LCH T L Sd In Nx Am K F N S I X Lt l ks lo' hi hc hr := by
  cases ks with
  | nil => exact ⟨by have := h.1; omega, h.2⟩
  | cons k t =>
    obtain ⟨c, b, h1, h2⟩ := h
    exact ⟨c, b, by omega, h2⟩
theorem OCH.lo {ks : List (Nat × Nat)} {lo lo' hi : Nat} {hc hr : Int32} (h : OCH T L Sd In Nx Am K F N S I X Lt l ks lo hi hc hr) (hl : lo' ≤ lo) : OCH T L Sd In Nx Am K F N S I X Lt l ks lo' hi hc hr := by
  cases ks with
  | nil => exact ⟨by have := h.1; omega, h.2⟩
  | cons k t =>
    obtain ⟨c, b, s, h1, h2⟩ := h
    exact ⟨c, b, s, by omega, h2⟩
theorem VV.list {n p q : Nat} (h : VV T L Sd In Nx Am K F N S I X Lt l n p q) (hc : cb T L p = 91) : ∃ ks, (∃ d, GK T L d p ks) ∧ Am p = nI ks.length ∧ S n = nI ks.length ∧ p + ks.length < q ∧ LCH T L Sd In Nx Am K F N S I X Lt l ks (p + 1) q (In p) (I n) := by
  obtain ⟨d, m, h1, h2, h3, h4, h5, h25⟩ := h
  have hpq := sval_p _ _ _ h1
  cases d with
  | zero => cases h1
  | succ d =>
    obtain ⟨ks, g1, g2, g3, g4⟩ := h2.2 (Or.inl hc)
    rcases h3.2.2 with ⟨c1, c2, _⟩ | ⟨c1, c2, ks', r1, r2, r3⟩ | ⟨c1, c2, _⟩ | ⟨c1, c2, c3⟩ | ⟨c1, c2⟩ | ⟨c1, c2⟩ | ⟨c1, c2⟩
    case inr.inl =>
      have e := gk_eq r1 g1
      subst e
      refine ⟨ks', ⟨d, g1⟩, g2, r2, ?_⟩
      have hn : ¬ cb T L p = 123 := by omega
      have hd : d ≠ 0 := by
        intro e
        simp only [sval] at h1
        rw [if_neg (by omega), if_pos (Or.inl hc), if_pos e] at h1
        cases h1
      rcases g1 with ⟨x1, x2⟩ | ⟨x1, q', x2⟩
      · subst x2
        exact ⟨by simp; omega, by omega, g3, r3⟩
      · rw [if_neg hn] at x1 x2
        rw [show decide (cb T L p = 123) = false from decide_eq_false hn] at x2
        have e : q = q' := by
          simp only [sval] at h1
          rw [if_neg (by omega), if_pos (Or.inl hc), if_neg hd, if_neg hn, if_neg x1, show decide (cb T L p = 123) = false from decide_eq_false hn, x2] at h1
          cases h1
          rfl
        subst e
        have g := lch_of (Sd := Sd) (In := In) (Am := Am) h4 (by omega) ks' _ _ _ _ _ _ _ x2 g3 (fun k hk => (g4 k hk).1) r3
        have hb := sbl_le (B := T) (L := L) (a := p + 1)
        have hz := sgrp_p (by decide) (sval_p d) _ _ _ _ _ x2
        exact ⟨by omega, g.lo hb⟩
    all_goals omega
theorem VV.obj {n p q : Nat} (h : VV T L Sd In Nx Am K F N S I X Lt l n p q) (hc : cb T L p = 123) : ∃ ks, (∃ d, GK T L d p ks) ∧ Am p = nI ks.length ∧ p + ks.length < q ∧ OCH T L Sd In Nx Am K F N S I X Lt l ks (p + 1) q (In p) (I n) := by
  obtain ⟨d, m, h1, h2, h3, h4, h5, h25⟩ := h
  have hpq := sval_p _ _ _ h1
  cases d with
  | zero => cases h1
  | succ d =>
    obtain ⟨ks, g1, g2, g3, g4⟩ := h2.2 (Or.inr hc)
    rcases h3.2.2 with ⟨c1, c2, _⟩ | ⟨c1, c2, _⟩ | ⟨c1, c2, ks', r1, r3⟩ | ⟨c1, c2, c3⟩ | ⟨c1, c2⟩ | ⟨c1, c2⟩ | ⟨c1, c2⟩
    case inr.inr.inl =>
      have e := gk_eq r1 g1
      subst e
      refine ⟨ks', ⟨d, g1⟩, g2, ?_⟩
      have hd : d ≠ 0 := by
        intro e
        simp only [sval] at h1
        rw [if_neg (by omega), if_pos (Or.inr hc), if_pos e] at h1
        cases h1
      rcases g1 with ⟨x1, x2⟩ | ⟨x1, q', x2⟩
      · subst x2
        exact ⟨by simp; omega, by omega, g3, r3⟩
      · rw [if_pos hc] at x1 x2
        rw [show decide (cb T L p = 123) = true from decide_eq_true hc] at x2
        have e : q = q' := by
          simp only [sval] at h1
          rw [if_neg (by omega), if_pos (Or.inr hc), if_neg hd, if_pos hc, if_neg x1, show decide (cb T L p = 123) = true from decide_eq_true hc, x2] at h1
          cases h1
          rfl
        subst e
        have g := och_of (Sd := Sd) (In := In) (Am := Am) h4 (by omega) ks' _ _ _ _ _ _ _ x2 g3 (fun k hk => ⟨(g4 k hk).1, (g4 k hk).2 hc⟩) r3
        have hb := sbl_le (B := T) (L := L) (a := p + 1)
        have hz := sgrp_p (by decide) (sval_p d) _ _ _ _ _ x2
        exact ⟨by omega, g.lo hb⟩
    all_goals omega
/-- a member of an object, by what its string says -/
def MEM (T : Nat → Int32) (L : Nat) (Sd In Nx Am K F : Nat → Int32) (N : Nat → Int64) (S I X Lt : Nat → Int32) (l : Nat) (k : Nat × Nat) (c b : Nat) (s : List Nat) (lo hi : Nat) : Prop := lo ≤ k.1 ∧ k.1 + s.length + 3 ≤ k.2 ∧ b < hi ∧ ts T L k.1 = s ∧ VV T L Sd In Nx Am K F N S I X Lt l c k.2 b
theorem OCH.mem : ∀ (ks : List (Nat × Nat)) (lo hi : Nat) (hc hr : Int32), OCH T L Sd In Nx Am K F N S I X Lt l ks lo hi hc hr → ∀ k, k ∈ ks → ∃ c b s, MEM T L Sd In Nx Am K F N S I X Lt l k c b s lo hi := by
  intro ks
  induction ks with
  | nil => intro lo hi hc hr _ k hk; exact absurd hk List.not_mem_nil
  | cons k0 t ih =>
    intro lo hi hc hr h k hk
    obtain ⟨c, b, s, h1, h2, h3, h4, h5, h6, h7⟩ := h
    rcases List.mem_cons.mp hk with e | e
    · subst e
      exact ⟨c + 1, b, s, h1, h4.2.2.2.2.2.2.2.2.1, h6, h4.2.2.2.1, h5⟩
    · obtain ⟨c', b', s', m1, m2, m3, m4, m5⟩ := ih _ _ _ _ h7 k e
      have hb := h5.base
      have := h4.2.2.2.2.2.2.2.2.1
      exact ⟨c', b', s', by omega, m2, m3, m4, m5⟩
/-- two members that say otherwise lie apart -/
theorem OCH.two : ∀ (ks : List (Nat × Nat)) (lo hi : Nat) (hc hr : Int32), OCH T L Sd In Nx Am K F N S I X Lt l ks lo hi hc hr → ∀ k k', k ∈ ks → k' ∈ ks → ts T L k.1 ≠ ts T L k'.1 → ∃ b b', (∃ c, VV T L Sd In Nx Am K F N S I X Lt l c k.2 b) ∧ (∃ c, VV T L Sd In Nx Am K F N S I X Lt l c k'.2 b') ∧ (b < k'.1 ∨ b' < k.1) := by
  intro ks
  induction ks with
  | nil => intro lo hi hc hr _ k k' hk; exact absurd hk List.not_mem_nil
  | cons k0 t ih =>
    intro lo hi hc hr h k k' hk hk' hne
    obtain ⟨c, b, s, h1, h2, h3, h4, h5, h6, h7⟩ := h
    rcases List.mem_cons.mp hk with e | e
    · subst e
      rcases List.mem_cons.mp hk' with e' | e'
      · subst e'
        exact absurd rfl hne
      · obtain ⟨c', b', s', m1, m2, m3, m4, m5⟩ := h7.mem _ _ _ _ _ k' e'
        exact ⟨b, b', ⟨_, h5⟩, ⟨_, m5⟩, Or.inl (by omega)⟩
    · rcases List.mem_cons.mp hk' with e' | e'
      · subst e'
        obtain ⟨c', b', s', m1, m2, m3, m4, m5⟩ := h7.mem _ _ _ _ _ k e
        exact ⟨b', b, ⟨_, m5⟩, ⟨_, h5⟩, Or.inr (by omega)⟩
      · exact ih _ _ _ _ h7 k k' e e' hne
end BOTH2
