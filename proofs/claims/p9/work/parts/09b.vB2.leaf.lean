-- leaves of both programs, as told
theorem bv_lt (x : Int32) : bv x < 256 := Nat.mod_lt _ (by decide)
theorem lit_g {w j : Nat} (hw : w < 75) (hj : j < (litN w).length) : (litN w).getD j 0 < 128 := by
  rw [ls_get hj]
  exact lit_b w hw _ (List.getElem_mem hj)
theorem sgrp_mono {f g : Nat → Nat ⊕ Nat} {B : Nat → Int32} {L cl : Nat} {obj : Bool} (h : ∀ v b, f v = .inr b → g v = .inr b) : ∀ (n part : Nat) (seen : List (List Nat)) (r : List (Nat × Nat) × Nat), sgrp f B L obj cl n part seen = .inr r → sgrp g B L obj cl n part seen = .inr r := by
  intro n
  induction n with
  | zero => intro part seen r hs; cases hs
  | succ n ih =>
    intro part seen r hs
    simp only [sgrp] at hs ⊢
    cases hk : (if obj = true then skey B L part seen else .inr (part, []) : Nat ⊕ (Nat × List Nat)) with
    | inl w => rw [hk] at hs; cases hs
    | inr x =>
      obtain ⟨v, s⟩ := x
      rw [hk] at hs
      simp only at hs ⊢
      cases hv : f v with
      | inl w => rw [hv] at hs; cases hs
      | inr b =>
        rw [hv] at hs
        rw [h v b hv]
        simp only at hs ⊢
        by_cases c1 : cb B L (sbl B L b) = cl
        · rw [if_pos c1] at hs ⊢
          exact hs
        · rw [if_neg c1] at hs ⊢
          by_cases c2 : cb B L (sbl B L b) = 44
          · rw [if_pos c2] at hs ⊢
            cases hr : sgrp f B L obj cl n (sbl B L (sbl B L b + 1)) (s :: seen) with
            | inl w => rw [hr] at hs; cases hs
            | inr y =>
              rw [hr] at hs
              rw [ih _ _ _ hr]
              exact hs
          · rw [if_neg c2] at hs
            cases hs
theorem sval_s1 {B : Nat → Int32} {L : Nat} : ∀ (d p q : Nat), sval B L d p = .inr q → sval B L (d + 1) p = .inr q := by
  intro d
  induction d with
  | zero => intro p q h; cases h
  | succ d ih =>
    intro p q h
    rw [sval] at h ⊢
    by_cases c1 : cb B L p = 34
    · rw [if_pos c1] at h ⊢; exact h
    rw [if_neg c1] at h ⊢
    by_cases c2 : cb B L p = 91 ∨ cb B L p = 123
    · rw [if_pos c2] at h ⊢
      by_cases c3 : d = 0
      · rw [if_pos c3] at h; cases h
      rw [if_neg c3] at h
      rw [if_neg (show ¬ d + 1 = 0 by omega)]
      by_cases c4 : cb B L (sbl B L (p + 1)) = (if cb B L p = 123 then 125 else 93)
      · rw [if_pos c4] at h ⊢; exact h
      · rw [if_neg c4] at h ⊢
        cases hs : sgrp (sval B L d) B L (decide (cb B L p = 123)) (if cb B L p = 123 then 125 else 93) (L + 1) (sbl B L (p + 1)) [] with
        | inl w => rw [hs] at h; cases h
        | inr r =>
          rw [hs] at h
          rw [sgrp_mono ih _ _ _ _ hs]
          exact h
    rw [if_neg c2] at h ⊢
    exact h
theorem sval_mono {B : Nat → Int32} {L p q : Nat} {d : Nat} (h : sval B L d p = .inr q) : ∀ e, sval B L (d + e) p = .inr q := by
  intro e
  induction e with
  | zero => exact h
  | succ e ih => exact sval_s1 _ _ _ ih
theorem sval_one {B : Nat → Int32} {L p q q' d d' : Nat} (h : sval B L d p = .inr q) (h' : sval B L d' p = .inr q') : q = q' := by
  have a := sval_mono h d'
  have b := sval_mono h' d
  rw [Nat.add_comm] at b
  have := a.symm.trans b
  cases this
  rfl
section LEAF
variable {T : Nat → Int32} {L : Nat} {Sd In Nx Am K F S I X Lt : Nat → Int32} {N : Nat → Int64} {l : Nat}
theorem VV.one {n n' p q q' : Nat} (h : VV T L Sd In Nx Am K F N S I X Lt l n p q) (h' : VV T L Sd In Nx Am K F N S I X Lt l n' p q') : q = q' := by
  obtain ⟨d, m, h1, _⟩ := h
  obtain ⟨d', m', h1', _⟩ := h'
  exact sval_one h1 h1'
theorem says_eq (hL : L ≤ 4096) {p : Nat} {s : List Nat} (hc : cb T L p = 34) (hs : SAID Sd Am p s) {w : Nat} (hw : w < 75) : m_X7_says T Sd Am (nI L) (nI p) w = some (if s = litN w then 1 else 0) := by
  obtain ⟨h1, h2, h3, h4⟩ := hs
  have hlen := lit_len w hw
  have h40 := lit_len40 w hw
  unfold m_X7_says
  rw [byt_eq hL (by omega)]
  simp only [Option.bind_some, ub34, if_pos hc, ent_eq (n := 4096) (by decide) h1, h3, if_neg (show ¬ nS ≤ w by unfold nS; omega), len_eq w hw]
  by_cases he : s.length = lenS.getD w 0
  · rw [if_pos (by rw [he])]
    have go : ∀ (fuel j : Nat), j ≤ s.length → s.length - j < fuel → (∀ i, i < j → s.getD i 0 = (litN w).getD i 0) → m_X7_says_29 T Sd Am (nI L) fuel (nI p) w (nI j) = some (if s = litN w then 1 else 0) := by
      intro fuel
      induction fuel with
      | zero => intro j _ h; exact absurd h (Nat.not_lt_zero _)
      | succ fuel ih =>
        intro j hj hf ha
        simp only [m_X7_says_29, if_neg (show ¬ nS ≤ w by unfold nS; omega), len_eq w hw, Option.bind_some, nI_add, nI_1]
        by_cases c : s.length ≤ j
        · rw [if_pos (nI_le (by omega) (by omega)), if_pos (ls_eq (by omega) (fun i hi => ha i (by omega)))]
        · have hg := lit_g (j := j) hw (by omega)
          have hb := bv_lt (Sd (p + j))
          rw [if_neg (nI_ge (show j < lenS.getD w 0 by omega) (by omega)), sai_eq (by omega), chr_eq w hw j (by omega)]
          simp only [Option.bind_some]
          rw [lit_c w hw j (by omega)]
          rw [h4 j (by omega)] at hb ⊢
          by_cases q : s.getD j 0 = (litN w).getD j 0
          · rw [if_pos (by rw [q])]
            refine ih (j + 1) (by omega) (by omega) (fun i hi => ?_)
            by_cases e : i = j
            · rw [e]; exact q
            · exact ha i (by omega)
          · rw [if_neg (fun z => q ((nI_eq (by omega) (by omega)).mp z)), if_neg (fun z => q (by rw [z]))]
    exact go sr_fuel 0 (by omega) (by unfold sr_fuel; omega) (fun i hi => absurd hi (Nat.not_lt_zero _))
  · rw [if_neg (fun z => he ((nI_eq (by omega) (by omega)).mp z)), if_neg (fun z => he (by rw [z]; exact hlen))]
theorem isr_eq (hl : l ≤ 4200) {n : Nat} {s : List Nat} (hn : n < 4200) (hk : K n = 2) (hs : RSt N S Lt l n s) (hb : ∀ v, v ∈ s → v ≤ 255) {w : Nat} (hw : w < 75) : m_X9_is K N S Lt (nI n) w = some (if s = litN w then 1 else 0) := by
  obtain ⟨h1, st, h2, h3, h4⟩ := hs
  have hlen := lit_len w hw
  have h40 := lit_len40 w hw
  simp only [m_X9_is, bd_go hn (by decide), bd_gc hn (by decide), nI_clamp (show n < 2 ^ 31 by omega), if_neg (show ¬ nS ≤ w by unfold nS; omega), len_eq w hw, Option.bind_some, if_pos hk, h1]
  obtain ⟨f1, hf1⟩ : ∃ f, sr_fuel = f + 1 := ⟨sr_fuel - 1, by unfold sr_fuel; omega⟩
  by_cases he : s.length = lenS.getD w 0
  · rw [if_pos (by rw [he])]
    have go : ∀ (fuel j : Nat), j ≤ s.length → s.length - j < fuel → (∀ i, i < j → s.getD i 0 = (litN w).getD i 0) → m_X9_is_32 K N S Lt fuel (nI n) w 1 (nI j) = some (if s = litN w then 1 else 0) := by
      intro fuel
      induction fuel with
      | zero => intro j _ h; exact absurd h (Nat.not_lt_zero _)
      | succ fuel ih =>
        intro j hj hf ha
        simp only [m_X9_is_32, if_neg (show ¬ nS ≤ w by unfold nS; omega), len_eq w hw, Option.bind_some]
        by_cases c : s.length ≤ j
        · rw [if_pos (nI_le (by omega) (by omega)), if_pos (Or.inr trivial), if_pos (ls_eq (by omega) (fun i hi => ha i (by omega)))]
        · have hg := lit_g (j := j) hw (by omega)
          rw [if_neg (nI_ge (show j < lenS.getD w 0 by omega) (by omega)), if_neg (show ¬ (1 : Int32) = 0 by decide), bd_go hn (by decide), nI_clamp (show n < 2 ^ 31 by omega), h2, lN_i, nI_add, bd_go (show st + j < 4200 by omega) (by decide), chr_eq w hw j (by omega), Option.bind_some, nI_clamp (show st + j < 2 ^ 31 by omega), h4 j (by omega), lit_c w hw j (by omega)]
          have hb2 : s.getD j 0 ≤ 255 := by rw [ls_get (show j < s.length by omega)]; exact hb _ (List.getElem_mem _)
          by_cases q : s.getD j 0 = (litN w).getD j 0
          · rw [if_pos ((sb_e (by omega) hg).mpr q), nI_1]
            refine ih (j + 1) (by omega) (by omega) (fun i hi => ?_)
            by_cases e : i = j
            · rw [e]; exact q
            · exact ha i (by omega)
          · obtain ⟨f2, rfl⟩ : ∃ f2, fuel = f2 + 1 := ⟨fuel - 1, by omega⟩
            rw [if_neg (fun z => q ((sb_e (by omega) hg).mp z)), is0 hw, if_neg (fun z => q (by rw [z]))]
    exact go sr_fuel 0 (by omega) (by unfold sr_fuel; omega) (fun i hi => absurd hi (Nat.not_lt_zero _))
  · rw [if_neg (fun z => he ((nI_eq (by omega) (by omega)).mp z)), if_neg (fun z => he (by rw [z]; exact hlen)), hf1]
    exact is0 hw
-- members
def tfind (T : Nat → Int32) (L : Nat) (s : List Nat) : List (Nat × Nat) → Option (Nat × Nat)
  | [] => none
  | k :: t => if ts T L k.1 = s then some k else tfind T L s t
def tfc : Option (Nat × Nat) → Int32
  | none => -1
  | some k => nI k.2
theorem memc_go (hL : L ≤ 4096) {p w tot : Nat} (hp : p < 4096) (hA : Am p = nI tot) (ht : tot ≤ 4096) (hw : w < 75) : ∀ (ks : List (Nat × Nat)) (fuel i lo hi : Nat) (hc hr : Int32), i + ks.length = tot → ks.length < fuel → OCH T L Sd In Nx Am K F N S I X Lt l ks lo hi hc hr → m_X7_member_9 T Sd In Nx Am (nI L) fuel (nI p) w hc (nI i) = some (tfc (tfind T L (litN w) ks)) := by
  intro ks
  induction ks with
  | nil =>
    intro fuel i lo hi hc hr hi2 hf h
    obtain ⟨f, rfl⟩ : ∃ f, fuel = f + 1 := ⟨fuel - 1, by omega⟩
    simp only [m_X7_member_9, m_X7_amount, ent_eq (n := 4096) (by decide) hp, Option.bind_some, hA]
    rw [if_pos (nI_le (by simp at hi2; omega) (by omega))]
    rfl
  | cons k t ih =>
    intro fuel i lo hi hc hr hi2 hf h
    obtain ⟨f, rfl⟩ : ∃ f, fuel = f + 1 := ⟨fuel - 1, by omega⟩
    simp only [List.length_cons] at hi2 hf
    obtain ⟨c, b, s, h1, h2, h3, ⟨k1, k2, k3, k4, k5, k6, k7, k8, k9, k10⟩, h5, h6, h7⟩ := h
    have hk1 : k.1 < 4096 := k5.1
    simp only [m_X7_member_9, m_X7_amount, ent_eq (n := 4096) (by decide) hp, Option.bind_some, hA]
    rw [if_neg (nI_ge (show i < tot by omega) (by omega)), h2, says_eq hL k3 k5 hw]
    simp only [Option.bind_some, tfind, m_X7_next, m_X7_inner, ent_eq (n := 4096) (by decide) hk1, k4]
    by_cases e : s = litN w
    · rw [if_pos e, if_pos e, if_neg (by decide), k1]
      rfl
    · rw [if_neg e, if_neg e, if_pos rfl, nI_1]
      exact ih f (i + 1) _ _ _ _ (by omega) (by omega) h7
theorem memr_go (hl : l ≤ 4200) {w : Nat} (hw : w < 75) : ∀ (ks : List (Nat × Nat)) (fuel lo hi : Nat) (hc hr : Int32), ks.length < fuel → OCH T L Sd In Nx Am K F N S I X Lt l ks lo hi hc hr → (tfind T L (litN w) ks = none ∧ m_X9_member_7 K N S I X Lt fuel w hr = some (-1)) ∨ (∃ k c b, tfind T L (litN w) ks = some k ∧ k ∈ ks ∧ m_X9_member_7 K N S I X Lt fuel w hr = some (nI c) ∧ MEM T L Sd In Nx Am K F N S I X Lt l k c b (litN w) lo hi) := by
  intro ks
  induction ks with
  | nil =>
    intro fuel lo hi hc hr hf h
    obtain ⟨f, rfl⟩ : ∃ f, fuel = f + 1 := ⟨fuel - 1, by omega⟩
    refine Or.inl ⟨rfl, ?_⟩
    simp only [m_X9_member_7]
    rw [h.2.2, if_pos (show (-1 : Int32) < 0 by decide)]
  | cons k t ih =>
    intro fuel lo hi hc hr hf h
    obtain ⟨f, rfl⟩ : ∃ f, fuel = f + 1 := ⟨fuel - 1, by omega⟩
    simp only [List.length_cons] at hf
    obtain ⟨c, b, s, h1, h2, h3, ⟨k1, k2, k3, k4, k5, k6, k7, k8, k9, k10⟩, h5, h6, h7⟩ := h
    simp only [m_X9_member_7]
    rw [h3, if_neg (nI_pos (show c < 2 ^ 31 by omega)), isr_eq hl (by omega) k7 k6 k10 hw]
    simp only [Option.bind_some, tfind, k4]
    by_cases e : s = litN w
    · simp only [if_pos e, if_neg (show ¬ (1 : Int32) = 0 by decide), bd_go (show c < 4200 by omega) (by decide), bd_gc (show c < 4200 by omega) (by decide), nI_clamp (show c < 2 ^ 31 by omega), k2]
      exact Or.inr ⟨k, c + 1, b, rfl, List.mem_cons_self, rfl, h1, by rw [← e]; exact k9, h6, by rw [← e]; exact k4, h5⟩
    · simp only [if_neg e, if_true, bd_go (show c < 4200 by omega) (by decide), bd_gc (show c < 4200 by omega) (by decide), nI_clamp (show c < 2 ^ 31 by omega), k2, bd_go (show c + 1 < 4200 by omega) (by decide), bd_gc (show c + 1 < 4200 by omega) (by decide), nI_clamp (show c + 1 < 2 ^ 31 by omega)]
      rcases ih f _ _ _ _ (by omega) h7 with g | ⟨k', c', b', g1, g2, g3, g4, g5⟩
      · exact Or.inl g
      · have := h5.base
        exact Or.inr ⟨k', c', b', g1, List.mem_cons_of_mem _ g2, g3, by omega, g5⟩
theorem memb (hL : L ≤ 4096) (hl : l ≤ 4200) {n p q : Nat} (h : VV T L Sd In Nx Am K F N S I X Lt l n p q) (hc : cb T L p = 123) : ∃ ks, OCH T L Sd In Nx Am K F N S I X Lt l ks (p + 1) q (In p) (I n) ∧ Am p = nI ks.length ∧ p + ks.length < q ∧ ∀ w w', w < 75 → w' < 75 → litN w' = litN w → (m_X7_member T Sd In Nx Am (nI L) (nI p) w = some (-1) ∧ m_X9_member K N S I X Lt (nI n) w' = some (-1)) ∨ (∃ k c b, k ∈ ks ∧ m_X7_member T Sd In Nx Am (nI L) (nI p) w = some (nI k.2) ∧ m_X9_member K N S I X Lt (nI n) w' = some (nI c) ∧ MEM T L Sd In Nx Am K F N S I X Lt l k c b (litN w) (p + 1) q) := by
  obtain ⟨hb1, hb2, hb3, hb4⟩ := h.base
  obtain ⟨ks, _, g1, g2, g3⟩ := h.obj hc
  refine ⟨ks, g3, g1, g2, fun w w' hw hw' he => ?_⟩
  have a := memc_go (p := p) (w := w) (tot := ks.length) hL (by omega) g1 (by omega) hw ks sr_fuel 0 _ _ _ _ (by omega) (by unfold sr_fuel; omega) g3
  have b := memr_go hl hw' ks sr_fuel _ _ _ _ (by unfold sr_fuel; omega) g3
  unfold m_X7_member m_X9_member
  simp only [m_X7_inner, ent_eq (n := 4096) (by decide) (show p < 4096 by omega), Option.bind_some, bd_go hb3 (by decide), nI_clamp (show n < 2 ^ 31 by omega)]
  rw [nI_0] at a
  rw [a]
  rw [he] at b
  rcases b with ⟨b1, b2⟩ | ⟨k, c, b', b1, b2, b3, b4⟩
  · rw [b1, b2]
    exact Or.inl ⟨rfl, by rw [bd_gc hb3 (by decide)]⟩
  · rw [b1, b3]
    exact Or.inr ⟨k, c, b', b2, rfl, by rw [bd_gc hb3 (by decide)], b4⟩
end LEAF
