-- the class's schemas and couples
/-- entries that are -1 or a number up to 4096 -/
def PS (f : Nat → Int32) : Prop := ∀ i, i < 128 → f i = -1 ∨ ∃ k, k ≤ 4096 ∧ f i = nI k
/-- the amounts of a schema's slots -/
def AS (f : Nat → Int32) : Prop := ∀ i, i < 128 → ∃ k, k ≤ 64 ∧ f i = nI k
/-- -1, or a place -/
def pos (x : Int32) : Prop := x = -1 ∨ ∃ k, k ≤ 5000 ∧ x = nI k
def LC (x : Int32) : Prop := ∃ k, k ≤ 4096 ∧ x = nI k
theorem PS.up {f : Nat → Int32} {j : Nat} {v : Int32} (h : PS f) (hv : v = -1 ∨ ∃ k, k ≤ 4096 ∧ v = nI k) : PS (upd f j v) := fun i hi => by
  by_cases e : i = j
  · subst e; rw [pk_us]; exact hv
  · rw [pk_un e]; exact h i hi
theorem AS.up {f : Nat → Int32} {j k : Nat} (h : AS f) (hk : k ≤ 64) : AS (upd f j (nI k)) := fun i hi => by
  by_cases e : i = j
  · subst e; exact ⟨k, hk, pk_us⟩
  · rw [pk_un e]; exact h i hi
theorem psn_sp {f : Nat → Int32} (h : PS f) (p : Int32) : SP (m_X8_entry f 128 p) (fun r => r = -1 ∨ ∃ k, k ≤ 4096 ∧ r = nI k) := by
  refine (ent_sp (by decide) p).mono ?_
  rintro r (e | ⟨i, hi, -, rfl⟩)
  · exact Or.inl e
  · exact h i hi
theorem asn_sp {f : Nat → Int32} (h : AS f) (p : Int32) : SP (m_X8_entry f 128 p) (fun r => r = -1 ∨ ∃ k, k ≤ 64 ∧ r = nI k) := by
  refine (ent_sp (by decide) p).mono ?_
  rintro r (e | ⟨i, hi, -, rfl⟩)
  · exact Or.inl e
  · exact Or.inr (h i hi)
theorem slt_sp (p : Int32) : SP (m_X6_isSlot p) (fun r => r = 0 ∨ r = 1 ∧ ∃ s, s < 128 ∧ p = nI s) := by
  unfold m_X6_isSlot
  refine SP.ite (fun _ => SP.ok (Or.inl rfl)) (fun h0 => SP.ite (fun _ => SP.ok (Or.inl rfl)) (fun h1 => SP.ok (Or.inr ⟨rfl, ?_⟩)))
  obtain ⟨i, hi, rfl⟩ := nI_of h0
  exact ⟨i, Nat.lt_of_not_le (fun q => h1 (nI_le (a := 128) q hi)), rfl⟩
theorem slt_1 {s : Nat} (h : s < 128) : m_X6_isSlot (nI s) = some 1 := by
  unfold m_X6_isSlot
  rw [if_neg (nI_pos (by omega)), if_neg (show ¬ (128 : Int32) ≤ nI s from nI_ge (b := 128) h (by omega))]
section CSC
variable {Pl Kd Me Fi Nx Na Fn Am Fd Ed Sd Tm T In Tn : Nat → Int32} {L : Nat}
theorem mea_sp (p : Int32) : SP (m_X6_meant Me p) (fun _ => True) := by
  unfold m_X6_meant
  exact SP.bind (ent_sp (by decide) _) (fun _ _ => SP.ok trivial)
theorem knd_sp (p : Int32) : SP (m_X6_kind Kd Me p) (fun _ => True) := by
  unfold m_X6_kind
  exact SP.bind (ent_sp (by decide) _) (fun _ _ => SP.bind (ent_sp (by decide) _) (fun _ _ => SP.ok trivial))
theorem fst_sp (h : PS Fi) (p : Int32) : SP (m_X6_first Me Fi p) (fun r => r = -1 ∨ ∃ k, k ≤ 4096 ∧ r = nI k) := by
  unfold m_X6_first
  exact SP.bind (ent_sp (by decide) _) (fun _ _ => SP.bind (psn_sp h _) (fun _ hr => SP.ok hr))
theorem snx_sp (p : Int32) : SP (m_X6_next Nx p) (fun _ => True) := by
  unfold m_X6_next
  exact SP.bind (ent_sp (by decide) _) (fun _ _ => SP.ok trivial)
theorem sam_sp (h : AS Am) (p : Int32) : SP (m_X6_amount Me Am p) (fun r => r = -1 ∨ ∃ k, k ≤ 64 ∧ r = nI k) := by
  unfold m_X6_amount
  exact SP.bind (ent_sp (by decide) _) (fun _ _ => SP.bind (asn_sp h _) (fun _ hr => SP.ok hr))
theorem snm_sp (h : PS Na) (p : Int32) : SP (m_X6_name Me Na p) (fun r => r = -1 ∨ ∃ k, k ≤ 4096 ∧ r = nI k) := by
  unfold m_X6_name
  exact SP.bind (ent_sp (by decide) _) (fun _ _ => SP.bind (psn_sp h _) (fun _ hr => SP.ok hr))
theorem sfn_sp (h : PS Fn) (p : Int32) : SP (m_X6_fieldName Fn p) (fun r => r = -1 ∨ ∃ k, k ≤ 4096 ∧ r = nI k) := by
  unfold m_X6_fieldName
  exact SP.bind (psn_sp h _) (fun _ hr => SP.ok hr)
theorem hfd_sp (p : Int32) : SP (m_X6_hasFieldDefault Fd p) b01 := by
  unfold m_X6_hasFieldDefault
  refine SP.bind (slt_sp p) (fun r hr => SP.ite (fun _ => SP.ok (Or.inl rfl)) (fun h => ?_))
  rcases hr with e | ⟨-, s, hs, rfl⟩
  · exact absurd e h
  · rw [bd_go hs (by decide)]
    exact SP.ite (fun _ => SP.ok (Or.inl rfl)) (fun _ => SP.ok (Or.inr rfl))
theorem hed_sp (p : Int32) : SP (m_X6_hasEnumDefault Me Ed p) b01 := by
  unfold m_X6_hasEnumDefault
  refine SP.bind (mea_sp p) (fun r1 _ => SP.bind (slt_sp r1) (fun r hr => SP.ite (fun _ => SP.ok (Or.inl rfl)) (fun h => ?_)))
  rcases hr with e | ⟨-, s, hs, rfl⟩
  · exact absurd e h
  · rw [bd_go hs (by decide)]
    exact SP.ite (fun _ => SP.ok (Or.inl rfl)) (fun _ => SP.ok (Or.inr rfl))
theorem lat_sp {lc : Int32} (hl : LC lc) (p : Int32) : SP (m_X6_letterAt Pl lc p) (fun _ => True) := by
  obtain ⟨k, hk, rfl⟩ := hl
  unfold m_X6_letterAt
  refine SP.ite (fun _ => SP.ok trivial) (fun h0 => ?_)
  obtain ⟨i, hi, rfl⟩ := nI_of h0
  refine SP.ite (fun _ => SP.ok trivial) (fun h1 => ?_)
  have : i < k := Nat.lt_of_not_le (fun q => h1 (nI_le q hi))
  rw [bd_go (show i < 4096 by omega) (by decide)]
  exact SP.ok trivial
theorem wby_sp {lc : Int32} (hl : LC lc) (b : Int32) : SP (m_X6_writeByte Pl lc b) (fun r => LC r.2) := by
  obtain ⟨k, hk, rfl⟩ := hl
  unfold m_X6_writeByte
  refine SP.ite (fun _ => SP.ok ⟨k, hk, rfl⟩) (fun h => ?_)
  have : k < 4096 := Nat.lt_of_not_le (fun q => h (nI_le (a := 4096) q (by omega)))
  rw [bd_go this (by decide), nI_1]
  exact SP.ok ⟨k + 1, by omega, rfl⟩
theorem swr_sp {lc : Int32} (hl : LC lc) {w : Nat} (hw : w < 75) : SP (m_X6_write Pl lc w) (fun r => LC r.2) := by
  have hlw := len_lt w hw
  have hS : ¬ nS ≤ w := by unfold nS; omega
  have go : ∀ (fuel j : Nat) (Pl : Nat → Int32) (lc : Int32), LC lc → j ≤ lenS.getD w 0 → lenS.getD w 0 - j < fuel → SP (m_X6_write_2 fuel Pl lc w (nI j)) (fun r => LC r.2) := by
    intro fuel
    induction fuel with
    | zero => intro j Pl lc _ _ hf; exact absurd hf (Nat.not_lt_zero _)
    | succ fuel ih =>
      intro j Pl lc hl hj hf
      simp only [m_X6_write_2, if_neg hS, len_eq w hw, Option.bind_some]
      refine SP.ite (fun _ => SP.ok hl) (fun hc => ?_)
      have hlt : j < lenS.getD w 0 := Nat.lt_of_not_le (fun q => hc (nI_le q (by omega)))
      simp only [chr_eq w hw j hlt, Option.bind_some, nI_1]
      exact SP.bind (wby_sp hl _) (fun r hr => ih (j + 1) _ _ hr (by omega) (by omega))
  unfold m_X6_write
  have := go sr_fuel 0 Pl lc hl (by omega) (by unfold sr_fuel; omega)
  rw [nI_0] at this
  exact this
theorem lt_of_neg {r : Int32} {M j : Nat} (hM : M < 2 ^ 31) (hr : r = -1 ∨ ∃ k, k ≤ M ∧ r = nI k) (hj : j < 2 ^ 31) (hc : ¬ r ≤ nI j) : j < M := by
  rcases hr with e | ⟨k, hk, e⟩
  · subst e
    exact absurd (Int32.le_trans (by decide) (nI_pos' hj)) hc
  · subst e
    have : j < k := Nat.lt_of_not_le (fun q => hc (nI_le q hj))
    omega
theorem wsd_sp (hA : AM Tm) {lc : Int32} (hl : LC lc) (p : Int32) : SP (m_X6_writeSaid Pl lc Sd Tm p) (fun r => LC r.1 ∧ LC r.2.2) := by
  have go : ∀ (fuel j : Nat) (Pl : Nat → Int32) (lc x3 : Int32), LC lc → LC x3 → j ≤ 4097 → 4097 - j < fuel → SP (m_X6_writeSaid_14 Sd Tm fuel Pl lc p x3 (nI j)) (fun r => LC r.1 ∧ LC r.2.2) := by
    intro fuel
    induction fuel with
    | zero => intro j Pl lc x3 _ _ _ hf; exact absurd hf (Nat.not_lt_zero _)
    | succ fuel ih =>
      intro j Pl lc x3 hl h3 hj hf
      simp only [m_X6_writeSaid_14, nI_1]
      refine SP.bind (amo_sp hA p) (fun r hr => SP.ite (fun _ => SP.bind (wby_sp hl _) (fun _ h => SP.ok ⟨h3, h⟩)) (fun hc => ?_))
      have := lt_of_neg (by omega) hr (show j < 2 ^ 31 by omega) hc
      exact SP.bind (sai_sp _) (fun _ _ => SP.bind (wby_sp hl _) (fun _ h => ih (j + 1) _ _ _ h h3 (by omega) (by omega)))
  unfold m_X6_writeSaid
  refine SP.bind (wby_sp hl _) (fun r h => ?_)
  have := go sr_fuel 0 r.1 r.2 r.2 h h (Nat.zero_le _) (by unfold sr_fuel; omega)
  rw [nI_0] at this
  exact this
theorem wnu_sp {lc : Int32} (hl : LC lc) (x : Int32) : SP (m_X6_writeNumber Pl lc x) (fun r => LC r.2) := by
  have h17 : ∀ (Pl : Nat → Int32) (lc x : Int32), LC lc → SP (m_X6_writeNumber_17 Pl lc x) (fun r => LC r.2) := by
    intro Pl lc x h
    unfold m_X6_writeNumber_17
    exact SP.bind (wby_sp h _) (fun _ h => SP.ok h)
  unfold m_X6_writeNumber
  exact SP.ite (fun _ => h17 _ _ _ hl) (fun _ => SP.bind (wby_sp hl _) (fun _ h => h17 _ _ _ h))
theorem isd_sp (hA : AM Tm) {lc : Int32} (hl : LC lc) (p q : Int32) : SP (m_X6_isSaid Pl lc Sd Tm p q) b01 := by
  unfold m_X6_isSaid
  refine SP.bind (amo_sp hA q) (fun r hr => SP.ite (fun _ => SP.ok (Or.inl rfl)) (fun h1 => SP.ite (fun _ => ?_) (fun _ => SP.ok (Or.inl rfl))))
  rcases hr with e | ⟨k, hk, e⟩
  · subst e; exact absurd (by decide) h1
  · subst e
    have go : ∀ (fuel j : Nat), j ≤ k → k - j < fuel → SP (m_X6_isSaid_25 Pl lc Sd Tm fuel p q (nI k) (nI j)) b01 := by
      intro fuel
      induction fuel with
      | zero => intro j _ hf; exact absurd hf (Nat.not_lt_zero _)
      | succ fuel ih =>
        intro j hj hf
        simp only [m_X6_isSaid_25, nI_1]
        refine SP.ite (fun _ => SP.bind (lat_sp hl _) (fun _ _ => SP.ite (fun _ => SP.ok (Or.inr rfl)) (fun _ => SP.ok (Or.inl rfl)))) (fun hc => ?_)
        have : j < k := Nat.lt_of_not_le (fun q => hc (nI_le q (by omega)))
        exact SP.bind (lat_sp hl _) (fun _ _ => SP.ite (fun _ => SP.ok (Or.inl rfl)) (fun _ => SP.bind (sai_sp _) (fun _ _ => SP.ite (fun _ => ih (j + 1) (by omega) (by omega)) (fun _ => SP.ok (Or.inl rfl)))))
    have := go sr_fuel 0 (Nat.zero_le _) (by unfold sr_fuel; omega)
    rw [nI_0] at this
    exact this
theorem dfn_sp (hA : AM Tm) {lc : Int32} (hl : LC lc) {sc : Nat} (hsc : sc ≤ 128) (q : Int32) : SP (m_X6_definition Pl Na lc (nI sc) Sd Tm q) (fun _ => True) := by
  have go : ∀ (fuel j : Nat), j ≤ sc → sc - j < fuel → SP (m_X6_definition_2 Pl Na lc (nI sc) Sd Tm fuel q (nI j)) (fun _ => True) := by
    intro fuel
    induction fuel with
    | zero => intro j _ hf; exact absurd hf (Nat.not_lt_zero _)
    | succ fuel ih =>
      intro j hj hf
      simp only [m_X6_definition_2, nI_1]
      refine SP.ite (fun _ => SP.ok trivial) (fun hc => ?_)
      have : j < sc := Nat.lt_of_not_le (fun q => hc (nI_le q (by omega)))
      have ih1 := ih (j + 1) (by omega) (by omega)
      simp only [bd_go (show j < 128 by omega) (by decide)]
      exact SP.ite (fun _ => ih1) (fun _ => SP.bind (isd_sp hA hl _ _) (fun _ _ => SP.ite (fun _ => ih1) (fun _ => SP.ok trivial)))
  unfold m_X6_definition
  have := go sr_fuel 0 (Nat.zero_le _) (by unfold sr_fuel; omega)
  rw [nI_0] at this
  exact this
theorem hfl_sp (hA : AM Tm) (hm : AS Am) (hf : PS Fi) {lc : Int32} (hl : LC lc) (p q : Int32) : SP (m_X6_hasField Pl Me Fi Nx Fn Am lc Sd Tm p q) b01 := by
  have go : ∀ (fuel j : Nat) (x4 : Int32), j ≤ 65 → 65 - j < fuel → SP (m_X6_hasField_10 Pl Me Fi Nx Fn Am lc Sd Tm fuel p q x4 (nI j)) b01 := by
    intro fuel
    induction fuel with
    | zero => intro j x4 _ hf; exact absurd hf (Nat.not_lt_zero _)
    | succ fuel ih =>
      intro j x4 hj hf
      simp only [m_X6_hasField_10, m_X6_fieldName, nI_1]
      refine SP.bind (sam_sp hm p) (fun r hr => SP.ite (fun _ => SP.ok (Or.inl rfl)) (fun hc => ?_))
      have := lt_of_neg (by omega) hr (show j < 2 ^ 31 by omega) hc
      exact SP.bind (SP.bind (ent_sp (by decide) _) (fun _ _ => SP.ok trivial)) (fun _ (_ : True) => SP.bind (isd_sp hA hl _ _) (fun _ _ => SP.ite (fun _ => SP.bind (snx_sp _) (fun _ _ => ih (j + 1) _ (by omega) (by omega))) (fun _ => SP.ok (Or.inr rfl))))
  unfold m_X6_hasField
  refine SP.bind (fst_sp hf _) (fun r _ => ?_)
  have := go sr_fuel 0 r (Nat.zero_le _) (by unfold sr_fuel; omega)
  rw [nI_0] at this
  exact this
/-- a symbol's place, which grows by 3 at most behind the plain form's end -/
def sym (M : Nat) (x : Int32) : Prop := x = -1 ∨ ∃ k, k ≤ M ∧ x = nI k
theorem nsy_sp {lc : Int32} (hl : LC lc) {M : Nat} (hM : M ≤ 100000) (h4 : 4096 ≤ M) {x : Int32} (hx : sym M x) : SP (m_X6_nextSymbol Pl lc x) (sym (M + 3)) := by
  obtain ⟨k, hk, rfl⟩ := hl
  have e3 : ∀ a : Nat, nI a + 3 = nI (a + 3) := fun a => nI_add a 3
  have go : ∀ (fuel j : Nat), j ≤ M → 4096 - j < fuel → SP (m_X6_nextSymbol_2 Pl (nI k) fuel (nI j)) (sym (M + 3)) := by
    intro fuel
    induction fuel with
    | zero => intro j _ hf; exact absurd hf (Nat.not_lt_zero _)
    | succ fuel ih =>
      intro j hj hf
      simp only [m_X6_nextSymbol_2, nI_1, e3]
      refine SP.ite (fun _ => SP.ok (Or.inr ⟨j + 3, by omega, rfl⟩)) (fun hc => ?_)
      have : j < k := Nat.lt_of_not_le (fun q => hc (nI_le q (by omega)))
      exact SP.bind (lat_sp ⟨k, hk, rfl⟩ _) (fun _ _ => SP.ite (fun _ => SP.ok (Or.inr ⟨j + 3, by omega, rfl⟩)) (fun _ => ih (j + 1) (by omega) (by omega)))
  unfold m_X6_nextSymbol
  rcases hx with e | ⟨j, hj, e⟩
  · subst e
    obtain ⟨fu, hfu, hfb⟩ := fuel_s
    show SP (m_X6_nextSymbol_2 Pl (nI k) sr_fuel (-1)) _
    rw [hfu]
    simp only [m_X6_nextSymbol_2]
    have e1 : (-1 : Int32) + 3 = nI 2 := by decide +kernel
    have e0 : (-1 : Int32) + 1 = nI 0 := by decide +kernel
    rw [e1, e0]
    exact SP.ite (fun _ => SP.ok (Or.inr ⟨2, by omega, rfl⟩)) (fun _ => SP.bind (lat_sp ⟨k, hk, rfl⟩ _) (fun _ _ => SP.ite (fun _ => SP.ok (Or.inr ⟨2, by omega, rfl⟩)) (fun _ => go fu 0 (by omega) (by omega))))
  · subst e
    exact go sr_fuel j hj (by unfold sr_fuel; omega)
theorem hsy_sp (hA : AM Tm) (hm : AS Am) (hf : PS Fi) {lc : Int32} (hl : LC lc) (p q : Int32) : SP (m_X6_hasSymbol Pl Me Fi Am lc Sd Tm p q) b01 := by
  have go : ∀ (fuel j : Nat) (x4 : Int32), sym (4096 + 3 * j) x4 → j ≤ 65 → 65 - j < fuel → SP (m_X6_hasSymbol_10 Pl Me Fi Am lc Sd Tm fuel p q x4 (nI j)) b01 := by
    intro fuel
    induction fuel with
    | zero => intro j x4 _ _ hf; exact absurd hf (Nat.not_lt_zero _)
    | succ fuel ih =>
      intro j x4 h4 hj hf
      simp only [m_X6_hasSymbol_10, nI_1]
      refine SP.bind (sam_sp hm p) (fun r hr => SP.ite (fun _ => SP.ok (Or.inl rfl)) (fun hc => ?_))
      have := lt_of_neg (by omega) hr (show j < 2 ^ 31 by omega) hc
      exact SP.bind (isd_sp hA hl _ _) (fun _ _ => SP.ite (fun _ => SP.bind (nsy_sp hl (by omega) (by omega) h4) (fun _ h => ih (j + 1) _ (by rw [show 4096 + 3 * (j + 1) = 4096 + 3 * j + 3 by omega]; exact h) (by omega) (by omega))) (fun _ => SP.ok (Or.inr rfl)))
  unfold m_X6_hasSymbol
  refine SP.bind (fst_sp hf _) (fun r hr => ?_)
  have := go sr_fuel 0 r (by rw [Nat.mul_zero, Nat.add_zero]; exact hr) (Nat.zero_le _) (by unfold sr_fuel; omega)
  rw [nI_0] at this
  exact this
theorem ali_sp (p q : Int32) : SP (m_X6_isAlike Kd Me p q) b01 := by
  have nmd : ∀ c, SP (m_X3_isNamed c) b01 := fun c => by
    unfold m_X3_isNamed
    repeat' (first | exact SP.ok (Or.inl rfl) | exact SP.ok (Or.inr rfl) | refine SP.ite (fun _ => ?_) (fun _ => ?_))
  unfold m_X6_isAlike
  exact SP.bind (knd_sp _) (fun _ _ => SP.bind (knd_sp _) (fun _ _ => SP.ite (fun _ => SP.bind (knd_sp _) (fun _ _ => SP.bind (nmd _) (fun _ _ => SP.ite (fun _ => SP.ok (Or.inr rfl)) (fun _ => SP.bind (mea_sp _) (fun _ _ => SP.bind (mea_sp _) (fun _ _ => SP.ite (fun _ => SP.ok (Or.inr rfl)) (fun _ => SP.ok (Or.inl rfl)))))))) (fun _ => SP.ok (Or.inl rfl))))
theorem nam_sp (c : Int32) : SP (m_X3_isNamed c) b01 := by
  unfold m_X3_isNamed
  repeat' (first | exact SP.ok (Or.inl rfl) | exact SP.ok (Or.inr rfl) | refine SP.ite (fun _ => ?_) (fun _ => ?_))
theorem kwd_sp (c : Int32) : SP (m_X3_word c) (fun r => r < 75) := by
  unfold m_X3_word
  repeat' (first | exact SP.ok (by decide) | refine SP.ite (fun _ => ?_) (fun _ => ?_))
theorem ksd_sp (hL : L ≤ 4096) (p : Int32) : SP (m_X3_said T Sd Tm (nI L) p) (fun _ => True) := by
  have go : ∀ (fuel j : Nat), j ≤ 11 → 11 - j < fuel → SP (m_X3_said_2 T Sd Tm (nI L) fuel p (nI j)) (fun _ => True) := by
    intro fuel
    induction fuel with
    | zero => intro j _ hf; exact absurd hf (Nat.not_lt_zero _)
    | succ fuel ih =>
      intro j hj hf
      simp only [m_X3_said_2, nI_1]
      refine SP.ite (fun _ => SP.ok trivial) (fun hc => ?_)
      have : j ≤ 10 := Nat.le_of_not_lt (fun q => hc (nI_lt (a := 10) q (by omega)))
      exact SP.bind (kwd_sp _) (fun _ hw => SP.bind (says_sp hL hw _) (fun _ _ => SP.ite (fun _ => ih (j + 1) (by omega) (by omega)) (fun _ => SP.ok trivial)))
  unfold m_X3_said
  have := go sr_fuel 0 (Nat.zero_le _) (by unfold sr_fuel; omega)
  rw [nI_0] at this
  exact this
theorem ssn_sp {Pv : Nat → Int32} {lc lv : Int32} (hl : LC lc) (hv : LC lv) {M : Nat} (hM : M ≤ 100000) {p q : Int32} (hp : sym M p) (hq : sym M q) : SP (m_X6_isSameName Pl lc Pv lv p q) b01 := by
  obtain ⟨k, hk, rfl⟩ := hl
  obtain ⟨k', hk', rfl⟩ := hv
  unfold m_X6_isSameName
  refine SP.ite (fun _ => SP.ok (Or.inl rfl)) (fun h1 => SP.ite (fun h2 => ?_) (fun _ => SP.ok (Or.inl rfl)))
  rcases hp with e | ⟨a, ha, e⟩
  · subst e; exact absurd (by decide) h1
  subst e
  rcases hq with e | ⟨b, hb, e⟩
  · subst e; exact absurd h2 (by decide)
  subst e
  have go : ∀ (fuel j : Nat), j ≤ 33 → 33 - j < fuel → SP (m_X6_isSameName_13 Pl (nI k) Pv (nI k') fuel (nI a) (nI b) (nI j)) b01 := by
    intro fuel
    induction fuel with
    | zero => intro j _ hf; exact absurd hf (Nat.not_lt_zero _)
    | succ fuel ih =>
      intro j hj hf
      simp only [m_X6_isSameName_13, nI_1, nI_add]
      refine SP.ite (fun _ => SP.ok (Or.inl rfl)) (fun hc => SP.ite (fun _ => SP.ok (Or.inl rfl)) (fun h3 => SP.ite (fun _ => SP.ok (Or.inl rfl)) (fun h4 => ?_)))
      have : j ≤ 32 := Nat.le_of_not_lt (fun q => hc (nI_lt (a := 32) q (by omega)))
      have h3' : a + j < k := Nat.lt_of_not_le (fun q => h3 (nI_le q (by omega)))
      have h4' : b + j < k' := Nat.lt_of_not_le (fun q => h4 (nI_le q (by omega)))
      simp only [bd_go (show a + j < 4096 by omega) (by decide), bd_go (show b + j < 4096 by omega) (by decide)]
      exact SP.ite (fun _ => SP.ite (fun _ => SP.ok (Or.inr rfl)) (fun _ => ih (j + 1) (by omega) (by omega))) (fun _ => SP.ok (Or.inl rfl))
  have := go sr_fuel 0 (Nat.zero_le _) (by unfold sr_fuel; omega)
  rw [nI_0] at this
  exact this
end CSC
/-- couples: no more than 128 -/
def CC (x : Int32) : Prop := ∃ k, k ≤ 128 ∧ x = nI k
section COU
variable {Cf Cs : Nat → Int32}
theorem cad_sp {cc : Int32} (h : CC cc) (a b : Int32) : SP (m_X11_add Cf Cs cc a b) (fun r => CC r.2.2) := by
  obtain ⟨k, hk, rfl⟩ := h
  unfold m_X11_add
  refine SP.ite (fun _ => SP.ok ⟨k, hk, rfl⟩) (fun hc => ?_)
  have : k < 128 := Nat.lt_of_not_le (fun q => hc (nI_le (a := 128) q (by omega)))
  simp only [nI_1]
  exact SP.bind (etr_sp (by decide) _) (fun _ _ => SP.bind (etr_sp (by decide) _) (fun _ _ => SP.ok ⟨k + 1, by omega, rfl⟩))
theorem cha_sp {cc : Int32} (h : CC cc) (a b : Int32) : SP (m_X11_has Cf Cs cc a b) b01 := by
  obtain ⟨k, hk, rfl⟩ := h
  have go : ∀ (fuel j : Nat), j ≤ k → k - j < fuel → SP (m_X11_has_2 Cf Cs (nI k) fuel a b (nI j)) b01 := by
    intro fuel
    induction fuel with
    | zero => intro j _ hf; exact absurd hf (Nat.not_lt_zero _)
    | succ fuel ih =>
      intro j hj hf
      simp only [m_X11_has_2, nI_1]
      refine SP.ite (fun _ => SP.ok (Or.inl rfl)) (fun hc => ?_)
      have : j < k := Nat.lt_of_not_le (fun q => hc (nI_le q (by omega)))
      have ih1 := ih (j + 1) (by omega) (by omega)
      exact SP.bind (ent_sp (by decide) _) (fun _ _ => SP.ite (fun _ => SP.bind (ent_sp (by decide) _) (fun _ _ => SP.ite (fun _ => SP.ok (Or.inr rfl)) (fun _ => ih1))) (fun _ => ih1))
  unfold m_X11_has
  have := go sr_fuel 0 (Nat.zero_le _) (by unfold sr_fuel; omega)
  rw [nI_0] at this
  exact this
theorem cfi_sp (p : Int32) : SP (m_X11_first Cf p) (fun _ => True) := by
  unfold m_X11_first
  exact SP.bind (ent_sp (by decide) _) (fun _ _ => SP.ok trivial)
theorem cse_sp (p : Int32) : SP (m_X11_second Cs p) (fun _ => True) := by
  unfold m_X11_second
  exact SP.bind (ent_sp (by decide) _) (fun _ _ => SP.ok trivial)
end COU
