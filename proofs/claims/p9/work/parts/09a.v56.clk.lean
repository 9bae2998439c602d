-- the class's look at a value
abbrev TL : Type := Int32 × Int32 × (Nat → Int32) × (Nat → Int32) × (Nat → Int32) × (Nat → Int32) × (Nat → Int32) × (Nat → Int32) × (Nat → Int32) × (Nat → Int32) × (Nat → Int32) × (Nat → Int32) × Int32 × Int32 × (Nat → Int32) × (Nat → Int32) × Int32
abbrev FL : Type := Int32 → Int32 → (Nat → Int32) → (Nat → Int32) → (Nat → Int32) → (Nat → Int32) → (Nat → Int32) → Int32 → (Nat → Int32) → (Nat → Int32) → (Nat → Int32) → (Nat → Int32) → (Nat → Int32) → (Nat → Int32) → (Nat → Int32) → (Nat → Int32) → (Nat → Int32) → (Nat → Int32) → Int32 → Int32 → (Nat → Int32) → (Nat → Int32) → Int32 → Int32 → Int32 → Int32 → Option (Int32 × TL)
def SI (Fi Na Fn Am : Nat → Int32) (lc sc cc : Int32) : Prop := PS Fi ∧ PS Na ∧ PS Fn ∧ AS Am ∧ LC lc ∧ (∃ n, n ≤ 128 ∧ sc = nI n) ∧ CC cc
def SU (n0 : Nat) (u : TL) : Prop := SI u.2.2.2.2.2.1 u.2.2.2.2.2.2.2.1 u.2.2.2.2.2.2.2.2.1 u.2.2.2.2.2.2.2.2.2.1 u.2.2.2.2.2.2.2.2.2.2.2.2.1 u.2.2.2.2.2.2.2.2.2.2.2.2.2.1 u.2.2.2.2.2.2.2.2.2.2.2.2.2.2.2.2 ∧ ∃ n, n0 ≤ n ∧ n ≤ 128 ∧ u.2.2.2.2.2.2.2.2.2.2.2.2.2.1 = nI n
def lkP (n0 : Nat) (Am : Nat → Int32) (r : Int32 × TL) : Prop := (r.1 = -1 ∨ ∃ s, s < 128 ∧ r.1 = nI s) ∧ SU n0 r.2 ∧ ∀ j, j < n0 → r.2.2.2.2.2.2.2.2.2.2.1 j = Am j
def lbP (n0 s : Nat) (Am : Nat → Int32) (r : Int32 × TL) : Prop := b01 r.1 ∧ SU n0 r.2 ∧ ∀ j, j < n0 → j ≠ s → r.2.2.2.2.2.2.2.2.2.2.1 j = Am j
section CLK
variable {T Sd In Tn Tm : Nat → Int32} {L : Nat}
def okL (T Sd In Tn Tm : Nat → Int32) (L : Nat) (fl : FL) (d : Nat) : Prop := ∀ (lf lp : Int32) (Pl Kd Me Fi Nx Na Fn Am Fd Ed : Nat → Int32) (lc sc : Int32) (Cf Cs : Nat → Int32) (cc : Int32) (p br : Int32) (n0 : Nat), n0 ≤ 128 → sc = nI n0 → SI Fi Na Fn Am lc sc cc → SP (fl lf lp T Sd In Tn Tm (nI L) Pl Kd Me Fi Nx Na Fn Am Fd Ed lc sc Cf Cs cc p (nI d) br) (lkP n0 Am)
theorem stk_sp {f : Nat → Int32} (p v : Int32) : SP (m_X6_setKind f p v) (fun _ => True) := by
  unfold m_X6_setKind
  refine SP.bind (slt_sp p) (fun r hr => SP.ite (fun _ => SP.ok trivial) (fun h => ?_))
  rcases hr with e | ⟨-, s, hs, rfl⟩
  · exact absurd e h
  · rw [bd_go hs (by decide)]; exact SP.ok trivial
theorem stm_sp {f : Nat → Int32} (p v : Int32) : SP (m_X6_setMeant f p v) (fun _ => True) := by
  unfold m_X6_setMeant
  refine SP.bind (slt_sp p) (fun r hr => SP.ite (fun _ => SP.ok trivial) (fun h => ?_))
  rcases hr with e | ⟨-, s, hs, rfl⟩
  · exact absurd e h
  · rw [bd_go hs (by decide)]; exact SP.ok trivial
theorem ste_sp {f : Nat → Int32} (p : Int32) : SP (m_X6_setEnumDefault f p) (fun _ => True) := by
  unfold m_X6_setEnumDefault
  refine SP.bind (slt_sp p) (fun r hr => SP.ite (fun _ => SP.ok trivial) (fun h => ?_))
  rcases hr with e | ⟨-, s, hs, rfl⟩
  · exact absurd e h
  · rw [bd_go hs (by decide)]; exact SP.ok trivial
theorem stn_sp {f : Nat → Int32} (hf : PS f) (p : Int32) {v : Int32} (hv : LC v) : SP (m_X6_setName f p v) PS := by
  unfold m_X6_setName
  refine SP.bind (slt_sp p) (fun r hr => SP.ite (fun _ => SP.ok hf) (fun h => ?_))
  rcases hr with e | ⟨-, s, hs, rfl⟩
  · exact absurd e h
  · rw [bd_go hs (by decide)]; exact SP.ok (hf.up (Or.inr hv))
theorem stf_sp {f g : Nat → Int32} (hf : PS f) (p b : Int32) {v : Int32} (hv : LC v) : SP (m_X6_setField f g p v b) (fun r => PS r.1) := by
  unfold m_X6_setField
  refine SP.bind (slt_sp p) (fun r hr => SP.ite (fun _ => SP.ok hf) (fun h => ?_))
  rcases hr with e | ⟨-, s, hs, rfl⟩
  · exact absurd e h
  · simp only [bd_go hs (by decide)]; exact SP.ok (hf.up (Or.inr hv))
theorem jn_sp {Fi Nx Am : Nat → Int32} (hf : PS Fi) {s i k : Nat} (hs : s < 128) (hi : Am s = nI i) (hk : k ≤ 4096) (a1 : Int32) : SP (m_X6_join Fi Nx Am (nI s) a1 (nI k)) (fun r => PS r.1 ∧ r.2.2 = upd Am s (nI (i + 1))) := by
  unfold m_X6_join
  simp only [slt_1 hs, Option.bind_some, if_neg (show ¬ (1 : Int32) = 0 by decide), bd_go hs (by decide), nI_clamp (show s < 2 ^ 31 by omega), bd_gc hs (by decide), hi, nI_1]
  refine SP.bind (slt_sp a1) (fun r hr => SP.ite (fun _ => SP.ok ⟨hf.up (Or.inr ⟨k, hk, rfl⟩), rfl⟩) (fun h => ?_))
  rcases hr with e | ⟨-, s', hs', rfl⟩
  · exact absurd e h
  · simp only [bd_go hs' (by decide)]
    exact SP.ok ⟨hf, rfl⟩
theorem ads_sp (hA : AM Tm) {Pl Fi Am : Nat → Int32} {lc : Int32} (hl : LC lc) (hf : PS Fi) {s i : Nat} (hs : s < 128) (hi : Am s = nI i) (q : Int32) : SP (m_X6_addSymbol Pl Fi Am lc Sd Tm (nI s) q) (fun r => PS r.2.1 ∧ r.2.2.1 = upd Am s (nI (i + 1)) ∧ LC r.2.2.2) := by
  have h23 : ∀ (Pl : Nat → Int32) (lc : Int32), LC lc → SP (m_X6_addSymbol_23 Sd Tm Pl Fi Am lc (nI s) q) (fun r => PS r.2.1 ∧ r.2.2.1 = upd Am s (nI (i + 1)) ∧ LC r.2.2.2) := by
    intro Pl lc hl
    unfold m_X6_addSymbol_23
    refine SP.bind (wsd_sp hA hl q) (fun r hr => ?_)
    simp only [bd_go hs (by decide), bd_gc hs (by decide), nI_clamp (show s < 2 ^ 31 by omega), hi, nI_1]
    exact SP.ite (fun _ => SP.ok ⟨hf.up (Or.inr hr.1), rfl, hr.2⟩) (fun _ => SP.ok ⟨hf, rfl, hr.2⟩)
  unfold m_X6_addSymbol
  simp only [slt_1 hs, Option.bind_some, if_neg (show ¬ (1 : Int32) = 0 by decide), bd_go hs (by decide)]
  exact SP.ite (fun _ => h23 _ _ hl) (fun _ => SP.bind (wby_sp hl _) (fun _ h => h23 _ _ h))
theorem law_sp (hL : L ≤ 4096) (hA : AM Tm) {lf lp : Int32} {Pl Kd Me Na : Nat → Int32} {lc : Int32} (hl : LC lc) {sc : Nat} (hsc : sc ≤ 128) (p q : Int32) : SP (m_X4_lookAtWord lf lp T Sd Tm (nI L) Pl Kd Me Na lc (nI sc) p q) (fun r => b01 r.1 ∧ LC r.2.2.2.2.2.2) := by
  have h68 : ∀ (lf lp : Int32) (Pl Kd Me : Nat → Int32) (lc : Int32), LC lc → SP (m_X4_lookAtWord_68 T Sd Tm (nI L) Na (nI sc) lf lp Pl Kd Me lc q) (fun r => b01 r.1 ∧ LC r.2.2.2.2.2.2) := by
    intro lf lp Pl Kd Me lc hl
    unfold m_X4_lookAtWord_68
    exact SP.bind (wsd_sp hA hl _) (fun r hr => SP.ok ⟨Or.inr rfl, hr.2⟩)
  have h31 : SP (m_X4_lookAtWord_31 T Sd Tm (nI L) Na (nI sc) lf lp Pl Kd Me lc p q) (fun r => b01 r.1 ∧ LC r.2.2.2.2.2.2) := by
    unfold m_X4_lookAtWord_31
    simp only [m_X4_refuse, Option.bind_some, true_or, if_true]
    exact SP.bind (dfn_sp hA hl hsc _) (fun _ _ => SP.ite (fun _ => SP.ok ⟨Or.inl rfl, hl⟩) (fun _ => SP.bind (stm_sp _ _) (fun _ _ => h68 _ _ _ _ _ _ hl)))
  unfold m_X4_lookAtWord
  exact SP.bind (ksd_sp hL _) (fun _ _ => SP.ite (fun _ => h31) (fun _ => SP.ite (fun _ => h31) (fun _ => SP.bind (stk_sp _ _) (fun _ _ => h68 _ _ _ _ _ _ hl))))
theorem hal_sp {Kd Me Fi Nx Am : Nat → Int32} (hf : PS Fi) (hm : AS Am) (p q : Int32) : SP (m_X4_hasAlike Kd Me Fi Nx Am p q) b01 := by
  have go : ∀ (fuel j : Nat) (x3 : Int32), j ≤ 65 → 65 - j < fuel → SP (m_X4_hasAlike_12 Kd Me Fi Nx Am fuel p q x3 (nI j)) b01 := by
    intro fuel
    induction fuel with
    | zero => intro j x3 _ hf; exact absurd hf (Nat.not_lt_zero _)
    | succ fuel ih =>
      intro j x3 hj hf
      simp only [m_X4_hasAlike_12, nI_1]
      refine SP.bind (sam_sp hm p) (fun r hr => SP.ite (fun _ => SP.ok (Or.inl rfl)) (fun hc => ?_))
      have := lt_of_neg (by omega) hr (show j < 2 ^ 31 by omega) hc
      exact SP.bind (ali_sp _ _) (fun _ _ => SP.ite (fun _ => SP.bind (snx_sp _) (fun _ _ => ih (j + 1) _ (by omega) (by omega))) (fun _ => SP.ok (Or.inr rfl)))
  unfold m_X4_hasAlike
  refine SP.bind (fst_sp hf _) (fun r _ => ?_)
  have := go sr_fuel 0 r (Nat.zero_le _) (by unfold sr_fuel; omega)
  rw [nI_0] at this
  exact this
theorem dfi_sp (hL : L ≤ 4096) (hA : AM Tm) {lf lp : Int32} {Pl Kd Na : Nat → Int32} {lc : Int32} (hl : LC lc) (hn : PS Na) {sc : Nat} (hsc : sc ≤ 128) (p v k : Int32) : SP (m_X4_define lf lp T Sd In Tn Tm (nI L) Pl Kd Na lc (nI sc) p v k) (fun r => b01 r.1 ∧ PS r.2.2.2.2.2.1 ∧ LC r.2.2.2.2.2.2) := by
  have h74 : ∀ x, SP (m_X4_define_74 T Sd In Tn Tm (nI L) (nI sc) lf lp Pl Kd Na lc x) (fun r => b01 r.1 ∧ PS r.2.2.2.2.2.1 ∧ LC r.2.2.2.2.2.2) := by
    intro x
    unfold m_X4_define_74
    simp only [m_X4_refuse, Option.bind_some, true_or, if_true]
    exact SP.ok ⟨Or.inl rfl, hn, hl⟩
  unfold m_X4_define
  simp only [m_X4_refuse, Option.bind_some, true_or, if_true]
  refine SP.bind (mbr_sp hL hA (by decide) _) (fun r1 _ => SP.bind (iss_sp hL _) (fun _ _ => SP.ite (fun _ => SP.ok ⟨Or.inl rfl, hn, hl⟩) (fun _ => SP.bind (sanm_sp hL hA _) (fun _ _ => SP.ite (fun _ => h74 _) (fun _ => SP.bind (ksd_sp hL _) (fun _ _ => SP.ite (fun _ => SP.bind (dfn_sp hA hl hsc _) (fun _ _ => SP.ite (fun _ => ?_) (fun _ => h74 _))) (fun _ => h74 _)))))))
  exact SP.bind (stk_sp _ _) (fun _ _ => SP.bind (swr_sp hl (by decide)) (fun _ h1 => SP.bind (wsd_sp hA h1 _) (fun _ h2 => SP.bind (stn_sp hn _ h2.1) (fun _ h3 => SP.bind (swr_sp h2.2 (by decide)) (fun _ h4 => SP.bind (kwd_sp _) (fun _ h5 => SP.bind (swr_sp h4 h5) (fun _ h6 => SP.bind (wby_sp h6 _) (fun _ h7 => SP.ok ⟨Or.inr rfl, h3, h7⟩))))))))
theorem lfx_sp (hL : L ≤ 4096) (hA : AM Tm) {lf lp : Int32} {Pl Am : Nat → Int32} {lc : Int32} (hl : LC lc) (hm : AS Am) {s : Nat} (hs : s < 128) (v : Int32) : SP (m_X4_lookAtFixed lf lp T Sd In Tn Tm (nI L) Pl Am lc (nI s) v) (fun r => b01 r.1 ∧ AS r.2.2.2.2.1 ∧ LC r.2.2.2.2.2 ∧ ∀ j, j ≠ s → r.2.2.2.2.1 j = Am j) := by
  have h67 : ∀ x, SP (m_X4_lookAtFixed_67 T Sd In Tn Tm (nI L) lf lp Pl Am lc x) (fun r => b01 r.1 ∧ AS r.2.2.2.2.1 ∧ LC r.2.2.2.2.2 ∧ ∀ j, j ≠ s → r.2.2.2.2.1 j = Am j) := by
    intro x
    unfold m_X4_lookAtFixed_67
    simp only [m_X4_refuse, Option.bind_some, true_or, if_true]
    exact SP.ok ⟨Or.inl rfl, hm, hl, fun _ _ => rfl⟩
  have h49 : ∀ (x : Int32) (y : Int64), SP (m_X4_lookAtFixed_49 T Sd In Tn Tm (nI L) lf lp Pl Am lc (nI s) x y) (fun r => b01 r.1 ∧ AS r.2.2.2.2.1 ∧ LC r.2.2.2.2.2 ∧ ∀ j, j ≠ s → r.2.2.2.2.1 j = Am j) := by
    intro x y
    unfold m_X4_lookAtFixed_49 m_X6_setAmount
    refine SP.ite (fun _ => h67 _) (fun h1 => SP.ite (fun h2 => ?_) (fun _ => h67 _))
    obtain ⟨d, hd, rfl⟩ := lgc h1 (fun q => absurd h2 (Int32.not_le.mpr q))
    simp only [slt_1 hs, Option.bind_some, if_neg (show ¬ (1 : Int32) = 0 by decide), bd_go hs (by decide), bd_gc hs (by decide), nI_clamp (show s < 2 ^ 31 by omega), lN_i]
    exact SP.bind (swr_sp hl (by decide)) (fun _ h3 => SP.bind (wnu_sp h3 _) (fun _ h4 => SP.bind (wby_sp h4 _) (fun _ h5 => SP.ok ⟨Or.inr rfl, hm.up hd, h5, fun j hj => pk_un hj⟩)))
  unfold m_X4_lookAtFixed
  simp only [m_X4_refuse, Option.bind_some, true_or, if_true]
  exact SP.bind (mbr_sp hL hA (by decide) _) (fun _ _ => SP.ite (fun _ => SP.ok ⟨Or.inl rfl, hm, hl, fun _ _ => rfl⟩) (fun _ => SP.bind (isn_sp hL _) (fun _ _ => SP.ite (fun _ => h49 _ _) (fun _ => SP.bind (numat_sp hL _) (fun _ _ => h49 _ _)))))
theorem len_sp (hL : L ≤ 4096) (hA : AM Tm) {lf lp : Int32} {Pl Me Fi Am Ed : Nat → Int32} {lc : Int32} (hl : LC lc) (hf : PS Fi) (hm : AS Am) {s : Nat} (hs : s < 128) (h0 : Am s = nI 0) (v : Int32) : SP (m_X4_lookAtEnum lf lp T Sd In Tn Tm (nI L) Pl Me Fi Am Ed lc (nI s) v) (fun r => b01 r.1 ∧ PS r.2.2.2.2.1 ∧ AS r.2.2.2.2.2.1 ∧ LC r.2.2.2.2.2.2.2 ∧ ∀ j, j ≠ s → r.2.2.2.2.2.1 j = Am j) := by
  have hdef : ∀ (lf lp : Int32) (Pl Fi Am Ed : Nat → Int32) (lc q : Int32), LC lc → PS Fi → AS Am → SP (m_X4_lookAtEnumDefault lf lp T Sd Tm (nI L) Pl Me Fi Am Ed lc (nI s) q) (fun r => b01 r.1) := by
    intro lf lp Pl Fi Am Ed lc q hl hf hm
    unfold m_X4_lookAtEnumDefault m_X4_lookAtEnumDefault_34
    simp only [m_X4_refuse, Option.bind_some, true_or, if_true]
    exact SP.ite (fun _ => SP.ok (Or.inr rfl)) (fun _ => SP.bind (iss_sp hL _) (fun _ _ => SP.ite (fun _ => SP.ok (Or.inl rfl)) (fun _ => SP.bind (hsy_sp hA hm hf hl _ _) (fun _ _ => SP.ite (fun _ => SP.ok (Or.inl rfl)) (fun _ => SP.bind (ste_sp _) (fun _ _ => SP.ok (Or.inr rfl)))))))
  unfold m_X4_lookAtEnum
  simp only [m_X4_refuse, m_X4_lookAtEnum_58, Option.bind_some, true_or, if_true]
  refine SP.bind (mbr_sp hL hA (by decide) _) (fun r1 _ => SP.ite (fun _ => SP.ok ⟨Or.inl rfl, hf, hm, hl, fun _ _ => rfl⟩) (fun _ => SP.bind (amo_sp hA _) (fun r3 h3 => SP.bind (isl_sp hL _) (fun _ _ => SP.ite (fun _ => SP.ok ⟨Or.inl rfl, hf, hm, hl, fun _ _ => rfl⟩) (fun _ => SP.ite (fun _ => SP.ok ⟨Or.inl rfl, hf, hm, hl, fun _ _ => rfl⟩) (fun h1 => SP.ite (fun h32 => ?_) (fun _ => SP.ok ⟨Or.inl rfl, hf, hm, hl, fun _ _ => rfl⟩)))))))
  obtain ⟨k, hk, rfl⟩ : ∃ k, k ≤ 32 ∧ r3 = nI k := by
    rcases h3 with e | ⟨k, hk, e⟩
    · subst e; exact absurd (by decide) h1
    · subst e
      exact ⟨k, Nat.le_of_not_lt (fun q => nI_ge (a := 32) q (by omega) h32), rfl⟩
  have go : ∀ (fuel i : Nat) (lf lp : Int32) (Pl Fi' Am' Ed : Nat → Int32) (lc x5 : Int32), LC lc → PS Fi' → AS Am' → Am' s = nI i → (∀ j, j ≠ s → Am' j = Am j) → i ≤ k → k - i < fuel →
      SP (m_X4_lookAtEnum_88 T Sd In Tn Tm (nI L) Me fuel lf lp Pl Fi' Am' Ed lc (nI s) v (nI k) x5 (nI i)) (fun r => b01 r.1 ∧ PS r.2.2.2.2.1 ∧ AS r.2.2.2.2.2.1 ∧ LC r.2.2.2.2.2.2.2 ∧ ∀ j, j ≠ s → r.2.2.2.2.2.1 j = Am j) := by
    intro fuel
    induction fuel with
    | zero => intro i lf lp Pl Fi' Am' Ed lc x5 _ _ _ _ _ _ hf; exact absurd hf (Nat.not_lt_zero _)
    | succ fuel ih =>
      intro i lf lp Pl Fi' Am' Ed lc x5 hl hf hm hi hfr hik hfu
      simp only [m_X4_lookAtEnum_88, m_X4_lookAtEnum_124, m_X4_refuse, Option.bind_some, true_or, if_true, nI_1]
      refine SP.ite (fun _ => SP.bind (swr_sp hl (by decide)) (fun _ h1 => SP.bind (mbr_sp hL hA (by decide) _) (fun _ _ => SP.bind (hdef _ _ _ _ _ _ _ _ h1 hf hm) (fun _ h2 => SP.ite (fun _ => SP.ok ⟨h2, hf, hm, h1, hfr⟩) (fun q => absurd h2 q))))) (fun hc => ?_)
      have hlt : i < k := Nat.lt_of_not_le (fun q => hc (nI_le q (by omega)))
      refine SP.bind (sanm_sp hL hA _) (fun _ _ => SP.ite (fun _ => SP.ok ⟨Or.inl rfl, hf, hm, hl, hfr⟩) (fun _ => SP.bind (hsy_sp hA hm hf hl _ _) (fun _ _ => SP.ite (fun _ => SP.bind (ads_sp hA hl hf hs hi _) (fun r hr => SP.bind (nxt_sp _) (fun _ _ => ?_))) (fun _ => SP.ok ⟨Or.inl rfl, hf, hm, hl, hfr⟩))))
      obtain ⟨g1, g2, g3⟩ := hr
      refine ih (i + 1) _ _ _ _ _ _ _ _ g3 g1 (by rw [g2]; exact hm.up (by omega)) (by rw [g2]; exact pk_us) (fun j hj => by rw [g2, pk_un hj]; exact hfr j hj) (by omega) (by omega)
  refine SP.bind (swr_sp hl (by decide)) (fun q4 h4 => SP.bind (inn_sp _) (fun q5 _ => ?_))
  have := go sr_fuel 0 lf lp q4.1 Fi Am Ed q4.2 q5 h4 hf hm h0 (fun _ _ => rfl) (Nat.zero_le _) (by unfold sr_fuel; omega)
  rw [nI_0] at this
  exact this
theorem gdf_sp (hL : L ≤ 4096) (hA : AM Tm) {lf lp : Int32} {Pl Me Fi Nx Fn Am : Nat → Int32} {lc : Int32} (hl : LC lc) (hf : PS Fi) (hm : AS Am) (p v : Int32) : SP (m_X4_isGoodField lf lp T Sd In Tn Tm (nI L) Pl Me Fi Nx Fn Am lc p v) (fun r => b01 r.1) := by
  unfold m_X4_isGoodField m_X4_isGoodField_76
  simp only [m_X4_refuse, Option.bind_some, true_or, if_true]
  exact SP.bind (iso_sp hL _) (fun _ _ => SP.ite (fun _ => SP.ok (Or.inl rfl)) (fun _ => SP.bind (mbr_sp hL hA (by decide) _) (fun _ _ => SP.bind (iss_sp hL _) (fun _ _ => SP.ite (fun _ => SP.ok (Or.inl rfl)) (fun _ => SP.bind (sanm_sp hL hA _) (fun _ _ => SP.ite (fun _ => SP.ok (Or.inl rfl)) (fun _ => SP.bind (hfl_sp hA hm hf hl _ _) (fun _ _ => SP.ite (fun _ => SP.bind (mbr_sp hL hA (by decide) _) (fun _ _ => SP.ite (fun _ => SP.ok (Or.inl rfl)) (fun _ => SP.ok (Or.inr rfl)))) (fun _ => SP.ok (Or.inl rfl))))))))))
end CLK
