-- the class's defaults, its reading of a schema
section DFS
variable {T Sd In Tn Tm : Nat → Int32} {L : Nat} {Pl Kd Me Fi Nx Fn Am : Nat → Int32} {lc : Int32}
theorem iok_sp (hL : L ≤ 4096) (hA : AM Tm) (hf : PS Fi) (hm : AS Am) (hl : LC lc) (p v : Int32) : SP (m_X0_isOfKind T Sd Tm (nI L) Pl Kd Me Fi Am lc p v) b01 := by
  have n0 : SP (some (0 : Int32)) b01 := SP.ok (Or.inl rfl)
  have n1 : SP (some (1 : Int32)) b01 := SP.ok (Or.inr rfl)
  have byt : SP (m_X7_byteAt T (nI L) v) (fun _ => True) := (byt_sp hL v).any
  have str : SP (m_X7_isString T (nI L) v) b01 := (iss_sp hL v).mono (fun r h => h.imp id And.left)
  have num : SP (m_X7_isNumber T (nI L) v) b01 := (isn_sp hL v).mono (fun r h => h.imp id And.left)
  have s5 : SP ((m_X7_isString T (nI L) v).bind fun r => if r = 0 ∨ r = 1 then some r else none) b01 := SP.bind str (fun r h => SP.bb h (SP.ok h))
  have n5 : SP ((m_X7_isNumber T (nI L) v).bind fun r => if r = 0 ∨ r = 1 then some r else none) b01 := SP.bind num (fun r h => SP.bb h (SP.ok h))
  have l5 : SP ((m_X7_isList T (nI L) v).bind fun r => if r = 0 ∨ r = 1 then some r else none) b01 := SP.bind (isl_sp hL v) (fun r h => SP.bb h (SP.ok h))
  have o5 : SP ((m_X7_isObject T (nI L) v).bind fun r => if r = 0 ∨ r = 1 then some r else none) b01 := SP.bind (iso_sp hL v) (fun r h => SP.bb h (SP.ok h))
  unfold m_X0_isOfKind
  refine SP.bind (knd_sp _) (fun r1 _ => ?_)
  refine SP.ite (fun _ => SP.bind byt (fun _ _ => SP.ite (fun _ => n1) (fun _ => n0))) (fun _ => ?_)
  refine SP.ite (fun _ => SP.bind byt (fun _ _ => SP.ite (fun _ => n1) (fun _ => SP.bind byt (fun _ _ => SP.ite (fun _ => n1) (fun _ => n0))))) (fun _ => ?_)
  refine SP.ite (fun _ => SP.bind num (fun _ _ => SP.ite (fun _ => n0) (fun _ => SP.bind (numat_sp hL _) (fun _ _ => SP.bind (numat_sp hL _) (fun _ _ => SP.ite (fun _ => n1) (fun _ => n0)))))) (fun _ => ?_)
  refine SP.ite (fun _ => n5) (fun _ => SP.ite (fun _ => s5) (fun _ => SP.ite (fun _ => s5) (fun _ => SP.ite (fun _ => l5) (fun _ => SP.ite (fun _ => o5) (fun _ => ?_)))))
  refine SP.ite (fun _ => SP.bind str (fun _ _ => SP.ite (fun _ => n0) (fun _ => SP.bind (amo_sp hA _) (fun _ _ => SP.bind (sam_sp hm _) (fun _ _ => SP.ite (fun _ => n1) (fun _ => n0)))))) (fun _ => ?_)
  exact SP.ite (fun _ => SP.bind str (fun _ _ => SP.ite (fun _ => n0) (fun _ => SP.bind (hsy_sp hA hm hf hl _ _) (fun _ _ => SP.ite (fun _ => n0) (fun _ => n1))))) (fun _ => SP.ite (fun _ => o5) (fun _ => n0))
theorem mfo_sp (hA : AM Tm) (hl : LC lc) (p v : Int32) : SP (m_X0_memberFor Sd In Tn Tm Pl lc p v) (fun _ => True) := by
  have go : ∀ (fuel j : Nat) (x3 : Int32), j ≤ 4097 → 4097 - j < fuel → SP (m_X0_memberFor_12 Sd In Tn Tm Pl lc fuel p v x3 (nI j)) (fun _ => True) := by
    intro fuel
    induction fuel with
    | zero => intro j x3 _ hf; exact absurd hf (Nat.not_lt_zero _)
    | succ fuel ih =>
      intro j x3 hj hf
      simp only [m_X0_memberFor_12, nI_1]
      refine SP.bind (amo_sp hA v) (fun r hr => SP.ite (fun _ => SP.ok trivial) (fun hc => ?_))
      have hlt := lt_of_neg (by omega) hr (show j < 2 ^ 31 by omega) hc
      exact SP.bind (isd_sp hA hl _ _) (fun _ _ => SP.ite (fun _ => SP.bind (nxt_sp _) (fun _ _ => ih (j + 1) _ (by omega) (by omega))) (fun _ => SP.bind (inn_sp _) (fun _ _ => SP.ok trivial)))
  unfold m_X0_memberFor
  refine SP.bind (inn_sp _) (fun r _ => ?_)
  have := go sr_fuel 0 r (Nat.zero_le _) (by unfold sr_fuel; omega)
  rw [nI_0] at this
  exact this
theorem mis_sp (hL : L ≤ 4096) (hA : AM Tm) (hf : PS Fi) (hm : AS Am) (hl : LC lc) : ∀ (D d : Nat), d ≤ 25 → 26 - d ≤ D → ∀ p v : Int32, SP (m_X0_misfit D T Sd In Tn Tm (nI L) Pl Kd Me Fi Nx Fn Am lc p v (nI d)) (fun _ => True) := by
  intro D
  induction D with
  | zero => intro d hd hD; exact absurd hD (by omega)
  | succ D ihD =>
    intro d hd hD p v
    have h25 : ∀ p, SP (m_X0_misfit_25 (m_X0_misfit D) T Sd In Tn Tm (nI L) Pl Kd Me Fi Nx Fn Am lc v (nI d) p) (fun _ => True) := by
      intro p
      unfold m_X0_misfit_25
      refine SP.ite (fun _ => SP.ok trivial) (fun h24 => ?_)
      have hd24 : d ≤ 24 := Nat.le_of_not_lt (fun q => h24 (nI_lt (a := 24) q (by omega)))
      have ihn := ihD (d + 1) (by omega) (by omega)
      have lst : ∀ p, SP (m_X0_misfitInList (m_X0_misfit D) T Sd In Tn Tm (nI L) Pl Kd Me Fi Nx Fn Am lc p v (nI d)) (fun _ => True) := by
        intro p
        have go : ∀ (fuel j : Nat) (x4 : Int32), j ≤ 4097 → 4097 - j < fuel → SP (m_X0_misfitInList_13 (m_X0_misfit D) T Sd In Tn Tm (nI L) Pl Kd Me Fi Nx Fn Am lc fuel p v (nI d) x4 (nI j)) (fun _ => True) := by
          intro fuel
          induction fuel with
          | zero => intro j x3 _ hf; exact absurd hf (Nat.not_lt_zero _)
          | succ fuel ih =>
            intro j x3 hj hf
            simp only [m_X0_misfitInList_13, nI_1]
            refine SP.bind (amo_sp hA v) (fun r hr => SP.ite (fun _ => SP.ok trivial) (fun hc => ?_))
            have hlt := lt_of_neg (by omega) hr (show j < 2 ^ 31 by omega) hc
            exact SP.bind (ihn _ _) (fun _ _ => SP.ite (fun _ => SP.bind (nxt_sp _) (fun _ _ => ih (j + 1) _ (by omega) (by omega))) (fun _ => SP.ok trivial))
        unfold m_X0_misfitInList
        refine SP.bind (inn_sp _) (fun r _ => ?_)
        have := go sr_fuel 0 r (Nat.zero_le _) (by unfold sr_fuel; omega)
        rw [nI_0] at this
        exact this
      have mp : ∀ p, SP (m_X0_misfitInMap (m_X0_misfit D) T Sd In Tn Tm (nI L) Pl Kd Me Fi Nx Fn Am lc p v (nI d)) (fun _ => True) := by
        intro p
        have go : ∀ (fuel j : Nat) (x4 : Int32), j ≤ 4097 → 4097 - j < fuel → SP (m_X0_misfitInMap_13 (m_X0_misfit D) T Sd In Tn Tm (nI L) Pl Kd Me Fi Nx Fn Am lc fuel p v (nI d) x4 (nI j)) (fun _ => True) := by
          intro fuel
          induction fuel with
          | zero => intro j x3 _ hf; exact absurd hf (Nat.not_lt_zero _)
          | succ fuel ih =>
            intro j x3 hj hf
            simp only [m_X0_misfitInMap_13, nI_1]
            refine SP.bind (amo_sp hA v) (fun r hr => SP.ite (fun _ => SP.ok trivial) (fun hc => ?_))
            have hlt := lt_of_neg (by omega) hr (show j < 2 ^ 31 by omega) hc
            exact SP.bind (inn_sp _) (fun _ _ => SP.bind (ihn _ _) (fun _ _ => SP.ite (fun _ => SP.bind (nxt_sp _) (fun _ _ => ih (j + 1) _ (by omega) (by omega))) (fun _ => SP.ok trivial)))
        unfold m_X0_misfitInMap
        refine SP.bind (inn_sp _) (fun r _ => ?_)
        have := go sr_fuel 0 r (Nat.zero_le _) (by unfold sr_fuel; omega)
        rw [nI_0] at this
        exact this
      have rc : ∀ p, SP (m_X0_misfitInRecord (m_X0_misfit D) T Sd In Tn Tm (nI L) Pl Kd Me Fi Nx Fn Am lc p v (nI d)) (fun _ => True) := by
        intro p
        have go : ∀ (fuel j : Nat) (x4 : Int32), j ≤ 65 → 65 - j < fuel → SP (m_X0_misfitInRecord_13 (m_X0_misfit D) T Sd In Tn Tm (nI L) Pl Kd Me Fi Nx Fn Am lc fuel p v (nI d) x4 (nI j)) (fun _ => True) := by
          intro fuel
          induction fuel with
          | zero => intro j x3 _ hf; exact absurd hf (Nat.not_lt_zero _)
          | succ fuel ih =>
            intro j x3 hj hf
            simp only [m_X0_misfitInRecord_13, m_X0_misfitInRecord_63, m_X6_fieldName, nI_1]
            refine SP.bind (sam_sp hm p) (fun r hr => SP.ite (fun _ => SP.ok trivial) (fun hc => ?_))
            have hlt := lt_of_neg (by omega) hr (show j < 2 ^ 31 by omega) hc
            have nx : ∀ y0 : Int32, SP (if y0 = (-1) then ((m_X6_next Nx x3).bind fun r7 => (m_X0_misfitInRecord_13 (m_X0_misfit D) T Sd In Tn Tm (nI L) Pl Kd Me Fi Nx Fn Am lc fuel) p v (nI d) r7 (nI (j + 1))) else (some y0)) (fun _ => True) := fun y0 => SP.ite (fun _ => SP.bind (snx_sp _) (fun _ _ => ih (j + 1) _ (by omega) (by omega))) (fun _ => SP.ok trivial)
            exact SP.bind (SP.bind (ent_sp (by decide) _) (fun _ _ => SP.ok trivial)) (fun _ (_ : True) => SP.bind (mfo_sp hA hl _ _) (fun _ _ => SP.ite (fun _ => nx _) (fun _ => SP.bind (ihn _ _) (fun _ _ => nx _))))
        unfold m_X0_misfitInRecord
        refine SP.bind (fst_sp hf _) (fun r _ => ?_)
        have := go sr_fuel 0 r (Nat.zero_le _) (by unfold sr_fuel; omega)
        rw [nI_0] at this
        exact this
      refine SP.bind (iok_sp hL hA hf hm hl _ _) (fun _ _ => SP.ite (fun _ => SP.ok trivial) (fun _ => SP.bind (knd_sp _) (fun _ _ => SP.ite (fun _ => ?_) (fun _ => SP.ite (fun _ => ?_) (fun _ => SP.ite (fun _ => SP.ok trivial) (fun _ => SP.ite (fun _ => SP.ok trivial) (fun _ => SP.ite (fun _ => ?_) (fun _ => SP.ok trivial))))))))
      · exact SP.bind (fst_sp hf _) (fun _ _ => SP.bind (lst _) (fun _ _ => SP.ok trivial))
      · exact SP.bind (fst_sp hf _) (fun _ _ => SP.bind (mp _) (fun _ _ => SP.ok trivial))
      · exact SP.bind (rc _) (fun _ _ => SP.ok trivial)
    simp only [m_X0_misfit]
    exact SP.bind (knd_sp _) (fun _ _ => SP.ite (fun _ => SP.bind (fst_sp hf _) (fun _ _ => h25 _)) (fun _ => h25 _))
theorem cdf_sp (hL : L ≤ 4096) (hA : AM Tm) (hf : PS Fi) (hm : AS Am) (hl : LC lc) {lf lp : Int32} {Cf Cs : Nat → Int32} {cc : Int32} (hc : CC cc) : SP (m_X4_checkDefaults lf lp T Sd In Tn Tm (nI L) Pl Kd Me Fi Nx Fn Am lc Cf Cs cc) (fun _ => True) := by
  obtain ⟨k, hk, rfl⟩ := hc
  have go : ∀ (fuel j : Nat) (lf lp : Int32), j ≤ k → k - j < fuel → SP (m_X4_checkDefaults_18 T Sd In Tn Tm (nI L) Pl Kd Me Fi Nx Fn Am lc Cf Cs (nI k) fuel lf lp (nI j)) (fun _ => True) := by
    intro fuel
    induction fuel with
    | zero => intro j lf lp _ hf; exact absurd hf (Nat.not_lt_zero _)
    | succ fuel ih =>
      intro j lf lp hj hfu
      simp only [m_X4_checkDefaults_18, m_X11_count, m_X4_refuse, Option.bind_some, nI_1]
      refine SP.ite (fun _ => SP.ok trivial) (fun hc => ?_)
      have hlt : j < k := Nat.lt_of_not_le (fun q => hc (nI_le q (by omega)))
      have hm0 := fun p v => mis_sp (Nx := Nx) (Fn := Fn) (Pl := Pl) (Kd := Kd) (Me := Me) (T := T) (Sd := Sd) (In := In) (Tn := Tn) hL hA hf hm hl 27 0 (by omega) (by omega) p v
      simp only [nI_0] at hm0
      exact SP.bind (cfi_sp _) (fun _ _ => SP.bind (cse_sp _) (fun _ _ => SP.bind (hm0 _ _) (fun _ _ => SP.ite (fun _ => ih (j + 1) _ _ (by omega) (by omega)) (fun _ => SP.ok trivial))))
  unfold m_X4_checkDefaults
  have := go sr_fuel 0 lf lp (Nat.zero_le _) (by unfold sr_fuel; omega)
  rw [nI_0] at this
  exact this
end DFS
