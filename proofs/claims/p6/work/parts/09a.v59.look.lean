section
-- the class's look at an object, at a value
section CLB
variable {T Sd In Tn Tm : Nat → Int32} {L : Nat}
theorem obj_sp (hL : L ≤ 4096) (hA : AM Tm) {fl : FL} {d : Nat} (hfl : okL T Sd In Tn Tm L fl (d + 1)) (lf lp : Int32) (Pl Kd Me Fi Nx Na Fn Am Fd Ed : Nat → Int32) (lc : Int32) (Cf Cs : Nat → Int32) (cc : Int32) {s n : Nat} (hs : s < n) (hn : n ≤ 128) (hI : SI Fi Na Fn Am lc (nI n) cc) (h0 : Am s = nI 0) (v : Int32) : SP (m_X4_lookAtObject fl lf lp T Sd In Tn Tm (nI L) Pl Kd Me Fi Nx Na Fn Am Fd Ed lc (nI n) Cf Cs cc (nI s) v (nI d)) (lbP n s Am) := by
  have hwrap : ∀ x, SP x (lbP n s Am) → SP (x.bind fun (r23, u) => if r23 = 0 ∨ r23 = 1 then some (r23, u) else none) (lbP n s Am) := by
    intro x hx
    refine SP.bind hx ?_
    rintro ⟨r, u⟩ h
    exact SP.bb h.1 (SP.ok h)
  have hit : ∀ {w : Nat} (hw : w < 75) (k : Int32), SP (m_X4_lookAtItems fl lf lp T Sd In Tn Tm (nI L) Pl Kd Me Fi Nx Na Fn Am Fd Ed lc (nI n) Cf Cs cc (nI s) v (nI d) k w) (lbP n s Am) := fun hw k => itm_sp hL hA hfl lf lp Pl Kd Me Fi Nx Na Fn Am Fd Ed lc Cf Cs cc hs hn hI h0 hw v k
  have hrec := fun lf lp Pl Kd Na lc hI => rec_sp hL hA hfl lf lp Pl Kd Me Fi Nx Na Fn Am Fd Ed lc Cf Cs cc hs hn hI h0 v
  obtain ⟨hf, hna, hfn, hm, hl, hsc, hc⟩ := hI
  have hI : SI Fi Na Fn Am lc (nI n) cc := ⟨hf, hna, hfn, hm, hl, hsc, hc⟩
  unfold m_X4_lookAtObject
  simp only [m_X4_refuse, Option.bind_some, true_or, if_true]
  refine SP.bind (mbr_sp hL hA (by decide) _) (fun r1 _ => SP.bind (iss_sp hL _) (fun r2 _ => SP.ite (fun _ => SP.ok ⟨Or.inl rfl, ⟨hI, n, Nat.le_refl _, hn, rfl⟩, fun _ _ _ => rfl⟩) (fun _ => SP.bind (ksd_sp hL _) (fun r4 _ => SP.ite (fun _ => ?_) (fun _ => SP.ite (fun _ => ?_) (fun _ => SP.bind (nam_sp _) (fun r7 _ => SP.ite (fun _ => ?_) (fun _ => ?_))))))))
  · refine SP.bind (hit (by decide) _) ?_
    rintro ⟨r5, lf5, lp5, Pl5, Kd5, Me5, Fi5, Nx5, Na5, Fn5, Am5, Fd5, Ed5, lc5, sc5, Cf5, Cs5, cc5⟩ h
    exact SP.bb h.1 (SP.ok h)
  · refine SP.bind (hit (by decide) _) ?_
    rintro ⟨r5, lf5, lp5, Pl5, Kd5, Me5, Fi5, Nx5, Na5, Fn5, Am5, Fd5, Ed5, lc5, sc5, Cf5, Cs5, cc5⟩ h
    exact SP.bb h.1 (SP.ok h)
  · refine SP.bind (law_sp hL hA hl hn _ _) ?_
    rintro ⟨r19, lf19, lp19, Pl19, Kd19, Me19, lc19⟩ ⟨h1, h2⟩
    exact SP.bb h1 (SP.ok ⟨h1, ⟨⟨hf, hna, hfn, hm, h2, hsc, hc⟩, n, Nat.le_refl _, hn, rfl⟩, fun _ _ _ => rfl⟩)
  · refine SP.bind (dfi_sp hL hA hl hna hn _ _ _) ?_
    rintro ⟨r9, lf9, lp9, Pl9, Kd9, Na9, lc9⟩ ⟨h1, h2, h3⟩
    dsimp only at h1 h2 h3 ⊢
    refine SP.ite (fun _ => SP.ok ⟨Or.inl rfl, ⟨⟨hf, h2, hfn, hm, h3, hsc, hc⟩, n, Nat.le_refl _, hn, rfl⟩, fun _ _ _ => rfl⟩) (fun _ => SP.ite (fun _ => ?_) (fun _ => SP.ite (fun _ => ?_) (fun _ => ?_)))
    · refine SP.bind (lfx_sp hL hA h3 hm (show s < 128 by omega) _) ?_
      rintro ⟨r17, lf17, lp17, Pl17, Am17, lc17⟩ ⟨k1, k2, k3, k4⟩
      exact SP.bb k1 (SP.ok ⟨k1, ⟨⟨hf, h2, hfn, k2, k3, hsc, hc⟩, n, Nat.le_refl _, hn, rfl⟩, fun j _ hne => k4 j hne⟩)
    · refine SP.bind (len_sp hL hA h3 hf hm (show s < 128 by omega) h0 _) ?_
      rintro ⟨r15, lf15, lp15, Pl15, Fi15, Am15, Ed15, lc15⟩ ⟨k1, k2, k3, k4, k5⟩
      exact SP.bb k1 (SP.ok ⟨k1, ⟨⟨k2, h2, hfn, k3, k4, hsc, hc⟩, n, Nat.le_refl _, hn, rfl⟩, fun j _ hne => k5 j hne⟩)
    · refine SP.bind (hrec _ _ _ _ _ _ ⟨hf, h2, hfn, hm, h3, hsc, hc⟩) ?_
      rintro ⟨r5, lf5, lp5, Pl5, Kd5, Me5, Fi5, Nx5, Na5, Fn5, Am5, Fd5, Ed5, lc5, sc5, Cf5, Cs5, cc5⟩ h
      exact SP.bb h.1 (SP.ok h)
theorem look_sp (hL : L ≤ 4096) (hA : AM Tm) : ∀ (D d : Nat), d ≤ 16 → 17 - d ≤ D → okL T Sd In Tn Tm L (m_X4_lookAt D) d := by
  intro D
  induction D with
  | zero => intro d hd hD; exact absurd hD (by omega)
  | succ D ih =>
    intro d hd hD
    intro lf lp Pl Kd Me Fi Nx Na Fn Am Fd Ed lc sc Cf Cs cc p br n0 hn0 esc hI
    subst esc
    obtain ⟨hf, hna, hfn, hm, hl, hsc, hc⟩ := hI
    have hI : SI Fi Na Fn Am lc (nI n0) cc := ⟨hf, hna, hfn, hm, hl, hsc, hc⟩
    simp only [m_X4_lookAt, m_X4_refuse, m_X6_open, Option.bind_some, if_true]
    by_cases hlt : n0 < 128
    rotate_left
    · rw [if_neg (show ¬ nI n0 < 128 from fun q => absurd q (Int32.not_lt.mpr (nI_le (a := 128) (by omega) (by omega))))]
      simp only [Option.bind_some, if_true]
      exact SP.ok ⟨Or.inl rfl, ⟨hI, n0, Nat.le_refl _, hn0, rfl⟩, fun _ _ => rfl⟩
    rw [if_pos (show nI n0 < 128 from nI_lt (b := 128) hlt (by omega))]
    simp only [bd_go hlt (by decide), bd_gc hlt (by decide), Option.bind_some, nI_clamp (show n0 < 2 ^ 31 by omega), nI_1]
    rw [if_neg (show ¬ nI n0 = -1 from fun q => absurd (q ▸ nI_pos' (show n0 < 2 ^ 31 by omega) : (0 : Int32) ≤ -1) (by decide))]
    have fr : ∀ j, j < n0 → upd Am n0 0 j = Am j := fun j hj => pk_un (by omega)
    have e0 : upd Am n0 0 n0 = nI 0 := pk_us
    have hI1 : SI (upd Fi n0 (-1)) (upd Na n0 (-1)) (upd Fn n0 (-1)) (upd Am n0 0) lc (nI (n0 + 1)) cc := ⟨hf.up (Or.inl rfl), hna.up (Or.inl rfl), hfn.up (Or.inl rfl), hm.up (k := 0) (by omega), hl, ⟨n0 + 1, by omega, rfl⟩, hc⟩
    have bad : ∀ u : TL, SU (n0 + 1) u → (∀ j, j < n0 → u.2.2.2.2.2.2.2.2.2.1 j = Am j) → lkP n0 Am ((-1 : Int32), u) := fun u h1 h2 => ⟨Or.inl rfl, ⟨h1.1, h1.2.imp (fun n q => ⟨by omega, q.2⟩)⟩, h2⟩
    have good : ∀ u : TL, SU (n0 + 1) u → (∀ j, j < n0 → u.2.2.2.2.2.2.2.2.2.1 j = Am j) → lkP n0 Am (nI n0, u) := fun u h1 h2 => ⟨Or.inr ⟨n0, hlt, rfl⟩, ⟨h1.1, h1.2.imp (fun n q => ⟨by omega, q.2⟩)⟩, h2⟩
    have fin : ∀ r : Int32 × TL, lbP (n0 + 1) n0 (upd Am n0 0) r → SU (n0 + 1) r.2 ∧ ∀ j, j < n0 → r.2.2.2.2.2.2.2.2.2.2.1 j = Am j := fun r h => ⟨h.2.1, fun j hj => (h.2.2 j (by omega) (by omega)).trans (fr j hj)⟩
    have hnow : ∀ (lf lp : Int32), SU (n0 + 1) ((lf, lp, Pl, upd Kd n0 (-1), upd Me n0 (nI n0), upd Fi n0 (-1), upd Nx n0 (-1), upd Na n0 (-1), upd Fn n0 (-1), upd Am n0 0, upd Fd n0 (vp_nar .boolean 0), upd Ed n0 (vp_nar .boolean 0), lc, nI (n0 + 1), Cf, Cs, cc) : TL) := fun lf lp => ⟨hI1, n0 + 1, Nat.le_refl _, by omega, rfl⟩
    refine SP.ite (fun h16 => ?_) (fun _ => SP.ok (bad _ (hnow _ _) fr))
    have hd16 : d < 16 := Nat.lt_of_not_le (fun q => absurd h16 (Int32.not_lt.mpr (nI_le (a := 16) q (by omega))))
    have hfl := ih (d + 1) (by omega) (by omega)
    refine SP.bind (iss_sp hL _) (fun r4 _ => SP.ite (fun _ => SP.bind (isl_sp hL _) (fun r6 _ => SP.ite (fun _ => SP.bind (iso_sp hL _) (fun r8 _ => SP.ite (fun _ => SP.ok (bad _ (hnow _ _) fr)) (fun _ => ?_))) (fun _ => ?_))) (fun _ => ?_))
    · refine SP.bind (obj_sp hL hA hfl _ _ _ _ _ _ _ _ _ _ _ _ _ _ _ _ (show n0 < n0 + 1 by omega) (by omega) hI1 e0 _) ?_
      rintro ⟨r5, lf5, lp5, Pl5, Kd5, Me5, Fi5, Nx5, Na5, Fn5, Am5, Fd5, Ed5, lc5, sc5, Cf5, Cs5, cc5⟩ h
      have := fin _ h
      exact SP.ite (fun _ => SP.ok (bad _ this.1 this.2)) (fun _ => SP.ok (good _ this.1 this.2))
    · refine SP.bind (uni_sp hA hfl _ _ _ _ _ _ _ _ _ _ _ _ _ _ _ _ (show n0 < n0 + 1 by omega) (by omega) hI1 e0 _ _) ?_
      rintro ⟨r5, lf5, lp5, Pl5, Kd5, Me5, Fi5, Nx5, Na5, Fn5, Am5, Fd5, Ed5, lc5, sc5, Cf5, Cs5, cc5⟩ h
      have := fin _ h
      exact SP.ite (fun _ => SP.ok (bad _ this.1 this.2)) (fun _ => SP.ok (good _ this.1 this.2))
    · refine SP.bind (law_sp hL hA hl (show n0 + 1 ≤ 128 by omega) _ _) ?_
      rintro ⟨r16, lf16, lp16, Pl16, Kd16, Me16, lc16⟩ ⟨h1, h2⟩
      have hu : SU (n0 + 1) ((lf16, lp16, Pl16, Kd16, Me16, upd Fi n0 (-1), upd Nx n0 (-1), upd Na n0 (-1), upd Fn n0 (-1), upd Am n0 0, upd Fd n0 (vp_nar .boolean 0), upd Ed n0 (vp_nar .boolean 0), lc16, nI (n0 + 1), Cf, Cs, cc) : TL) := ⟨⟨hI1.1, hI1.2.1, hI1.2.2.1, hI1.2.2.2.1, h2, hI1.2.2.2.2.2.1, hc⟩, n0 + 1, Nat.le_refl _, by omega, rfl⟩
      exact SP.ite (fun _ => SP.ok (bad _ hu fr)) (fun _ => SP.ok (good _ hu fr))
end CLB
end
section
-- the class's defaults, its reading of a schema
section DFS
variable {T Sd In Tn Tm : Nat → Int32} {L : Nat} {Pl Kd Me Fi Nx Fn Am : Nat → Int32} {lc : Int32}
theorem iok_sp (hL : L ≤ 4096) (hA : AM Tm) (hf : PS Fi) (hm : AS Am) (hl : LC lc) (p v : Int32) : SP (m_X0_isOfKind T Sd Tm (nI L) Pl Kd Me Fi Am lc p v) b01 := by
  have n0 : SP (some (0 : Int32)) b01 := SP.ok (Or.inl rfl)
  have n1 : SP (some (1 : Int32)) b01 := SP.ok (Or.inr rfl)
  have byt : SP (m_X7_byteAt T (nI L) v) (fun _ => True) := (byt_sp hL v).any
  have str : SP (m_X7_isString T (nI L) v) b01 := (iss_sp hL v).mono (fun r h => h.imp id And.left)
  have num : SP (m_X7_isNumber T (nI L) v) b01 := (isn_sp hL v).mono (fun r h => h.imp id And.left)
  have s5 : SP ((m_X7_isString T (nI L) v).bind fun r => if r = 0 ∨ r = 1 then some r else none) b01 := SP.bind str (fun r h => SP.bb h (SP.ok h))
  have n5 : SP ((m_X7_isNumber T (nI L) v).bind fun r => if r = 0 ∨ r = 1 then some r else none) b01 := SP.bind num (fun r h => SP.bb h (SP.ok h))
  have l5 : SP ((m_X7_isList T (nI L) v).bind fun r => if r = 0 ∨ r = 1 then some r else none) b01 := SP.bind (isl_sp hL v) (fun r h => SP.bb h (SP.ok h))
  have o5 : SP ((m_X7_isObject T (nI L) v).bind fun r => if r = 0 ∨ r = 1 then some r else none) b01 := SP.bind (iso_sp hL v) (fun r h => SP.bb h (SP.ok h))
  unfold m_X0_isOfKind
  refine SP.bind (knd_sp _) (fun r1 _ => ?_)
  refine SP.ite (fun _ => SP.bind byt (fun _ _ => SP.ite (fun _ => n1) (fun _ => n0))) (fun _ => ?_)
  refine SP.ite (fun _ => SP.bind byt (fun _ _ => SP.ite (fun _ => n1) (fun _ => SP.bind byt (fun _ _ => SP.ite (fun _ => n1) (fun _ => n0))))) (fun _ => ?_)
  refine SP.ite (fun _ => SP.bind num (fun _ _ => SP.ite (fun _ => n0) (fun _ => SP.bind (numat_sp hL _) (fun _ _ => SP.bind (numat_sp hL _) (fun _ _ => SP.ite (fun _ => n1) (fun _ => n0)))))) (fun _ => ?_)
  refine SP.ite (fun _ => n5) (fun _ => SP.ite (fun _ => s5) (fun _ => SP.ite (fun _ => s5) (fun _ => SP.ite (fun _ => l5) (fun _ => SP.ite (fun _ => o5) (fun _ => ?_)))))
  refine SP.ite (fun _ => SP.bind str (fun _ _ => SP.ite (fun _ => n0) (fun _ => SP.bind (amo_sp hA _) (fun _ _ => SP.bind (sam_sp hm _) (fun _ _ => SP.ite (fun _ => n1) (fun _ => n0)))))) (fun _ => ?_)
  exact SP.ite (fun _ => SP.bind str (fun _ _ => SP.ite (fun _ => n0) (fun _ => SP.bind (hsy_sp hA hm hf hl _ _) (fun _ _ => SP.ite (fun _ => n0) (fun _ => n1))))) (fun _ => SP.ite (fun _ => o5) (fun _ => n0))
theorem mfo_sp (hA : AM Tm) (hl : LC lc) (p v : Int32) : SP (m_X0_memberFor Sd In Tn Tm Pl lc p v) (fun _ => True) := by
  have go : ∀ (fuel j : Nat) (x3 : Int32), j ≤ 4097 → 4097 - j < fuel → SP (m_X0_memberFor_12 Sd In Tn Tm Pl lc fuel p v x3 (nI j)) (fun _ => True) := by
    intro fuel
    induction fuel with
    | zero => intro j x3 _ hf; exact absurd hf (Nat.not_lt_zero _)
    | succ fuel ih =>
      intro j x3 hj hf
      simp only [m_X0_memberFor_12, nI_1]
      refine SP.bind (amo_sp hA v) (fun r hr => SP.ite (fun _ => SP.ok trivial) (fun hc => ?_))
      have hlt := lt_of_neg (by omega) hr (show j < 2 ^ 31 by omega) hc
      exact SP.bind (isd_sp hA hl _ _) (fun _ _ => SP.ite (fun _ => SP.bind (nxt_sp _) (fun _ _ => ih (j + 1) _ (by omega) (by omega))) (fun _ => SP.bind (inn_sp _) (fun _ _ => SP.ok trivial)))
  unfold m_X0_memberFor
  refine SP.bind (inn_sp _) (fun r _ => ?_)
  have := go sr_fuel 0 r (Nat.zero_le _) (by unfold sr_fuel; omega)
  rw [nI_0] at this
  exact this
theorem mis_sp (hL : L ≤ 4096) (hA : AM Tm) (hf : PS Fi) (hm : AS Am) (hl : LC lc) : ∀ (D d : Nat), d ≤ 25 → 26 - d ≤ D → ∀ p v : Int32, SP (m_X0_misfit D T Sd In Tn Tm (nI L) Pl Kd Me Fi Nx Fn Am lc p v (nI d)) (fun _ => True) := by
  intro D
  induction D with
  | zero => intro d hd hD; exact absurd hD (by omega)
  | succ D ihD =>
    intro d hd hD p v
    have h25 : ∀ p, SP (m_X0_misfit_25 (m_X0_misfit D) T Sd In Tn Tm (nI L) Pl Kd Me Fi Nx Fn Am lc v (nI d) p) (fun _ => True) := by
      intro p
      unfold m_X0_misfit_25
      refine SP.ite (fun _ => SP.ok trivial) (fun h24 => ?_)
      have hd24 : d ≤ 24 := Nat.le_of_not_lt (fun q => h24 (nI_lt (a := 24) q (by omega)))
      have ihn := ihD (d + 1) (by omega) (by omega)
      have lst : ∀ p, SP (m_X0_misfitInList (m_X0_misfit D) T Sd In Tn Tm (nI L) Pl Kd Me Fi Nx Fn Am lc p v (nI d)) (fun _ => True) := by
        intro p
        have go : ∀ (fuel j : Nat) (x4 : Int32), j ≤ 4097 → 4097 - j < fuel → SP (m_X0_misfitInList_13 (m_X0_misfit D) T Sd In Tn Tm (nI L) Pl Kd Me Fi Nx Fn Am lc fuel p v (nI d) x4 (nI j)) (fun _ => True) := by
          intro fuel
          induction fuel with
          | zero => intro j x3 _ hf; exact absurd hf (Nat.not_lt_zero _)
          | succ fuel ih =>
            intro j x3 hj hf
            simp only [m_X0_misfitInList_13, nI_1]
            refine SP.bind (amo_sp hA v) (fun r hr => SP.ite (fun _ => SP.ok trivial) (fun hc => ?_))
            have hlt := lt_of_neg (by omega) hr (show j < 2 ^ 31 by omega) hc
            exact SP.bind (ihn _ _) (fun _ _ => SP.ite (fun _ => SP.bind (nxt_sp _) (fun _ _ => ih (j + 1) _ (by omega) (by omega))) (fun _ => SP.ok trivial))
        unfold m_X0_misfitInList
        refine SP.bind (inn_sp _) (fun r _ => ?_)
        have := go sr_fuel 0 r (Nat.zero_le _) (by unfold sr_fuel; omega)
        rw [nI_0] at this
        exact this
      have mp : ∀ p, SP (m_X0_misfitInMap (m_X0_misfit D) T Sd In Tn Tm (nI L) Pl Kd Me Fi Nx Fn Am lc p v (nI d)) (fun _ => True) := by
        intro p
        have go : ∀ (fuel j : Nat) (x4 : Int32), j ≤ 4097 → 4097 - j < fuel → SP (m_X0_misfitInMap_13 (m_X0_misfit D) T Sd In Tn Tm (nI L) Pl Kd Me Fi Nx Fn Am lc fuel p v (nI d) x4 (nI j)) (fun _ => True) := by
          intro fuel
          induction fuel with
          | zero => intro j x3 _ hf; exact absurd hf (Nat.not_lt_zero _)
          | succ fuel ih =>
            intro j x3 hj hf
            simp only [m_X0_misfitInMap_13, nI_1]
            refine SP.bind (amo_sp hA v) (fun r hr => SP.ite (fun _ => SP.ok trivial) (fun hc => ?_))
            have hlt := lt_of_neg (by omega) hr (show j < 2 ^ 31 by omega) hc
            exact SP.bind (inn_sp _) (fun _ _ => SP.bind (ihn _ _) (fun _ _ => SP.ite (fun _ => SP.bind (nxt_sp _) (fun _ _ => ih (j + 1) _ (by omega) (by omega))) (fun _ => SP.ok trivial)))
        unfold m_X0_misfitInMap
        refine SP.bind (inn_sp _) (fun r _ => ?_)
        have := go sr_fuel 0 r (Nat.zero_le _) (by unfold sr_fuel; omega)
        rw [nI_0] at this
        exact this
      have rc : ∀ p, SP (m_X0_misfitInRecord (m_X0_misfit D) T Sd In Tn Tm (nI L) Pl Kd Me Fi Nx Fn Am lc p v (nI d)) (fun _ => True) := by
        intro p
        have go : ∀ (fuel j : Nat) (x4 : Int32), j ≤ 65 → 65 - j < fuel → SP (m_X0_misfitInRecord_13 (m_X0_misfit D) T Sd In Tn Tm (nI L) Pl Kd Me Fi Nx Fn Am lc fuel p v (nI d) x4 (nI j)) (fun _ => True) := by
          intro fuel
          induction fuel with
          | zero => intro j x3 _ hf; exact absurd hf (Nat.not_lt_zero _)
          | succ fuel ih =>
            intro j x3 hj hf
            simp only [m_X0_misfitInRecord_13, m_X0_misfitInRecord_63, m_X6_fieldName, nI_1]
            refine SP.bind (sam_sp hm p) (fun r hr => SP.ite (fun _ => SP.ok trivial) (fun hc => ?_))
            have hlt := lt_of_neg (by omega) hr (show j < 2 ^ 31 by omega) hc
            have nx : ∀ y0 : Int32, SP (if y0 = (-1) then ((m_X6_next Nx x3).bind fun r7 => (m_X0_misfitInRecord_13 (m_X0_misfit D) T Sd In Tn Tm (nI L) Pl Kd Me Fi Nx Fn Am lc fuel) p v (nI d) r7 (nI (j + 1))) else (some y0)) (fun _ => True) := fun y0 => SP.ite (fun _ => SP.bind (snx_sp _) (fun _ _ => ih (j + 1) _ (by omega) (by omega))) (fun _ => SP.ok trivial)
            exact SP.bind (SP.bind (ent_sp (by decide) _) (fun _ _ => SP.ok trivial)) (fun _ (_ : True) => SP.bind (mfo_sp hA hl _ _) (fun _ _ => SP.ite (fun _ => nx _) (fun _ => SP.bind (ihn _ _) (fun _ _ => nx _))))
        unfold m_X0_misfitInRecord
        refine SP.bind (fst_sp hf _) (fun r _ => ?_)
        have := go sr_fuel 0 r (Nat.zero_le _) (by unfold sr_fuel; omega)
        rw [nI_0] at this
        exact this
      refine SP.bind (iok_sp hL hA hf hm hl _ _) (fun _ _ => SP.ite (fun _ => SP.ok trivial) (fun _ => SP.bind (knd_sp _) (fun _ _ => SP.ite (fun _ => ?_) (fun _ => SP.ite (fun _ => ?_) (fun _ => SP.ite (fun _ => SP.ok trivial) (fun _ => SP.ite (fun _ => SP.ok trivial) (fun _ => SP.ite (fun _ => ?_) (fun _ => SP.ok trivial))))))))
      · exact SP.bind (fst_sp hf _) (fun _ _ => SP.bind (lst _) (fun _ _ => SP.ok trivial))
      · exact SP.bind (fst_sp hf _) (fun _ _ => SP.bind (mp _) (fun _ _ => SP.ok trivial))
      · exact SP.bind (rc _) (fun _ _ => SP.ok trivial)
    simp only [m_X0_misfit]
    exact SP.bind (knd_sp _) (fun _ _ => SP.ite (fun _ => SP.bind (fst_sp hf _) (fun _ _ => h25 _)) (fun _ => h25 _))
theorem cdf_sp (hL : L ≤ 4096) (hA : AM Tm) (hf : PS Fi) (hm : AS Am) (hl : LC lc) {lf lp : Int32} {Cf Cs : Nat → Int32} {cc : Int32} (hc : CC cc) : SP (m_X4_checkDefaults lf lp T Sd In Tn Tm (nI L) Pl Kd Me Fi Nx Fn Am lc Cf Cs cc) (fun _ => True) := by
  obtain ⟨k, hk, rfl⟩ := hc
  have go : ∀ (fuel j : Nat) (lf lp : Int32), j ≤ k → k - j < fuel → SP (m_X4_checkDefaults_18 T Sd In Tn Tm (nI L) Pl Kd Me Fi Nx Fn Am lc Cf Cs (nI k) fuel lf lp (nI j)) (fun _ => True) := by
    intro fuel
    induction fuel with
    | zero => intro j lf lp _ hf; exact absurd hf (Nat.not_lt_zero _)
    | succ fuel ih =>
      intro j lf lp hj hfu
      simp only [m_X4_checkDefaults_18, m_X11_count, m_X4_refuse, Option.bind_some, nI_1]
      refine SP.ite (fun _ => SP.ok trivial) (fun hc => ?_)
      have hlt : j < k := Nat.lt_of_not_le (fun q => hc (nI_le q (by omega)))
      have hm0 := fun p v => mis_sp (Nx := Nx) (Fn := Fn) (Pl := Pl) (Kd := Kd) (Me := Me) (T := T) (Sd := Sd) (In := In) (Tn := Tn) hL hA hf hm hl 27 0 (by omega) (by omega) p v
      simp only [nI_0] at hm0
      exact SP.bind (cfi_sp _) (fun _ _ => SP.bind (cse_sp _) (fun _ _ => SP.bind (hm0 _ _) (fun _ _ => SP.ite (fun _ => ih (j + 1) _ _ (by omega) (by omega)) (fun _ => SP.ok trivial))))
  unfold m_X4_checkDefaults
  have := go sr_fuel 0 lf lp (Nat.zero_le _) (by unfold sr_fuel; omega)
  rw [nI_0] at this
  exact this
end DFS
end
section
-- the class's reading of a schema, its print, its tape
theorem and255 (x : Int32) : ∃ k, k < 256 ∧ x &&& 255 = nI k := by
  refine ⟨(x &&& 255).toBitVec.toNat, ?_, ?_⟩
  · rw [Int32.toBitVec_and, BitVec.toNat_and]
    exact Nat.lt_of_le_of_lt Nat.and_le_right (by decide)
  · apply Int32.toBitVec_inj.mp
    show _ = BitVec.ofNat 32 _
    rw [BitVec.ofNat_toNat, BitVec.setWidth_eq]
section CSR
variable {T Sd In Tn Tm Pl Kd Me Fi Nx Na Fn Am Fd Ed : Nat → Int32} {lc sc : Int32} {Cf Cs : Nat → Int32} {cc : Int32} {kh kp ko kn : Nat → Int32} {kc : Int32} {L : Nat}
abbrev TRC : Type := (Nat → Int32) × (Nat → Int32) × (Nat → Int32) × (Nat → Int32) × Int32 × (Nat → Int32) × (Nat → Int32) × (Nat → Int32) × (Nat → Int32) × (Nat → Int32) × (Nat → Int32) × (Nat → Int32) × (Nat → Int32) × (Nat → Int32) × (Nat → Int32) × Int32 × Int32 × (Nat → Int32) × (Nat → Int32) × Int32 × (Nat → Int32) × (Nat → Int32) × (Nat → Int32) × (Nat → Int32) × Int32
/-- what holds of the text's amounts and of a schema after a reading -/
def rdPc (r : TRC) : Prop := match r with
  | (_, _, _, Tm', _, _, _, _, Fi', _, Na', Fn', Am', _, _, lc', sc', _, _, cc', _) => AM Tm' ∧ SI Fi' Na' Fn' Am' lc' sc' cc'
theorem crd_sp (hL : L ≤ 4096) (hA : AM Tm) (hf : PS Fi) (hn : PS Na) (hfn : PS Fn) (hm : AS Am) (wp lf lp : Int32) : SP (m_X4_read lf lp T Sd In Tn Tm (nI L) wp Pl Kd Me Fi Nx Na Fn Am Fd Ed lc sc Cf Cs cc kh kp ko kn kc) (fun r => rdPc r.2.2.2) := by
  have hI0 : SI Fi Na Fn Am 0 0 0 := ⟨hf, hn, hfn, hm, ⟨0, by omega, by rw [nI_0]⟩, ⟨0, by omega, by rw [nI_0]⟩, ⟨0, by omega, by rw [nI_0]⟩⟩
  unfold m_X4_read
  simp only [m_X6_clear, m_X11_clear, m_X4_refuse, m_X7_wrongPlace, Option.bind_some]
  refine SP.bind (trd_sp hL hA wp) ?_
  rintro ⟨r3, Sd3, In3, Tn3, Tm3, wp3, kh3, kp3, ko3, kn3, kc3⟩ ⟨hA3, -⟩
  dsimp only at hA3 ⊢
  refine SP.ite (fun _ => SP.ok ⟨hA3, hI0⟩) (fun _ => ?_)
  have hlk := look_sp (T := T) (Sd := Sd3) (In := In3) (Tn := Tn3) hL hA3 18 0 (by omega) (by omega) lf lp Pl Kd Me Fi Nx Na Fn Am Fd Ed 0 0 Cf Cs 0 r3 0 0 (by omega) (by rw [nI_0]) hI0
  rw [nI_0] at hlk
  refine SP.bind hlk ?_
  rintro ⟨r5, lf5, lp5, Pl5, Kd5, Me5, Fi5, Nx5, Na5, Fn5, Am5, Fd5, Ed5, lc5, sc5, Cf5, Cs5, cc5⟩ ⟨-, ⟨h5, -⟩, -⟩
  dsimp only at h5 ⊢
  refine SP.ite (fun _ => SP.ok ⟨hA3, h5⟩) (fun _ => ?_)
  exact SP.bind (cdf_sp hL hA3 h5.1 h5.2.2.2.1 h5.2.2.2.2.1 h5.2.2.2.2.2.2) (fun _ _ => SP.ok ⟨hA3, h5⟩)
theorem csm_sp (hL : L ≤ 4096) (hA : AM Tm) (hf : PS Fi) (hn : PS Na) (hfn : PS Fn) (hm : AS Am) (wp xh xp : Int32) : SP (m_X8_schema xh xp T Sd In Tn Tm (nI L) wp Pl Kd Me Fi Nx Na Fn Am Fd Ed lc sc Cf Cs cc kh kp ko kn kc) (fun r => b01 r.2.1 ∧ rdPc r.2.2.2) := by
  unfold m_X8_schema
  refine SP.bind (crd_sp hL hA hf hn hfn hm wp 0 (-1)) ?_
  rintro ⟨r1, nf, np, u⟩ h
  simp only [m_X8_schema_35, m_X4_faultPlace, Option.bind_some]
  exact SP.ite (fun _ => SP.bb (Or.inr rfl) (SP.ok ⟨Or.inr rfl, h⟩)) (fun _ => SP.bb (Or.inl rfl) (SP.ok ⟨Or.inl rfl, h⟩))
theorem cpr_sp {ps : Nat → Int64} (xh : Int32) (hl : LC lc) : SP (m_X8_print ps xh Pl lc) (fun _ => True) := by
  obtain ⟨k, hk, rfl⟩ := hl
  have go : ∀ (fuel j : Nat) (x1 : Int64), j ≤ k → k - j < fuel → SP (m_X8_print_15 ps xh Pl (nI k) fuel x1 (nI j)) (fun _ => True) := by
    intro fuel
    induction fuel with
    | zero => intro j x1 _ hf; exact absurd hf (Nat.not_lt_zero _)
    | succ fuel ih =>
      intro j x1 hj hf
      simp only [m_X8_print_15, m_X6_letterCount, Option.bind_some, nI_1]
      refine SP.ite (fun _ => SP.ok trivial) (fun hc => ?_)
      have hlt : j < k := Nat.lt_of_not_le (fun q => hc (nI_le q (by omega)))
      refine SP.bind (lat_sp ⟨k, hk, rfl⟩ _) (fun r4 _ => ?_)
      obtain ⟨i, hi, e⟩ := and255 ((x1 ^^^ r4.toInt64).toInt32)
      rw [e, bd_go hi (by decide)]
      exact ih (j + 1) _ (by omega) (by omega)
  unfold m_X8_print
  refine SP.ite (fun _ => SP.ok trivial) (fun _ => ?_)
  have := go sr_fuel 0 (-4513414715797952619) (Nat.zero_le _) (by unfold sr_fuel; omega)
  rw [nI_0] at this
  exact this
theorem csz_sp (xh : Int32) : SP (m_X8_size xh lc) (fun _ => True) := by
  unfold m_X8_size m_X6_letterCount
  exact SP.ite (fun _ => SP.ok trivial) (fun _ => SP.ok trivial)
theorem app_sp (hL : L + 4 ≤ 4096) (a : Int32) : SP (m_X7_append T (nI L) a) (fun r => r.2 = nI (L + 4)) := by
  have e0 : (24 : Int32) + -8 = 16 := by decide +kernel
  have e1 : (16 : Int32) + -8 = 8 := by decide +kernel
  have e2 : (8 : Int32) + -8 = 0 := by decide +kernel
  have e3 : (0 : Int32) + -8 = -8 := by decide +kernel
  have step : ∀ (f : Nat) (T : Nat → Int32) (i : Nat) (x : Int32), i < 4096 → ¬ x < 0 → ∃ T', m_X7_append_3 (f + 1) T (nI i) a x = m_X7_append_3 f T' (nI (i + 1)) a (x + -8) := by
    intro f T i x hi hx
    simp only [m_X7_append_3, if_neg hx, nI_1]
    rw [if_neg (show ¬ Int32.ofNat 4096 ≤ nI i from nI_ge (b := 4096) hi (by omega)), bd_go hi (by decide)]
    exact ⟨_, rfl⟩
  unfold m_X7_append
  obtain ⟨f, hf⟩ : ∃ f, sr_fuel = f + 1 + 1 + 1 + 1 + 1 := ⟨99995, rfl⟩
  rw [hf]
  obtain ⟨T1, h1⟩ := step (f + 1 + 1 + 1 + 1) T L 24 (by omega) (by decide)
  obtain ⟨T2, h2⟩ := step (f + 1 + 1 + 1) T1 (L + 1) 16 (by omega) (by decide)
  obtain ⟨T3, h3⟩ := step (f + 1 + 1) T2 (L + 1 + 1) 8 (by omega) (by decide)
  obtain ⟨T4, h4⟩ := step (f + 1) T3 (L + 1 + 1 + 1) 0 (by omega) (by decide)
  rw [h1, e0, h2, e1, h3, e2, h4, e3]
  simp only [m_X7_append_3, if_pos (show (-8 : Int32) < 0 by decide)]
  exact SP.ok rfl
theorem cfe_ok (hL : L + 20 ≤ 4096) (a0 a1 a2 a3 a4 : Int32) : ∃ T', m_X8_feed T (nI L) a0 a1 a2 a3 a4 = some (.ok (nI (L + 20), (T', nI (L + 20)))) := by
  have e20 : nI L + 20 = nI (L + 20) := nI_add L 20
  have h : SP (m_X8_feed T (nI L) a0 a1 a2 a3 a4) (fun r => ∃ T', r = .ok (nI (L + 20), (T', nI (L + 20)))) := by
    unfold m_X8_feed
    simp only [m_X7_length, Option.bind_some]
    rw [e20, if_pos (show nI (L + 20) ≤ 4096 from nI_le (b := 4096) hL (by omega))]
    refine SP.bind (app_sp (by omega) a0) ?_
    rintro ⟨T1, l1⟩ h1
    dsimp only at h1; subst h1
    refine SP.bind (app_sp (by omega) a1) ?_
    rintro ⟨T2, l2⟩ h2
    dsimp only at h2; subst h2
    refine SP.bind (app_sp (by omega) a2) ?_
    rintro ⟨T3, l3⟩ h3
    dsimp only at h3; subst h3
    refine SP.bind (app_sp (by omega) a3) ?_
    rintro ⟨T4, l4⟩ h4
    dsimp only at h4; subst h4
    refine SP.bind (app_sp (by omega) a4) ?_
    rintro ⟨T5, l5⟩ h5
    dsimp only at h5; subst h5
    exact SP.ok ⟨T5, rfl⟩
  obtain ⟨r, h1, T', h2⟩ := h
  exact ⟨T', by rw [h1, h2]⟩
theorem cfe_no (h0 : L ≤ 4096) (hL : ¬ L + 20 ≤ 4096) (a0 a1 a2 a3 a4 : Int32) : m_X8_feed T (nI L) a0 a1 a2 a3 a4 = some (.error (T, nI L)) := by
  have e20 : nI L + 20 = nI (L + 20) := nI_add L 20
  unfold m_X8_feed
  simp only [m_X7_length, Option.bind_some]
  rw [e20, if_neg (show ¬ nI (L + 20) ≤ 4096 from nI_ge (a := 4096) (by omega) (by omega))]
theorem cen_ok {a : Nat} (h0 : L ≤ 4096) (ha : a ≤ L) : m_X8_end (nI L) (nI a) = some (.ok ((), nI a)) := by
  have e1 : ¬ nI a < 0 := nI_pos (by omega)
  have e2 : nI a ≤ nI L := nI_le ha (by omega)
  unfold m_X8_end m_X7_length m_X7_cut
  simp only [Option.bind_some, if_neg e1, if_pos e2, if_neg (show ¬ nI L < nI a from Int32.not_lt.mpr e2)]
theorem cen_no {x : Int32} (h0 : L ≤ 4096) (hx : ∀ a, a ≤ L → x ≠ nI a) : m_X8_end (nI L) x = some (.error (nI L)) := by
  unfold m_X8_end m_X7_length m_X8_end_15
  by_cases h : x < 0
  · rw [if_pos h]
  · obtain ⟨i, hi, rfl⟩ := nI_of h
    rw [if_neg h, Option.bind_some, if_neg]
    exact fun q => absurd rfl (hx i (Nat.le_of_not_lt (fun z => nI_ge z hi q)))
theorem cle_sp (hl : LC lc) (xh a : Int32) : SP (m_X8_letter xh Pl lc a) (fun _ => True) := by
  unfold m_X8_letter m_X8_letter_22 m_X6_letterCount
  exact SP.ite (fun _ => SP.ok trivial) (fun _ => SP.ite (fun _ => SP.ok trivial) (fun _ => SP.ite (fun _ => SP.bind (lat_sp hl _) (fun _ _ => SP.ok trivial)) (fun _ => SP.ok trivial)))
end CSR
end
section
theorem sym.mono {M M' : Nat} {x : Int32} (h : sym M x) (hM : M ≤ M') : sym M' x := h.imp id (fun ⟨k, hk, e⟩ => ⟨k, Nat.le_trans hk hM, e⟩)
-- the class's pairs, two schemas
section PAI
variable {Pl Kd Me Fi Nx Na Fn Am Fd Ed Pv Kv Mv Fv Xv Nv Gv Av Dv Ev : Nat → Int32} {lc lv : Int32}
theorem sme_sp (hf : PS Fi) (hn : PS Na) (hm : AS Am) (hl : LC lc) (hfv : PS Fv) (hnv : PS Nv) (hmv : AS Av) (hlv : LC lv) (p q : Int32) : SP (m_X5_isSame Pl Kd Me Na Am lc Pv Kv Mv Nv Av lv p q) b01 := by
  have n0 : SP (some (0 : Int32)) b01 := SP.ok (Or.inl rfl)
  have n1 : SP (some (1 : Int32)) b01 := SP.ok (Or.inr rfl)
  have h100 : SP (m_X5_isSame_100 Pl Kd Me Na Am lc Pv Kv Mv Nv Av lv p q) b01 := by
    unfold m_X5_isSame_100
    exact SP.bind (snm_sp hn _) (fun _ h1 => SP.bind (snm_sp hnv _) (fun _ h2 => SP.bind (ssn_sp hl hlv (by omega) h1 h2) (fun _ h => SP.bb h (SP.ok h))))
  have h36 : ∀ a b, SP (m_X5_isSame_36 Pl Kd Me Na Am lc Pv Kv Mv Nv Av lv a b) b01 := by
    intro a b
    unfold m_X5_isSame_36
    repeat' (first | exact n0 | exact n1 | refine SP.ite (fun _ => ?_) (fun _ => ?_))
  unfold m_X5_isSame
  exact SP.bind (knd_sp _) (fun _ _ => SP.bind (knd_sp _) (fun _ _ => SP.ite (fun _ => SP.bind (nam_sp _) (fun _ _ => SP.ite (fun _ => n1) (fun _ => SP.ite (fun _ => SP.bind (sam_sp hm _) (fun _ _ => SP.bind (sam_sp hmv _) (fun _ _ => SP.ite (fun _ => h100) (fun _ => n0)))) (fun _ => h100)))) (fun _ => SP.ite (fun _ => SP.ite (fun _ => n1) (fun _ => h36 _ _)) (fun _ => h36 _ _))))
theorem mch_sp (hf : PS Fi) (hn : PS Na) (hm : AS Am) (hl : LC lc) (hfv : PS Fv) (hnv : PS Nv) (hmv : AS Av) (hlv : LC lv) (p q : Int32) : SP (m_X5_isMatch Pl Kd Me Fi Na Am lc Pv Kv Mv Fv Nv Av lv p q) b01 := by
  have n0 : SP (some (0 : Int32)) b01 := SP.ok (Or.inl rfl)
  have n1 : SP (some (1 : Int32)) b01 := SP.ok (Or.inr rfl)
  have go : ∀ (fuel j : Nat) (x3 x4 : Int32), j ≤ 17 → 17 - j < fuel → SP (m_X5_isMatch_8 Pl Kd Me Fi Na Am lc Pv Kv Mv Fv Nv Av lv fuel x3 x4 (nI j)) b01 := by
    intro fuel
    induction fuel with
    | zero => intro j x3 x4 _ hf; exact absurd hf (Nat.not_lt_zero _)
    | succ fuel ih =>
      intro j x3 x4 hj hfu
      simp only [m_X5_isMatch_8, m_X5_isMatch_84, m_X5_isMatch_76, nI_1]
      refine SP.ite (fun _ => n0) (fun hc => ?_)
      have hlt : j ≤ 16 := Nat.le_of_not_lt (fun q => hc (nI_lt (a := 16) q (by omega)))
      have h76 : SP ((m_X5_isSame Pl Kd Me Na Am lc Pv Kv Mv Nv Av lv x3 x4).bind fun r7 => (if r7 = 0 ∨ r7 = 1 then (some r7) else none)) b01 := SP.bind (sme_sp hf hn hm hl hfv hnv hmv hlv x3 x4) (fun _ h => SP.bb h (SP.ok h))
      have h84 : SP ((m_X6_first Me Fi x3).bind fun r10 => ((m_X6_first Mv Fv x4).bind fun r11 => m_X5_isMatch_8 Pl Kd Me Fi Na Am lc Pv Kv Mv Fv Nv Av lv fuel r10 r11 (nI (j + 1)))) b01 := SP.bind (fst_sp hf _) (fun _ _ => SP.bind (fst_sp hfv _) (fun _ _ => ih (j + 1) _ _ (by omega) (by omega)))
      exact SP.bind (knd_sp _) (fun _ _ => SP.ite (fun _ => n1) (fun _ => SP.bind (knd_sp _) (fun _ _ => SP.ite (fun _ => n1) (fun _ => SP.bind (knd_sp _) (fun _ _ => SP.ite (fun _ => SP.ite (fun _ => h84) (fun _ => SP.ite (fun _ => h84) (fun _ => h76))) (fun _ => h76))))))
  unfold m_X5_isMatch
  have := go sr_fuel 0 p q (Nat.zero_le _) (by unfold sr_fuel; omega)
  rw [nI_0] at this
  exact this
theorem fmt_sp (hf : PS Fi) (hn : PS Na) (hm : AS Am) (hl : LC lc) (hfv : PS Fv) (hnv : PS Nv) (hmv : AS Av) (hlv : LC lv) (p q : Int32) : SP (m_X5_firstMatch Pl Kd Me Fi Na Am lc Pv Kv Mv Fv Xv Nv Av lv p q) (fun _ => True) := by
  have go : ∀ (fuel j : Nat) (x3 : Int32), j ≤ 65 → 65 - j < fuel → SP (m_X5_firstMatch_12 Pl Kd Me Fi Na Am lc Pv Kv Mv Fv Xv Nv Av lv fuel p q x3 (nI j)) (fun _ => True) := by
    intro fuel
    induction fuel with
    | zero => intro j x3 _ hf; exact absurd hf (Nat.not_lt_zero _)
    | succ fuel ih =>
      intro j x3 hj hfu
      simp only [m_X5_firstMatch_12, nI_1]
      refine SP.bind (sam_sp hmv _) (fun r hr => SP.ite (fun _ => SP.ok trivial) (fun hc => ?_))
      have hlt := lt_of_neg (by omega) hr (show j < 2 ^ 31 by omega) hc
      exact SP.bind (mch_sp hf hn hm hl hfv hnv hmv hlv _ _) (fun _ _ => SP.ite (fun _ => SP.bind (snx_sp _) (fun _ _ => ih (j + 1) _ (by omega) (by omega))) (fun _ => SP.ok trivial))
  unfold m_X5_firstMatch
  refine SP.bind (fst_sp hfv _) (fun r _ => ?_)
  have := go sr_fuel 0 r (Nat.zero_le _) (by unfold sr_fuel; omega)
  rw [nI_0] at this
  exact this
theorem hsb_sp (hf : PS Fi) (hn : PS Na) (hm : AS Am) (hl : LC lc) (hfv : PS Fv) (hnv : PS Nv) (hmv : AS Av) (hlv : LC lv) (p : Int32) {q : Int32} (hq : sym 5000 q) : SP (m_X5_hasSymbol Pl lc Pv Mv Fv Av lv p q) b01 := by
  have go : ∀ (fuel j : Nat) (x3 : Int32), sym (4096 + 3 * j) x3 → j ≤ 65 → 65 - j < fuel → SP (m_X5_hasSymbol_12 Pl lc Pv Mv Fv Av lv fuel p q x3 (nI j)) b01 := by
    intro fuel
    induction fuel with
    | zero => intro j x3 _ _ hf; exact absurd hf (Nat.not_lt_zero _)
    | succ fuel ih =>
      intro j x3 h3 hj hfu
      simp only [m_X5_hasSymbol_12, nI_1]
      refine SP.bind (sam_sp hmv _) (fun r hr => SP.ite (fun _ => SP.ok (Or.inl rfl)) (fun hc => ?_))
      have hlt := lt_of_neg (by omega) hr (show j < 2 ^ 31 by omega) hc
      exact SP.bind (ssn_sp hl hlv (by omega) hq (h3.mono (by omega))) (fun _ _ => SP.ite (fun _ => SP.bind (nsy_sp hlv (by omega) (by omega) h3) (fun _ h => ih (j + 1) _ (by rw [show 4096 + 3 * (j + 1) = 4096 + 3 * j + 3 by omega]; exact h) (by omega) (by omega))) (fun _ => SP.ok (Or.inr rfl)))
  unfold m_X5_hasSymbol
  refine SP.bind (fst_sp hfv _) (fun r hr => ?_)
  have := go sr_fuel 0 r (by rw [Nat.mul_zero, Nat.add_zero]; exact hr) (Nat.zero_le _) (by unfold sr_fuel; omega)
  rw [nI_0] at this
  exact this
theorem has_sp (hf : PS Fi) (hn : PS Na) (hm : AS Am) (hl : LC lc) (hfv : PS Fv) (hnv : PS Nv) (hmv : AS Av) (hlv : LC lv) (p q : Int32) : SP (m_X5_hasAllSymbols Pl Me Fi Am lc Pv Mv Fv Av lv p q) b01 := by
  have go : ∀ (fuel j : Nat) (x3 : Int32), sym (4096 + 3 * j) x3 → j ≤ 65 → 65 - j < fuel → SP (m_X5_hasAllSymbols_12 Pl Me Fi Am lc Pv Mv Fv Av lv fuel p q x3 (nI j)) b01 := by
    intro fuel
    induction fuel with
    | zero => intro j x3 _ _ hf; exact absurd hf (Nat.not_lt_zero _)
    | succ fuel ih =>
      intro j x3 h3 hj hfu
      simp only [m_X5_hasAllSymbols_12, nI_1]
      refine SP.bind (sam_sp hm _) (fun r hr => SP.ite (fun _ => SP.ok (Or.inr rfl)) (fun hc => ?_))
      have hlt := lt_of_neg (by omega) hr (show j < 2 ^ 31 by omega) hc
      exact SP.bind (hsb_sp hf hn hm hl hfv hnv hmv hlv _ (h3.mono (by omega))) (fun _ _ => SP.ite (fun _ => SP.ok (Or.inl rfl)) (fun _ => SP.bind (nsy_sp hl (by omega) (by omega) h3) (fun _ h => ih (j + 1) _ (by rw [show 4096 + 3 * (j + 1) = 4096 + 3 * j + 3 by omega]; exact h) (by omega) (by omega))))
  unfold m_X5_hasAllSymbols
  refine SP.bind (fst_sp hf _) (fun r hr => ?_)
  have := go sr_fuel 0 r (by rw [Nat.mul_zero, Nat.add_zero]; exact hr) (Nat.zero_le _) (by unfold sr_fuel; omega)
  rw [nI_0] at this
  exact this
theorem ask_sp {Cf Cs : Nat → Int32} {cc : Int32} (h : CC cc) (p q : Int32) : SP (m_X5_ask Cf Cs cc p q) (fun r => CC r.2.2) := by
  unfold m_X5_ask
  exact SP.bind (cha_sp h _ _) (fun _ _ => SP.ite (fun _ => SP.bind (cad_sp h _ _) (fun _ h => SP.ok h)) (fun _ => SP.ok h))
theorem wfd_sp (hf : PS Fi) (hn : PS Na) (hm : AS Am) (hl : LC lc) (hfv : PS Fv) (hnv : PS Nv) (hmv : AS Av) (hlv : LC lv) (hfn : PS Fn) (p : Int32) {q : Int32} (hq : sym 4096 q) : SP (m_X5_writerField Pl Me Fi Nx Fn Am lc Pv lv p q) (fun _ => True) := by
  have go : ∀ (fuel j : Nat) (x3 : Int32), j ≤ 65 → 65 - j < fuel → SP (m_X5_writerField_12 Pl Me Fi Nx Fn Am lc Pv lv fuel p q x3 (nI j)) (fun _ => True) := by
    intro fuel
    induction fuel with
    | zero => intro j x3 _ hf; exact absurd hf (Nat.not_lt_zero _)
    | succ fuel ih =>
      intro j x3 hj hfu
      simp only [m_X5_writerField_12, nI_1]
      refine SP.bind (sam_sp hm _) (fun r hr => SP.ite (fun _ => SP.ok trivial) (fun hc => ?_))
      have hlt := lt_of_neg (by omega) hr (show j < 2 ^ 31 by omega) hc
      exact SP.bind (sfn_sp hfn _) (fun _ h4 => SP.bind (ssn_sp hl hlv (by omega) h4 hq) (fun _ _ => SP.ite (fun _ => SP.bind (snx_sp _) (fun _ _ => ih (j + 1) _ (by omega) (by omega))) (fun _ => SP.ok trivial)))
  unfold m_X5_writerField
  refine SP.bind (fst_sp hf _) (fun r _ => ?_)
  have := go sr_fuel 0 r (Nat.zero_le _) (by unfold sr_fuel; omega)
  rw [nI_0] at this
  exact this
theorem ift_sp (hf : PS Fi) (hn : PS Na) (hm : AS Am) (hl : LC lc) (hfv : PS Fv) (hnv : PS Nv) (hmv : AS Av) (hlv : LC lv) : ∀ (D d : Nat), d ≤ 35 → 36 - d ≤ D → ∀ (Cf Cs : Nat → Int32) (cc p q : Int32), CC cc → SP (m_X5_isFit D Pl Kd Me Fi Nx Na Am lc Pv Kv Mv Fv Xv Nv Av Ev lv Cf Cs cc p q (nI d)) (fun r => b01 r.1 ∧ CC r.2.2.2) := by
  intro D
  induction D with
  | zero => intro d hd hD; exact absurd hD (by omega)
  | succ D ihD =>
    intro d hd hD Cf Cs cc p q hc
    have n0 : ∀ (Cf Cs : Nat → Int32) (cc : Int32), CC cc → SP (some ((0 : Int32), Cf, Cs, cc)) (fun r => b01 r.1 ∧ CC r.2.2.2) := fun _ _ _ h => SP.ok ⟨Or.inl rfl, h⟩
    have n1 : ∀ (Cf Cs : Nat → Int32) (cc : Int32), CC cc → SP (some ((1 : Int32), Cf, Cs, cc)) (fun r => b01 r.1 ∧ CC r.2.2.2) := fun _ _ _ h => SP.ok ⟨Or.inr rfl, h⟩
    simp only [m_X5_isFit]
    refine SP.ite (fun h34 => ?_) (fun _ => n0 _ _ _ hc)
    have hd34 : d ≤ 34 := Nat.le_of_not_lt (fun q => nI_ge (a := 34) q (by omega) h34)
    have ihn := ihD (d + 1) (by omega) (by omega)
    have h168 : ∀ (Cf Cs : Nat → Int32) (cc x4 : Int32), CC cc → SP (m_X5_isFit_168 (m_X5_isFit D) Pl Kd Me Fi Nx Na Am lc Pv Kv Mv Fv Xv Nv Av Ev lv Cf Cs cc p q x4) (fun r => b01 r.1 ∧ CC r.2.2.2) := by
      intro Cf Cs cc x4 hc
      unfold m_X5_isFit_168
      exact SP.ite (fun _ => SP.bind (hed_sp _) (fun _ _ => SP.ite (fun _ => SP.bind (has_sp hf hn hm hl hfv hnv hmv hlv _ _) (fun _ _ => SP.ite (fun _ => n0 _ _ _ hc) (fun _ => n1 _ _ _ hc))) (fun _ => n1 _ _ _ hc))) (fun _ => n1 _ _ _ hc)
    have h130 : ∀ x4, SP (m_X5_isFit_130 (m_X5_isFit D) Pl Kd Me Fi Nx Na Am lc Pv Kv Mv Fv Xv Nv Av Ev lv Cf Cs cc p q x4) (fun r => b01 r.1 ∧ CC r.2.2.2) := by
      intro x4
      unfold m_X5_isFit_130
      exact SP.bind (sme_sp hf hn hm hl hfv hnv hmv hlv _ _) (fun _ _ => SP.ite (fun _ => n0 _ _ _ hc) (fun _ => SP.ite (fun _ => SP.bind (mea_sp _) (fun _ _ => SP.bind (mea_sp _) (fun _ _ => SP.bind (ask_sp hc _ _) (fun _ h => h168 _ _ _ _ h)))) (fun _ => h168 _ _ _ _ hc)))
    have h106 : SP (m_X5_isFit_106 (m_X5_isFit D) Pl Kd Me Fi Nx Na Am lc Pv Kv Mv Fv Xv Nv Av Ev lv Cf Cs cc p q (nI d)) (fun r => b01 r.1 ∧ CC r.2.2.2) := by
      unfold m_X5_isFit_106
      simp only [nI_1]
      exact SP.bind (fst_sp hf _) (fun _ _ => SP.bind (fst_sp hfv _) (fun _ _ => SP.bind (ihn _ _ _ _ _ hc) (fun _ h => SP.bb h.1 (SP.ok h))))
    have hev : SP (m_X5_isEveryBranchFit (m_X5_isFit D) Pl Kd Me Fi Nx Na Am lc Pv Kv Mv Fv Xv Nv Av Ev lv Cf Cs cc p q (nI d)) (fun r => b01 r.1 ∧ CC r.2.2.2) := by
      have go : ∀ (fuel j : Nat) (Cf Cs : Nat → Int32) (cc x4 : Int32), CC cc → j ≤ 65 → 65 - j < fuel → SP (m_X5_isEveryBranchFit_13 (m_X5_isFit D) Pl Kd Me Fi Nx Na Am lc Pv Kv Mv Fv Xv Nv Av Ev lv fuel Cf Cs cc p q (nI d) x4 (nI j)) (fun r => b01 r.1 ∧ CC r.2.2.2) := by
        intro fuel
        induction fuel with
        | zero => intro j Cf Cs cc x4 _ _ hf; exact absurd hf (Nat.not_lt_zero _)
        | succ fuel ih =>
          intro j Cf Cs cc x4 hc hj hfu
          simp only [m_X5_isEveryBranchFit_13, nI_1]
          refine SP.bind (sam_sp hm _) (fun r hr => SP.ite (fun _ => n1 _ _ _ hc) (fun hcc => ?_))
          have hlt := lt_of_neg (by omega) hr (show j < 2 ^ 31 by omega) hcc
          exact SP.bind (ihn _ _ _ _ _ hc) (fun _ h => SP.ite (fun _ => n0 _ _ _ h.2) (fun _ => SP.bind (snx_sp _) (fun _ _ => ih (j + 1) _ _ _ _ h.2 (by omega) (by omega))))
      unfold m_X5_isEveryBranchFit
      refine SP.bind (fst_sp hf _) (fun r _ => ?_)
      have := go sr_fuel 0 Cf Cs cc r hc (Nat.zero_le _) (by unfold sr_fuel; omega)
      rw [nI_0] at this
      exact this
    simp only [nI_1]
    refine SP.bind (knd_sp _) (fun _ _ => SP.ite (fun _ => SP.bind hev (fun _ h => SP.bb h.1 (SP.ok h))) (fun _ => SP.bind (knd_sp _) (fun _ _ => SP.ite (fun _ => ?_) (fun _ => SP.bind (knd_sp _) (fun _ _ => SP.ite (fun _ => SP.ite (fun _ => h106) (fun _ => SP.ite (fun _ => h106) (fun _ => h130 _))) (fun _ => h130 _))))))
    exact SP.bind (fmt_sp hf hn hm hl hfv hnv hmv hlv _ _) (fun _ _ => SP.ite (fun _ => n0 _ _ _ hc) (fun _ => SP.bind (ihn _ _ _ _ _ hc) (fun _ h => SP.ite (fun _ => n0 _ _ _ h.2) (fun _ => n1 _ _ _ h.2))))
theorem ffi_sp (hf : PS Fi) (hn : PS Na) (hm : AS Am) (hl : LC lc) (hfv : PS Fv) (hnv : PS Nv) (hmv : AS Av) (hlv : LC lv) (hfn : PS Fn) (hgv : PS Gv) (p q : Int32) {Cf Cs : Nat → Int32} {cc : Int32} (hc : CC cc) : SP (m_X5_isFieldsFit Pl Kd Me Fi Nx Na Fn Am lc Pv Kv Mv Fv Xv Nv Gv Av Dv Ev lv Cf Cs cc p q) (fun r => b01 r.1 ∧ CC r.2.2.2) := by
  have n0 : ∀ (Cf Cs : Nat → Int32) (cc : Int32), CC cc → SP (some ((0 : Int32), Cf, Cs, cc)) (fun r => b01 r.1 ∧ CC r.2.2.2) := fun _ _ _ h => SP.ok ⟨Or.inl rfl, h⟩
  have go : ∀ (fuel j : Nat) (Cf Cs : Nat → Int32) (cc x3 : Int32), CC cc → j ≤ 65 → 65 - j < fuel → SP (m_X5_isFieldsFit_12 Pl Kd Me Fi Nx Na Fn Am lc Pv Kv Mv Fv Xv Nv Gv Av Dv Ev lv fuel Cf Cs cc p q x3 (nI j)) (fun r => b01 r.1 ∧ CC r.2.2.2) := by
    intro fuel
    induction fuel with
    | zero => intro j Cf Cs cc x3 _ _ hf; exact absurd hf (Nat.not_lt_zero _)
    | succ fuel ih =>
      intro j Cf Cs cc x3 hc hj hfu
      simp only [m_X5_isFieldsFit_12, m_X5_isFieldsFit_70, nI_1]
      refine SP.bind (sam_sp hmv _) (fun r hr => SP.ite (fun _ => SP.ok ⟨Or.inr rfl, hc⟩) (fun hcc => ?_))
      have hlt := lt_of_neg (by omega) hr (show j < 2 ^ 31 by omega) hcc
      have nx : ∀ (Cf Cs : Nat → Int32) (cc : Int32), CC cc → SP ((m_X6_next Xv x3).bind fun r5 => m_X5_isFieldsFit_12 Pl Kd Me Fi Nx Na Fn Am lc Pv Kv Mv Fv Xv Nv Gv Av Dv Ev lv fuel Cf Cs cc p q r5 (nI (j + 1))) (fun r => b01 r.1 ∧ CC r.2.2.2) := fun _ _ _ h => SP.bind (snx_sp _) (fun _ _ => ih (j + 1) _ _ _ _ h (by omega) (by omega))
      have hfit := fun p q => ift_sp (Pl := Pl) (Kd := Kd) (Me := Me) (Nx := Nx) (Pv := Pv) (Kv := Kv) (Mv := Mv) (Xv := Xv) (Ev := Ev) hf hn hm hl hfv hnv hmv hlv 37 0 (by omega) (by omega) Cf Cs cc p q hc
      simp only [nI_0] at hfit
      exact SP.bind (hfd_sp _) (fun _ _ => SP.ite (fun _ => SP.bind (sfn_sp hgv _) (fun _ h7 => SP.bind (wfd_sp hf hn hm hl hfv hnv hmv hlv hfn _ h7) (fun _ _ => SP.ite (fun _ => n0 _ _ _ hc) (fun _ => SP.bind (hfit _ _) (fun _ h => SP.ite (fun _ => n0 _ _ _ h.2) (fun _ => nx _ _ _ h.2)))))) (fun _ => nx _ _ _ hc))
  unfold m_X5_isFieldsFit
  refine SP.bind (fst_sp hfv _) (fun r _ => ?_)
  have := go sr_fuel 0 Cf Cs cc r hc (Nat.zero_le _) (by unfold sr_fuel; omega)
  rw [nI_0] at this
  exact this
theorem wft_sp (hf : PS Fi) (hn : PS Na) (hm : AS Am) (hl : LC lc) (hfv : PS Fv) (hnv : PS Nv) (hmv : AS Av) (hlv : LC lv) (hfn : PS Fn) (hgv : PS Gv) {Cf Cs : Nat → Int32} {cc : Int32} : SP (m_X5_isWholeFit Pl Kd Me Fi Nx Na Fn Am lc Pv Kv Mv Fv Xv Nv Gv Av Dv Ev lv Cf Cs cc) (fun r => b01 r.1 ∧ CC r.2.2.2) := by
  have go : ∀ (fuel j : Nat) (Cf Cs : Nat → Int32) (cc : Int32), CC cc → j ≤ 128 → 128 - j < fuel → SP (m_X5_isWholeFit_21 Pl Kd Me Fi Nx Na Fn Am lc Pv Kv Mv Fv Xv Nv Gv Av Dv Ev lv fuel Cf Cs cc (nI j)) (fun r => b01 r.1 ∧ CC r.2.2.2) := by
    intro fuel
    induction fuel with
    | zero => intro j Cf Cs cc _ _ hf; exact absurd hf (Nat.not_lt_zero _)
    | succ fuel ih =>
      intro j Cf Cs cc hc hj hfu
      simp only [m_X5_isWholeFit_21, m_X11_count, Option.bind_some, nI_1]
      refine SP.ite (fun _ => SP.ok ⟨Or.inr rfl, hc⟩) (fun _ => SP.ite (fun _ => SP.ok ⟨Or.inr rfl, hc⟩) (fun h128 => ?_))
      have hlt : j < 128 := Nat.lt_of_not_le (fun q => h128 (nI_le (a := 128) q (by omega)))
      exact SP.bind (cfi_sp _) (fun _ _ => SP.bind (cse_sp _) (fun _ _ => SP.bind (ffi_sp hf hn hm hl hfv hnv hmv hlv hfn hgv _ _ hc) (fun _ h => SP.ite (fun _ => SP.ok ⟨Or.inl rfl, h.2⟩) (fun _ => ih (j + 1) _ _ _ h.2 (by omega) (by omega)))))
  have hc0 : CC 0 := ⟨0, by omega, by rw [nI_0]⟩
  have hfit := ift_sp (Pl := Pl) (Kd := Kd) (Me := Me) (Nx := Nx) (Pv := Pv) (Kv := Kv) (Mv := Mv) (Xv := Xv) (Ev := Ev) hf hn hm hl hfv hnv hmv hlv 37 0 (by omega) (by omega) Cf Cs 0 0 0 hc0
  rw [nI_0] at hfit
  unfold m_X5_isWholeFit
  simp only [m_X11_clear, Option.bind_some]
  refine SP.bind hfit (fun r h => SP.ite (fun _ => SP.ok ⟨Or.inl rfl, h.2⟩) (fun _ => ?_))
  have := go sr_fuel 0 r.2.1 r.2.2.1 r.2.2.2 h.2 (Nat.zero_le _) (by unfold sr_fuel; omega)
  rw [nI_0] at this
  exact this
end PAI
end
section
-- the class's pairs, one schema twice
section PAI1
variable {Pl Kd Me Fi Nx Na Fn Am Fd Ed Pv Kv Mv Fv Xv Nv Gv Av Dv Ev : Nat → Int32} {lc lv : Int32}
theorem sme_sp1 (hf : PS Fi) (hn : PS Na) (hm : AS Am) (hl : LC lc) (p q : Int32) : SP (m_X5_isSame1 Pl Kd Me Na Am lc p q) b01 := by
  have n0 : SP (some (0 : Int32)) b01 := SP.ok (Or.inl rfl)
  have n1 : SP (some (1 : Int32)) b01 := SP.ok (Or.inr rfl)
  have h100 : SP (m_X5_isSame1_100 Pl Kd Me Na Am lc p q) b01 := by
    unfold m_X5_isSame1_100
    exact SP.bind (snm_sp hn _) (fun _ h1 => SP.bind (snm_sp hn _) (fun _ h2 => SP.bind (ssn_sp hl hl (by omega) h1 h2) (fun _ h => SP.bb h (SP.ok h))))
  have h36 : ∀ a b, SP (m_X5_isSame1_36 Pl Kd Me Na Am lc a b) b01 := by
    intro a b
    unfold m_X5_isSame1_36
    repeat' (first | exact n0 | exact n1 | refine SP.ite (fun _ => ?_) (fun _ => ?_))
  unfold m_X5_isSame1
  exact SP.bind (knd_sp _) (fun _ _ => SP.bind (knd_sp _) (fun _ _ => SP.ite (fun _ => SP.bind (nam_sp _) (fun _ _ => SP.ite (fun _ => n1) (fun _ => SP.ite (fun _ => SP.bind (sam_sp hm _) (fun _ _ => SP.bind (sam_sp hm _) (fun _ _ => SP.ite (fun _ => h100) (fun _ => n0)))) (fun _ => h100)))) (fun _ => SP.ite (fun _ => SP.ite (fun _ => n1) (fun _ => h36 _ _)) (fun _ => h36 _ _))))
theorem mch_sp1 (hf : PS Fi) (hn : PS Na) (hm : AS Am) (hl : LC lc) (p q : Int32) : SP (m_X5_isMatch1 Pl Kd Me Fi Na Am lc p q) b01 := by
  have n0 : SP (some (0 : Int32)) b01 := SP.ok (Or.inl rfl)
  have n1 : SP (some (1 : Int32)) b01 := SP.ok (Or.inr rfl)
  have go : ∀ (fuel j : Nat) (x3 x4 : Int32), j ≤ 17 → 17 - j < fuel → SP (m_X5_isMatch1_8 Pl Kd Me Fi Na Am lc fuel x3 x4 (nI j)) b01 := by
    intro fuel
    induction fuel with
    | zero => intro j x3 x4 _ hf; exact absurd hf (Nat.not_lt_zero _)
    | succ fuel ih =>
      intro j x3 x4 hj hfu
      simp only [m_X5_isMatch1_8, m_X5_isMatch1_84, m_X5_isMatch1_76, nI_1]
      refine SP.ite (fun _ => n0) (fun hc => ?_)
      have hlt : j ≤ 16 := Nat.le_of_not_lt (fun q => hc (nI_lt (a := 16) q (by omega)))
      have h76 : SP ((m_X5_isSame1 Pl Kd Me Na Am lc x3 x4).bind fun r7 => (if r7 = 0 ∨ r7 = 1 then (some r7) else none)) b01 := SP.bind (sme_sp1 hf hn hm hl x3 x4) (fun _ h => SP.bb h (SP.ok h))
      have h84 : SP ((m_X6_first Me Fi x3).bind fun r10 => ((m_X6_first Me Fi x4).bind fun r11 => m_X5_isMatch1_8 Pl Kd Me Fi Na Am lc fuel r10 r11 (nI (j + 1)))) b01 := SP.bind (fst_sp hf _) (fun _ _ => SP.bind (fst_sp hf _) (fun _ _ => ih (j + 1) _ _ (by omega) (by omega)))
      exact SP.bind (knd_sp _) (fun _ _ => SP.ite (fun _ => n1) (fun _ => SP.bind (knd_sp _) (fun _ _ => SP.ite (fun _ => n1) (fun _ => SP.bind (knd_sp _) (fun _ _ => SP.ite (fun _ => SP.ite (fun _ => h84) (fun _ => SP.ite (fun _ => h84) (fun _ => h76))) (fun _ => h76))))))
  unfold m_X5_isMatch1
  have := go sr_fuel 0 p q (Nat.zero_le _) (by unfold sr_fuel; omega)
  rw [nI_0] at this
  exact this
theorem fmt_sp1 (hf : PS Fi) (hn : PS Na) (hm : AS Am) (hl : LC lc) (p q : Int32) : SP (m_X5_firstMatch1 Pl Kd Me Fi Nx Na Am lc p q) (fun _ => True) := by
  have go : ∀ (fuel j : Nat) (x3 : Int32), j ≤ 65 → 65 - j < fuel → SP (m_X5_firstMatch1_12 Pl Kd Me Fi Nx Na Am lc fuel p q x3 (nI j)) (fun _ => True) := by
    intro fuel
    induction fuel with
    | zero => intro j x3 _ hf; exact absurd hf (Nat.not_lt_zero _)
    | succ fuel ih =>
      intro j x3 hj hfu
      simp only [m_X5_firstMatch1_12, nI_1]
      refine SP.bind (sam_sp hm _) (fun r hr => SP.ite (fun _ => SP.ok trivial) (fun hc => ?_))
      have hlt := lt_of_neg (by omega) hr (show j < 2 ^ 31 by omega) hc
      exact SP.bind (mch_sp1 hf hn hm hl _ _) (fun _ _ => SP.ite (fun _ => SP.bind (snx_sp _) (fun _ _ => ih (j + 1) _ (by omega) (by omega))) (fun _ => SP.ok trivial))
  unfold m_X5_firstMatch1
  refine SP.bind (fst_sp hf _) (fun r _ => ?_)
  have := go sr_fuel 0 r (Nat.zero_le _) (by unfold sr_fuel; omega)
  rw [nI_0] at this
  exact this
theorem hsb_sp1 (hf : PS Fi) (hn : PS Na) (hm : AS Am) (hl : LC lc) (p : Int32) {q : Int32} (hq : sym 5000 q) : SP (m_X5_hasSymbol1 Pl Me Fi Am lc p q) b01 := by
  have go : ∀ (fuel j : Nat) (x3 : Int32), sym (4096 + 3 * j) x3 → j ≤ 65 → 65 - j < fuel → SP (m_X5_hasSymbol1_12 Pl Me Fi Am lc fuel p q x3 (nI j)) b01 := by
    intro fuel
    induction fuel with
    | zero => intro j x3 _ _ hf; exact absurd hf (Nat.not_lt_zero _)
    | succ fuel ih =>
      intro j x3 h3 hj hfu
      simp only [m_X5_hasSymbol1_12, nI_1]
      refine SP.bind (sam_sp hm _) (fun r hr => SP.ite (fun _ => SP.ok (Or.inl rfl)) (fun hc => ?_))
      have hlt := lt_of_neg (by omega) hr (show j < 2 ^ 31 by omega) hc
      exact SP.bind (ssn_sp hl hl (by omega) hq (h3.mono (by omega))) (fun _ _ => SP.ite (fun _ => SP.bind (nsy_sp hl (by omega) (by omega) h3) (fun _ h => ih (j + 1) _ (by rw [show 4096 + 3 * (j + 1) = 4096 + 3 * j + 3 by omega]; exact h) (by omega) (by omega))) (fun _ => SP.ok (Or.inr rfl)))
  unfold m_X5_hasSymbol1
  refine SP.bind (fst_sp hf _) (fun r hr => ?_)
  have := go sr_fuel 0 r (by rw [Nat.mul_zero, Nat.add_zero]; exact hr) (Nat.zero_le _) (by unfold sr_fuel; omega)
  rw [nI_0] at this
  exact this
theorem has_sp1 (hf : PS Fi) (hn : PS Na) (hm : AS Am) (hl : LC lc) (p q : Int32) : SP (m_X5_hasAllSymbols1 Pl Me Fi Am lc p q) b01 := by
  have go : ∀ (fuel j : Nat) (x3 : Int32), sym (4096 + 3 * j) x3 → j ≤ 65 → 65 - j < fuel → SP (m_X5_hasAllSymbols1_12 Pl Me Fi Am lc fuel p q x3 (nI j)) b01 := by
    intro fuel
    induction fuel with
    | zero => intro j x3 _ _ hf; exact absurd hf (Nat.not_lt_zero _)
    | succ fuel ih =>
      intro j x3 h3 hj hfu
      simp only [m_X5_hasAllSymbols1_12, nI_1]
      refine SP.bind (sam_sp hm _) (fun r hr => SP.ite (fun _ => SP.ok (Or.inr rfl)) (fun hc => ?_))
      have hlt := lt_of_neg (by omega) hr (show j < 2 ^ 31 by omega) hc
      exact SP.bind (hsb_sp1 hf hn hm hl _ (h3.mono (by omega))) (fun _ _ => SP.ite (fun _ => SP.ok (Or.inl rfl)) (fun _ => SP.bind (nsy_sp hl (by omega) (by omega) h3) (fun _ h => ih (j + 1) _ (by rw [show 4096 + 3 * (j + 1) = 4096 + 3 * j + 3 by omega]; exact h) (by omega) (by omega))))
  unfold m_X5_hasAllSymbols1
  refine SP.bind (fst_sp hf _) (fun r hr => ?_)
  have := go sr_fuel 0 r (by rw [Nat.mul_zero, Nat.add_zero]; exact hr) (Nat.zero_le _) (by unfold sr_fuel; omega)
  rw [nI_0] at this
  exact this
theorem ask_sp1 {Cf Cs : Nat → Int32} {cc : Int32} (h : CC cc) (p q : Int32) : SP (m_X5_ask1 Cf Cs cc p q) (fun r => CC r.2.2) := by
  unfold m_X5_ask1
  exact SP.bind (cha_sp h _ _) (fun _ _ => SP.ite (fun _ => SP.bind (cad_sp h _ _) (fun _ h => SP.ok h)) (fun _ => SP.ok h))
theorem wfd_sp1 (hf : PS Fi) (hn : PS Na) (hm : AS Am) (hl : LC lc) (hfn : PS Fn) (p : Int32) {q : Int32} (hq : sym 4096 q) : SP (m_X5_writerField1 Pl Me Fi Nx Fn Am lc p q) (fun _ => True) := by
  have go : ∀ (fuel j : Nat) (x3 : Int32), j ≤ 65 → 65 - j < fuel → SP (m_X5_writerField1_12 Pl Me Fi Nx Fn Am lc fuel p q x3 (nI j)) (fun _ => True) := by
    intro fuel
    induction fuel with
    | zero => intro j x3 _ hf; exact absurd hf (Nat.not_lt_zero _)
    | succ fuel ih =>
      intro j x3 hj hfu
      simp only [m_X5_writerField1_12, nI_1]
      refine SP.bind (sam_sp hm _) (fun r hr => SP.ite (fun _ => SP.ok trivial) (fun hc => ?_))
      have hlt := lt_of_neg (by omega) hr (show j < 2 ^ 31 by omega) hc
      exact SP.bind (sfn_sp hfn _) (fun _ h4 => SP.bind (ssn_sp hl hl (by omega) h4 hq) (fun _ _ => SP.ite (fun _ => SP.bind (snx_sp _) (fun _ _ => ih (j + 1) _ (by omega) (by omega))) (fun _ => SP.ok trivial)))
  unfold m_X5_writerField1
  refine SP.bind (fst_sp hf _) (fun r _ => ?_)
  have := go sr_fuel 0 r (Nat.zero_le _) (by unfold sr_fuel; omega)
  rw [nI_0] at this
  exact this
theorem ift_sp1 (hf : PS Fi) (hn : PS Na) (hm : AS Am) (hl : LC lc) : ∀ (D d : Nat), d ≤ 35 → 36 - d ≤ D → ∀ (Cf Cs : Nat → Int32) (cc p q : Int32), CC cc → SP (m_X5_isFit1 D Pl Kd Me Fi Nx Na Am Ed lc Cf Cs cc p q (nI d)) (fun r => b01 r.1 ∧ CC r.2.2.2) := by
  intro D
  induction D with
  | zero => intro d hd hD; exact absurd hD (by omega)
  | succ D ihD =>
    intro d hd hD Cf Cs cc p q hc
    have n0 : ∀ (Cf Cs : Nat → Int32) (cc : Int32), CC cc → SP (some ((0 : Int32), Cf, Cs, cc)) (fun r => b01 r.1 ∧ CC r.2.2.2) := fun _ _ _ h => SP.ok ⟨Or.inl rfl, h⟩
    have n1 : ∀ (Cf Cs : Nat → Int32) (cc : Int32), CC cc → SP (some ((1 : Int32), Cf, Cs, cc)) (fun r => b01 r.1 ∧ CC r.2.2.2) := fun _ _ _ h => SP.ok ⟨Or.inr rfl, h⟩
    simp only [m_X5_isFit1]
    refine SP.ite (fun h34 => ?_) (fun _ => n0 _ _ _ hc)
    have hd34 : d ≤ 34 := Nat.le_of_not_lt (fun q => nI_ge (a := 34) q (by omega) h34)
    have ihn := ihD (d + 1) (by omega) (by omega)
    have h168 : ∀ (Cf Cs : Nat → Int32) (cc x4 : Int32), CC cc → SP (m_X5_isFit1_168 (m_X5_isFit1 D) Pl Kd Me Fi Nx Na Am Ed lc Cf Cs cc p q x4) (fun r => b01 r.1 ∧ CC r.2.2.2) := by
      intro Cf Cs cc x4 hc
      unfold m_X5_isFit1_168
      exact SP.ite (fun _ => SP.bind (hed_sp _) (fun _ _ => SP.ite (fun _ => SP.bind (has_sp1 hf hn hm hl _ _) (fun _ _ => SP.ite (fun _ => n0 _ _ _ hc) (fun _ => n1 _ _ _ hc))) (fun _ => n1 _ _ _ hc))) (fun _ => n1 _ _ _ hc)
    have h130 : ∀ x4, SP (m_X5_isFit1_130 (m_X5_isFit1 D) Pl Kd Me Fi Nx Na Am Ed lc Cf Cs cc p q x4) (fun r => b01 r.1 ∧ CC r.2.2.2) := by
      intro x4
      unfold m_X5_isFit1_130
      exact SP.bind (sme_sp1 hf hn hm hl _ _) (fun _ _ => SP.ite (fun _ => n0 _ _ _ hc) (fun _ => SP.ite (fun _ => SP.bind (mea_sp _) (fun _ _ => SP.bind (mea_sp _) (fun _ _ => SP.bind (ask_sp1 hc _ _) (fun _ h => h168 _ _ _ _ h)))) (fun _ => h168 _ _ _ _ hc)))
    have h106 : SP (m_X5_isFit1_106 (m_X5_isFit1 D) Pl Kd Me Fi Nx Na Am Ed lc Cf Cs cc p q (nI d)) (fun r => b01 r.1 ∧ CC r.2.2.2) := by
      unfold m_X5_isFit1_106
      simp only [nI_1]
      exact SP.bind (fst_sp hf _) (fun _ _ => SP.bind (fst_sp hf _) (fun _ _ => SP.bind (ihn _ _ _ _ _ hc) (fun _ h => SP.bb h.1 (SP.ok h))))
    have hev : SP (m_X5_isEveryBranchFit1 (m_X5_isFit1 D) Pl Kd Me Fi Nx Na Am Ed lc Cf Cs cc p q (nI d)) (fun r => b01 r.1 ∧ CC r.2.2.2) := by
      have go : ∀ (fuel j : Nat) (Cf Cs : Nat → Int32) (cc x4 : Int32), CC cc → j ≤ 65 → 65 - j < fuel → SP (m_X5_isEveryBranchFit1_13 (m_X5_isFit1 D) Pl Kd Me Fi Nx Na Am Ed lc fuel Cf Cs cc p q (nI d) x4 (nI j)) (fun r => b01 r.1 ∧ CC r.2.2.2) := by
        intro fuel
        induction fuel with
        | zero => intro j Cf Cs cc x4 _ _ hf; exact absurd hf (Nat.not_lt_zero _)
        | succ fuel ih =>
          intro j Cf Cs cc x4 hc hj hfu
          simp only [m_X5_isEveryBranchFit1_13, nI_1]
          refine SP.bind (sam_sp hm _) (fun r hr => SP.ite (fun _ => n1 _ _ _ hc) (fun hcc => ?_))
          have hlt := lt_of_neg (by omega) hr (show j < 2 ^ 31 by omega) hcc
          exact SP.bind (ihn _ _ _ _ _ hc) (fun _ h => SP.ite (fun _ => n0 _ _ _ h.2) (fun _ => SP.bind (snx_sp _) (fun _ _ => ih (j + 1) _ _ _ _ h.2 (by omega) (by omega))))
      unfold m_X5_isEveryBranchFit1
      refine SP.bind (fst_sp hf _) (fun r _ => ?_)
      have := go sr_fuel 0 Cf Cs cc r hc (Nat.zero_le _) (by unfold sr_fuel; omega)
      rw [nI_0] at this
      exact this
    simp only [nI_1]
    refine SP.bind (knd_sp _) (fun _ _ => SP.ite (fun _ => SP.bind hev (fun _ h => SP.bb h.1 (SP.ok h))) (fun _ => SP.bind (knd_sp _) (fun _ _ => SP.ite (fun _ => ?_) (fun _ => SP.bind (knd_sp _) (fun _ _ => SP.ite (fun _ => SP.ite (fun _ => h106) (fun _ => SP.ite (fun _ => h106) (fun _ => h130 _))) (fun _ => h130 _))))))
    exact SP.bind (fmt_sp1 hf hn hm hl _ _) (fun _ _ => SP.ite (fun _ => n0 _ _ _ hc) (fun _ => SP.bind (ihn _ _ _ _ _ hc) (fun _ h => SP.ite (fun _ => n0 _ _ _ h.2) (fun _ => n1 _ _ _ h.2))))
theorem ffi_sp1 (hf : PS Fi) (hn : PS Na) (hm : AS Am) (hl : LC lc) (hfn : PS Fn) (p q : Int32) {Cf Cs : Nat → Int32} {cc : Int32} (hc : CC cc) : SP (m_X5_isFieldsFit1 Pl Kd Me Fi Nx Na Fn Am Fd Ed lc Cf Cs cc p q) (fun r => b01 r.1 ∧ CC r.2.2.2) := by
  have n0 : ∀ (Cf Cs : Nat → Int32) (cc : Int32), CC cc → SP (some ((0 : Int32), Cf, Cs, cc)) (fun r => b01 r.1 ∧ CC r.2.2.2) := fun _ _ _ h => SP.ok ⟨Or.inl rfl, h⟩
  have go : ∀ (fuel j : Nat) (Cf Cs : Nat → Int32) (cc x3 : Int32), CC cc → j ≤ 65 → 65 - j < fuel → SP (m_X5_isFieldsFit1_12 Pl Kd Me Fi Nx Na Fn Am Fd Ed lc fuel Cf Cs cc p q x3 (nI j)) (fun r => b01 r.1 ∧ CC r.2.2.2) := by
    intro fuel
    induction fuel with
    | zero => intro j Cf Cs cc x3 _ _ hf; exact absurd hf (Nat.not_lt_zero _)
    | succ fuel ih =>
      intro j Cf Cs cc x3 hc hj hfu
      simp only [m_X5_isFieldsFit1_12, m_X5_isFieldsFit1_70, nI_1]
      refine SP.bind (sam_sp hm _) (fun r hr => SP.ite (fun _ => SP.ok ⟨Or.inr rfl, hc⟩) (fun hcc => ?_))
      have hlt := lt_of_neg (by omega) hr (show j < 2 ^ 31 by omega) hcc
      have nx : ∀ (Cf Cs : Nat → Int32) (cc : Int32), CC cc → SP ((m_X6_next Nx x3).bind fun r5 => m_X5_isFieldsFit1_12 Pl Kd Me Fi Nx Na Fn Am Fd Ed lc fuel Cf Cs cc p q r5 (nI (j + 1))) (fun r => b01 r.1 ∧ CC r.2.2.2) := fun _ _ _ h => SP.bind (snx_sp _) (fun _ _ => ih (j + 1) _ _ _ _ h (by omega) (by omega))
      have hfit := fun p q => ift_sp1 (Pl := Pl) (Kd := Kd) (Me := Me) (Nx := Nx) (Ed := Ed) hf hn hm hl 37 0 (by omega) (by omega) Cf Cs cc p q hc
      simp only [nI_0] at hfit
      exact SP.bind (hfd_sp _) (fun _ _ => SP.ite (fun _ => SP.bind (sfn_sp hfn _) (fun _ h7 => SP.bind (wfd_sp1 hf hn hm hl hfn _ h7) (fun _ _ => SP.ite (fun _ => n0 _ _ _ hc) (fun _ => SP.bind (hfit _ _) (fun _ h => SP.ite (fun _ => n0 _ _ _ h.2) (fun _ => nx _ _ _ h.2)))))) (fun _ => nx _ _ _ hc))
  unfold m_X5_isFieldsFit1
  refine SP.bind (fst_sp hf _) (fun r _ => ?_)
  have := go sr_fuel 0 Cf Cs cc r hc (Nat.zero_le _) (by unfold sr_fuel; omega)
  rw [nI_0] at this
  exact this
theorem wft_sp1 (hf : PS Fi) (hn : PS Na) (hm : AS Am) (hl : LC lc) (hfn : PS Fn) {Cf Cs : Nat → Int32} {cc : Int32} : SP (m_X5_isWholeFit1 Pl Kd Me Fi Nx Na Fn Am Fd Ed lc Cf Cs cc) (fun r => b01 r.1 ∧ CC r.2.2.2) := by
  have go : ∀ (fuel j : Nat) (Cf Cs : Nat → Int32) (cc : Int32), CC cc → j ≤ 128 → 128 - j < fuel → SP (m_X5_isWholeFit1_21 Pl Kd Me Fi Nx Na Fn Am Fd Ed lc fuel Cf Cs cc (nI j)) (fun r => b01 r.1 ∧ CC r.2.2.2) := by
    intro fuel
    induction fuel with
    | zero => intro j Cf Cs cc _ _ hf; exact absurd hf (Nat.not_lt_zero _)
    | succ fuel ih =>
      intro j Cf Cs cc hc hj hfu
      simp only [m_X5_isWholeFit1_21, m_X11_count, Option.bind_some, nI_1]
      refine SP.ite (fun _ => SP.ok ⟨Or.inr rfl, hc⟩) (fun _ => SP.ite (fun _ => SP.ok ⟨Or.inr rfl, hc⟩) (fun h128 => ?_))
      have hlt : j < 128 := Nat.lt_of_not_le (fun q => h128 (nI_le (a := 128) q (by omega)))
      exact SP.bind (cfi_sp _) (fun _ _ => SP.bind (cse_sp _) (fun _ _ => SP.bind (ffi_sp1 hf hn hm hl hfn _ _ hc) (fun _ h => SP.ite (fun _ => SP.ok ⟨Or.inl rfl, h.2⟩) (fun _ => ih (j + 1) _ _ _ h.2 (by omega) (by omega)))))
  have hc0 : CC 0 := ⟨0, by omega, by rw [nI_0]⟩
  have hfit := ift_sp1 (Pl := Pl) (Kd := Kd) (Me := Me) (Nx := Nx) (Ed := Ed) hf hn hm hl 37 0 (by omega) (by omega) Cf Cs 0 0 0 hc0
  rw [nI_0] at hfit
  unfold m_X5_isWholeFit1
  simp only [m_X11_clear, Option.bind_some]
  refine SP.bind hfit (fun r h => SP.ite (fun _ => SP.ok ⟨Or.inl rfl, h.2⟩) (fun _ => ?_))
  have := go sr_fuel 0 r.2.1 r.2.2.1 r.2.2.2 h.2 (Nat.zero_le _) (by unfold sr_fuel; omega)
  rw [nI_0] at this
  exact this
end PAI1
end
section
-- the reference's face: tape, letters, print, keep
/-- a text that reads well -/
def gT (B : Nat → Int32) (L : Nat) : Prop := L ≤ 4096 ∧ ∃ (a e n l sh lk kc dn root w : Nat) (K F : Nat → Int32) (N : Nat → Int64) (S I X Lt So Na Wi Ki Ma Fa kS kN kD kX Fi Pl To : Nat → Int32), rdOK B L a e n l sh lk kc dn root w K F N S I X Lt So Na Wi Ki Ma Fa kS kN kD kX Fi Pl To
/-- the kept texts -/
def KP (kept sizes : Nat → Int32) : Prop := ∀ p, p < 8 → sizes p = -1 ∨ ∃ B L, gT B L ∧ sizes p = nI L ∧ ∀ i, i < L → vp_nar .byte (kept (4096 * p + i)) = B i
/-- the text read last, if it read well -/
def HP (has : Int32) (yb : Nat → Int32) (yl ps : Int32) : Prop := has = 0 ∨ has = 1 ∧ ∃ B L w, gT B L ∧ yl = nI L ∧ (∀ i, i < L → vp_nar .byte (yb i) = B i) ∧ w ≤ 4096 ∧ ps = nI w
section MFC
variable {T : Nat → Int32} {L : Nat}
theorem adi_sp (hL : L + 4 ≤ 4096) (a : Int32) : SP (m_X10_addInt T (nI L) a) (fun r => r.2 = nI (L + 4)) := by
  have e0 : (24 : Int32) + -8 = 16 := by decide +kernel
  have e1 : (16 : Int32) + -8 = 8 := by decide +kernel
  have e2 : (8 : Int32) + -8 = 0 := by decide +kernel
  have e3 : (0 : Int32) + -8 = -8 := by decide +kernel
  have step : ∀ (f : Nat) (T : Nat → Int32) (i : Nat) (x : Int32), i < 4096 → ¬ x < 0 → ∃ T', m_X10_addInt_3 (f + 1) T (nI i) a x = m_X10_addInt_3 f T' (nI (i + 1)) a (x + -8) := by
    intro f T i x hi hx
    simp only [m_X10_addInt_3, if_neg hx, nI_1]
    rw [bd_go hi (by decide)]
    exact ⟨_, rfl⟩
  unfold m_X10_addInt
  obtain ⟨f, hf⟩ : ∃ f, sr_fuel = f + 1 + 1 + 1 + 1 + 1 := ⟨99995, rfl⟩
  rw [hf]
  obtain ⟨T1, h1⟩ := step (f + 1 + 1 + 1 + 1) T L 24 (by omega) (by decide)
  obtain ⟨T2, h2⟩ := step (f + 1 + 1 + 1) T1 (L + 1) 16 (by omega) (by decide)
  obtain ⟨T3, h3⟩ := step (f + 1 + 1) T2 (L + 1 + 1) 8 (by omega) (by decide)
  obtain ⟨T4, h4⟩ := step (f + 1) T3 (L + 1 + 1 + 1) 0 (by omega) (by decide)
  rw [h1, e0, h2, e1, h3, e2, h4, e3]
  simp only [m_X10_addInt_3, if_pos (show (-8 : Int32) < 0 by decide)]
  exact SP.ok rfl
theorem ref_0 (th : Int32) : m_X10_refused th 0 0 = some (0, 0) := by unfold m_X10_refused; decide +kernel
theorem ref_1 (th y : Int32) : m_X10_refused th 1 y = some (1, 1) := by unfold m_X10_refused; simp only [if_neg (show ¬ (1 : Int32) = 0 by decide)]; decide +kernel
theorem ref_2 (th : Int32) : m_X10_refused th 0 1 = some (1, 2) := by unfold m_X10_refused; decide +kernel
theorem mfe_ok (hL : L + 20 ≤ 4096) (th a0 a1 a2 a3 a4 : Int32) : ∃ T', m_X10_feed th T (nI L) a0 a1 a2 a3 a4 = some (nI (L + 20), (0, T', nI (L + 20))) := by
  have e20 : nI L + 20 = nI (L + 20) := nI_add L 20
  have h : SP (m_X10_feed th T (nI L) a0 a1 a2 a3 a4) (fun r => ∃ T', r = (nI (L + 20), (0, T', nI (L + 20)))) := by
    unfold m_X10_feed m_X10_feed_19
    rw [e20, if_pos (show nI (L + 20) ≤ 4096 from nI_le (b := 4096) hL (by omega))]
    simp only [ref_0, Option.bind_some, if_true]
    refine SP.bind (adi_sp (by omega) a0) ?_
    rintro ⟨T1, l1⟩ h1
    dsimp only at h1; subst h1
    refine SP.bind (adi_sp (by omega) a1) ?_
    rintro ⟨T2, l2⟩ h2
    dsimp only at h2; subst h2
    refine SP.bind (adi_sp (by omega) a2) ?_
    rintro ⟨T3, l3⟩ h3
    dsimp only at h3; subst h3
    refine SP.bind (adi_sp (by omega) a3) ?_
    rintro ⟨T4, l4⟩ h4
    dsimp only at h4; subst h4
    refine SP.bind (adi_sp (by omega) a4) ?_
    rintro ⟨T5, l5⟩ h5
    dsimp only at h5; subst h5
    exact SP.ok ⟨T5, rfl⟩
  obtain ⟨r, h1, T', h2⟩ := h
  exact ⟨T', by rw [h1, h2]⟩
theorem mfe_no (h0 : L ≤ 4096) (hL : ¬ L + 20 ≤ 4096) (th a0 a1 a2 a3 a4 : Int32) : m_X10_feed th T (nI L) a0 a1 a2 a3 a4 = some (0, (1, T, nI L)) := by
  have e20 : nI L + 20 = nI (L + 20) := nI_add L 20
  unfold m_X10_feed m_X10_feed_19
  rw [e20, if_neg (show ¬ nI (L + 20) ≤ 4096 from nI_ge (a := 4096) (by omega) (by omega))]
  simp only [ref_1, Option.bind_some, if_neg (show ¬ (1 : Int32) = 0 by decide)]
theorem wit_1 {x : Int32} {a n : Nat} (hn : n < 2 ^ 31) (ha : a ≤ n) (e : x = nI a) : m_X10_within x 0 (nI n) = some 1 := by
  subst e
  unfold m_X10_within
  rw [if_neg (nI_pos (by omega)), if_neg (Int32.not_lt.mpr (nI_le ha hn))]
theorem wit_0 {x : Int32} {n : Nat} (hn : n < 2 ^ 31) (hx : ∀ a, a ≤ n → x ≠ nI a) : m_X10_within x 0 (nI n) = some 0 := by
  unfold m_X10_within
  by_cases h : x < 0
  · rw [if_pos h]
  · obtain ⟨i, hi, rfl⟩ := nI_of h
    rw [if_neg h, if_pos]
    exact nI_lt (Nat.lt_of_not_le (fun z => hx i z rfl)) hi
theorem wit_sp {x : Int32} {n : Nat} (hn : n < 2 ^ 31) : (∃ a, a ≤ n ∧ x = nI a) ∧ m_X10_within x 0 (nI n) = some 1 ∨ (∀ a, a ≤ n → x ≠ nI a) ∧ m_X10_within x 0 (nI n) = some 0 := by
  by_cases h : ∃ a, a ≤ n ∧ x = nI a
  · obtain ⟨a, ha, e⟩ := h
    exact Or.inl ⟨⟨a, ha, e⟩, wit_1 hn ha e⟩
  · have : ∀ a, a ≤ n → x ≠ nI a := fun a ha e => h ⟨a, ha, e⟩
    exact Or.inr ⟨this, wit_0 hn this⟩
theorem men_ok {a : Nat} (h0 : L ≤ 4096) (ha : a ≤ L) (th : Int32) : m_X10_end th (nI L) (nI a) = some (0, nI a) := by
  unfold m_X10_end m_X10_end_18
  rw [wit_1 (by omega) ha rfl]
  simp only [ref_0, Option.bind_some, if_neg (show ¬ (1 : Int32) = 0 by decide), if_true]
theorem men_no {x : Int32} (h0 : L ≤ 4096) (hx : ∀ a, a ≤ L → x ≠ nI a) (th : Int32) : m_X10_end th (nI L) x = some (1, nI L) := by
  unfold m_X10_end m_X10_end_18
  rw [wit_0 (by omega) hx]
  simp only [ref_1, Option.bind_some, if_neg (show ¬ (1 : Int32) = 0 by decide), if_true]
theorem mpl_sp (x : Int32) : SP (m_X10_isPlace x) (fun r => r = 0 ∨ r = 1 ∧ ∃ i, i < 8 ∧ x = nI i) := by
  have e7 : (7 : Int32) = nI 7 := rfl
  unfold m_X10_isPlace
  rw [e7]
  rcases wit_sp (x := x) (n := 7) (by omega) with ⟨⟨a, ha, e⟩, h⟩ | ⟨-, h⟩
  · rw [h]
    exact SP.bb (Or.inr rfl) (SP.ok (Or.inr ⟨rfl, a, by omega, e⟩))
  · rw [h]
    exact SP.bb (Or.inl rfl) (SP.ok (Or.inl rfl))
theorem mle_sp {has : Int32} {yb yp : Nat → Int32} {yl ps : Int32} (hH : HP has yb yl ps) (th x : Int32) : SP (m_X10_letter th has yp ps x) (fun _ => True) := by
  unfold m_X10_letter m_X10_letter_25 m_X10_letter_30
  simp only [ref_0, ref_1, Option.bind_some, if_neg (show ¬ (1 : Int32) = 0 by decide), if_true]
  rcases hH with rfl | ⟨rfl, B, L, w, -, -, -, hw, rfl⟩
  · rw [if_pos rfl]; exact SP.ok trivial
  · rw [if_neg (by decide)]
    cases w with
    | zero =>
      have e1 : nI 0 - 1 = -1 := by decide +kernel
      have : m_X10_within x 0 (nI 0 - 1) = some 0 := by
        rw [e1]
        unfold m_X10_within
        by_cases h : x < 0
        · rw [if_pos h]
        · obtain ⟨i, hi, rfl⟩ := nI_of h
          rw [if_neg h, if_pos]
          exact Int32.lt_of_lt_of_le (by decide) (nI_pos' hi)
      rw [this]
      exact SP.ok trivial
    | succ w =>
      have e1 : nI (w + 1) - 1 = nI w := by rw [← nI_1]; exact Int32.add_sub_cancel _ _
      rw [e1]
      rcases wit_sp (x := x) (n := w) (by omega) with ⟨⟨a, ha, e⟩, h⟩ | ⟨-, h⟩
      · rw [h]
        subst e
        simp only [Option.bind_some, if_neg (show ¬ (1 : Int32) = 0 by decide)]
        rw [bd_go (show a < 4200 by omega) (by decide)]
        exact SP.ok trivial
      · rw [h]
        exact SP.ok trivial
theorem mpr_sp {has : Int32} {yb yp : Nat → Int32} {yl ps : Int32} (hH : HP has yb yl ps) (th : Int32) : SP (m_X10_print th has yp ps) (fun _ => True) := by
  unfold m_X10_print
  rcases hH with rfl | ⟨rfl, B, L, w, -, -, -, hw, rfl⟩
  · rw [if_pos rfl]; exact SP.ok trivial
  · rw [if_neg (by decide)]
    have inner : ∀ (K : Int64 → Int32 → Option Int64) (x3 : Int32), (∀ y, SP (K y (x3 + 1)) (fun _ => True)) → ∀ (fuel j : Nat) (x1 x4 : Int64), j ≤ 8 → 8 - j < fuel → SP (m_X9_print_32 yp (nI w) K fuel x1 x3 x4 (nI j)) (fun _ => True) := by
      intro K x3 hK fuel
      induction fuel with
      | zero => intro j x1 x4 _ hf; exact absurd hf (Nat.not_lt_zero _)
      | succ fuel ih =>
        intro j x1 x4 hj hf
        simp only [m_X9_print_32, nI_1]
        refine SP.ite (fun _ => hK _) (fun hc => ?_)
        have hlt : j < 8 := Nat.lt_of_not_le (fun q => hc (nI_le (a := 8) q (by omega)))
        exact SP.ite (fun _ => ih (j + 1) _ _ (by omega) (by omega)) (fun _ => ih (j + 1) _ _ (by omega) (by omega))
    have go : ∀ (fuel j : Nat) (x1 : Int64), j ≤ w → w - j < fuel → SP (m_X9_print_6 yp (nI w) fuel x1 (nI j)) (fun _ => True) := by
      intro fuel
      induction fuel with
      | zero => intro j x1 _ hf; exact absurd hf (Nat.not_lt_zero _)
      | succ fuel ih =>
        intro j x1 hj hf
        simp only [m_X9_print_6]
        refine SP.ite (fun _ => SP.ok trivial) (fun hc => ?_)
        have hlt : j < w := Nat.lt_of_not_le (fun q => hc (nI_le q (by omega)))
        rw [bd_go (show j < 4200 by omega) (by decide)]
        have := inner (m_X9_print_6 yp (nI w) fuel) (nI j) (fun y => by rw [nI_1]; exact ih (j + 1) y (by omega) (by omega)) sr_fuel 0 x1 ((x1 ^^^ ((yp ((nI j).toNatClampNeg)).toInt64)) &&& 255) (by omega) (by unfold sr_fuel; omega)
        rw [nI_0] at this
        exact this
    unfold m_X9_print
    have := go sr_fuel 0 (-4513414715797952619) (Nat.zero_le _) (by unfold sr_fuel; omega)
    rw [nI_0] at this
    exact SP.bind this (fun _ _ => SP.ok trivial)
end MFC
end
section
-- the reference's face: keep, schema, take, fits, matches
abbrev TYR : Type := (Nat → Int32) × (Int32) × (Int32) × (Int32) × (Int32) × (Int32) × (Int32) × (Int32) × (Nat → Int32) × (Nat → Int32) × (Nat → Int64) × (Nat → Int32) × (Nat → Int32) × (Nat → Int32) × (Nat → Int32) × (Int32) × (Int32) × (Int32) × (Nat → Int32) × (Nat → Int32) × (Nat → Int32) × (Nat → Int32) × (Nat → Int32) × (Nat → Int32) × (Int32) × (Nat → Int32) × (Nat → Int32) × (Nat → Int32) × (Nat → Int32) × (Int32) × (Nat → Int32) × (Int32) × (Nat → Int32) × (Int32) × (Nat → Int32)
/-- what is known of a text that was taken -/
def tkT (r : TYR) : Prop := match r with
  | (_, _, _, _, _, _, _, _, _, _, y_numbers, y_sizes, _, _, _, _, _, _, y_sorts, y_names, y_wide, y_kids, _, _, _, y_kidShape, y_kidName, _, y_kidNext, _, _, y_root, _, _, _) => (∃ (n l sh kc : Nat) (K : Nat → Int32) (rt w : Nat), txtOK n l sh kc K y_numbers y_sizes y_sorts y_names y_wide y_kids y_kidShape y_kidName y_kidNext rt w ∧ y_root = nI rt)
def tyH (has : Int32) (r : TYR) : Prop := match r with
  | (y_bytes, y_length, _, _, _, _, _, _, _, _, _, _, _, _, _, _, _, _, _, _, _, _, _, _, _, _, _, _, _, _, _, _, _, y_plainSize, _) => HP has y_bytes y_length y_plainSize
theorem nar_2 (x : Int32) : vp_nar .byte (vp_nar .byte x) = vp_nar .byte x := by
  show (x.toInt8.toInt32).toInt8.toInt32 = x.toInt8.toInt32
  rw [Int8.toInt8_toInt32]
theorem mpl_1 {p : Nat} (hp : p < 8) : m_X10_isPlace (nI p) = some 1 := by
  unfold m_X10_isPlace
  rw [show (7 : Int32) = nI 7 from rfl, wit_1 (by omega) (show p ≤ 7 by omega) rfl]
  rfl
section MTK
variable {T kept sizes yb : Nat → Int32} {L : Nat} {y_bytes y_kinds y_firsts y_sizes y_inner y_nexts y_letters y_sorts y_names y_wide y_kids y_many y_fallback y_kidShape y_kidName y_kidDefault y_kidNext y_finished y_plain y_told : Nat → Int32} {y_numbers : Nat → Int64} {y_length y_at y_deep y_fault y_place y_end y_nodes y_lettered y_shapes y_looked y_kidCount y_done y_root y_plainSize : Int32} {a_bytes a_kinds a_firsts a_sizes a_inner a_nexts a_letters a_sorts a_names a_wide a_kids a_many a_fallback a_kidShape a_kidName a_kidDefault a_kidNext a_finished a_plain a_told : Nat → Int32} {a_numbers : Nat → Int64} {a_length a_at a_deep a_fault a_place a_end a_nodes a_lettered a_shapes a_looked a_kidCount a_done a_root a_plainSize : Int32} {b_bytes b_kinds b_firsts b_sizes b_inner b_nexts b_letters b_sorts b_names b_wide b_kids b_many b_fallback b_kidShape b_kidName b_kidDefault b_kidNext b_finished b_plain b_told : Nat → Int32} {b_numbers : Nat → Int64} {b_length b_at b_deep b_fault b_place b_end b_nodes b_lettered b_shapes b_looked b_kidCount b_done b_root b_plainSize : Int32}
theorem mke_sp {has yl ps : Int32} (hH : HP has yb yl ps) (hK : KP kept sizes) (th x : Int32) : SP (m_X10_keep th has kept sizes yb yl x) (fun r => KP r.2.2.2.1 r.2.2.2.2 ∧ (r.2.2.1 = has ∨ r.2.2.1 = 0)) := by
  have n1 : ¬ (1 : Int32) = 0 := by decide
  have no : ∀ y0 : Int32, SP (m_X10_keep_25 yb yl th has kept sizes x y0 1) (fun r => KP r.2.2.2.1 r.2.2.2.2 ∧ (r.2.2.1 = has ∨ r.2.2.1 = 0)) := by
    intro y0
    unfold m_X10_keep_25
    simp only [ref_1, Option.bind_some, if_neg n1]
    exact SP.ok ⟨hK, Or.inl rfl⟩
  have no2 : SP (m_X10_keep_25 yb yl th has kept sizes x 1 0) (fun r => KP r.2.2.2.1 r.2.2.2.2 ∧ (r.2.2.1 = has ∨ r.2.2.1 = 0)) := by
    unfold m_X10_keep_25
    simp only [ref_2, Option.bind_some, if_neg n1]
    exact SP.ok ⟨hK, Or.inl rfl⟩
  unfold m_X10_keep m_X10_keep_13
  refine SP.bind (mpl_sp x) (fun r hr => SP.ite (fun _ => SP.ite (fun _ => no _) (fun _ => no _)) (fun h0 => SP.ite (fun _ => no2) (fun hh => ?_)))
  obtain ⟨-, p, hp, rfl⟩ := hr.resolve_left h0
  rcases hH with e | ⟨-, B, L, w, hG, rfl, hB, -, -⟩
  · exact absurd e hh
  have hL := hG.1
  unfold m_X10_keep_25
  simp only [ref_0, Option.bind_some, if_true]
  rw [bd_go hp (by decide), nI_clamp (show p < 2 ^ 31 by omega)]
  have cnt : ∀ (kept sizes : Nat → Int32) (th h : Int32), ∀ (fuel j : Nat) (x2 : Int32), j ≤ 8 → 8 - j < fuel → SP (m_X10_keep_95 yb (nI L) fuel th h kept sizes x2 (nI j)) (fun r => r.2.2.2.1 = kept ∧ r.2.2.2.2 = sizes ∧ r.2.2.1 = h) := by
    intro kept sizes th h fuel
    induction fuel with
    | zero => intro j x2 _ hf; exact absurd hf (Nat.not_lt_zero _)
    | succ fuel ih =>
      intro j x2 hj hf
      simp only [m_X10_keep_95, nI_1]
      refine SP.ite (fun _ => SP.ok ⟨rfl, rfl, rfl⟩) (fun hc => ?_)
      have hlt : j < 8 := Nat.lt_of_not_le (fun q => hc (nI_le (a := 8) q (by omega)))
      rw [bd_go hlt (by decide)]
      exact SP.ite (fun _ => ih (j + 1) _ (by omega) (by omega)) (fun _ => ih (j + 1) _ (by omega) (by omega))
  have go : ∀ (fuel j : Nat) (k' : Nat → Int32), j ≤ L → L - j < fuel → (∀ i, i < j → vp_nar .byte (k' (4096 * p + i)) = B i) → (∀ q i, q ≠ p → i < 4096 → k' (4096 * q + i) = kept (4096 * q + i)) → SP (m_X10_keep_53 yb (nI L) fuel 0 0 k' (upd sizes p (nI L)) (nI p) (nI j)) (fun r => KP r.2.2.2.1 r.2.2.2.2 ∧ (r.2.2.1 = has ∨ r.2.2.1 = 0)) := by
    intro fuel
    induction fuel with
    | zero => intro j k' _ hf; exact absurd hf (Nat.not_lt_zero _)
    | succ fuel ih =>
      intro j k' hj hf h1 h2
      have e4 : (4096 : Int32) * nI p + nI j = nI (4096 * p + j) := by
        rw [show (4096 : Int32) = nI 4096 from rfl, nI_mul, nI_add]
      simp only [m_X10_keep_53, nI_1]
      refine SP.ite (fun hc => ?_) (fun hc => ?_)
      · have ej : j = L := Nat.le_antisymm hj (Nat.le_of_not_lt (fun q => nI_ge q (by omega) hc))
        subst ej
        have := cnt k' (upd sizes p (nI j)) 0 0 sr_fuel 0 0 (by omega) (by unfold sr_fuel; omega)
        rw [nI_0] at this
        refine this.mono (fun r hr => ⟨?_, Or.inr hr.2.2⟩)
        rw [hr.1, hr.2.1]
        intro q hq
        by_cases e : q = p
        · subst e
          exact Or.inr ⟨B, j, hG, pk_us, h1⟩
        · rw [pk_un e]
          rcases hK q hq with h | ⟨B', L', hG', hs', hB'⟩
          · exact Or.inl h
          · exact Or.inr ⟨B', L', hG', hs', fun i hi => by rw [h2 q i e (by have := hG'.1; omega)]; exact hB' i hi⟩
      · have hlt : j < L := Nat.lt_of_not_le (fun q => hc (nI_le q (by omega)))
        rw [e4, bd_go (show j < 4096 by omega) (by decide), bd_go (show 4096 * p + j < 32768 by omega) (by decide), nI_clamp (show 4096 * p + j < 2 ^ 31 by omega), nI_clamp (show j < 2 ^ 31 by omega)]
        refine ih (j + 1) _ (by omega) (by omega) (fun i hi => ?_) (fun q i hq hi => ?_)
        · by_cases e : i = j
          · subst e
            rw [pk_us, nar_2]
            exact hB i (by omega)
          · rw [pk_un (by omega)]
            exact h1 i (by omega)
        · rw [pk_un (by omega)]
          exact h2 q i hq hi
  have := go sr_fuel 0 kept (Nat.zero_le _) (by unfold sr_fuel; omega) (fun i hi => absurd hi (Nat.not_lt_zero _)) (fun _ _ _ _ => rfl)
  rw [nI_0] at this
  exact this
theorem rd_gT {B : Nat → Int32} (h : gT B L) {row : Nat → Int32} {rn st : Nat} (h1 : st + L ≤ rn) (h2 : rn < 2 ^ 31) (h3 : ∀ i, i < L → vp_nar .byte (row (st + i)) = B i) : SP (m_X9_read y_bytes y_length y_at y_deep y_fault y_place y_end y_nodes y_kinds y_firsts y_numbers y_sizes y_inner y_nexts y_letters y_lettered y_shapes y_looked y_sorts y_names y_wide y_kids y_many y_fallback y_kidCount y_kidShape y_kidName y_kidDefault y_kidNext y_done y_finished y_root y_plain y_plainSize y_told row rn (nI st) (nI L)) (fun r => r.1 = 0 ∧ tkT r.2 ∧ r.2.2.1 = nI L ∧ (∃ w, w ≤ 4096 ∧ r.2.2.2.2.2.2.2.2.2.2.2.2.2.2.2.2.2.2.2.2.2.2.2.2.2.2.2.2.2.2.2.2.2.2.1 = nI w) ∧ ∀ i, i < L → r.2.1 i = B i) := by
  obtain ⟨hL, a, e, n, l, sh, lk, kc, dn, root, w, K, F, N, S, I, X, Lt, So, Na, Wi, Ki, Ma, Fa, kS, kN, kD, kX, Fi, Pl, To, hT, hr⟩ := h
  refine ⟨_, hr y_bytes y_kinds y_firsts y_sizes y_inner y_nexts y_letters y_sorts y_names y_wide y_kids y_many y_fallback y_kidShape y_kidName y_kidDefault y_kidNext y_finished y_plain y_told row y_numbers y_length y_at y_deep y_fault y_place y_end y_nodes y_lettered y_shapes y_looked y_kidCount y_done y_root y_plainSize rn st h1 h2 h3, rfl, ⟨n, l, sh, kc, _, root, w, hT.conc (tK := y_kinds), rfl⟩, rfl, ⟨w, hT.2.2.2.2.2.2.2, rfl⟩, fun i hi => ov_lt hi⟩
theorem msc_sp (hL : L ≤ 4096) (th has pl : Int32) : SP (m_X10_schema th T (nI L) has pl y_bytes y_length y_at y_deep y_fault y_place y_end y_nodes y_kinds y_firsts y_numbers y_sizes y_inner y_nexts y_letters y_lettered y_shapes y_looked y_sorts y_names y_wide y_kids y_many y_fallback y_kidCount y_kidShape y_kidName y_kidDefault y_kidNext y_done y_finished y_root y_plain y_plainSize y_told) (fun r => tyH r.2.2.1 r.2.2.2.2) := by
  have hB : ∀ i, i < L → vp_nar .byte (T (0 + i)) = (fun i => vp_nar .byte (T i)) i := fun i _ => by rw [Nat.zero_add]
  unfold m_X10_schema
  rcases read_out (fun i => vp_nar .byte (T i)) hL with h | ⟨c, p, hc, hb⟩
  · have hG : gT (fun i => vp_nar .byte (T i)) L := ⟨hL, h⟩
    have hs := rd_gT (y_bytes := y_bytes) ( y_length := y_length) ( y_at := y_at) ( y_deep := y_deep) ( y_fault := y_fault) ( y_place := y_place) ( y_end := y_end) ( y_nodes := y_nodes) ( y_kinds := y_kinds) ( y_firsts := y_firsts) ( y_numbers := y_numbers) ( y_sizes := y_sizes) ( y_inner := y_inner) ( y_nexts := y_nexts) ( y_letters := y_letters) ( y_lettered := y_lettered) ( y_shapes := y_shapes) ( y_looked := y_looked) ( y_sorts := y_sorts) ( y_names := y_names) ( y_wide := y_wide) ( y_kids := y_kids) ( y_many := y_many) ( y_fallback := y_fallback) ( y_kidCount := y_kidCount) ( y_kidShape := y_kidShape) ( y_kidName := y_kidName) ( y_kidDefault := y_kidDefault) ( y_kidNext := y_kidNext) ( y_done := y_done) ( y_finished := y_finished) ( y_root := y_root) ( y_plain := y_plain) ( y_plainSize := y_plainSize) ( y_told := y_told) hG (row := T) (rn := 4096) (st := 0) (by omega) (by decide) hB
    rw [nI_0] at hs
    refine SP.bind hs ?_
    rintro ⟨r1, y_bytes, y_length, y_at, y_deep, y_fault, y_place, y_end, y_nodes, y_kinds, y_firsts, y_numbers, y_sizes, y_inner, y_nexts, y_letters, y_lettered, y_shapes, y_looked, y_sorts, y_names, y_wide, y_kids, y_many, y_fallback, y_kidCount, y_kidShape, y_kidName, y_kidDefault, y_kidNext, y_done, y_finished, y_root, y_plain, y_plainSize, y_told⟩ ⟨h0, h1, h2, ⟨w, hw, h3⟩, h4⟩
    dsimp only at h0 h2 h3 h4 ⊢
    subst h0
    unfold m_X10_schema_32
    simp only [if_true, if_neg (show ¬ (1 : Int32) = 0 by decide), or_true]
    exact SP.ok (Or.inr ⟨rfl, _, L, w, hG, h2, fun i hi => by rw [h4 i hi]; exact nar_2 _, hw, h3⟩)
  · obtain ⟨u, hu, -⟩ := hb y_bytes y_kinds y_firsts y_sizes y_inner y_nexts y_letters y_sorts y_names y_wide y_kids y_many y_fallback y_kidShape y_kidName y_kidDefault y_kidNext y_finished y_plain y_told T y_numbers y_length y_at y_deep y_fault y_place y_end y_nodes y_lettered y_shapes y_looked y_kidCount y_done y_root y_plainSize 4096 0 (by omega) (by decide) hB
    rw [nI_0] at hu
    rw [hu]
    unfold m_X10_schema_32
    simp only [Option.bind_some, if_neg hc, if_true, true_or]
    exact SP.ok (Or.inl rfl)
theorem mtk_sp (hK : KP kept sizes) (th x y : Int32) : SP (m_X10_take th kept sizes a_bytes a_length a_at a_deep a_fault a_place a_end a_nodes a_kinds a_firsts a_numbers a_sizes a_inner a_nexts a_letters a_lettered a_shapes a_looked a_sorts a_names a_wide a_kids a_many a_fallback a_kidCount a_kidShape a_kidName a_kidDefault a_kidNext a_done a_finished a_root a_plain a_plainSize a_told b_bytes b_length b_at b_deep b_fault b_place b_end b_nodes b_kinds b_firsts b_numbers b_sizes b_inner b_nexts b_letters b_lettered b_shapes b_looked b_sorts b_names b_wide b_kids b_many b_fallback b_kidCount b_kidShape b_kidName b_kidDefault b_kidNext b_done b_finished b_root b_plain b_plainSize b_told x y) (fun r => r.1 = 0 ∨ r.1 = 1 ∧ match r.2 with
    | (_, _, _, _, _, _, _, _, _, _, _, a_numbers, a_sizes, _, _, _, _, _, _, a_sorts, a_names, a_wide, a_kids, _, _, _, a_kidShape, a_kidName, _, a_kidNext, _, _, a_root, _, _, _, _, _, _, _, _, _, _, _, _, _, b_numbers, b_sizes, _, _, _, _, _, _, b_sorts, b_names, b_wide, b_kids, _, _, _, b_kidShape, b_kidName, _, b_kidNext, _, _, b_root, _, _, _) => (∃ (n l sh kc : Nat) (K : Nat → Int32) (rt w : Nat), txtOK n l sh kc K a_numbers a_sizes a_sorts a_names a_wide a_kids a_kidShape a_kidName a_kidNext rt w ∧ a_root = nI rt) ∧ (∃ (n l sh kc : Nat) (K : Nat → Int32) (rt w : Nat), txtOK n l sh kc K b_numbers b_sizes b_sorts b_names b_wide b_kids b_kidShape b_kidName b_kidNext rt w ∧ b_root = nI rt)) := by
  have n1 : ¬ (1 : Int32) = 0 := by decide
  have no1 : ∀ y0 : Int32, SP (m_X10_take_57 kept sizes th a_bytes a_length a_at a_deep a_fault a_place a_end a_nodes a_kinds a_firsts a_numbers a_sizes a_inner a_nexts a_letters a_lettered a_shapes a_looked a_sorts a_names a_wide a_kids a_many a_fallback a_kidCount a_kidShape a_kidName a_kidDefault a_kidNext a_done a_finished a_root a_plain a_plainSize a_told b_bytes b_length b_at b_deep b_fault b_place b_end b_nodes b_kinds b_firsts b_numbers b_sizes b_inner b_nexts b_letters b_lettered b_shapes b_looked b_sorts b_names b_wide b_kids b_many b_fallback b_kidCount b_kidShape b_kidName b_kidDefault b_kidNext b_done b_finished b_root b_plain b_plainSize b_told x y y0 1) (fun r => r.1 = 0 ∨ r.1 = 1 ∧ match r.2 with
    | (_, _, _, _, _, _, _, _, _, _, _, a_numbers, a_sizes, _, _, _, _, _, _, a_sorts, a_names, a_wide, a_kids, _, _, _, a_kidShape, a_kidName, _, a_kidNext, _, _, a_root, _, _, _, _, _, _, _, _, _, _, _, _, _, b_numbers, b_sizes, _, _, _, _, _, _, b_sorts, b_names, b_wide, b_kids, _, _, _, b_kidShape, b_kidName, _, b_kidNext, _, _, b_root, _, _, _) => (∃ (n l sh kc : Nat) (K : Nat → Int32) (rt w : Nat), txtOK n l sh kc K a_numbers a_sizes a_sorts a_names a_wide a_kids a_kidShape a_kidName a_kidNext rt w ∧ a_root = nI rt) ∧ (∃ (n l sh kc : Nat) (K : Nat → Int32) (rt w : Nat), txtOK n l sh kc K b_numbers b_sizes b_sorts b_names b_wide b_kids b_kidShape b_kidName b_kidNext rt w ∧ b_root = nI rt)) := by
    intro y0
    unfold m_X10_take_57
    simp only [ref_1, Option.bind_some, if_neg n1]
    exact SP.ok (Or.inl rfl)
  have no2 : SP (m_X10_take_57 kept sizes th a_bytes a_length a_at a_deep a_fault a_place a_end a_nodes a_kinds a_firsts a_numbers a_sizes a_inner a_nexts a_letters a_lettered a_shapes a_looked a_sorts a_names a_wide a_kids a_many a_fallback a_kidCount a_kidShape a_kidName a_kidDefault a_kidNext a_done a_finished a_root a_plain a_plainSize a_told b_bytes b_length b_at b_deep b_fault b_place b_end b_nodes b_kinds b_firsts b_numbers b_sizes b_inner b_nexts b_letters b_lettered b_shapes b_looked b_sorts b_names b_wide b_kids b_many b_fallback b_kidCount b_kidShape b_kidName b_kidDefault b_kidNext b_done b_finished b_root b_plain b_plainSize b_told x y 1 0) (fun r => r.1 = 0 ∨ r.1 = 1 ∧ match r.2 with
    | (_, _, _, _, _, _, _, _, _, _, _, a_numbers, a_sizes, _, _, _, _, _, _, a_sorts, a_names, a_wide, a_kids, _, _, _, a_kidShape, a_kidName, _, a_kidNext, _, _, a_root, _, _, _, _, _, _, _, _, _, _, _, _, _, b_numbers, b_sizes, _, _, _, _, _, _, b_sorts, b_names, b_wide, b_kids, _, _, _, b_kidShape, b_kidName, _, b_kidNext, _, _, b_root, _, _, _) => (∃ (n l sh kc : Nat) (K : Nat → Int32) (rt w : Nat), txtOK n l sh kc K a_numbers a_sizes a_sorts a_names a_wide a_kids a_kidShape a_kidName a_kidNext rt w ∧ a_root = nI rt) ∧ (∃ (n l sh kc : Nat) (K : Nat → Int32) (rt w : Nat), txtOK n l sh kc K b_numbers b_sizes b_sorts b_names b_wide b_kids b_kidShape b_kidName b_kidNext rt w ∧ b_root = nI rt)) := by
    unfold m_X10_take_57
    simp only [ref_2, Option.bind_some, if_neg n1]
    exact SP.ok (Or.inl rfl)
  have h20 : SP (m_X10_take_20 kept sizes th a_bytes a_length a_at a_deep a_fault a_place a_end a_nodes a_kinds a_firsts a_numbers a_sizes a_inner a_nexts a_letters a_lettered a_shapes a_looked a_sorts a_names a_wide a_kids a_many a_fallback a_kidCount a_kidShape a_kidName a_kidDefault a_kidNext a_done a_finished a_root a_plain a_plainSize a_told b_bytes b_length b_at b_deep b_fault b_place b_end b_nodes b_kinds b_firsts b_numbers b_sizes b_inner b_nexts b_letters b_lettered b_shapes b_looked b_sorts b_names b_wide b_kids b_many b_fallback b_kidCount b_kidShape b_kidName b_kidDefault b_kidNext b_done b_finished b_root b_plain b_plainSize b_told x y 1) (fun r => r.1 = 0 ∨ r.1 = 1 ∧ match r.2 with
    | (_, _, _, _, _, _, _, _, _, _, _, a_numbers, a_sizes, _, _, _, _, _, _, a_sorts, a_names, a_wide, a_kids, _, _, _, a_kidShape, a_kidName, _, a_kidNext, _, _, a_root, _, _, _, _, _, _, _, _, _, _, _, _, _, b_numbers, b_sizes, _, _, _, _, _, _, b_sorts, b_names, b_wide, b_kids, _, _, _, b_kidShape, b_kidName, _, b_kidNext, _, _, b_root, _, _, _) => (∃ (n l sh kc : Nat) (K : Nat → Int32) (rt w : Nat), txtOK n l sh kc K a_numbers a_sizes a_sorts a_names a_wide a_kids a_kidShape a_kidName a_kidNext rt w ∧ a_root = nI rt) ∧ (∃ (n l sh kc : Nat) (K : Nat → Int32) (rt w : Nat), txtOK n l sh kc K b_numbers b_sizes b_sorts b_names b_wide b_kids b_kidShape b_kidName b_kidNext rt w ∧ b_root = nI rt)) := by
    unfold m_X10_take_20 m_X10_take_56 m_X10_take_52
    refine SP.bind (mpl_sp x) (fun r hr => SP.ite (fun _ => no1 _) (fun h0 => SP.bind (mpl_sp y) (fun r2 hr2 => SP.ite (fun _ => no1 _) (fun h2 => ?_))))
    obtain ⟨-, p, hp, rfl⟩ := hr.resolve_left h0
    obtain ⟨-, q, hq, rfl⟩ := hr2.resolve_left h2
    rw [bd_go hp (by decide)]
    refine SP.ite (fun _ => no1 _) (fun _ => ?_)
    rw [bd_go hq (by decide)]
    exact SP.ite (fun _ => no1 _) (fun _ => no1 _)
  unfold m_X10_take m_X10_take_15
  refine SP.bind (mpl_sp x) (fun r hr => SP.ite (fun _ => h20) (fun h0 => SP.bind (mpl_sp y) (fun r2 hr2 => SP.ite (fun _ => h20) (fun h2 => ?_))))
  obtain ⟨-, p, hp, rfl⟩ := hr.resolve_left h0
  obtain ⟨-, q, hq, rfl⟩ := hr2.resolve_left h2
  unfold m_X10_take_20 m_X10_take_56 m_X10_take_52
  simp only [mpl_1 hp, mpl_1 hq, Option.bind_some, if_neg n1]
  rw [bd_go hp (by decide), nI_clamp (show p < 2 ^ 31 by omega)]
  refine SP.ite (fun _ => no2) (fun hs => ?_)
  rw [bd_go hq (by decide), nI_clamp (show q < 2 ^ 31 by omega)]
  refine SP.ite (fun hs2 => ?_) (fun _ => no2)
  obtain ⟨B1, L1, hG1, e1, hB1⟩ := (hK p hp).resolve_left (fun e => hs (by rw [e]; decide))
  obtain ⟨B2, L2, hG2, e2, hB2⟩ := (hK q hq).resolve_left (fun e => absurd hs2 (by rw [e]; decide))
  have m1 : (4096 : Int32) * nI p = nI (4096 * p) := by rw [show (4096 : Int32) = nI 4096 from rfl, nI_mul]
  have m2 : (4096 : Int32) * nI q = nI (4096 * q) := by rw [show (4096 : Int32) = nI 4096 from rfl, nI_mul]
  have l1 := hG1.1
  have l2 := hG2.1
  unfold m_X10_take_57
  simp only [ref_0, Option.bind_some, if_true]
  rw [bd_go hp (by decide), nI_clamp (show p < 2 ^ 31 by omega), e1, m1]
  refine SP.bind (rd_gT hG1 (row := kept) (rn := 32768) (st := 4096 * p) (by omega) (by decide) hB1) ?_
  rintro ⟨r6, a_bytes6, a_length6, a_at6, a_deep6, a_fault6, a_place6, a_end6, a_nodes6, a_kinds6, a_firsts6, a_numbers6, a_sizes6, a_inner6, a_nexts6, a_letters6, a_lettered6, a_shapes6, a_looked6, a_sorts6, a_names6, a_wide6, a_kids6, a_many6, a_fallback6, a_kidCount6, a_kidShape6, a_kidName6, a_kidDefault6, a_kidNext6, a_done6, a_finished6, a_root6, a_plain6, a_plainSize6, a_told6⟩ ⟨-, h1, -⟩
  dsimp only
  rw [bd_go hq (by decide), nI_clamp (show q < 2 ^ 31 by omega), e2, m2]
  refine SP.bind (rd_gT hG2 (row := kept) (rn := 32768) (st := 4096 * q) (by omega) (by decide) hB2) ?_
  rintro ⟨r8, b_bytes8, b_length8, b_at8, b_deep8, b_fault8, b_place8, b_end8, b_nodes8, b_kinds8, b_firsts8, b_numbers8, b_sizes8, b_inner8, b_nexts8, b_letters8, b_lettered8, b_shapes8, b_looked8, b_sorts8, b_names8, b_wide8, b_kids8, b_many8, b_fallback8, b_kidCount8, b_kidShape8, b_kidName8, b_kidDefault8, b_kidNext8, b_done8, b_finished8, b_root8, b_plain8, b_plainSize8, b_told8⟩ ⟨-, h2, -⟩
  exact SP.ok (Or.inr ⟨rfl, h1, h2⟩)
theorem mfi_sp (hK : KP kept sizes) (th : Int32) (asked pairs : Nat → Int32) (many x y : Int32) : SP (m_X10_fits th kept sizes asked pairs many a_bytes a_length a_at a_deep a_fault a_place a_end a_nodes a_kinds a_firsts a_numbers a_sizes a_inner a_nexts a_letters a_lettered a_shapes a_looked a_sorts a_names a_wide a_kids a_many a_fallback a_kidCount a_kidShape a_kidName a_kidDefault a_kidNext a_done a_finished a_root a_plain a_plainSize a_told b_bytes b_length b_at b_deep b_fault b_place b_end b_nodes b_kinds b_firsts b_numbers b_sizes b_inner b_nexts b_letters b_lettered b_shapes b_looked b_sorts b_names b_wide b_kids b_many b_fallback b_kidCount b_kidShape b_kidName b_kidDefault b_kidNext b_done b_finished b_root b_plain b_plainSize b_told x y) (fun _ => True) := by
  unfold m_X10_fits
  refine SP.bind (mtk_sp hK th x y) ?_
  rintro ⟨r1, th1, a_bytes1, a_length1, a_at1, a_deep1, a_fault1, a_place1, a_end1, a_nodes1, a_kinds1, a_firsts1, a_numbers1, a_sizes1, a_inner1, a_nexts1, a_letters1, a_lettered1, a_shapes1, a_looked1, a_sorts1, a_names1, a_wide1, a_kids1, a_many1, a_fallback1, a_kidCount1, a_kidShape1, a_kidName1, a_kidDefault1, a_kidNext1, a_done1, a_finished1, a_root1, a_plain1, a_plainSize1, a_told1, b_bytes1, b_length1, b_at1, b_deep1, b_fault1, b_place1, b_end1, b_nodes1, b_kinds1, b_firsts1, b_numbers1, b_sizes1, b_inner1, b_nexts1, b_letters1, b_lettered1, b_shapes1, b_looked1, b_sorts1, b_names1, b_wide1, b_kids1, b_many1, b_fallback1, b_kidCount1, b_kidShape1, b_kidName1, b_kidDefault1, b_kidNext1, b_done1, b_finished1, b_root1, b_plain1, b_plainSize1, b_told1⟩ h
  refine SP.ite (fun _ => SP.ok trivial) (fun hne => ?_)
  obtain ⟨-, ⟨nA, lA, shA, kcA, KA, rtA, wA, hA, eA⟩, ⟨nB, lB, shB, kcB, KB, rtB, wB, hB, eB⟩⟩ := h.resolve_left hne
  subst eA eB
  obtain ⟨z, asked', pairs', m, hz, e, -⟩ := all_ok (LA := a_letters1) (LB := b_letters1) (FaB := b_fallback1) (kDB := b_kidDefault1) hA hB asked pairs many
  rw [e]
  exact SP.ite (fun _ => SP.ok trivial) (fun _ => SP.ok trivial)
theorem mma_sp (hK : KP kept sizes) (th x y : Int32) : SP (m_X10_matches th kept sizes a_bytes a_length a_at a_deep a_fault a_place a_end a_nodes a_kinds a_firsts a_numbers a_sizes a_inner a_nexts a_letters a_lettered a_shapes a_looked a_sorts a_names a_wide a_kids a_many a_fallback a_kidCount a_kidShape a_kidName a_kidDefault a_kidNext a_done a_finished a_root a_plain a_plainSize a_told b_bytes b_length b_at b_deep b_fault b_place b_end b_nodes b_kinds b_firsts b_numbers b_sizes b_inner b_nexts b_letters b_lettered b_shapes b_looked b_sorts b_names b_wide b_kids b_many b_fallback b_kidCount b_kidShape b_kidName b_kidDefault b_kidNext b_done b_finished b_root b_plain b_plainSize b_told x y) (fun _ => True) := by
  unfold m_X10_matches
  refine SP.bind (mtk_sp hK th x y) ?_
  rintro ⟨r1, th1, a_bytes1, a_length1, a_at1, a_deep1, a_fault1, a_place1, a_end1, a_nodes1, a_kinds1, a_firsts1, a_numbers1, a_sizes1, a_inner1, a_nexts1, a_letters1, a_lettered1, a_shapes1, a_looked1, a_sorts1, a_names1, a_wide1, a_kids1, a_many1, a_fallback1, a_kidCount1, a_kidShape1, a_kidName1, a_kidDefault1, a_kidNext1, a_done1, a_finished1, a_root1, a_plain1, a_plainSize1, a_told1, b_bytes1, b_length1, b_at1, b_deep1, b_fault1, b_place1, b_end1, b_nodes1, b_kinds1, b_firsts1, b_numbers1, b_sizes1, b_inner1, b_nexts1, b_letters1, b_lettered1, b_shapes1, b_looked1, b_sorts1, b_names1, b_wide1, b_kids1, b_many1, b_fallback1, b_kidCount1, b_kidShape1, b_kidName1, b_kidDefault1, b_kidNext1, b_done1, b_finished1, b_root1, b_plain1, b_plainSize1, b_told1⟩ h
  refine SP.ite (fun _ => SP.ok trivial) (fun hne => ?_)
  obtain ⟨-, ⟨nA, lA, shA, kcA, KA, rtA, wA, hA, eA⟩, ⟨nB, lB, shB, kcB, KB, rtB, wB, hB, eB⟩⟩ := h.resolve_left hne
  subst eA eB
  obtain ⟨z, hz, e⟩ := mat150 (LA := a_letters1) (LB := b_letters1) hA hB (hA.2.2.2.2.2.2.1.lt (Nat.le_refl _)) (hB.2.2.2.2.2.2.1.lt (Nat.le_refl _))
  rw [e]
  exact SP.ite (fun _ => SP.ok trivial) (fun _ => SP.ok trivial)
end MTK
end
section
-- the loops of the two constructors
theorem pst_sp (x : Int32) : SP (m_X8_printStep x) (fun _ => True) := by
  have go : ∀ (fuel j : Nat) (x1 : Int64), j ≤ 8 → 8 - j < fuel → SP (m_X8_printStep_5 fuel x1 (nI j)) (fun _ => True) := by
    intro fuel
    induction fuel with
    | zero => intro j x1 _ hf; exact absurd hf (Nat.not_lt_zero _)
    | succ fuel ih =>
      intro j x1 hj hf
      simp only [m_X8_printStep_5, m_X8_printStep_24, nI_1]
      refine SP.ite (fun _ => SP.ok trivial) (fun hc => ?_)
      have hlt : j < 8 := Nat.lt_of_not_le (fun q => hc (nI_le (a := 8) q (by omega)))
      have ih1 := fun y => ih (j + 1) y (by omega) (by omega)
      exact SP.ite (fun _ => SP.ite (fun _ => ih1 _) (fun _ => ih1 _)) (fun _ => SP.ite (fun _ => ih1 _) (fun _ => ih1 _))
  unfold m_X8_printStep
  have := go sr_fuel 0 x.toInt64 (Nat.zero_le _) (by unfold sr_fuel; omega)
  rw [nI_0] at this
  exact this
theorem i35_sp (f : Nat → Int64) : SP (m_X8_init_35 sr_fuel f 0) (fun _ => True) := by
  have go : ∀ (fuel j : Nat) (f : Nat → Int64), j ≤ 256 → 256 - j < fuel → SP (m_X8_init_35 fuel f (nI j)) (fun _ => True) := by
    intro fuel
    induction fuel with
    | zero => intro j f _ hf; exact absurd hf (Nat.not_lt_zero _)
    | succ fuel ih =>
      intro j f hj hf
      simp only [m_X8_init_35, nI_1]
      refine SP.ite (fun _ => SP.ok trivial) (fun hc => SP.bind (pst_sp _) (fun r _ => ?_))
      have hlt : j < 256 := Nat.lt_of_not_le (fun q => hc (nI_le (a := 256) q (by omega)))
      rw [bd_go hlt (by decide)]
      exact ih (j + 1) _ (by omega) (by omega)
  have := go sr_fuel 0 f (Nat.zero_le _) (by unfold sr_fuel; omega)
  rw [nI_0] at this
  exact this
theorem i87_sp (f : Nat → Int32) : SP (m_X10_init_87 sr_fuel f 0) (fun r => ∀ i, i < 8 → r i = -1) := by
  have go : ∀ (fuel j : Nat) (f : Nat → Int32), j ≤ 8 → 8 - j < fuel → (∀ i, i < j → f i = -1) → SP (m_X10_init_87 fuel f (nI j)) (fun r => ∀ i, i < 8 → r i = -1) := by
    intro fuel
    induction fuel with
    | zero => intro j f _ hf; exact absurd hf (Nat.not_lt_zero _)
    | succ fuel ih =>
      intro j f hj hf h
      simp only [m_X10_init_87, nI_1]
      refine SP.ite (fun hc => ?_) (fun hc => ?_)
      · have : j = 8 := Nat.le_antisymm hj (Nat.le_of_not_lt (fun q => nI_ge (b := 8) q (by omega) hc))
        subst this
        exact SP.ok h
      · have hlt : j < 8 := Nat.lt_of_not_le (fun q => hc (nI_le (a := 8) q (by omega)))
        rw [bd_go hlt (by decide), nI_clamp (show j < 2 ^ 31 by omega)]
        refine ih (j + 1) _ (by omega) (by omega) (fun i hi => ?_)
        by_cases e : i = j
        · subst e; exact pk_us
        · rw [pk_un e]; exact h i (by omega)
  have := go sr_fuel 0 f (Nat.zero_le _) (by unfold sr_fuel; omega) (fun i hi => absurd hi (Nat.not_lt_zero _))
  rw [nI_0] at this
  exact this
end
section
-- WHAT A TEXT SAYS, apart from either program: its bytes as numbers below 256, and 256 behind its end
def bv (x : Int32) : Nat := x.toBitVec.toNat % 256
def cb (B : Nat → Int32) (L a : Nat) : Nat := if L ≤ a then 256 else bv (B a)
theorem cb_le (B : Nat → Int32) (L a : Nat) : cb B L a ≤ 256 := by
  unfold cb bv
  by_cases h : L ≤ a
  · rw [if_pos h]; omega
  · rw [if_neg h]; omega
theorem cb_end {B : Nat → Int32} {L a : Nat} (h : L ≤ a) : cb B L a = 256 := if_pos h
theorem cb_lt {B : Nat → Int32} {L a : Nat} (h : cb B L a ≠ 256) : a < L := Nat.lt_of_not_le (fun q => h (cb_end q))
/-- a byte as the class has it -/
def ubI (n : Nat) : Int32 := if n = 256 then -1 else nI n
theorem ub_e {n c : Nat} (hn : n ≤ 256) (hc : c < 256) : (ubI n = nI c) ↔ n = c := by
  unfold ubI
  by_cases h : n = 256
  · rw [if_pos h]
    refine ⟨fun q => ?_, fun q => by omega⟩
    have h1 := nI_pos' (n := c) (by omega)
    rw [← q] at h1
    exact absurd h1 (by decide)
  · rw [if_neg h]
    exact nI_eq (by omega) (by omega)
theorem ub_l {n c : Nat} (hn : n ≤ 256) (hc : c < 256) : (ubI n < nI c) ↔ n = 256 ∨ n < c := by
  unfold ubI
  by_cases h : n = 256
  · rw [if_pos h]
    exact ⟨fun _ => Or.inl h, fun _ => Int32.lt_of_lt_of_le (show (-1 : Int32) < 0 by decide) (nI_pos' (by omega))⟩
  · rw [if_neg h, nI_ltI (by omega) (by omega)]
    exact ⟨Or.inr, fun q => q.resolve_left h⟩
theorem ub_g {n c : Nat} (hn : n ≤ 256) (hc : c < 256) : (nI c < ubI n) ↔ n ≠ 256 ∧ c < n := by
  unfold ubI
  by_cases h : n = 256
  · rw [if_pos h]
    refine ⟨fun q => ?_, fun q => absurd h q.1⟩
    exact absurd (Int32.lt_of_lt_of_le q (show (-1 : Int32) ≤ 0 by decide)) (nI_pos (n := c) (by omega))
  · rw [if_neg h, nI_ltI (by omega) (by omega)]
    exact ⟨fun q => ⟨h, q⟩, fun q => q.2⟩
section UB
variable {B : Nat → Int32} {L a : Nat}
theorem ub9 : (ubI (cb B L a) = 9) = (cb B L a = 9) := propext (ub_e (cb_le B L a) (c := 9) (by decide))
theorem ub10 : (ubI (cb B L a) = 10) = (cb B L a = 10) := propext (ub_e (cb_le B L a) (c := 10) (by decide))
theorem ub13 : (ubI (cb B L a) = 13) = (cb B L a = 13) := propext (ub_e (cb_le B L a) (c := 13) (by decide))
theorem ub32 : (ubI (cb B L a) = 32) = (cb B L a = 32) := propext (ub_e (cb_le B L a) (c := 32) (by decide))
theorem ub34 : (ubI (cb B L a) = 34) = (cb B L a = 34) := propext (ub_e (cb_le B L a) (c := 34) (by decide))
theorem ub44 : (ubI (cb B L a) = 44) = (cb B L a = 44) := propext (ub_e (cb_le B L a) (c := 44) (by decide))
theorem ub45 : (ubI (cb B L a) = 45) = (cb B L a = 45) := propext (ub_e (cb_le B L a) (c := 45) (by decide))
theorem ub47 : (ubI (cb B L a) = 47) = (cb B L a = 47) := propext (ub_e (cb_le B L a) (c := 47) (by decide))
theorem ub48 : (ubI (cb B L a) = 48) = (cb B L a = 48) := propext (ub_e (cb_le B L a) (c := 48) (by decide))
theorem ub58 : (ubI (cb B L a) = 58) = (cb B L a = 58) := propext (ub_e (cb_le B L a) (c := 58) (by decide))
theorem ub91 : (ubI (cb B L a) = 91) = (cb B L a = 91) := propext (ub_e (cb_le B L a) (c := 91) (by decide))
theorem ub92 : (ubI (cb B L a) = 92) = (cb B L a = 92) := propext (ub_e (cb_le B L a) (c := 92) (by decide))
theorem ub93 : (ubI (cb B L a) = 93) = (cb B L a = 93) := propext (ub_e (cb_le B L a) (c := 93) (by decide))
theorem ub98 : (ubI (cb B L a) = 98) = (cb B L a = 98) := propext (ub_e (cb_le B L a) (c := 98) (by decide))
theorem ub102 : (ubI (cb B L a) = 102) = (cb B L a = 102) := propext (ub_e (cb_le B L a) (c := 102) (by decide))
theorem ub110 : (ubI (cb B L a) = 110) = (cb B L a = 110) := propext (ub_e (cb_le B L a) (c := 110) (by decide))
theorem ub114 : (ubI (cb B L a) = 114) = (cb B L a = 114) := propext (ub_e (cb_le B L a) (c := 114) (by decide))
theorem ub116 : (ubI (cb B L a) = 116) = (cb B L a = 116) := propext (ub_e (cb_le B L a) (c := 116) (by decide))
theorem ub117 : (ubI (cb B L a) = 117) = (cb B L a = 117) := propext (ub_e (cb_le B L a) (c := 117) (by decide))
theorem ub123 : (ubI (cb B L a) = 123) = (cb B L a = 123) := propext (ub_e (cb_le B L a) (c := 123) (by decide))
theorem ub125 : (ubI (cb B L a) = 125) = (cb B L a = 125) := propext (ub_e (cb_le B L a) (c := 125) (by decide))
theorem ubl32 : (ubI (cb B L a) < 32) = (cb B L a = 256 ∨ cb B L a < 32) := propext (ub_l (cb_le B L a) (c := 32) (by decide))
theorem ubl48 : (ubI (cb B L a) < 48) = (cb B L a = 256 ∨ cb B L a < 48) := propext (ub_l (cb_le B L a) (c := 48) (by decide))
theorem ubl65 : (ubI (cb B L a) < 65) = (cb B L a = 256 ∨ cb B L a < 65) := propext (ub_l (cb_le B L a) (c := 65) (by decide))
theorem ubl97 : (ubI (cb B L a) < 97) = (cb B L a = 256 ∨ cb B L a < 97) := propext (ub_l (cb_le B L a) (c := 97) (by decide))
theorem ubg57 : (57 < ubI (cb B L a)) = (cb B L a ≠ 256 ∧ 57 < cb B L a) := propext (ub_g (cb_le B L a) (c := 57) (by decide))
theorem ubg70 : (70 < ubI (cb B L a)) = (cb B L a ≠ 256 ∧ 70 < cb B L a) := propext (ub_g (cb_le B L a) (c := 70) (by decide))
theorem ubg102 : (102 < ubI (cb B L a)) = (cb B L a ≠ 256 ∧ 102 < cb B L a) := propext (ub_g (cb_le B L a) (c := 102) (by decide))
theorem ubg126 : (126 < ubI (cb B L a)) = (cb B L a ≠ 256 ∧ 126 < cb B L a) := propext (ub_g (cb_le B L a) (c := 126) (by decide))
theorem byt_eq {T : Nat → Int32} (hL : L ≤ 4096) (ha : a < 2 ^ 31) : m_X7_byteAt T (nI L) (nI a) = some (ubI (cb T L a)) := by
  unfold m_X7_byteAt
  rw [if_neg (nI_pos ha)]
  by_cases h : L ≤ a
  · rw [if_pos (nI_le h ha), cb_end h]
    rfl
  · rw [if_neg (fun q => h ((nI_leI (by omega) ha).mp q)), bd_go (show a < 4096 by omega) (by decide), nI_clamp ha, pk_and (T a) 8 (by decide)]
    unfold ubI cb
    rw [if_neg h, if_neg (show ¬ bv (T a) = 256 by unfold bv; omega)]
    rfl
def isBl (n : Nat) : Prop := n = 32 ∨ n = 9 ∨ n = 10 ∨ n = 13
def isDg (n : Nat) : Prop := 48 ≤ n ∧ n ≤ 57
theorem dig_eq : m_X8_isDigit (ubI (cb B L a)) = some (if 48 ≤ cb B L a ∧ cb B L a ≤ 57 then 1 else 0) := by
  unfold m_X8_isDigit
  simp only [ubl48, ubg57]
  have h0 := cb_le B L a
  by_cases h : 48 ≤ cb B L a ∧ cb B L a ≤ 57
  · rw [if_neg (by omega), if_neg (by omega), if_pos h]
  · rw [if_neg h]
    by_cases h1 : cb B L a = 256 ∨ cb B L a < 48
    · rw [if_pos h1]
    · rw [if_neg h1, if_pos (by omega)]
end UB
-- blanks
def sblf (B : Nat → Int32) (L : Nat) : Nat → Nat → Nat
  | 0, a => a
  | n + 1, a => if cb B L a = 32 ∨ cb B L a = 9 ∨ cb B L a = 10 ∨ cb B L a = 13 then sblf B L n (a + 1) else a
def sbl (B : Nat → Int32) (L a : Nat) : Nat := sblf B L (L - a) a
theorem sbl_s {B : Nat → Int32} {L a : Nat} : sbl B L a = if cb B L a = 32 ∨ cb B L a = 9 ∨ cb B L a = 10 ∨ cb B L a = 13 then sbl B L (a + 1) else a := by
  unfold sbl
  by_cases h : L ≤ a
  · rw [show L - a = 0 by omega, cb_end h]
    rfl
  · rw [show L - a = (L - (a + 1)) + 1 by omega]
    rfl
theorem sblf_le {B : Nat → Int32} {L : Nat} : ∀ (n a : Nat), a ≤ sblf B L n a ∧ sblf B L n a ≤ a + n := by
  intro n
  induction n with
  | zero => intro a; exact ⟨Nat.le_refl _, Nat.le_refl _⟩
  | succ n ih =>
    intro a
    simp only [sblf]
    have := ih (a + 1)
    by_cases h : cb B L a = 32 ∨ cb B L a = 9 ∨ cb B L a = 10 ∨ cb B L a = 13
    · rw [if_pos h]; omega
    · rw [if_neg h]; omega
theorem sbl_le {B : Nat → Int32} {L a : Nat} : a ≤ sbl B L a := (sblf_le _ _).1
theorem sbl_le2 {B : Nat → Int32} {L a : Nat} (h : a ≤ L) : sbl B L a ≤ L := by
  have := (sblf_le (B := B) (L := L) (L - a) a).2
  unfold sbl
  omega
section BBL
variable {T : Nat → Int32} {L : Nat}
theorem bbl_eq (hL : L ≤ 4096) {a : Nat} (ha : a ≤ 6000) : m_X7_behindBlanks T (nI L) (nI a) = some (nI (sbl T L a)) := by
  have go : ∀ (fuel a : Nat), a ≤ 6000 → L - a < fuel → m_X7_behindBlanks_2 T (nI L) fuel (nI a) = some (nI (sbl T L a)) := by
    intro fuel
    induction fuel with
    | zero => intro a _ hf; exact absurd hf (Nat.not_lt_zero _)
    | succ fuel ih =>
      intro a ha hf
      simp only [m_X7_behindBlanks_2, nI_1]
      rw [sbl_s]
      by_cases h : L ≤ a
      · rw [if_pos (nI_le h (by omega)), cb_end h]
        rfl
      · rw [if_neg (fun q => h ((nI_leI (by omega) (by omega)).mp q)), byt_eq hL (by omega)]
        simp only [Option.bind_some, m_X7_isBlank, ub32, ub10, ub13, ub9]
        have ih1 := ih (a + 1) (by omega) (by omega)
        by_cases h1 : cb T L a = 32
        · rw [if_pos h1, if_pos (Or.inl h1)]
          simp only [Option.bind_some]
          rw [if_neg (by decide)]
          exact ih1
        · by_cases h2 : cb T L a = 10
          · rw [if_neg h1, if_pos h2, if_pos (Or.inr (Or.inr (Or.inl h2)))]
            simp only [Option.bind_some]
            rw [if_neg (by decide)]
            exact ih1
          · by_cases h3 : cb T L a = 13
            · rw [if_neg h1, if_neg h2, if_pos h3, if_pos (Or.inr (Or.inr (Or.inr h3)))]
              simp only [Option.bind_some]
              rw [if_neg (by decide)]
              exact ih1
            · by_cases h4 : cb T L a = 9
              · rw [if_neg h1, if_neg h2, if_neg h3, if_pos h4, if_pos (Or.inr (Or.inl h4))]
                simp only [Option.bind_some]
                rw [if_neg (by decide)]
                exact ih1
              · rw [if_neg h1, if_neg h2, if_neg h3, if_neg h4, if_neg (by omega)]
                simp only [Option.bind_some, if_true]
  exact go sr_fuel a ha (by unfold sr_fuel; omega)
end BBL
end
section
-- the class's strings, exactly
def hexv (n : Nat) : Nat := if 48 ≤ n ∧ n ≤ 57 then n - 48 else if 97 ≤ n ∧ n ≤ 102 then n - 87 else if 65 ≤ n ∧ n ≤ 70 then n - 55 else 16
theorem hexv_le (n : Nat) : hexv n ≤ 16 := by
  unfold hexv
  repeat' split
  all_goals omega
theorem hexd_eq {B : Nat → Int32} {L a : Nat} : m_X7_hexDigit (ubI (cb B L a)) = some (if hexv (cb B L a) = 16 then -1 else nI (hexv (cb B L a))) := by
  have h0 := cb_le B L a
  unfold m_X7_hexDigit m_X7_hexDigit_17 m_X7_hexDigit_37
  simp only [ubl48, ubg57, ubl97, ubg102, ubl65, ubg70]
  generalize cb B L a = n at h0 ⊢
  unfold hexv ubI
  by_cases h1 : 48 ≤ n ∧ n ≤ 57
  · rw [if_neg (by omega), if_neg (by omega), if_pos h1, if_neg (by omega), if_neg (by omega), show (48 : Int32) = nI 48 from rfl, pk_sub h1.1]
  · by_cases h2 : 97 ≤ n ∧ n ≤ 102
    · have e : nI n - 97 + 10 = nI (n - 87) := by
        rw [show (97 : Int32) = nI 97 from rfl, pk_sub h2.1, show (10 : Int32) = nI 10 from rfl, nI_add]
        congr 1
        omega
      rw [if_neg h1, if_pos h2, if_neg (show ¬ n - 87 = 16 by omega)]
      rw [if_neg (show ¬ (n = 256 ∨ n < 48) by omega), if_pos (show n ≠ 256 ∧ 57 < n by omega), if_neg (show ¬ (n = 256 ∨ n < 97) by omega), if_neg (show ¬ (n ≠ 256 ∧ 102 < n) by omega), if_neg (show ¬ n = 256 by omega), e]
    · by_cases h3 : 65 ≤ n ∧ n ≤ 70
      · have e : nI n - 65 + 10 = nI (n - 55) := by
          rw [show (65 : Int32) = nI 65 from rfl, pk_sub h3.1, show (10 : Int32) = nI 10 from rfl, nI_add]
          congr 1
          omega
        rw [if_neg h1, if_neg h2, if_pos h3, if_neg (show ¬ n - 55 = 16 by omega)]
        rw [if_neg (show ¬ (n = 256 ∨ n < 48) by omega), if_pos (show n ≠ 256 ∧ 57 < n by omega), if_pos (show n = 256 ∨ n < 97 by omega), if_neg (show ¬ (n = 256 ∨ n < 65) by omega), if_neg (show ¬ (n ≠ 256 ∧ 70 < n) by omega), if_neg (show ¬ n = 256 by omega), e]
      · rw [if_neg h1, if_neg h2, if_neg h3, if_pos rfl]
        by_cases q1 : n = 256 ∨ n < 48
        · rw [if_pos q1, if_pos (show n = 256 ∨ n < 97 by omega), if_pos (show n = 256 ∨ n < 65 by omega)]
        · rw [if_neg q1, if_pos (show n ≠ 256 ∧ 57 < n by omega)]
          by_cases q2 : n = 256 ∨ n < 97
          · rw [if_pos q2]
            by_cases q3 : n = 256 ∨ n < 65
            · rw [if_pos q3]
            · rw [if_neg q3, if_pos (show n ≠ 256 ∧ 70 < n by omega)]
          · rw [if_neg q2, if_pos (show n ≠ 256 ∧ 102 < n by omega), if_neg (show ¬ (n = 256 ∨ n < 65) by omega), if_pos (show n ≠ 256 ∧ 70 < n by omega)]
/-- four digits, and what they stand for -/
def shex (B : Nat → Int32) (L a : Nat) : Nat → Nat → Nat → Nat ⊕ Nat
  | 0, _, v => if v ≤ 255 then .inr v else .inl a
  | n + 1, j, v => if hexv (cb B L j) = 16 then .inl j else shex B L a n (j + 1) (v * 16 + hexv (cb B L j))
def sesc (B : Nat → Int32) (L a : Nat) : Nat ⊕ Nat :=
  if cb B L (a + 1) = 34 then .inr 34 else if cb B L (a + 1) = 47 then .inr 47 else if cb B L (a + 1) = 92 then .inr 92 else if cb B L (a + 1) = 98 then .inr 8 else if cb B L (a + 1) = 102 then .inr 12 else if cb B L (a + 1) = 110 then .inr 10 else if cb B L (a + 1) = 114 then .inr 13 else if cb B L (a + 1) = 116 then .inr 9 else if cb B L (a + 1) = 117 then shex B L a 4 (a + 2) 0 else .inl (a + 1)
def sO (wp : Int32) : Nat ⊕ Nat → Int32 × Int32
  | .inl w => (-1, nI w)
  | .inr v => (nI v, wp)
theorem shex_le {B : Nat → Int32} {L a : Nat} : ∀ (n j v w : Nat), shex B L a n j v = .inr w → w ≤ 255 := by
  intro n
  induction n with
  | zero =>
    intro j v w h
    simp only [shex] at h
    by_cases q : v ≤ 255
    · rw [if_pos q] at h; cases h; exact q
    · rw [if_neg q] at h; cases h
  | succ n ih =>
    intro j v w h
    simp only [shex] at h
    by_cases q : hexv (cb B L j) = 16
    · rw [if_pos q] at h; cases h
    · rw [if_neg q] at h; exact ih _ _ _ h
theorem sesc_le {B : Nat → Int32} {L a w : Nat} (h : sesc B L a = .inr w) : w ≤ 255 := by
  unfold sesc at h
  repeat' (split at h)
  all_goals first | (cases h; omega) | exact shex_le _ _ _ _ h | cases h
section CSTR
variable {T : Nat → Int32} {L : Nat}
theorem resc_eq (hL : L ≤ 4096) (wp : Int32) {a : Nat} (ha : a < L) : m_X7_readEscape T (nI L) wp (nI a) = some (sO wp (sesc T L a)) := by
  have go : ∀ (n fuel j v : Nat), j + n = a + 6 → n < fuel → (v + 1) * 16 ^ n ≤ 65536 → m_X7_readEscape_127 T (nI L) fuel wp (nI a) (nI v) (nI j) = some (sO wp (shex T L a n j v)) := by
    intro n
    induction n with
    | zero =>
      intro fuel j v hj hf hv
      obtain ⟨f, rfl⟩ : ∃ f, fuel = f + 1 := ⟨fuel - 1, by omega⟩
      have e6 : nI a + 6 = nI (a + 6) := nI_add a 6
      simp only [m_X7_readEscape_127, m_X7_refuse, Option.bind_some, e6, shex]
      rw [if_pos (nI_le (show a + 6 ≤ j by omega) (by omega))]
      by_cases h : v ≤ 255
      · rw [if_pos (show nI v ≤ 255 from nI_le (b := 255) h (by decide)), if_pos h]
        rfl
      · have hv' : v + 1 ≤ 65536 := by rw [Nat.pow_zero, Nat.mul_one] at hv; exact hv
        rw [if_neg (show ¬ nI v ≤ 255 from fun q => h ((nI_leI (b := 255) (by omega) (by decide)).mp q)), if_neg h]
        rfl
    | succ n ih =>
      intro fuel j v hj hf hv
      obtain ⟨f, rfl⟩ : ∃ f, fuel = f + 1 := ⟨fuel - 1, by omega⟩
      have e6 : nI a + 6 = nI (a + 6) := nI_add a 6
      simp only [m_X7_readEscape_127, m_X7_refuse, Option.bind_some, e6, shex, nI_1]
      rw [if_neg (fun q => absurd ((nI_leI (by omega) (by omega)).mp q) (by omega)), byt_eq hL (by omega)]
      simp only [Option.bind_some, hexd_eq]
      have hx := hexv_le (cb T L j)
      by_cases h : hexv (cb T L j) = 16
      · simp only [if_pos h, Option.bind_some, if_true]
        rfl
      · have hp : (0 : Nat) < 16 ^ (n + 1) := Nat.pow_pos (by decide)
        have hv2 : v + 1 ≤ 65536 := Nat.le_trans (Nat.le_mul_of_pos_right _ hp) hv
        have hm : ¬ (nI (hexv (cb T L j)) = -1) := fun q => by
          have := nI_pos' (n := hexv (cb T L j)) (by omega)
          rw [q] at this
          exact absurd this (by decide)
        have ev : nI v * 16 + nI (hexv (cb T L j)) = nI (v * 16 + hexv (cb T L j)) := by
          rw [show (16 : Int32) = nI 16 from rfl, pk_mul, nI_add]
        simp only [if_neg h, Option.bind_some, if_neg hm, ev]
        refine ih f (j + 1) _ (by omega) (by omega) ?_
        refine Nat.le_trans (Nat.mul_le_mul_right _ (show v * 16 + hexv (cb T L j) + 1 ≤ (v + 1) * 16 by omega)) ?_
        rw [Nat.mul_assoc, Nat.mul_comm 16, ← Nat.pow_succ]
        exact hv
  have e2 : nI a + 2 = nI (a + 2) := nI_add a 2
  unfold m_X7_readEscape
  simp only [m_X7_refuse, Option.bind_some, e2, nI_1]
  rw [byt_eq hL (by omega)]
  simp only [Option.bind_some, ub34, ub47, ub92, ub98, ub102, ub110, ub114, ub116, ub117]
  have g := go 4 sr_fuel (a + 2) 0 (by omega) (by unfold sr_fuel; omega) (by decide)
  rw [nI_0] at g
  unfold sesc
  by_cases c1 : cb T L (a + 1) = 34
  · simp only [if_pos c1, c1]; rfl
  by_cases c2 : cb T L (a + 1) = 47
  · simp only [if_neg c1, if_pos c2, c2]; rfl
  by_cases c3 : cb T L (a + 1) = 92
  · simp only [if_neg c1, if_neg c2, if_pos c3, c3]; rfl
  by_cases c4 : cb T L (a + 1) = 98
  · simp only [if_neg c1, if_neg c2, if_neg c3, if_pos c4]; rfl
  by_cases c5 : cb T L (a + 1) = 102
  · simp only [if_neg c1, if_neg c2, if_neg c3, if_neg c4, if_pos c5]; rfl
  by_cases c6 : cb T L (a + 1) = 110
  · simp only [if_neg c1, if_neg c2, if_neg c3, if_neg c4, if_neg c5, if_pos c6]; rfl
  by_cases c7 : cb T L (a + 1) = 114
  · simp only [if_neg c1, if_neg c2, if_neg c3, if_neg c4, if_neg c5, if_neg c6, if_pos c7]; rfl
  by_cases c8 : cb T L (a + 1) = 116
  · simp only [if_neg c1, if_neg c2, if_neg c3, if_neg c4, if_neg c5, if_neg c6, if_neg c7, if_pos c8]; rfl
  by_cases c9 : cb T L (a + 1) = 117
  · simp only [if_neg c1, if_neg c2, if_neg c3, if_neg c4, if_neg c5, if_neg c6, if_neg c7, if_neg c8, if_pos c9]; exact g
  · simp only [if_neg c1, if_neg c2, if_neg c3, if_neg c4, if_neg c5, if_neg c6, if_neg c7, if_neg c8, if_neg c9]; rfl
end CSTR
end
section
-- a string, exactly
def sC (v : Nat) : Nat ⊕ (List Nat × Nat) → Nat ⊕ (List Nat × Nat)
  | .inl w => .inl w
  | .inr (l, q) => .inr (v :: l, q)
def sE (x : Nat ⊕ Nat) (k : Nat → Nat ⊕ (List Nat × Nat)) : Nat ⊕ (List Nat × Nat) := match x with
  | .inl w => .inl w
  | .inr v => sC v (k v)
def elen (B : Nat → Int32) (L q : Nat) : Nat := if cb B L (q + 1) = 117 then 6 else 2
def sstrf (B : Nat → Int32) (L : Nat) : Nat → Nat → Nat ⊕ (List Nat × Nat)
  | 0, q => .inl q
  | n + 1, q => if L ≤ q then .inl q else if cb B L q = 34 then .inr ([], q + 1) else if cb B L q < 32 ∨ 126 < cb B L q then .inl q else if cb B L q = 92 then sE (sesc B L q) (fun _ => sstrf B L n (q + elen B L q)) else sC (cb B L q) (sstrf B L n (q + 1))
theorem sstr_any {B : Nat → Int32} {L : Nat} : ∀ (n m q : Nat), L - q < n → L - q < m → sstrf B L n q = sstrf B L m q := by
  intro n
  induction n with
  | zero => intro m q h _; exact absurd h (Nat.not_lt_zero _)
  | succ n ih =>
    intro m q hn hm
    obtain ⟨m, rfl⟩ : ∃ k, m = k + 1 := ⟨m - 1, by omega⟩
    simp only [sstrf]
    by_cases h : L ≤ q
    · rw [if_pos h, if_pos h]
    · have he : 2 ≤ elen B L q := by
        unfold elen
        split <;> omega
      rw [ih m (q + elen B L q) (by omega) (by omega), ih m (q + 1) (by omega) (by omega)]
def sstr (B : Nat → Int32) (L q : Nat) : Nat ⊕ (List Nat × Nat) := sstrf B L (L + 1) q
theorem sstr_s {B : Nat → Int32} {L q : Nat} : sstr B L q = if L ≤ q then .inl q else if cb B L q = 34 then .inr ([], q + 1) else if cb B L q < 32 ∨ 126 < cb B L q then .inl q else if cb B L q = 92 then sE (sesc B L q) (fun _ => sstr B L (q + elen B L q)) else sC (cb B L q) (sstr B L (q + 1)) := by
  unfold sstr
  by_cases h : L ≤ q
  · simp only [sstrf, if_pos h]
  · have he : 2 ≤ elen B L q := by
      unfold elen
      split <;> omega
    rw [← sstr_any L (L + 1) (q + elen B L q) (by omega) (by omega), ← sstr_any L (L + 1) (q + 1) (by omega) (by omega)]
    rfl
theorem shex_pos {B : Nat → Int32} {L a : Nat} : ∀ (n j v w : Nat), shex B L a n j v = .inr w → n = 0 ∨ j + n ≤ L := by
  intro n
  induction n with
  | zero => intro j v w _; exact Or.inl rfl
  | succ n ih =>
    intro j v w h
    simp only [shex] at h
    by_cases q : hexv (cb B L j) = 16
    · rw [if_pos q] at h; cases h
    · rw [if_neg q] at h
      have hj : j < L := cb_lt (fun e => q (by rw [e]; decide))
      rcases ih _ _ _ h with e | e
      · right; omega
      · right; omega
theorem sesc_pos {B : Nat → Int32} {L a w : Nat} (h : sesc B L a = .inr w) : a + elen B L a ≤ L := by
  unfold elen
  by_cases c : cb B L (a + 1) = 117
  · rw [if_pos c]
    unfold sesc at h
    rw [c] at h
    have h2 : shex B L a 4 (a + 2) 0 = .inr w := h
    rcases shex_pos _ _ _ _ h2 with e | e
    · exact absurd e (by decide)
    · omega
  · rw [if_neg c]
    have : a + 1 < L := by
      apply cb_lt
      intro e
      unfold sesc at h
      rw [e] at h
      exact absurd h (by simp)
    omega
def wrS (f : Nat → Int32) (i : Nat) : List Nat → (Nat → Int32)
  | [] => f
  | v :: t => wrS (upd f i (vp_nar .byte ((nI v).toInt8.toInt32))) (i + 1) t
section CSTR2
variable {T Sd Am : Nat → Int32} {L : Nat}
theorem etr_eq {row : Nat → Int32} {n i : Nat} {v : Int32} (hn : n < 2 ^ 31) (hi : i < n) : m_X8_enter row n (nI i) v = some (upd row i v) := by
  unfold m_X8_enter
  rw [if_neg (nI_pos (by omega)), if_neg (show ¬ Int32.ofNat n ≤ nI i from fun q => absurd ((nI_leI (a := n) (b := i) (by omega) (by omega)).mp q) (by omega)), bd_go hi hn, nI_clamp (by omega)]
theorem say_eq {i : Nat} (hi : i < 4096) (b : Int32) : m_X7_say Sd (nI i) b = some (upd Sd i (vp_nar .byte (b.toInt8.toInt32))) := by
  unfold m_X7_say
  rw [if_neg (nI_pos (by omega)), if_neg (show ¬ Int32.ofNat 4096 ≤ nI i from fun q => absurd ((nI_leI (a := 4096) (b := i) (by omega) (by omega)).mp q) (by omega)), bd_go hi (by decide), nI_clamp (by omega)]
theorem rstr_go (hL : L ≤ 4096) (wp : Int32) {a : Nat} (ha : a < L) : ∀ (fuel k q : Nat) (Sd : Nat → Int32), q ≤ L → a + 1 + k ≤ q → L - q < fuel →
    (∃ w Sd', sstr T L q = .inl w ∧ m_X7_readString_6 T (nI L) fuel Sd Am wp (nI a) (nI k) (nI q) = some (-1, Sd', Am, nI w)) ∨ (∃ l q', sstr T L q = .inr (l, q') ∧ q < q' ∧ q' ≤ L ∧ q + l.length < q' ∧ m_X7_readString_6 T (nI L) fuel Sd Am wp (nI a) (nI k) (nI q) = some (nI q', wrS Sd (a + k) l, upd Am a (nI (k + l.length)), wp)) := by
  intro fuel
  induction fuel with
  | zero => intro k q Sd _ _ hf; exact absurd hf (Nat.not_lt_zero _)
  | succ fuel ih =>
    intro k q Sd hq hk hf
    have e5 : nI q + 5 = nI (q + 5) := nI_add q 5
    rw [sstr_s]
    simp only [m_X7_readString_6, m_X7_refuse, Option.bind_some, m_X7_readString_55, m_X7_readString_101, m_X7_readString_103, e5, nI_1]
    by_cases h : L ≤ q
    · rw [if_pos (nI_le h (by omega)), if_pos h]
      have e : L = q := by omega
      exact Or.inl ⟨q, Sd, rfl, by rw [e]⟩
    · rw [if_neg (fun z => h ((nI_leI (by omega) (by omega)).mp z)), if_neg h, byt_eq hL (by omega)]
      have hlt : q < L := by omega
      have hne : cb T L q ≠ 256 := by
        unfold cb bv
        rw [if_neg h]
        omega
      have hle := cb_le T L q
      simp only [Option.bind_some, ub34, ubl32, ub92]
      by_cases h1 : cb T L q = 34
      · rw [if_pos h1, if_pos h1, etr_eq (by decide) (show a < 4096 by omega)]
        exact Or.inr ⟨[], q + 1, rfl, by omega, by omega, by simp, rfl⟩
      · rw [if_neg h1, if_neg h1]
        by_cases h2 : cb T L q < 32
        · rw [if_pos (Or.inr h2), if_pos (Or.inl h2)]
          exact Or.inl ⟨q, Sd, rfl, rfl⟩
        · rw [if_neg (show ¬ (cb T L q = 256 ∨ cb T L q < 32) by omega)]
          have eu : ubI (cb T L q) = nI (cb T L q) := if_neg hne
          by_cases h3 : 126 < cb T L q
          · rw [if_neg (show ¬ ubI (cb T L q) ≤ 126 from fun z => absurd ((nI_leI (a := cb T L q) (b := 126) (by omega) (by decide)).mp (by rw [← eu]; exact z)) (by omega)), if_pos (Or.inr h3)]
            exact Or.inl ⟨q, Sd, rfl, rfl⟩
          · rw [if_pos (show ubI (cb T L q) ≤ 126 from by rw [eu]; exact nI_le (b := 126) (by omega) (by decide)), if_neg (show ¬ (cb T L q < 32 ∨ 126 < cb T L q) by omega)]
            by_cases h4 : cb T L q = 92
            · rw [if_pos h4, if_pos h4, resc_eq hL _ hlt]
              simp only [Option.bind_some]
              cases he : sesc T L q with
              | inl w => exact Or.inl ⟨w, Sd, rfl, rfl⟩
              | inr v =>
                have hv := sesc_le he
                have hp := sesc_pos he
                have hm : ¬ (nI v = -1) := fun z => by
                  have := nI_pos' (n := v) (by omega)
                  rw [z] at this
                  exact absurd this (by decide)
                simp only [sO, if_neg hm, sE, byt_eq hL (show q + 1 < 2 ^ 31 by omega), Option.bind_some, ub117, nI_add, say_eq (Sd := Sd) (show a + k < 4096 by omega)]
                have step : ∀ z, z = q + elen T L q → (∃ w Sd', sC v (sstr T L (q + elen T L q)) = .inl w ∧ m_X7_readString_6 T (nI L) fuel (upd Sd (a + k) (vp_nar .byte ((nI v).toInt8.toInt32))) Am wp (nI a) (nI (k + 1)) (nI z) = some (-1, Sd', Am, nI w)) ∨ (∃ l q', sC v (sstr T L (q + elen T L q)) = .inr (l, q') ∧ q < q' ∧ q' ≤ L ∧ q + l.length < q' ∧ m_X7_readString_6 T (nI L) fuel (upd Sd (a + k) (vp_nar .byte ((nI v).toInt8.toInt32))) Am wp (nI a) (nI (k + 1)) (nI z) = some (nI q', wrS Sd (a + k) l, upd Am a (nI (k + l.length)), wp)) := by
                  intro z hz
                  subst hz
                  have h2 : 2 ≤ elen T L q := by
                    unfold elen
                    split <;> omega
                  rcases ih (k + 1) (q + elen T L q) (upd Sd (a + k) (vp_nar .byte ((nI v).toInt8.toInt32))) hp (by omega) (by omega) with ⟨w, Sd', g1, g2⟩ | ⟨l, q', g1, g2, g3, g4, g5⟩
                  · exact Or.inl ⟨w, Sd', by rw [g1]; rfl, g2⟩
                  · refine Or.inr ⟨v :: l, q', by rw [g1]; rfl, by omega, g3, by simp only [List.length_cons]; omega, ?_⟩
                    rw [g5, List.length_cons, show k + (l.length + 1) = k + 1 + l.length by omega]
                    rfl
                by_cases h5 : cb T L (q + 1) = 117
                · rw [if_pos h5]
                  exact step _ (by unfold elen; rw [if_pos h5])
                · rw [if_neg h5]
                  exact step _ (by unfold elen; rw [if_neg h5])
            · rw [if_neg h4, if_neg h4]
              simp only [nI_add, say_eq (Sd := Sd) (show a + k < 4096 by omega), Option.bind_some, eu]
              rcases ih (k + 1) (q + 1) (upd Sd (a + k) (vp_nar .byte ((nI (cb T L q)).toInt8.toInt32))) (by omega) (by omega) (by omega) with ⟨w, Sd', g1, g2⟩ | ⟨l, q', g1, g2, g3, g4, g5⟩
              · exact Or.inl ⟨w, Sd', by rw [g1]; rfl, g2⟩
              · refine Or.inr ⟨cb T L q :: l, q', by rw [g1]; rfl, by omega, g3, by simp only [List.length_cons]; omega, ?_⟩
                rw [g5, List.length_cons, show k + (l.length + 1) = k + 1 + l.length by omega]
                rfl
theorem rstr_eq (hL : L ≤ 4096) (wp : Int32) {a : Nat} (ha : a < L) : (∃ w Sd', sstr T L (a + 1) = .inl w ∧ m_X7_readString T Sd Am (nI L) wp (nI a) = some (-1, Sd', Am, nI w)) ∨ (∃ l q', sstr T L (a + 1) = .inr (l, q') ∧ a + 1 < q' ∧ q' ≤ L ∧ a + 1 + l.length < q' ∧ m_X7_readString T Sd Am (nI L) wp (nI a) = some (nI q', wrS Sd a l, upd Am a (nI l.length), wp)) := by
  unfold m_X7_readString
  have := rstr_go (T := T) (Am := Am) hL wp ha sr_fuel 0 (a + 1) Sd (by omega) (by omega) (by unfold sr_fuel; omega)
  simp only [nI_0, Nat.add_zero, Nat.zero_add] at this
  simp only [nI_1]
  exact this
end CSTR2
end
section
-- words and numbers, exactly
theorem ls_get {s : List Nat} {j : Nat} (h : j < s.length) : s.getD j 0 = s[j] := by
  rw [List.getD_eq_getElem?_getD, List.getElem?_eq_getElem h]
  rfl
def wdl (w : Nat) : List Nat := [[116, 114, 117, 101], [102, 97, 108, 115, 101], [110, 117, 108, 108]].getD w []
theorem wdl_len : ∀ w, w < 3 → lenS.getD w 0 = (wdl w).length := by decide +kernel
theorem wdl_chr : ∀ w, w < 3 → ∀ j, j < (wdl w).length → (bytS.getD w []).getD j 0 = nI ((wdl w).getD j 0) ∧ (wdl w).getD j 0 < 256 := by decide +kernel
theorem wdl_sm : ∀ w, w < 3 → (wdl w).length ≤ 5 := by decide +kernel
def swd (B : Nat → Int32) (L : Nat) : List Nat → Nat → Nat ⊕ Nat
  | [], p => .inr p
  | c :: t, p => if cb B L p = c then swd B L t (p + 1) else .inl p
theorem swd_r {B : Nat → Int32} {L : Nat} : ∀ (l : List Nat) (p q : Nat), swd B L l p = .inr q → q = p + l.length := by
  intro l
  induction l with
  | nil => intro p q h; cases h; rfl
  | cons c t ih =>
    intro p q h
    simp only [swd] at h
    by_cases e : cb B L p = c
    · rw [if_pos e] at h
      have := ih _ _ h
      rw [List.length_cons]
      omega
    · rw [if_neg e] at h; cases h
def sdgf (B : Nat → Int32) (L : Nat) : Nat → Nat → Nat
  | 0, a => a
  | n + 1, a => if 48 ≤ cb B L a ∧ cb B L a ≤ 57 then sdgf B L n (a + 1) else a
def sdg (B : Nat → Int32) (L a : Nat) : Nat := sdgf B L (L - a) a
theorem sdg_s {B : Nat → Int32} {L a : Nat} : sdg B L a = if 48 ≤ cb B L a ∧ cb B L a ≤ 57 then sdg B L (a + 1) else a := by
  unfold sdg
  by_cases h : L ≤ a
  · rw [show L - a = 0 by omega, cb_end h]
    rfl
  · rw [show L - a = (L - (a + 1)) + 1 by omega]
    rfl
theorem sdgf_le {B : Nat → Int32} {L : Nat} : ∀ (n a : Nat), a ≤ sdgf B L n a ∧ sdgf B L n a ≤ a + n ∧ ∀ q, a ≤ q → q < sdgf B L n a → 48 ≤ cb B L q ∧ cb B L q ≤ 57 := by
  intro n
  induction n with
  | zero => intro a; exact ⟨Nat.le_refl _, Nat.le_refl _, fun q h1 h2 => absurd h2 (Nat.not_lt_of_le h1)⟩
  | succ n ih =>
    intro a
    simp only [sdgf]
    obtain ⟨h1, h2, h3⟩ := ih (a + 1)
    by_cases h : 48 ≤ cb B L a ∧ cb B L a ≤ 57
    · rw [if_pos h]
      refine ⟨by omega, by omega, fun q q1 q2 => ?_⟩
      by_cases e : q = a
      · rw [e]; exact h
      · exact h3 q (by omega) q2
    · rw [if_neg h]
      exact ⟨Nat.le_refl _, by omega, fun q q1 q2 => absurd q2 (Nat.not_lt_of_le q1)⟩
/-- whether the digits from q on, n of them, stay within a long; v: what stood before, below 0 -/
def swl (B : Nat → Int32) (L : Nat) (last : Nat) : Nat → Nat → Int64 → Bool
  | 0, _, _ => true
  | n + 1, q, v => if lg_cmp v (-922337203685477580) < 0 then false else if lg_cmp v (-922337203685477580) = 0 ∧ last < cb B L q - 48 then false else swl B L last n (q + 1) (v * 10 - (nI (cb B L q - 48)).toInt64)
def snum (B : Nat → Int32) (L a : Nat) : Nat ⊕ Nat :=
  let f := if cb B L a = 45 then a + 1 else a
  if 48 ≤ cb B L f ∧ cb B L f ≤ 57 then
    let b := if cb B L f = 48 then f + 1 else sdg B L (f + 1)
    if swl B L (if cb B L a = 45 then 8 else 7) (b - f) f 0 = true then .inr b else .inl a
  else .inl f
section CNUM
variable {T : Nat → Int32} {L : Nat}
theorem rwrd_eq (hL : L ≤ 4096) {w : Nat} (hw : w < 3) (wp : Int32) {a : Nat} (ha : a ≤ L) : m_X7_readWord T (nI L) wp (nI a) w = some (sO wp (swd T L (wdl w) a)) := by
  have hS : ¬ nS ≤ w := by unfold nS; omega
  have hln := wdl_len w hw
  have hsm := wdl_sm w hw
  have go : ∀ (fuel j : Nat), j ≤ (wdl w).length → (wdl w).length - j < fuel → m_X7_readWord_2 T (nI L) fuel wp (nI a) w (nI j) = some (sO wp (swd T L ((wdl w).drop j) (a + j))) := by
    intro fuel
    induction fuel with
    | zero => intro j _ hf; exact absurd hf (Nat.not_lt_zero _)
    | succ fuel ih =>
      intro j hj hf
      simp only [m_X7_readWord_2, if_neg hS, len_eq w (by omega), Option.bind_some, m_X7_refuse, hln, nI_add]
      by_cases h : (wdl w).length ≤ j
      · rw [if_pos (nI_le h (by omega)), List.drop_of_length_le h]
        have e : (wdl w).length = j := by omega
        rw [e]
        rfl
      · have hlt : j < (wdl w).length := by omega
        rw [if_neg (fun q => h ((nI_leI (by omega) (by omega)).mp q)), byt_eq hL (by omega)]
        obtain ⟨hc1, hc2⟩ := wdl_chr w hw j hlt
        simp only [Option.bind_some, chr_eq w (by omega) j (by rw [hln]; exact hlt), hc1, nI_1]
        have hd : (wdl w).drop j = (wdl w).getD j 0 :: (wdl w).drop (j + 1) := by
          rw [List.drop_eq_getElem_cons hlt, ls_get hlt]
        rw [hd]
        simp only [swd]
        by_cases hc : cb T L (a + j) = (wdl w).getD j 0
        · rw [if_pos ((ub_e (cb_le T L (a + j)) hc2).mpr hc), if_pos hc]
          exact ih (j + 1) (by omega) (by omega)
        · rw [if_neg (fun q => hc ((ub_e (cb_le T L (a + j)) hc2).mp q)), if_neg hc]
          rfl
  unfold m_X7_readWord
  have := go sr_fuel 0 (Nat.zero_le _) (by unfold sr_fuel; omega)
  rw [nI_0, List.drop_zero, Nat.add_zero] at this
  exact this
theorem iwl_eq (hL : L ≤ 4096) {f b : Nat} (hb : b ≤ L) (hfb : f ≤ b) (hd : ∀ q, f ≤ q → q < b → 48 ≤ cb T L q ∧ cb T L q ≤ 57) (x : Int32) : m_X7_isWithinLong T (nI L) (nI f) (nI b) x = some (if swl T L (if x = 0 then 7 else 8) (b - f) f 0 = true then 1 else 0) := by
  have go : ∀ (n fuel q last : Nat) (v : Int64), last < 10 → q + n = b → f ≤ q → n < fuel → m_X7_isWithinLong_19 T (nI L) fuel (nI b) (nI last) v (nI q) = some (if swl T L last n q v = true then 1 else 0) := by
    intro n
    induction n with
    | zero =>
      intro fuel q last v _ hq _ hf
      obtain ⟨fu, rfl⟩ : ∃ k, fuel = k + 1 := ⟨fuel - 1, by omega⟩
      simp only [m_X7_isWithinLong_19]
      rw [if_pos (nI_le (show b ≤ q by omega) (by omega))]
      rfl
    | succ n ih =>
      intro fuel q last v hlast hq hfq hf
      obtain ⟨fu, rfl⟩ : ∃ k, fuel = k + 1 := ⟨fuel - 1, by omega⟩
      obtain ⟨d1, d2⟩ := hd q hfq (by omega)
      simp only [m_X7_isWithinLong_19, m_X7_isWithinLong_63, nI_1]
      rw [if_neg (fun z => absurd ((nI_leI (a := b) (b := q) (by omega) (by omega)).mp z) (by omega)), byt_eq hL (by omega)]
      have eu : ubI (cb T L q) - 48 = nI (cb T L q - 48) := by
        rw [show ubI (cb T L q) = nI (cb T L q) from if_neg (by omega), show (48 : Int32) = nI 48 from rfl, pk_sub d1]
      simp only [Option.bind_some, eu]
      have hs : swl T L last (n + 1) q v = if lg_cmp v (-922337203685477580) < 0 then false else if lg_cmp v (-922337203685477580) = 0 ∧ last < cb T L q - 48 then false else swl T L last n (q + 1) (v * 10 - (nI (cb T L q - 48)).toInt64) := rfl
      by_cases c1 : lg_cmp v (-922337203685477580) < 0
      · rw [if_pos c1] at hs ⊢
        rw [hs]
        rfl
      · rw [if_neg c1] at hs ⊢
        have ih1 := ih fu (q + 1) last (v * 10 - (nI (cb T L q - 48)).toInt64) hlast (by omega) (by omega) (by omega)
        by_cases c2 : lg_cmp v (-922337203685477580) = 0
        · rw [if_pos c2]
          by_cases c3 : last < cb T L q - 48
          · rw [if_neg (fun z => absurd ((nI_leI (a := cb T L q - 48) (b := last) (by omega) (by omega)).mp z) (by omega))]
            rw [if_pos ⟨c2, c3⟩] at hs
            rw [hs]
            rfl
          · rw [if_pos (nI_le (by omega) (by omega))]
            rw [if_neg (fun z => c3 z.2)] at hs
            rw [hs]
            exact ih1
        · rw [if_neg c2]
          rw [if_neg (fun z => c2 z.1)] at hs
          rw [hs]
          exact ih1
  unfold m_X7_isWithinLong m_X7_isWithinLong_11
  by_cases h : x = 0
  · rw [if_pos h, if_pos h]
    exact go (b - f) sr_fuel f 7 0 (by decide) (by omega) (Nat.le_refl _) (by unfold sr_fuel; omega)
  · rw [if_neg h, if_neg h]
    exact go (b - f) sr_fuel f 8 0 (by decide) (by omega) (Nat.le_refl _) (by unfold sr_fuel; omega)
theorem rnum_eq (hL : L ≤ 4096) (wp : Int32) {a : Nat} (ha : a < L) : m_X7_readNumber T (nI L) wp (nI a) = some (sO wp (snum T L a)) := by
  have h87 : ∀ (x2 : Int32) (f b : Nat), f ≤ b → b ≤ L → (∀ q, f ≤ q → q < b → 48 ≤ cb T L q ∧ cb T L q ≤ 57) → m_X7_readNumber_87 T (nI L) wp (nI a) x2 (nI f) (nI b) = some (sO wp (if swl T L (if x2 = 0 then 7 else 8) (b - f) f 0 = true then .inr b else .inl a)) := by
    intro x2 f b h1 h2 h3
    unfold m_X7_readNumber_87
    rw [iwl_eq hL h2 h1 h3]
    simp only [Option.bind_some, m_X7_refuse]
    by_cases h : swl T L (if x2 = 0 then 7 else 8) (b - f) f 0 = true
    · rw [if_pos h, if_pos h, if_neg (by decide)]
      rfl
    · rw [if_neg h, if_neg h, if_pos rfl]
      rfl
  have go : ∀ (fuel b : Nat) (x2 : Int32) (f : Nat), f ≤ b → b ≤ L → L - b < fuel → (∀ q, f ≤ q → q < b → 48 ≤ cb T L q ∧ cb T L q ≤ 57) → m_X7_readNumber_60 T (nI L) fuel wp (nI a) x2 (nI f) (nI b) = some (sO wp (if swl T L (if x2 = 0 then 7 else 8) (sdg T L b - f) f 0 = true then .inr (sdg T L b) else .inl a)) := by
    intro fuel
    induction fuel with
    | zero => intro b x2 f _ _ hf _; exact absurd hf (Nat.not_lt_zero _)
    | succ fuel ih =>
      intro b x2 f h1 h2 hf h3
      simp only [m_X7_readNumber_60, nI_1]
      rw [sdg_s]
      by_cases h : L ≤ b
      · rw [if_pos (nI_le h (by omega)), if_neg (show ¬ (48 ≤ cb T L b ∧ cb T L b ≤ 57) by rw [cb_end h]; omega)]
        exact h87 x2 f b h1 h2 h3
      · rw [if_neg (fun z => h ((nI_leI (by omega) (by omega)).mp z)), byt_eq hL (by omega)]
        simp only [Option.bind_some, dig_eq]
        by_cases hd : 48 ≤ cb T L b ∧ cb T L b ≤ 57
        · simp only [if_pos hd, Option.bind_some]
          rw [if_neg (by decide)]
          refine ih (b + 1) x2 f (by omega) (by omega) (by omega) (fun q q1 q2 => ?_)
          by_cases e : q = b
          · rw [e]; exact hd
          · exact h3 q q1 (by omega)
        · simp only [if_neg hd, Option.bind_some, if_true]
          exact h87 x2 f b h1 h2 h3
  have h27 : ∀ (x2 : Int32) (f : Nat), f ≤ L → m_X7_readNumber_27 T (nI L) wp (nI a) x2 (nI f) = some (sO wp (if 48 ≤ cb T L f ∧ cb T L f ≤ 57 then (if swl T L (if x2 = 0 then 7 else 8) ((if cb T L f = 48 then f + 1 else sdg T L (f + 1)) - f) f 0 = true then .inr (if cb T L f = 48 then f + 1 else sdg T L (f + 1)) else .inl a) else .inl f)) := by
    intro x2 f hf
    unfold m_X7_readNumber_27
    rw [byt_eq hL (by omega)]
    simp only [Option.bind_some, dig_eq, m_X7_refuse, nI_1]
    by_cases hd : 48 ≤ cb T L f ∧ cb T L f ≤ 57
    · have hfL : f < L := cb_lt (B := T) (by omega)
      have h3 : ∀ q, f ≤ q → q < f + 1 → 48 ≤ cb T L q ∧ cb T L q ≤ 57 := fun q q1 q2 => by
        rw [show q = f by omega]
        exact hd
      simp only [if_pos hd, Option.bind_some]
      rw [if_neg (by decide)]
      simp only [ub48]
      by_cases h0 : cb T L f = 48
      · rw [if_pos h0, if_pos h0]
        exact h87 x2 f (f + 1) (by omega) (by omega) h3
      · rw [if_neg h0, if_neg h0]
        exact go sr_fuel (f + 1) x2 f (by omega) (by omega) (by unfold sr_fuel; omega) h3
    · simp only [if_neg hd, Option.bind_some, if_true]
      rfl
  unfold m_X7_readNumber m_X7_readNumber_15 snum
  rw [byt_eq hL (by omega)]
  simp only [Option.bind_some, ub45, nI_1]
  by_cases h : cb T L a = 45
  · simp only [if_pos h]
    rw [if_neg (by decide), h27 1 (a + 1) (by omega)]
    rw [if_neg (show ¬ (1 : Int32) = 0 by decide)]
  · simp only [if_neg h]
    rw [if_pos trivial, h27 0 a (by omega), if_pos rfl]
end CNUM
end
section
-- what strings say, exactly
theorem ls_eq {s t : List Nat} (hl : s.length = t.length) (h : ∀ i, i < s.length → s.getD i 0 = t.getD i 0) : s = t := by
  refine List.ext_getElem hl (fun i h1 h2 => ?_)
  have := h i h1
  rw [ls_get h1, ls_get h2] at this
  exact this
theorem ls_drop {s : List Nat} {j : Nat} (h : j < s.length) : s.drop j = s.getD j 0 :: s.drop (j + 1) := by
  rw [List.drop_eq_getElem_cons h, ls_get h]
theorem bv_nar : ∀ v, v < 256 → bv (vp_nar .byte ((nI v).toInt8.toInt32)) = v := by decide +kernel
theorem wrS_all : ∀ (l : List Nat) (f : Nat → Int32) (i : Nat), (∀ v, v ∈ l → v ≤ 255) → (∀ x, x < i → wrS f i l x = f x) ∧ (∀ x, i + l.length ≤ x → wrS f i l x = f x) ∧ ∀ j, j < l.length → bv (wrS f i l (i + j)) = l.getD j 0 := by
  intro l
  induction l with
  | nil =>
    intro f i _
    exact ⟨fun _ _ => rfl, fun _ _ => rfl, fun j h => absurd h (Nat.not_lt_zero _)⟩
  | cons v t ih =>
    intro f i hv
    obtain ⟨h1, h2, h3⟩ := ih (upd f i (vp_nar .byte ((nI v).toInt8.toInt32))) (i + 1) (fun x hx => hv x (List.mem_cons_of_mem _ hx))
    refine ⟨fun x hx => ?_, fun x hx => ?_, fun j hj => ?_⟩
    · show wrS _ (i + 1) t x = f x
      rw [h1 x (by omega), pk_un (by omega)]
    · show wrS _ (i + 1) t x = f x
      rw [List.length_cons] at hx
      rw [h2 x (by omega), pk_un (by omega)]
    · show bv (wrS _ (i + 1) t (i + j)) = _
      cases j with
      | zero =>
        have hb := hv v List.mem_cons_self
        show bv (wrS (upd f i (vp_nar .byte ((nI v).toInt8.toInt32))) (i + 1) t i) = v
        rw [h1 i (by omega), pk_us, bv_nar v (by omega)]
      | succ j =>
        rw [List.length_cons] at hj
        rw [show i + (j + 1) = i + 1 + j by omega, h3 j (by omega)]
        rfl
theorem sstrf_b {B : Nat → Int32} {L : Nat} : ∀ (n q : Nat) (l : List Nat) (q' : Nat), sstrf B L n q = .inr (l, q') → ∀ v, v ∈ l → v ≤ 255 := by
  intro n
  induction n with
  | zero => intro q l q' h; cases h
  | succ n ih =>
    intro q l q' h v hv
    simp only [sstrf] at h
    by_cases c0 : L ≤ q
    · rw [if_pos c0] at h; cases h
    rw [if_neg c0] at h
    by_cases c1 : cb B L q = 34
    · rw [if_pos c1] at h; cases h; exact absurd hv List.not_mem_nil
    rw [if_neg c1] at h
    by_cases c2 : cb B L q < 32 ∨ 126 < cb B L q
    · rw [if_pos c2] at h; cases h
    rw [if_neg c2] at h
    by_cases c3 : cb B L q = 92
    · rw [if_pos c3] at h
      cases he : sesc B L q with
      | inl w => rw [he] at h; cases h
      | inr x =>
        rw [he] at h
        cases hr : sstrf B L n (q + elen B L q) with
        | inl w =>
          simp only [sE, hr, sC] at h
          cases h
        | inr lq =>
          obtain ⟨l2, q2⟩ := lq
          simp only [sE, hr, sC] at h
          cases h
          rcases List.mem_cons.mp hv with e | e
          · rw [e]; exact sesc_le he
          · exact ih _ _ _ hr v e
    · rw [if_neg c3] at h
      cases hr : sstrf B L n (q + 1) with
      | inl w =>
        simp only [hr, sC] at h
        cases h
      | inr lq =>
        obtain ⟨l2, q2⟩ := lq
        simp only [hr, sC] at h
        cases h
        rcases List.mem_cons.mp hv with e | e
        · rw [e]; omega
        · exact ih _ _ _ hr v e
/-- at p a string lies that says s -/
def SAID (Sd Am : Nat → Int32) (p : Nat) (s : List Nat) : Prop := p < 4096 ∧ p + s.length ≤ 4096 ∧ Am p = nI s.length ∧ ∀ j, j < s.length → bv (Sd (p + j)) = s.getD j 0
theorem SAID.keep {Sd Am Sd' Am' : Nat → Int32} {p : Nat} {s : List Nat} (h : SAID Sd Am p s) (h1 : ∀ i, p ≤ i → i < p + s.length → Sd' i = Sd i) (h2 : Am' p = Am p) : SAID Sd' Am' p s :=
  ⟨h.1, h.2.1, h2.trans h.2.2.1, fun j hj => by rw [h1 (p + j) (by omega) (by omega)]; exact h.2.2.2 j hj⟩
def hsh (s : List Nat) : Int32 := s.foldl (fun h v => h * 31 + nI v) (nI s.length)
section CSAY
variable {Sd Am : Nat → Int32}
theorem ent_eq {row : Nat → Int32} {n i : Nat} (hn : n < 2 ^ 31) (hi : i < n) : m_X8_entry row n (nI i) = some (row i) := by
  unfold m_X8_entry
  rw [if_neg (nI_pos (by omega)), if_neg (show ¬ Int32.ofNat n ≤ nI i from fun q => absurd ((nI_leI (a := n) (b := i) (by omega) (by omega)).mp q) (by omega)), bd_go hi hn, nI_clamp (by omega)]
theorem sai_eq {i : Nat} (hi : i < 4096) : m_X7_saidAt Sd (nI i) = some (nI (bv (Sd i))) := by
  unfold m_X7_saidAt
  rw [if_neg (nI_pos (by omega)), if_neg (show ¬ Int32.ofNat 4096 ≤ nI i from fun q => absurd ((nI_leI (a := 4096) (b := i) (by omega) (by omega)).mp q) (by omega)), bd_go hi (by decide), nI_clamp (by omega), pk_and (Sd i) 8 (by decide)]
  rfl
theorem sasa_eq {a b : Nat} {s t : List Nat} (hs : SAID Sd Am a s) (ht : SAID Sd Am b t) : m_X7_saysSame Sd Am (nI a) (nI b) = some (if s = t then 1 else 0) := by
  obtain ⟨s1, s2, s3, s4⟩ := hs
  obtain ⟨t1, t2, t3, t4⟩ := ht
  unfold m_X7_saysSame
  rw [ent_eq (by decide) s1, ent_eq (by decide) t1]
  simp only [Option.bind_some, s3, t3]
  by_cases hl : s.length = t.length
  · rw [if_pos (by rw [hl])]
    have go : ∀ (fuel j : Nat), j ≤ s.length → s.length - j < fuel → (∀ i, i < j → s.getD i 0 = t.getD i 0) → m_X7_saysSame_26 Sd Am fuel (nI a) (nI b) (nI s.length) (nI j) = some (if s = t then 1 else 0) := by
      intro fuel
      induction fuel with
      | zero => intro j _ hf; exact absurd hf (Nat.not_lt_zero _)
      | succ fuel ih =>
        intro j hj hf hb
        simp only [m_X7_saysSame_26, nI_add, nI_1]
        by_cases h : s.length ≤ j
        · rw [if_pos (nI_le h (by omega)), if_pos (ls_eq hl (fun i hi => hb i (by omega)))]
        · rw [if_neg (fun q => h ((nI_leI (by omega) (by omega)).mp q)), sai_eq (show a + j < 4096 by omega), sai_eq (show b + j < 4096 by omega)]
          simp only [Option.bind_some, s4 j (by omega), t4 j (by omega)]
          have v1 : s.getD j 0 < 256 := by
            rw [← s4 j (by omega)]
            unfold bv
            omega
          have v2 : t.getD j 0 < 256 := by
            rw [← t4 j (by omega)]
            unfold bv
            omega
          by_cases e : s.getD j 0 = t.getD j 0
          · rw [if_pos (by rw [e])]
            refine ih (j + 1) (by omega) (by omega) (fun i hi => ?_)
            by_cases q : i = j
            · rw [q]; exact e
            · exact hb i (by omega)
          · rw [if_neg (fun q => e ((nI_eq (by omega) (by omega)).mp q)), if_neg (fun q => e (by rw [q]))]
    have := go sr_fuel 0 (Nat.zero_le _) (by unfold sr_fuel; omega) (fun i hi => absurd hi (Nat.not_lt_zero _))
    rw [nI_0] at this
    exact this
  · rw [if_neg (fun q => hl ((nI_eq (by omega) (by omega)).mp q)), if_neg (fun q => hl (by rw [q]))]
theorem hash_eq {a : Nat} {s : List Nat} (hs : SAID Sd Am a s) : m_X7_hash Sd Am (nI a) = some (hsh s) := by
  obtain ⟨s1, s2, s3, s4⟩ := hs
  unfold m_X7_hash
  rw [ent_eq (by decide) s1]
  simp only [Option.bind_some, s3]
  have go : ∀ (fuel j : Nat) (x : Int32), j ≤ s.length → s.length - j < fuel → m_X7_hash_14 Sd Am fuel (nI a) (nI s.length) x (nI j) = some ((s.drop j).foldl (fun h v => h * 31 + nI v) x) := by
    intro fuel
    induction fuel with
    | zero => intro j x _ hf; exact absurd hf (Nat.not_lt_zero _)
    | succ fuel ih =>
      intro j x hj hf
      simp only [m_X7_hash_14, nI_add, nI_1]
      by_cases h : s.length ≤ j
      · rw [if_pos (nI_le h (by omega)), List.drop_of_length_le h]
        rfl
      · rw [if_neg (fun q => h ((nI_leI (by omega) (by omega)).mp q)), sai_eq (show a + j < 4096 by omega), ls_drop (show j < s.length by omega)]
        simp only [Option.bind_some, s4 j (by omega), List.foldl_cons]
        exact ih (j + 1) _ (by omega) (by omega)
  have := go sr_fuel 0 (nI s.length) (Nat.zero_le _) (by unfold sr_fuel; omega)
  rw [nI_0, List.drop_zero] at this
  exact this
end CSAY
end
section
-- the members' strings, exactly
def bkN (o : Nat) (s : List Nat) : Nat := (hsh s + nI o).toBitVec.toNat % 256
/-- x is the greatest index below n whose string lies in bucket b, or -1 -/
def LST (bk : Nat → Nat) (b n : Nat) (x : Int32) : Prop := (x = -1 ∧ ∀ i, i < n → bk i ≠ b) ∨ ∃ i, i < n ∧ x = nI i ∧ bk i = b ∧ ∀ j, i < j → j < n → bk j ≠ b
def KI (Sd Am kh kp ko kn : Nat → Int32) (own plc : Nat → Nat) (str : Nat → List Nat) (c : Nat) : Prop :=
  c ≤ 1024 ∧ (∀ i, i < c → own i < 4096 ∧ ko i = nI (own i) ∧ kp i = nI (plc i) ∧ SAID Sd Am (plc i) (str i)) ∧ (∀ b, b < 256 → LST (fun i => bkN (own i) (str i)) b c (kh b)) ∧ ∀ i, i < c → LST (fun i => bkN (own i) (str i)) (bkN (own i) (str i)) i (kn i)
theorem LST.mono {bk bk' : Nat → Nat} {b n : Nat} {x : Int32} (h : LST bk b n x) (he : ∀ i, i < n → bk' i = bk i) : LST bk' b n x := by
  rcases h with ⟨h1, h2⟩ | ⟨i, h1, h2, h3, h4⟩
  · exact Or.inl ⟨h1, fun i hi => by rw [he i hi]; exact h2 i hi⟩
  · exact Or.inr ⟨i, h1, h2, by rw [he i h1]; exact h3, fun j q1 q2 => by rw [he j q2]; exact h4 j q1 q2⟩
def pset {α : Type} (f : Nat → α) (k : Nat) (x : α) : Nat → α := fun i => if i = k then x else f i
theorem pset_s {α : Type} {f : Nat → α} {k : Nat} {x : α} : pset f k x k = x := if_pos rfl
theorem pset_n {α : Type} {f : Nat → α} {k i : Nat} {x : α} (h : i ≠ k) : pset f k x i = f i := if_neg h
section CKEY
variable {Sd Am kh kp ko kn : Nat → Int32} {own plc : Nat → Nat} {str : Nat → List Nat} {c : Nat}
theorem KI.keep {Sd' Am' : Nat → Int32} (h : KI Sd Am kh kp ko kn own plc str c) (hk : ∀ i, i < c → SAID Sd' Am' (plc i) (str i)) : KI Sd' Am' kh kp ko kn own plc str c :=
  ⟨h.1, fun i hi => ⟨(h.2.1 i hi).1, (h.2.1 i hi).2.1, (h.2.1 i hi).2.2.1, hk i hi⟩, h.2.2.1, h.2.2.2⟩
theorem kadd_90 {o p b : Nat} (hc : c < 1024) (hb : b < 256) : m_X2_add_90 Sd Am kh kp ko kn (nI c) (nI o) (nI p) (nI b) = some (1, (upd kh b (nI c), upd kp c (nI p), upd ko c (nI o), upd kn c (kh b), nI (c + 1))) := by
  unfold m_X2_add_90
  rw [if_neg (show ¬ (1024 : Int32) ≤ nI c from fun q => absurd ((nI_leI (a := 1024) (b := c) (by omega) (by omega)).mp q) (by omega))]
  simp only [bd_go (show c < 1024 by omega) (by decide), bd_gc (show c < 1024 by omega) (by decide), nI_clamp (show c < 2 ^ 31 by omega), bd_go (show b < 256 by omega) (by decide), bd_gc (show b < 256 by omega) (by decide), nI_clamp (show b < 2 ^ 31 by omega), nI_1]
theorem kadd_go (hI : KI Sd Am kh kp ko kn own plc str c) {o p b : Nat} {s : List Nat} (ho : o < 4096) (hs : SAID Sd Am p s) (hb : b < 256) : ∀ (fuel i m : Nat) (x5 : Int32), i ≤ c → c - i < fuel → m + i ≤ c → LST (fun i => bkN (own i) (str i)) b m x5 →
    ((∃ j, j < m ∧ own j = o ∧ str j = s ∧ bkN (own j) (str j) = b) → m_X2_add_25 Sd Am fuel kh kp ko kn (nI c) (nI o) (nI p) (nI b) x5 (nI i) = some (0, (kh, kp, ko, kn, nI c))) ∧ ((¬ ∃ j, j < m ∧ own j = o ∧ str j = s ∧ bkN (own j) (str j) = b) → m_X2_add_25 Sd Am fuel kh kp ko kn (nI c) (nI o) (nI p) (nI b) x5 (nI i) = m_X2_add_90 Sd Am kh kp ko kn (nI c) (nI o) (nI p) (nI b)) := by
  intro fuel
  induction fuel with
  | zero => intro i m x5 _ hf; exact absurd hf (Nat.not_lt_zero _)
  | succ fuel ih =>
    intro i m x5 hi hf hm hl
    have hc := hI.1
    simp only [m_X2_add_25]
    by_cases h : c ≤ i
    · rw [if_pos (nI_le h (by omega))]
      exact ⟨fun ⟨j, hj, _⟩ => by omega, fun _ => rfl⟩
    · rw [if_neg (fun q => h ((nI_leI (by omega) (by omega)).mp q))]
      rcases hl with ⟨e, hn⟩ | ⟨k, hk, e, hkb, hkn⟩
      · subst e
        rw [if_pos (by decide)]
        exact ⟨fun ⟨j, hj, _, _, hjb⟩ => absurd hjb (hn j hj), fun _ => rfl⟩
      · subst e
        obtain ⟨hw1, hw2, hw3, hw4⟩ := hI.2.1 k (by omega)
        rw [if_neg (nI_pos (by omega)), if_neg (show ¬ (1024 : Int32) ≤ nI k from fun q => absurd ((nI_leI (a := 1024) (b := k) (by omega) (by omega)).mp q) (by omega))]
        simp only [bd_go (show k < 1024 by omega) (by decide), bd_gc (show k < 1024 by omega) (by decide), nI_clamp (show k < 2 ^ 31 by omega), m_X2_add_75, nI_1, hw2, hw3]
        have hl2 : LST (fun i => bkN (own i) (str i)) b k (kn k) := by
          have := hI.2.2.2 k (by omega)
          rw [← hkb]
          exact this
        obtain ⟨g1, g2⟩ := ih (i + 1) k (kn k) (by omega) (by omega) (by omega) hl2
        have low : (∃ j, j < m ∧ own j = o ∧ str j = s ∧ bkN (own j) (str j) = b) → ¬ (own k = o ∧ str k = s) → ∃ j, j < k ∧ own j = o ∧ str j = s ∧ bkN (own j) (str j) = b := by
          rintro ⟨j, j1, j2, j3, j4⟩ hne
          refine ⟨j, ?_, j2, j3, j4⟩
          rcases Nat.lt_trichotomy j k with q | q | q
          · exact q
          · exact absurd ⟨by rw [← q]; exact j2, by rw [← q]; exact j3⟩ hne
          · exact absurd j4 (hkn j q j1)
        have up : (¬ ∃ j, j < m ∧ own j = o ∧ str j = s ∧ bkN (own j) (str j) = b) → ¬ ∃ j, j < k ∧ own j = o ∧ str j = s ∧ bkN (own j) (str j) = b := by
          rintro hne ⟨j, j1, j2⟩
          exact hne ⟨j, by omega, j2⟩
        by_cases e1 : own k = o
        · rw [if_pos (by rw [e1]), sasa_eq hw4 hs]
          simp only [Option.bind_some]
          by_cases e2 : str k = s
          · rw [if_pos e2, if_neg (by decide)]
            exact ⟨fun _ => rfl, fun q => absurd ⟨k, hk, e1, e2, hkb⟩ q⟩
          · rw [if_neg e2, if_pos rfl]
            exact ⟨fun q => g1 (low q (fun z => e2 z.2)), fun q => g2 (up q)⟩
        · rw [if_neg (fun q => e1 ((nI_eq (by omega) (by omega)).mp q))]
          exact ⟨fun q => g1 (low q (fun z => e1 z.1)), fun q => g2 (up q)⟩
theorem kadd_eq (hI : KI Sd Am kh kp ko kn own plc str c) {o p : Nat} {s : List Nat} (ho : o < 4096) (hs : SAID Sd Am p s) (hc : c < 1024) :
    ((∃ j, j < c ∧ own j = o ∧ str j = s) → m_X2_add kh kp ko kn (nI c) Sd Am (nI o) (nI p) = some (0, (kh, kp, ko, kn, nI c))) ∧ ((¬ ∃ j, j < c ∧ own j = o ∧ str j = s) → ∃ kh' kp' ko' kn', m_X2_add kh kp ko kn (nI c) Sd Am (nI o) (nI p) = some (1, (kh', kp', ko', kn', nI (c + 1))) ∧ KI Sd Am kh' kp' ko' kn' (pset own c o) (pset plc c p) (pset str c s) (c + 1)) := by
  have hb : bkN o s < 256 := Nat.mod_lt _ (by decide)
  have eb : (hsh s + nI o) &&& 255 = nI (bkN o s) := pk_and (hsh s + nI o) 8 (by decide)
  have hl := hI.2.2.1 (bkN o s) hb
  obtain ⟨g1, g2⟩ := kadd_go hI ho hs hb sr_fuel 0 c (kh (bkN o s)) (Nat.zero_le _) (by unfold sr_fuel; have := hI.1; omega) (by omega) hl
  rw [nI_0] at g1 g2
  have e0 : m_X2_add kh kp ko kn (nI c) Sd Am (nI o) (nI p) = m_X2_add_25 Sd Am sr_fuel kh kp ko kn (nI c) (nI o) (nI p) (nI (bkN o s)) (kh (bkN o s)) 0 := by
    unfold m_X2_add
    rw [hash_eq hs]
    simp only [Option.bind_some, eb]
    rw [bd_go hb (by decide), nI_clamp (by omega)]
  refine ⟨fun ⟨j, j1, j2, j3⟩ => ?_, fun hne => ?_⟩
  · rw [e0]
    exact g1 ⟨j, j1, j2, j3, by rw [j2, j3]⟩
  · refine ⟨_, _, _, _, by rw [e0, g2 (fun ⟨j, j1, j2, j3, _⟩ => hne ⟨j, j1, j2, j3⟩)]; exact kadd_90 hc hb, by omega, fun i hi => ?_, fun b hb2 => ?_, fun i hi => ?_⟩
    · by_cases e : i = c
      · subst e
        rw [pset_s, pset_s, pset_s, pk_us, pk_us]
        exact ⟨ho, rfl, rfl, hs⟩
      · rw [pset_n e, pset_n e, pset_n e, pk_un e, pk_un e]
        exact hI.2.1 i (by omega)
    · by_cases e : b = bkN o s
      · subst e
        rw [pk_us]
        exact Or.inr ⟨c, by omega, rfl, by simp only [pset_s], fun j q1 q2 => by omega⟩
      · rw [pk_un e]
        rcases hI.2.2.1 b hb2 with ⟨h1, h2⟩ | ⟨i, h1, h2, h3, h4⟩
        · refine Or.inl ⟨h1, fun i hi => ?_⟩
          by_cases q : i = c
          · subst q
            simp only [pset_s]
            exact fun z => e z.symm
          · simp only [pset_n q]
            exact h2 i (by omega)
        · refine Or.inr ⟨i, by omega, h2, by simp only [pset_n (show i ≠ c by omega)]; exact h3, fun j q1 q2 => ?_⟩
          by_cases q : j = c
          · subst q
            simp only [pset_s]
            exact fun z => e z.symm
          · simp only [pset_n q]
            exact h4 j q1 (by omega)
    · by_cases e : i = c
      · subst e
        simp only [pset_s, pk_us]
        exact (hI.2.2.1 (bkN o s) hb).mono (fun j hj => by simp only [pset_n (show j ≠ i by omega)])
      · simp only [pset_n e, pk_un e]
        exact (hI.2.2.2 i (by omega)).mono (fun j hj => by simp only [pset_n (show j ≠ c by omega)])
end CKEY
end
section
-- WHAT A TEXT SAYS: groups and values, and where they lie
theorem elen_2 (B : Nat → Int32) (L q : Nat) : 2 ≤ elen B L q ∧ elen B L q ≤ 6 := by
  unfold elen
  split <;> omega
theorem sstrf_p {B : Nat → Int32} {L : Nat} : ∀ (n q : Nat) (l : List Nat) (q' : Nat), sstrf B L n q = .inr (l, q') → q + l.length < q' ∧ q' ≤ L := by
  intro n
  induction n with
  | zero => intro q l q' h; cases h
  | succ n ih =>
    intro q l q' h
    simp only [sstrf] at h
    by_cases c0 : L ≤ q
    · rw [if_pos c0] at h; cases h
    rw [if_neg c0] at h
    by_cases c1 : cb B L q = 34
    · rw [if_pos c1] at h; cases h; exact ⟨by simp, by omega⟩
    rw [if_neg c1] at h
    by_cases c2 : cb B L q < 32 ∨ 126 < cb B L q
    · rw [if_pos c2] at h; cases h
    rw [if_neg c2] at h
    by_cases c3 : cb B L q = 92
    · rw [if_pos c3] at h
      cases he : sesc B L q with
      | inl w => rw [he] at h; cases h
      | inr x =>
        rw [he] at h
        cases hr : sstrf B L n (q + elen B L q) with
        | inl w =>
          simp only [sE, hr, sC] at h
          cases h
        | inr lq =>
          obtain ⟨l2, q2⟩ := lq
          simp only [sE, hr, sC] at h
          cases h
          have := ih _ _ _ hr
          have := elen_2 B L q
          rw [List.length_cons]
          omega
    · rw [if_neg c3] at h
      cases hr : sstrf B L n (q + 1) with
      | inl w =>
        simp only [hr, sC] at h
        cases h
      | inr lq =>
        obtain ⟨l2, q2⟩ := lq
        simp only [hr, sC] at h
        cases h
        have := ih _ _ _ hr
        rw [List.length_cons]
        omega
theorem swd_p {B : Nat → Int32} {L : Nat} : ∀ (l : List Nat) (p q : Nat), (∀ c, c ∈ l → c < 256) → p ≤ L → swd B L l p = .inr q → q = p + l.length ∧ q ≤ L := by
  intro l
  induction l with
  | nil => intro p q _ hp h; cases h; exact ⟨rfl, hp⟩
  | cons c t ih =>
    intro p q hc hp h
    simp only [swd] at h
    by_cases e : cb B L p = c
    · rw [if_pos e] at h
      have h1 : p < L := cb_lt (B := B) (by have := hc c List.mem_cons_self; omega)
      have := ih _ _ (fun x hx => hc x (List.mem_cons_of_mem _ hx)) (by omega) h
      rw [List.length_cons]
      omega
    · rw [if_neg e] at h; cases h
theorem wdl_b : ∀ w, w < 3 → ∀ c, c ∈ wdl w → c < 256 := by decide +kernel
theorem sdg_p {B : Nat → Int32} {L a : Nat} (h : a ≤ L) : a ≤ sdg B L a ∧ sdg B L a ≤ L := by
  have := sdgf_le (B := B) (L := L) (L - a) a
  unfold sdg
  omega
theorem snum_p {B : Nat → Int32} {L a q : Nat} (h : snum B L a = .inr q) : a < q ∧ q ≤ L := by
  unfold snum at h
  simp only at h
  by_cases c1 : cb B L a = 45
  · simp only [if_pos c1] at h
    by_cases c2 : 48 ≤ cb B L (a + 1) ∧ cb B L (a + 1) ≤ 57
    · rw [if_pos c2] at h
      have hL : a + 1 < L := cb_lt (B := B) (by omega)
      have := sdg_p (B := B) (L := L) (a := a + 1 + 1) (by omega)
      by_cases c3 : cb B L (a + 1) = 48
      · simp only [if_pos c3] at h
        split at h
        · cases h; omega
        · cases h
      · simp only [if_neg c3] at h
        split at h
        · cases h; omega
        · cases h
    · rw [if_neg c2] at h; cases h
  · simp only [if_neg c1] at h
    by_cases c2 : 48 ≤ cb B L a ∧ cb B L a ≤ 57
    · rw [if_pos c2] at h
      have hL : a < L := cb_lt (B := B) (by omega)
      have := sdg_p (B := B) (L := L) (a := a + 1) (by omega)
      by_cases c3 : cb B L a = 48
      · simp only [if_pos c3] at h
        split at h
        · cases h; omega
        · cases h
      · simp only [if_neg c3] at h
        split at h
        · cases h; omega
        · cases h
    · rw [if_neg c2] at h; cases h
def skey (B : Nat → Int32) (L part : Nat) (seen : List (List Nat)) : Nat ⊕ (Nat × List Nat) :=
  if cb B L part = 34 then
    match sstr B L (part + 1) with
    | .inl w => .inl w
    | .inr (s, b) => if s ∈ seen then .inl part else if cb B L (sbl B L b) = 58 then .inr (sbl B L (sbl B L b + 1), s) else .inl (sbl B L b)
  else .inl part
theorem skey_p {B : Nat → Int32} {L part v : Nat} {seen : List (List Nat)} {s : List Nat} (h : skey B L part seen = .inr (v, s)) : ∃ b, cb B L part = 34 ∧ sstr B L (part + 1) = .inr (s, b) ∧ s ∉ seen ∧ cb B L (sbl B L b) = 58 ∧ v = sbl B L (sbl B L b + 1) ∧ part + 1 + s.length < b ∧ b < v ∧ v ≤ L := by
  unfold skey at h
  by_cases c1 : cb B L part = 34
  · rw [if_pos c1] at h
    cases hs : sstr B L (part + 1) with
    | inl w => rw [hs] at h; cases h
    | inr x =>
      obtain ⟨s2, b⟩ := x
      rw [hs] at h
      simp only at h
      by_cases c2 : s2 ∈ seen
      · rw [if_pos c2] at h; cases h
      · rw [if_neg c2] at h
        by_cases c3 : cb B L (sbl B L b) = 58
        · rw [if_pos c3] at h
          cases h
          have h1 := sstrf_p _ _ _ _ hs
          have h2 := sbl_le (B := B) (L := L) (a := b)
          have h3 : sbl B L b < L := cb_lt (B := B) (by omega)
          have h4 := sbl_le (B := B) (L := L) (a := sbl B L b + 1)
          have h5 := sbl_le2 (B := B) (L := L) (a := sbl B L b + 1) (by omega)
          exact ⟨b, c1, rfl, c2, c3, rfl, by omega, by omega, by omega⟩
        · rw [if_neg c3] at h; cases h
  · rw [if_neg c1] at h; cases h
def sgrp (fv : Nat → Nat ⊕ Nat) (B : Nat → Int32) (L : Nat) (obj : Bool) (cl : Nat) : Nat → Nat → List (List Nat) → Nat ⊕ (List (Nat × Nat) × Nat)
  | 0, part, _ => .inl part
  | n + 1, part, seen =>
    match (if obj = true then skey B L part seen else .inr (part, [])) with
    | .inl w => .inl w
    | .inr (v, s) =>
      match fv v with
      | .inl w => .inl w
      | .inr b => if cb B L (sbl B L b) = cl then .inr ([(part, v)], sbl B L b + 1) else if cb B L (sbl B L b) = 44 then
          (match sgrp fv B L obj cl n (sbl B L (sbl B L b + 1)) (s :: seen) with
          | .inl w => .inl w
          | .inr (l, q) => .inr ((part, v) :: l, q)) else .inl (sbl B L b)
/-- what a group's parts are, as told -/
def gpart (fv : Nat → Nat ⊕ Nat) (B : Nat → Int32) (L : Nat) (obj : Bool) (lo hi : Nat) (k : Nat × Nat) : Prop :=
  lo ≤ k.1 ∧ k.1 ≤ k.2 ∧ (∃ b, fv k.2 = .inr b ∧ k.2 < b ∧ b < hi) ∧ (obj = false → k.2 = k.1) ∧ (obj = true → ∃ s b, cb B L k.1 = 34 ∧ sstr B L (k.1 + 1) = .inr (s, b) ∧ k.1 + 1 + s.length < b ∧ b < k.2)
theorem sgrp_p {fv : Nat → Nat ⊕ Nat} {B : Nat → Int32} {L : Nat} {obj : Bool} {cl : Nat} (hcl : cl < 256) (hfv : ∀ v b, fv v = .inr b → v < b ∧ b ≤ L) : ∀ (n part : Nat) (seen : List (List Nat)) (l : List (Nat × Nat)) (q : Nat), sgrp fv B L obj cl n part seen = .inr (l, q) → part < q ∧ q ≤ L ∧ 0 < l.length ∧ part + l.length ≤ q ∧ ∀ k, k ∈ l → gpart fv B L obj part q k := by
  intro n
  induction n with
  | zero => intro part seen l q h; cases h
  | succ n ih =>
    intro part seen l q h
    simp only [sgrp] at h
    cases hk : (if obj = true then skey B L part seen else .inr (part, []) : Nat ⊕ (Nat × List Nat)) with
    | inl w => rw [hk] at h; cases h
    | inr x =>
      obtain ⟨v, s⟩ := x
      rw [hk] at h
      simp only at h
      cases hv : fv v with
      | inl w => rw [hv] at h; cases h
      | inr b =>
        rw [hv] at h
        simp only at h
        obtain ⟨h1, h2⟩ := hfv v b hv
        have hb := sbl_le (B := B) (L := L) (a := b)
        have hpv : part ≤ v ∧ (obj = false → v = part) ∧ (obj = true → ∃ s b, cb B L part = 34 ∧ sstr B L (part + 1) = .inr (s, b) ∧ part + 1 + s.length < b ∧ b < v) := by
          cases obj with
          | false =>
            cases hk
            exact ⟨Nat.le_refl _, fun _ => rfl, fun z => absurd z (by decide)⟩
          | true =>
            obtain ⟨b', k1, k2, _, _, _, k3, k4, _⟩ := skey_p hk
            exact ⟨by omega, fun z => absurd z (by decide), fun _ => ⟨s, b', k1, k2, k3, k4⟩⟩
        by_cases c1 : cb B L (sbl B L b) = cl
        · rw [if_pos c1] at h
          cases h
          have h3 : sbl B L b < L := cb_lt (B := B) (by omega)
          refine ⟨by omega, by omega, by simp, by simp; omega, fun k hk2 => ?_⟩
          rw [List.mem_singleton.mp hk2]
          exact ⟨Nat.le_refl _, hpv.1, ⟨b, hv, h1, by omega⟩, hpv.2.1, hpv.2.2⟩
        · rw [if_neg c1] at h
          by_cases c2 : cb B L (sbl B L b) = 44
          · rw [if_pos c2] at h
            have h3 : sbl B L b < L := cb_lt (B := B) (by omega)
            have h4 := sbl_le (B := B) (L := L) (a := sbl B L b + 1)
            cases hr : sgrp fv B L obj cl n (sbl B L (sbl B L b + 1)) (s :: seen) with
            | inl w => rw [hr] at h; cases h
            | inr y =>
              obtain ⟨l2, q2⟩ := y
              rw [hr] at h
              cases h
              obtain ⟨g1, g2, g3, g4, g5⟩ := ih _ _ _ _ hr
              refine ⟨by omega, g2, by simp, by simp only [List.length_cons]; omega, fun k hk2 => ?_⟩
              rcases List.mem_cons.mp hk2 with e | e
              · rw [e]
                exact ⟨Nat.le_refl _, hpv.1, ⟨b, hv, h1, by omega⟩, hpv.2.1, hpv.2.2⟩
              · obtain ⟨z1, z2, z3, z4, z5⟩ := g5 k e
                exact ⟨by omega, z2, z3, z4, z5⟩
          · rw [if_neg c2] at h; cases h
def sM {α : Type} : Nat ⊕ (α × Nat) → Nat ⊕ Nat
  | .inl w => .inl w
  | .inr (_, q) => .inr q
/-- the value at p, d more brackets allowed -/
def sval (B : Nat → Int32) (L : Nat) : Nat → Nat → Nat ⊕ Nat
  | 0, p => .inl p
  | d + 1, p =>
    if cb B L p = 34 then sM (sstr B L (p + 1))
    else if cb B L p = 91 ∨ cb B L p = 123 then
      if d = 0 then .inl p
      else if cb B L (sbl B L (p + 1)) = (if cb B L p = 123 then 125 else 93) then .inr (sbl B L (p + 1) + 1)
      else sM (sgrp (sval B L d) B L (decide (cb B L p = 123)) (if cb B L p = 123 then 125 else 93) (L + 1) (sbl B L (p + 1)) [])
    else if cb B L p = 102 then swd B L (wdl 1) p
    else if cb B L p = 110 then swd B L (wdl 2) p
    else if cb B L p = 116 then swd B L (wdl 0) p
    else if cb B L p = 45 ∨ (48 ≤ cb B L p ∧ cb B L p ≤ 57) then snum B L p
    else .inl p
theorem sval_p {B : Nat → Int32} {L : Nat} : ∀ (d p q : Nat), sval B L d p = .inr q → p < q ∧ q ≤ L := by
  intro d
  induction d with
  | zero => intro p q h; cases h
  | succ d ih =>
    intro p q h
    simp only [sval] at h
    by_cases c1 : cb B L p = 34
    · rw [if_pos c1] at h
      cases hs : sstr B L (p + 1) with
      | inl w => rw [hs] at h; cases h
      | inr x =>
        obtain ⟨s, b⟩ := x
        rw [hs] at h
        cases h
        have := sstrf_p _ _ _ _ hs
        omega
    rw [if_neg c1] at h
    by_cases c2 : cb B L p = 91 ∨ cb B L p = 123
    · rw [if_pos c2] at h
      have hp : p < L := cb_lt (B := B) (by omega)
      by_cases c3 : d = 0
      · rw [if_pos c3] at h; cases h
      rw [if_neg c3] at h
      have hb := sbl_le (B := B) (L := L) (a := p + 1)
      have hcl : (if cb B L p = 123 then 125 else 93) < 256 := by split <;> omega
      by_cases c4 : cb B L (sbl B L (p + 1)) = (if cb B L p = 123 then 125 else 93)
      · rw [if_pos c4] at h
        cases h
        have : sbl B L (p + 1) < L := cb_lt (B := B) (by omega)
        omega
      · rw [if_neg c4] at h
        cases hs : sgrp (sval B L d) B L (decide (cb B L p = 123)) (if cb B L p = 123 then 125 else 93) (L + 1) (sbl B L (p + 1)) [] with
        | inl w => rw [hs] at h; cases h
        | inr x =>
          obtain ⟨l, b⟩ := x
          rw [hs] at h
          cases h
          have := sgrp_p hcl ih _ _ _ _ _ hs
          omega
    rw [if_neg c2] at h
    by_cases c5 : cb B L p = 102
    · rw [if_pos c5] at h
      have hp : p < L := cb_lt (B := B) (by omega)
      have := swd_p _ _ _ (wdl_b 1 (by decide)) (by omega) h
      have e : (wdl 1).length = 5 := rfl
      omega
    rw [if_neg c5] at h
    by_cases c6 : cb B L p = 110
    · rw [if_pos c6] at h
      have hp : p < L := cb_lt (B := B) (by omega)
      have := swd_p _ _ _ (wdl_b 2 (by decide)) (by omega) h
      have e : (wdl 2).length = 4 := rfl
      omega
    rw [if_neg c6] at h
    by_cases c7 : cb B L p = 116
    · rw [if_pos c7] at h
      have hp : p < L := cb_lt (B := B) (by omega)
      have := swd_p _ _ _ (wdl_b 0 (by decide)) (by omega) h
      have e : (wdl 0).length = 4 := rfl
      omega
    rw [if_neg c7] at h
    by_cases c8 : cb B L p = 45 ∨ (48 ≤ cb B L p ∧ cb B L p ≤ 57)
    · rw [if_pos c8] at h
      exact snum_p h
    · rw [if_neg c8] at h; cases h
end
section
-- the class's rows for a value that was read
def CHN (Nx : Nat → Int32) : List (Nat × Nat) → Int32 → Prop
  | [], h => h = -1
  | k :: t, h => h = nI k.1 ∧ CHN Nx t (Nx k.1)
/-- the parts of the group at p, as told -/
def GK (B : Nat → Int32) (L d p : Nat) (l : List (Nat × Nat)) : Prop :=
  (cb B L (sbl B L (p + 1)) = (if cb B L p = 123 then 125 else 93) ∧ l = []) ∨ (cb B L (sbl B L (p + 1)) ≠ (if cb B L p = 123 then 125 else 93) ∧ ∃ q, sgrp (sval B L d) B L (decide (cb B L p = 123)) (if cb B L p = 123 then 125 else 93) (L + 1) (sbl B L (p + 1)) [] = .inr (l, q))
def TRE (B : Nat → Int32) (L : Nat) (Sd In Nx Am : Nat → Int32) : Nat → Nat → Prop
  | 0, _ => True
  | d + 1, p => (cb B L p = 34 → ∃ s q, sstr B L (p + 1) = .inr (s, q) ∧ SAID Sd Am p s) ∧ (cb B L p = 91 ∨ cb B L p = 123 → ∃ l, GK B L d p l ∧ Am p = nI l.length ∧ CHN Nx l (In p) ∧ ∀ k, k ∈ l → TRE B L Sd In Nx Am d k.2 ∧ (cb B L p = 123 → In k.1 = nI k.2 ∧ ∃ s q, sstr B L (k.1 + 1) = .inr (s, q) ∧ SAID Sd Am k.1 s))
theorem CHN.keep {Nx Nx' : Nat → Int32} : ∀ (l : List (Nat × Nat)) (h : Int32), CHN Nx l h → (∀ k, k ∈ l → Nx' k.1 = Nx k.1) → CHN Nx' l h := by
  intro l
  induction l with
  | nil => intro h hc _; exact hc
  | cons k t ih =>
    intro h hc hk
    refine ⟨hc.1, ?_⟩
    rw [hk k List.mem_cons_self]
    exact ih _ hc.2 (fun x hx => hk x (List.mem_cons_of_mem _ hx))
theorem GK.in {B : Nat → Int32} {L d p q : Nat} {l : List (Nat × Nat)} (hd : 0 < d) (hp : cb B L p = 91 ∨ cb B L p = 123) (hq : sval B L (d + 1) p = .inr q) (hg : GK B L d p l) : ∀ k, k ∈ l → gpart (sval B L d) B L (decide (cb B L p = 123)) (p + 1) q k := by
  have hcl : (if cb B L p = 123 then 125 else 93) < 256 := by split <;> omega
  rcases hg with ⟨_, e⟩ | ⟨h1, q', h2⟩
  · intro k hk
    rw [e] at hk
    exact absurd hk List.not_mem_nil
  · have e : q = q' := by
      simp only [sval] at hq
      rw [if_neg (by omega), if_pos hp, if_neg (by omega), if_neg h1, h2] at hq
      cases hq
      rfl
    obtain ⟨_, _, _, _, g⟩ := sgrp_p hcl (sval_p d) _ _ _ _ _ h2
    intro k hk
    obtain ⟨z1, z2, z3, z4, z5⟩ := g k hk
    have hb := sbl_le (B := B) (L := L) (a := p + 1)
    rw [e]
    exact ⟨by omega, z2, z3, z4, z5⟩
theorem TRE.keep {B : Nat → Int32} {L : Nat} {Sd In Nx Am Sd' In' Nx' Am' : Nat → Int32} : ∀ (d p q : Nat), sval B L d p = .inr q → TRE B L Sd In Nx Am d p → (∀ i, p ≤ i → i < q → Sd' i = Sd i ∧ In' i = In i ∧ Am' i = Am i) → (∀ i, p < i → i < q → Nx' i = Nx i) → TRE B L Sd' In' Nx' Am' d p := by
  intro d
  induction d with
  | zero => intro p q h; cases h
  | succ d ih =>
    intro p q hq ht h1 h2
    have hpq := sval_p _ _ _ hq
    refine ⟨fun c => ?_, fun c => ?_⟩
    · obtain ⟨s, b, hs, hsa⟩ := ht.1 c
      have e : b = q := by
        simp only [sval] at hq
        rw [if_pos c, hs] at hq
        cases hq
        rfl
      have hb := sstrf_p _ _ _ _ hs
      refine ⟨s, b, hs, hsa.keep (fun i i1 i2 => (h1 i i1 (by omega)).1) (h1 p (Nat.le_refl _) (by omega)).2.2⟩
    · obtain ⟨l, hg, ha, hc, hk⟩ := ht.2 c
      have hd : 0 < d := by
        apply Nat.pos_of_ne_zero
        intro e
        simp only [sval] at hq
        rw [if_neg (by omega), if_pos c, if_pos e] at hq
        cases hq
      have hin := hg.in hd c hq
      refine ⟨l, hg, ?_, ?_, fun k hk2 => ?_⟩
      · rw [(h1 p (Nat.le_refl _) (by omega)).2.2]; exact ha
      · rw [(h1 p (Nat.le_refl _) (by omega)).2.1]
        refine hc.keep _ _ (fun k hk2 => ?_)
        obtain ⟨z1, z2, ⟨b, _, z3, z4⟩, _⟩ := hin k hk2
        exact h2 k.1 (by omega) (by omega)
      · obtain ⟨t1, t2⟩ := hk k hk2
        obtain ⟨z1, z2, ⟨b, hb, z3, z4⟩, _, z6⟩ := hin k hk2
        refine ⟨ih k.2 b hb t1 (fun i i1 i2 => h1 i (by omega) (by omega)) (fun i i1 i2 => h2 i (by omega) (by omega)), fun c2 => ?_⟩
        obtain ⟨t3, s, b2, t4, t5⟩ := t2 c2
        obtain ⟨s', b3, _, w2, w3, w4⟩ := z6 (by rw [c2]; rfl)
        have es : s' = s ∧ b3 = b2 := by
          rw [t4] at w2
          cases w2
          exact ⟨rfl, rfl⟩
        refine ⟨by rw [(h1 k.1 (by omega) (by omega)).2.1]; exact t3, s, b2, t4, t5.keep (fun i i1 i2 => (h1 i (by omega) (by rw [← es.1] at i2; omega)).1) (h1 k.1 (by omega) (by omega)).2.2⟩
section CRK
variable {T Sd In Nx Am : Nat → Int32} {L : Nat} {kh kp ko kn : Nat → Int32} {own plc : Nat → Nat} {str : Nat → List Nat} {c : Nat}
theorem rkey_eq (hL : L ≤ 4096) (wp : Int32) {p part : Nat} {seen : List (List Nat)} (hI : KI Sd Am kh kp ko kn own plc str c) (hpl : ∀ i, i < c → plc i < part ∧ plc i + (str i).length ≤ part) (hse : ∀ s, s ∈ seen ↔ ∃ j, j < c ∧ own j = p ∧ str j = s) (hc : part < L → c < 1024) (hp : p < 4096) (hpa : part ≤ L) :
    (∃ w Sd' In' Am' kh' kp' ko' kn' kc', skey T L part seen = .inl w ∧ m_X7_readKey T Sd In Am (nI L) wp kh kp ko kn (nI c) (nI p) (nI part) = some (-1, (Sd', In', Am', nI w, kh', kp', ko', kn', kc'))) ∨
    (∃ v s kh' kp' ko' kn', skey T L part seen = .inr (v, s) ∧ m_X7_readKey T Sd In Am (nI L) wp kh kp ko kn (nI c) (nI p) (nI part) = some (nI v, (wrS Sd part s, upd In part (nI v), upd Am part (nI s.length), wp, kh', kp', ko', kn', nI (c + 1))) ∧ SAID (wrS Sd part s) (upd Am part (nI s.length)) part s ∧ KI (wrS Sd part s) (upd Am part (nI s.length)) kh' kp' ko' kn' (pset own c p) (pset plc c part) (pset str c s) (c + 1)) := by
  unfold m_X7_readKey skey
  by_cases c1 : cb T L part = 34
  · have hlt : part < L := cb_lt (B := T) (by omega)
    have e1 : m_X7_isString T (nI L) (nI part) = some 1 := by
      unfold m_X7_isString
      rw [byt_eq hL (by omega)]
      simp only [Option.bind_some, ub34, if_pos c1]
    rw [e1, if_pos c1]
    simp only [Option.bind_some, m_X7_refuse]
    rw [if_neg (show ¬ (1 : Int32) = 0 by decide)]
    rcases rstr_eq (T := T) (Sd := Sd) (Am := Am) hL wp hlt with ⟨w, Sd', g1, g2⟩ | ⟨s, b, g1, g2, g3, g4, g5⟩
    · rw [g2, g1]
      simp only [Option.bind_some, if_true]
      exact Or.inl ⟨w, Sd', In, Am, kh, kp, ko, kn, nI c, rfl, rfl⟩
    · rw [g5, g1]
      simp only [Option.bind_some]
      have hm : ¬ (nI b = -1) := fun z => by
        have := nI_pos' (n := b) (by omega)
        rw [z] at this
        exact absurd this (by decide)
      rw [if_neg hm]
      obtain ⟨w1, w2, w3⟩ := wrS_all s Sd part (sstrf_b _ _ _ _ g1)
      have hS : SAID (wrS Sd part s) (upd Am part (nI s.length)) part s := ⟨by omega, by omega, pk_us, w3⟩
      have hI' : KI (wrS Sd part s) (upd Am part (nI s.length)) kh kp ko kn own plc str c := hI.keep (fun i hi => (hI.2.1 i hi).2.2.2.keep (fun x x1 x2 => w1 x (by have := hpl i hi; omega)) (pk_un (by have := hpl i hi; omega)))
      obtain ⟨k1, k2⟩ := kadd_eq hI' hp hS (hc hlt)
      by_cases c2 : s ∈ seen
      · rw [k1 ((hse s).mp c2), if_pos c2]
        simp only [Option.bind_some, if_true]
        exact Or.inl ⟨part, wrS Sd part s, In, upd Am part (nI s.length), kh, kp, ko, kn, nI c, rfl, rfl⟩
      · obtain ⟨kh', kp', ko', kn', k3, k4⟩ := k2 (fun q => c2 ((hse s).mpr q))
        rw [k3, if_neg c2]
        simp only [Option.bind_some]
        have hb1 := sbl_le2 (B := T) (L := L) (a := b) g3
        rw [if_neg (show ¬ (1 : Int32) = 0 by decide), bbl_eq hL (by omega)]
        simp only [Option.bind_some]
        rw [byt_eq hL (by omega)]
        simp only [Option.bind_some, ub58, nI_1]
        by_cases c3 : cb T L (sbl T L b) = 58
        · rw [if_pos c3, if_pos c3, bbl_eq hL (by omega)]
          simp only [Option.bind_some]
          rw [etr_eq (by decide) (show part < 4096 by omega)]
          exact Or.inr ⟨_, s, kh', kp', ko', kn', rfl, rfl, hS, k4⟩
        · rw [if_neg c3, if_neg c3]
          exact Or.inl ⟨_, wrS Sd part s, In, upd Am part (nI s.length), kh', kp', ko', kn', nI (c + 1), rfl, rfl⟩
  · have e1 : m_X7_isString T (nI L) (nI part) = some 0 := by
      unfold m_X7_isString
      rw [byt_eq hL (by omega)]
      simp only [Option.bind_some, ub34, if_neg c1]
    rw [e1, if_neg c1]
    simp only [Option.bind_some, m_X7_refuse, if_true]
    exact Or.inl ⟨part, Sd, In, Am, kh, kp, ko, kn, nI c, rfl, rfl⟩
end CRK
end
section
-- the class's reading of a group, exactly
def FRE (f g : Nat → Int32) (lo hi : Nat) : Prop := ∀ i, i < lo ∨ hi ≤ i → g i = f i
def KB (own plc : Nat → Nat) (str : Nat → List Nat) (c p : Nat) : Prop := 4 * c ≤ p + 1 ∧ ∀ i, i < c → plc i < p ∧ plc i + (str i).length ≤ p ∧ own i < p
def KM (own plc : Nat → Nat) (str : Nat → List Nat) (c : Nat) (own' plc' : Nat → Nat) (str' : Nat → List Nat) (c' lo : Nat) : Prop := c ≤ c' ∧ (∀ i, i < c → own' i = own i ∧ plc' i = plc i ∧ str' i = str i) ∧ ∀ i, c ≤ i → i < c' → lo ≤ own' i ∧ lo < plc' i
theorem KB.mono {own plc : Nat → Nat} {str : Nat → List Nat} {c p q : Nat} (h : KB own plc str c p) (hq : p ≤ q) : KB own plc str c q := ⟨by have := h.1; omega, fun i hi => by have := h.2 i hi; omega⟩
theorem KM.refl {own plc : Nat → Nat} {str : Nat → List Nat} {c lo : Nat} : KM own plc str c own plc str c lo := ⟨Nat.le_refl _, fun _ _ => ⟨rfl, rfl, rfl⟩, fun i h1 h2 => by omega⟩
theorem KM.trans {o1 p1 o2 p2 o3 p3 : Nat → Nat} {s1 s2 s3 : Nat → List Nat} {c1 c2 c3 lo lo' : Nat} (h : KM o1 p1 s1 c1 o2 p2 s2 c2 lo) (h' : KM o2 p2 s2 c2 o3 p3 s3 c3 lo') (hl : lo ≤ lo') : KM o1 p1 s1 c1 o3 p3 s3 c3 lo := by
  obtain ⟨a1, a2, a3⟩ := h
  obtain ⟨b1, b2, b3⟩ := h'
  refine ⟨by omega, fun i hi => ?_, fun i i1 i2 => ?_⟩
  · obtain ⟨x1, x2, x3⟩ := a2 i hi
    obtain ⟨y1, y2, y3⟩ := b2 i (by omega)
    exact ⟨y1.trans x1, y2.trans x2, y3.trans x3⟩
  · by_cases q : i < c2
    · obtain ⟨y1, y2, _⟩ := b2 i q
      have := a3 i i1 q
      omega
    · have := b3 i (by omega) i2
      omega
def RV (T : Nat → Int32) (L d p q : Nat) (Sd In Nx Am Sd' In' Nx' Am' kh' kp' ko' kn' : Nat → Int32) (own plc : Nat → Nat) (str : Nat → List Nat) (c : Nat) (own' plc' : Nat → Nat) (str' : Nat → List Nat) (c' : Nat) : Prop :=
  FRE Sd Sd' p q ∧ FRE In In' p q ∧ FRE Nx Nx' (p + 1) q ∧ FRE Am Am' p q ∧ TRE T L Sd' In' Nx' Am' d p ∧ KI Sd' Am' kh' kp' ko' kn' own' plc' str' c' ∧ KB own' plc' str' c' q ∧ KM own plc str c own' plc' str' c' p ∧ 4 * c' ≤ q
def okC (T : Nat → Int32) (L : Nat) (fv : FP) (d : Nat) : Prop := ∀ (Sd In Nx Am : Nat → Int32) (wp : Int32) (kh kp ko kn : Nat → Int32) (own plc : Nat → Nat) (str : Nat → List Nat) (c p : Nat), p ≤ L → KI Sd Am kh kp ko kn own plc str c → KB own plc str c p →
  (∃ w u, sval T L d p = .inl w ∧ fv T Sd In Nx Am (nI L) wp kh kp ko kn (nI c) (nI p) (nI (25 - d)) = some (-1, u) ∧ u.2.2.2.2.1 = nI w) ∨
  (∃ q Sd' In' Nx' Am' kh' kp' ko' kn' own' plc' str' c', sval T L d p = .inr q ∧ fv T Sd In Nx Am (nI L) wp kh kp ko kn (nI c) (nI p) (nI (25 - d)) = some (nI q, (Sd', In', Nx', Am', wp, kh', kp', ko', kn', nI c')) ∧ RV T L d p q Sd In Nx Am Sd' In' Nx' Am' kh' kp' ko' kn' own plc str c own' plc' str' c')
/-- a part in the rows -/
def PTK (T : Nat → Int32) (L d : Nat) (obj : Bool) (Sd In Nx Am : Nat → Int32) (k : Nat × Nat) : Prop := TRE T L Sd In Nx Am d k.2 ∧ (obj = true → In k.1 = nI k.2 ∧ ∃ s q, sstr T L (k.1 + 1) = .inr (s, q) ∧ SAID Sd Am k.1 s)
theorem nI_m1 {n : Nat} (h : n < 2 ^ 31) : ¬ (nI n = -1) := fun z => by
  have := nI_pos' (n := n) h
  rw [z] at this
  exact absurd this (by decide)
section CGRP
variable {T : Nat → Int32} {L : Nat}
theorem join_eq {In Nx : Nat → Int32} {p part : Nat} {last : Int32} (hp : p < 4096) (hpa : part < 4096) (hl : last = -1 ∨ ∃ la, last = nI la ∧ la < 4096) : m_X7_join In Nx (nI p) last (nI part) = some (if last = -1 then upd In p (nI part) else In, upd (if last = -1 then Nx else upd Nx last.toNatClampNeg (nI part)) part (-1)) := by
  unfold m_X7_join m_X7_join_26
  by_cases h : last = -1
  · rw [if_pos h, if_pos h, if_pos h, etr_eq (by decide) hp]
    simp only [Option.bind_some]
    rw [etr_eq (by decide) hpa]
    rfl
  · rcases hl with e | ⟨la, e, hla⟩
    · exact absurd e h
    · subst e
      rw [if_neg h, if_neg h, if_neg h, etr_eq (by decide) hla]
      simp only [Option.bind_some]
      rw [etr_eq (by decide) hpa, nI_clamp (by omega)]
      rfl
/-- what a loop over the parts from part on leaves -/
def RG (T : Nat → Int32) (L d p part q cnt : Nat) (obj : Bool) (last : Int32) (l : List (Nat × Nat)) (Sd In Nx Am Sd' In' Nx' Am' kh' kp' ko' kn' : Nat → Int32) (own plc : Nat → Nat) (str : Nat → List Nat) (c : Nat) (own' plc' : Nat → Nat) (str' : Nat → List Nat) (c' : Nat) : Prop :=
  FRE Sd Sd' part q ∧ (∀ i, i < part ∨ q ≤ i → In' i = (if last = -1 then upd In p (nI part) else In) i) ∧ (∀ i, i < part ∨ q ≤ i → Nx' i = (if last = -1 then Nx else upd Nx last.toNatClampNeg (nI part)) i) ∧ (∀ i, i < part ∨ q ≤ i → Am' i = upd Am p (nI (cnt - 1 + l.length)) i) ∧ CHN Nx' l (nI part) ∧ (∀ k, k ∈ l → PTK T L d obj Sd' In' Nx' Am' k) ∧ KI Sd' Am' kh' kp' ko' kn' own' plc' str' c' ∧ KB own' plc' str' c' q ∧ KM own plc str c own' plc' str' c' p ∧ 4 * c' ≤ q
theorem rgrp_rest (hL : L ≤ 4096) {fv : FP} {d : Nat} (hd : d ≤ 24) (hfv : okC T L fv d) {p cl : Nat} {obj : Bool} (hcl : cl < 256) (wp : Int32) (n fuel : Nat)
    (ih : ∀ (part cnt : Nat) (last : Int32) (Sd In Nx Am kh kp ko kn : Nat → Int32) (own plc : Nat → Nat) (str : Nat → List Nat) (c : Nat) (seen : List (List Nat)), p < part → part ≤ L → L - part < n → L - part < fuel → 0 < cnt → cnt + p ≤ part → KI Sd Am kh kp ko kn own plc str c → KB own plc str c part → 4 * c ≤ part → (∀ i, i < c → plc i ≠ p) → (obj = true → ∀ s, s ∈ seen ↔ ∃ j, j < c ∧ own j = p ∧ str j = s) → (last = -1 ∨ ∃ la, last = nI la ∧ p < la ∧ la < part) →
      (∃ w u, sgrp (sval T L d) T L obj cl n part seen = .inl w ∧ m_X7_readGroup_76 fv T (nI L) fuel Sd In Nx Am wp kh kp ko kn (nI c) (nI p) (nI (24 - d)) (nI cl) (nI part) last (nI cnt) = some (-1, u) ∧ u.2.2.2.2.1 = nI w) ∨
      (∃ l q Sd' In' Nx' Am' kh' kp' ko' kn' own' plc' str' c', sgrp (sval T L d) T L obj cl n part seen = .inr (l, q) ∧ m_X7_readGroup_76 fv T (nI L) fuel Sd In Nx Am wp kh kp ko kn (nI c) (nI p) (nI (24 - d)) (nI cl) (nI part) last (nI cnt) = some (nI q, (Sd', In', Nx', Am', wp, kh', kp', ko', kn', nI c')) ∧ RG T L d p part q cnt obj last l Sd In Nx Am Sd' In' Nx' Am' kh' kp' ko' kn' own plc str c own' plc' str' c'))
    {part cnt v : Nat} {last : Int32} {Sd In Nx Am Sd1 In1 Am1 kh1 kp1 ko1 kn1 : Nat → Int32} {own plc own1 plc1 : Nat → Nat} {str str1 : Nat → List Nat} {c c1 : Nat} {seen : List (List Nat)} {s : List Nat}
    (hp : p < part) (hpv : part ≤ v) (hvL : v ≤ L) (hn : L - part < n + 1) (hf : L - part < fuel + 1) (hc0 : 0 < cnt) (hcp : cnt + p ≤ part)
    (hI : KI Sd1 Am1 kh1 kp1 ko1 kn1 own1 plc1 str1 c1) (hB : KB own1 plc1 str1 c1 v) (hne : ∀ i, i < c1 → plc1 i ≠ p) (hM : KM own plc str c own1 plc1 str1 c1 p) (hse : obj = true → ∀ x, x ∈ s :: seen ↔ ∃ j, j < c1 ∧ own1 j = p ∧ str1 j = x) (hla : last = -1 ∨ ∃ la, last = nI la ∧ p < la ∧ la < part)
    (f1 : FRE Sd Sd1 part v) (f2 : FRE In In1 part v) (f3 : FRE Am Am1 part v) (hk : obj = true → part + 1 + s.length < v ∧ In1 part = nI v ∧ (∃ b, sstr T L (part + 1) = .inr (s, b)) ∧ SAID Sd1 Am1 part s) (hq : (if obj = true then skey T L part seen else .inr (part, [])) = .inr (v, s)) :
    (∃ w u, sgrp (sval T L d) T L obj cl (n + 1) part seen = .inl w ∧ m_X7_readGroup_105 fv T (nI L) (m_X7_readGroup_76 fv T (nI L) fuel) Sd1 In1 Nx Am1 wp kh1 kp1 ko1 kn1 (nI c1) (nI p) (nI (24 - d)) (nI cl) (nI part) last (nI cnt) (nI v) = some (-1, u) ∧ u.2.2.2.2.1 = nI w) ∨
    (∃ l q Sd' In' Nx' Am' kh' kp' ko' kn' own' plc' str' c', sgrp (sval T L d) T L obj cl (n + 1) part seen = .inr (l, q) ∧ m_X7_readGroup_105 fv T (nI L) (m_X7_readGroup_76 fv T (nI L) fuel) Sd1 In1 Nx Am1 wp kh1 kp1 ko1 kn1 (nI c1) (nI p) (nI (24 - d)) (nI cl) (nI part) last (nI cnt) (nI v) = some (nI q, (Sd', In', Nx', Am', wp, kh', kp', ko', kn', nI c')) ∧ RG T L d p part q cnt obj last l Sd In Nx Am Sd' In' Nx' Am' kh' kp' ko' kn' own plc str c own' plc' str' c') := by
  have ed : nI (24 - d) + 1 = nI (25 - d) := by rw [nI_1]; congr 1; omega
  unfold m_X7_readGroup_105
  rw [if_neg (nI_m1 (by omega)), ed]
  simp only [sgrp, hq]
  rcases hfv Sd1 In1 Nx Am1 wp kh1 kp1 ko1 kn1 own1 plc1 str1 c1 v hvL hI hB with ⟨w, u, g1, g2, g3⟩ | ⟨b, Sd2, In2, Nx2, Am2, kh2, kp2, ko2, kn2, own2, plc2, str2, c2, g1, g2, g3⟩
  · rw [g2, g1]
    simp only [Option.bind_some]
    obtain ⟨u1, u2, u3, u4, u5, u6, u7, u8, u9, u10⟩ := u
    unfold m_X7_readGroup_126
    rw [if_pos rfl]
    exact Or.inl ⟨w, _, rfl, rfl, g3⟩
  · obtain ⟨r1, r2, r3, r4, r5, r6, r7, r8, r9⟩ := g3
    obtain ⟨hvb, hbL⟩ := sval_p _ _ _ g1
    have hb := sbl_le (B := T) (L := L) (a := b)
    have hb2 := sbl_le2 (B := T) (L := L) (a := b) hbL
    have hla2 : last = -1 ∨ ∃ la, last = nI la ∧ la < 4096 := by
      rcases hla with e | ⟨la, e, _, h2⟩
      · exact Or.inl e
      · exact Or.inr ⟨la, e, by omega⟩
    rw [g2, g1]
    simp only [Option.bind_some]
    unfold m_X7_readGroup_126
    rw [if_neg (nI_m1 (by omega)), join_eq (by omega) (by omega) hla2]
    simp only [Option.bind_some]
    rw [etr_eq (by decide) (show p < 4096 by omega)]
    simp only [Option.bind_some]
    rw [bbl_eq hL (by omega)]
    simp only [Option.bind_some]
    rw [byt_eq hL (by omega)]
    simp only [Option.bind_some, ub44, nI_1]
    have hn1 : ∀ i, i < part → In2 i = In i := fun i hi => by rw [r2 i (Or.inl (by omega)), f2 i (Or.inl hi)]
    have hn2 : ∀ i, b ≤ i → In2 i = In i := fun i hi => by rw [r2 i (Or.inr hi), f2 i (Or.inr (by omega))]
    -- the rows behind join
    generalize hIn3 : (if last = -1 then upd In2 p (nI part) else In2) = In3
    generalize hNx0 : (if last = -1 then Nx2 else upd Nx2 last.toNatClampNeg (nI part)) = Nx0
    have hI3 : ∀ i, i ≠ p → In3 i = In2 i := fun i hi => by
      rw [← hIn3]
      by_cases h : last = -1
      · rw [if_pos h, pk_un hi]
      · rw [if_neg h]
    have hI3o : ∀ i, i < part ∨ b ≤ i → In3 i = (if last = -1 then upd In p (nI part) else In) i := fun i hi => by
      rw [← hIn3]
      have e : In2 i = In i := hi.elim (hn1 i) (hn2 i)
      by_cases h : last = -1
      · rw [if_pos h, if_pos h]
        by_cases q : i = p
        · rw [q, pk_us, pk_us]
        · rw [pk_un q, pk_un q, e]
      · rw [if_neg h, if_neg h, e]
    have hN3 : ∀ i, v < i → i < b → Nx0 i = Nx2 i := fun i i1 i2 => by
      rw [← hNx0]
      by_cases h : last = -1
      · rw [if_pos h]
      · rw [if_neg h]
        rcases hla with e | ⟨la, e, l1, l2⟩
        · exact absurd e h
        · subst e
          rw [nI_clamp (by omega), pk_un (by omega)]
    have hN3o : ∀ i, i < part ∨ b ≤ i → Nx0 i = (if last = -1 then Nx else upd Nx last.toNatClampNeg (nI part)) i := fun i hi => by
      rw [← hNx0]
      have e : Nx2 i = Nx i := r3 i (by omega)
      by_cases h : last = -1
      · rw [if_pos h, if_pos h, e]
      · rw [if_neg h, if_neg h]
        by_cases q : i = last.toNatClampNeg
        · rw [q, pk_us, pk_us]
        · rw [pk_un q, pk_un q, e]
    have hA2o : ∀ i, i < part ∨ b ≤ i → Am2 i = Am i := fun i hi => by
      rw [r4 i (by omega), f3 i (by omega)]
    have hM2 : KM own plc str c own2 plc2 str2 c2 p := hM.trans r8 (by omega)
    have hne2 : ∀ i, i < c2 → plc2 i ≠ p := fun i hi => by
      by_cases q : i < c1
      · rw [(r8.2.1 i q).2.1]; exact hne i q
      · have := r8.2.2 i (by omega) hi
        omega
    have hKI : KI Sd2 (upd Am2 p (nI cnt)) kh2 kp2 ko2 kn2 own2 plc2 str2 c2 := r6.keep (fun i hi => (r6.2.1 i hi).2.2.2.keep (fun _ _ _ => rfl) (pk_un (hne2 i hi)))
    -- the part itself, in rows that agree below m
    have part_ok : ∀ (m : Nat) (Sd' In' Nx' Am' : Nat → Int32), b ≤ m → (∀ i, i < m → Sd' i = Sd2 i) → (∀ i, i < m → i ≠ p → In' i = In3 i ∧ Am' i = Am2 i) → (∀ i, v < i → i < m → Nx' i = Nx0 i) → PTK T L d obj Sd' In' Nx' Am' (part, v) := by
      intro m Sd' In' Nx' Am' hm q1 q2 q3
      refine ⟨r5.keep _ _ _ g1 (fun i i1 i2 => ⟨q1 i (by omega), by rw [(q2 i (by omega) (by omega)).1, hI3 i (by omega)], (q2 i (by omega) (by omega)).2⟩) (fun i i1 i2 => by rw [q3 i i1 (by omega), hN3 i i1 i2]), fun ho => ?_⟩
      obtain ⟨k1, k2, ⟨bb, k3⟩, k4⟩ := hk ho
      refine ⟨by rw [(q2 part (by omega) (by omega)).1, hI3 part (by omega), r2 part (Or.inl (by omega))]; exact k2, s, bb, k3, k4.keep (fun i i1 i2 => by rw [q1 i (by omega), r1 i (Or.inl (by omega))]) (by rw [(q2 part (by omega) (by omega)).2, r4 part (Or.inl (by omega))])⟩
    by_cases h1 : cb T L (sbl T L b) = cl
    · have hmL : sbl T L b < L := cb_lt (B := T) (by omega)
      rw [if_pos ((ub_e (cb_le _ _ _) hcl).mpr h1), if_pos h1]
      refine Or.inr ⟨[(part, v)], sbl T L b + 1, Sd2, In3, upd Nx0 part (-1), upd Am2 p (nI cnt), kh2, kp2, ko2, kn2, own2, plc2, str2, c2, rfl, rfl, fun i hi => ?_, fun i hi => hI3o i (by omega), fun i hi => ?_, fun i hi => ?_, ⟨rfl, pk_us⟩, fun k hk2 => ?_, hKI, r7.mono (by omega), hM2, by omega⟩
      · rw [r1 i (by omega), f1 i (by omega)]
      · rw [pk_un (by omega), hN3o i (by omega)]
      · rw [List.length_singleton, show cnt - 1 + 1 = cnt by omega]
        by_cases q : i = p
        · rw [q, pk_us, pk_us]
        · rw [pk_un q, pk_un q, hA2o i (by omega)]
      · rw [List.mem_singleton.mp hk2]
        exact part_ok (sbl T L b + 1) _ _ _ _ (by omega) (fun _ _ => rfl) (fun i _ hi2 => ⟨rfl, pk_un hi2⟩) (fun i i1 i2 => pk_un (by omega))
    · rw [if_neg (fun z => h1 ((ub_e (cb_le _ _ _) hcl).mp z)), if_neg h1]
      by_cases h2 : cb T L (sbl T L b) = 44
      · have hmL : sbl T L b < L := cb_lt (B := T) (by omega)
        have hb3 := sbl_le (B := T) (L := L) (a := sbl T L b + 1)
        have hb4 := sbl_le2 (B := T) (L := L) (a := sbl T L b + 1) (by omega)
        rw [if_pos h2, if_pos h2, bbl_eq hL (by omega)]
        simp only [Option.bind_some]
        have hse2 : obj = true → ∀ x, x ∈ s :: seen ↔ ∃ j, j < c2 ∧ own2 j = p ∧ str2 j = x := by
          intro ho x
          rw [hse ho x]
          constructor
          · rintro ⟨j, j1, j2, j3⟩
            obtain ⟨y1, _, y3⟩ := r8.2.1 j j1
            exact ⟨j, by have := r8.1; omega, y1.trans j2, y3.trans j3⟩
          · rintro ⟨j, j1, j2, j3⟩
            by_cases q : j < c1
            · obtain ⟨y1, _, y3⟩ := r8.2.1 j q
              exact ⟨j, q, y1.symm.trans j2, y3.symm.trans j3⟩
            · have := r8.2.2 j (by omega) j1
              omega
        rcases ih (sbl T L (sbl T L b + 1)) (cnt + 1) (nI part) Sd2 In3 (upd Nx0 part (-1)) (upd Am2 p (nI cnt)) kh2 kp2 ko2 kn2 own2 plc2 str2 c2 (s :: seen) (by omega) hb4 (by omega) (by omega) (by omega) (by omega) hKI (r7.mono (by omega)) (by omega) hne2 hse2 (Or.inr ⟨part, rfl, hp, by omega⟩) with ⟨w, u, e1, e2, e3⟩ | ⟨l, q, Sd', In', Nx', Am', kh', kp', ko', kn', own', plc', str', c', e1, e2, e3⟩
        · rw [e1]
          exact Or.inl ⟨w, u, rfl, e2, e3⟩
        · obtain ⟨z1, z2, z3, z4, z5, z6, z7, z8, z9, z10⟩ := e3
          have hq2 := (sgrp_p hcl (sval_p d) _ _ _ _ _ e1).1
          rw [if_neg (nI_m1 (by omega))] at z2 z3
          rw [nI_clamp (by omega)] at z3
          rw [e1]
          refine Or.inr ⟨(part, v) :: l, q, Sd', In', Nx', Am', kh', kp', ko', kn', own', plc', str', c', rfl, e2, fun i hi => ?_, fun i hi => ?_, fun i hi => ?_, fun i hi => ?_, ⟨rfl, ?_⟩, fun k hk2 => ?_, z7, z8, hM2.trans z9 (Nat.le_refl _), z10⟩
          · rw [z1 i (by omega), r1 i (by omega), f1 i (by omega)]
          · rw [z2 i (by omega), hI3o i (by omega)]
          · rw [z3 i (by omega), pk_un (by omega), pk_un (by omega), hN3o i (by omega)]
          · rw [z4 i (by omega), List.length_cons]
            by_cases q2 : i = p
            · rw [q2, pk_us, pk_us]
              congr 1
              omega
            · rw [pk_un q2, pk_un q2, pk_un q2, hA2o i (by omega)]
          · show CHN Nx' l (Nx' part)
            rw [z3 part (Or.inl (by omega)), pk_us]
            exact z5
          · rcases List.mem_cons.mp hk2 with e | e
            · rw [e]
              exact part_ok (sbl T L (sbl T L b + 1)) _ _ _ _ (by omega) (fun i hi => z1 i (Or.inl hi)) (fun i hi hi2 => ⟨z2 i (Or.inl hi), by rw [z4 i (Or.inl hi), pk_un hi2, pk_un hi2]⟩) (fun i i1 i2 => by rw [z3 i (Or.inl i2), pk_un (by omega), pk_un (by omega)])
            · exact z6 k e
      · rw [if_neg h2, if_neg h2]
        simp only [m_X7_refuse, Option.bind_some]
        exact Or.inl ⟨sbl T L b, _, rfl, rfl, rfl⟩
end CGRP
end
section
-- the class's reading of a value and of the whole text, exactly
section CRDV
variable {T : Nat → Int32} {L : Nat}
theorem rgrp_go (hL : L ≤ 4096) {fv : FP} {d : Nat} (hd : d ≤ 24) (hfv : okC T L fv d) {p cl : Nat} {obj : Bool} (hcl : cl < 256) (hob : m_X7_isObject T (nI L) (nI p) = some (if obj = true then 1 else 0)) (wp : Int32) : ∀ (n fuel part cnt : Nat) (last : Int32) (Sd In Nx Am kh kp ko kn : Nat → Int32) (own plc : Nat → Nat) (str : Nat → List Nat) (c : Nat) (seen : List (List Nat)), p < part → part ≤ L → L - part < n → L - part < fuel → 0 < cnt → cnt + p ≤ part → KI Sd Am kh kp ko kn own plc str c → KB own plc str c part → 4 * c ≤ part → (∀ i, i < c → plc i ≠ p) → (obj = true → ∀ s, s ∈ seen ↔ ∃ j, j < c ∧ own j = p ∧ str j = s) → (last = -1 ∨ ∃ la, last = nI la ∧ p < la ∧ la < part) →
      (∃ w u, sgrp (sval T L d) T L obj cl n part seen = .inl w ∧ m_X7_readGroup_76 fv T (nI L) fuel Sd In Nx Am wp kh kp ko kn (nI c) (nI p) (nI (24 - d)) (nI cl) (nI part) last (nI cnt) = some (-1, u) ∧ u.2.2.2.2.1 = nI w) ∨
      (∃ l q Sd' In' Nx' Am' kh' kp' ko' kn' own' plc' str' c', sgrp (sval T L d) T L obj cl n part seen = .inr (l, q) ∧ m_X7_readGroup_76 fv T (nI L) fuel Sd In Nx Am wp kh kp ko kn (nI c) (nI p) (nI (24 - d)) (nI cl) (nI part) last (nI cnt) = some (nI q, (Sd', In', Nx', Am', wp, kh', kp', ko', kn', nI c')) ∧ RG T L d p part q cnt obj last l Sd In Nx Am Sd' In' Nx' Am' kh' kp' ko' kn' own plc str c own' plc' str' c') := by
  intro n
  induction n with
  | zero => intro fuel part cnt last Sd In Nx Am kh kp ko kn own plc str c seen _ _ h; exact absurd h (Nat.not_lt_zero _)
  | succ n ih =>
    intro fuel part cnt last Sd In Nx Am kh kp ko kn own plc str c seen hp hpa hn hf hc0 hcp hI hB h4 hne hse hla
    obtain ⟨fuel, rfl⟩ : ∃ k, fuel = k + 1 := ⟨fuel - 1, by omega⟩
    simp only [m_X7_readGroup_76]
    rw [if_neg (nI_nlt (a := L) (b := cnt) (by omega) (by omega)), hob]
    simp only [Option.bind_some]
    cases obj with
    | false =>
      rw [if_pos (show (if false = true then (1 : Int32) else 0) = 0 by decide)]
      exact rgrp_rest hL hd hfv hcl wp n fuel (ih fuel) (s := []) hp (Nat.le_refl _) hpa hn hf hc0 hcp hI (hB.mono (Nat.le_refl _)) hne KM.refl (fun z => absurd z (by decide)) hla (fun _ _ => rfl) (fun _ _ => rfl) (fun _ _ => rfl) (fun z => absurd z (by decide)) rfl
    | true =>
      rw [if_neg (show ¬ (if true = true then (1 : Int32) else 0) = 0 by decide)]
      rcases rkey_eq (T := T) (In := In) hL wp hI (fun i hi => ⟨(hB.2 i hi).1, (hB.2 i hi).2.1⟩) (hse rfl) (fun h => by omega) (show p < 4096 by omega) hpa with ⟨w, Sd', In', Am', kh', kp', ko', kn', kc', g1, g2⟩ | ⟨v, s, kh', kp', ko', kn', g1, g2, g3, g4⟩
      · rw [g2]
        simp only [Option.bind_some, sgrp, g1, if_true]
        unfold m_X7_readGroup_105
        rw [if_pos rfl]
        unfold m_X7_readGroup_126
        rw [if_pos rfl]
        exact Or.inl ⟨w, _, rfl, rfl, rfl⟩
      · obtain ⟨b, s1, s2, s3, s4, s5, s6, s7, s8⟩ := skey_p g1
        obtain ⟨w1, w2, w3⟩ := wrS_all s Sd part (sstrf_b _ _ _ _ s2)
        rw [g2]
        simp only [Option.bind_some]
        refine rgrp_rest hL hd hfv hcl wp n fuel (ih fuel) (s := s) hp (by omega) (by omega) hn hf hc0 hcp g4 ⟨by omega, fun i hi => ?_⟩ (fun i hi => ?_) ⟨by omega, fun i hi => ?_, fun i i1 i2 => ?_⟩ (fun _ x => ?_) hla (fun i hi => ?_) (fun i hi => pk_un (by omega)) (fun i hi => pk_un (by omega)) (fun _ => ⟨by omega, pk_us, ⟨b, s2⟩, g3⟩) (by rw [if_pos rfl]; exact g1)
        · by_cases q : i = c
          · subst q
            rw [pset_s, pset_s, pset_s]
            omega
          · rw [pset_n q, pset_n q, pset_n q]
            have := hB.2 i (by omega)
            omega
        · by_cases q : i = c
          · subst q
            rw [pset_s]
            omega
          · rw [pset_n q]
            exact hne i (by omega)
        · rw [pset_n (by omega), pset_n (by omega), pset_n (by omega)]
          exact ⟨rfl, rfl, rfl⟩
        · have q : i = c := by omega
          subst q
          rw [pset_s, pset_s]
          omega
        · rw [List.mem_cons, hse rfl x]
          constructor
          · rintro (q | ⟨j, j1, j2, j3⟩)
            · exact ⟨c, by omega, by rw [pset_s], by rw [pset_s, q]⟩
            · exact ⟨j, by omega, by rw [pset_n (by omega)]; exact j2, by rw [pset_n (by omega)]; exact j3⟩
          · rintro ⟨j, j1, j2, j3⟩
            by_cases q : j = c
            · subst q
              rw [pset_s] at j3
              exact Or.inl j3.symm
            · rw [pset_n q] at j2 j3
              exact Or.inr ⟨j, by omega, j2, j3⟩
        · rcases hi with hi | hi
          · exact w1 i hi
          · exact w2 i (by omega)
theorem rgrp_eq (hL : L ≤ 4096) {fv : FP} {d : Nat} (hd : d ≤ 24) (hfv : 0 < d → okC T L fv d) (Sd In Nx Am : Nat → Int32) (wp : Int32) (kh kp ko kn : Nat → Int32) (own plc : Nat → Nat) (str : Nat → List Nat) (c p : Nat) (hI : KI Sd Am kh kp ko kn own plc str c) (hB : KB own plc str c p) (hg : cb T L p = 91 ∨ cb T L p = 123) :
    (∃ w u, sval T L (d + 1) p = .inl w ∧ m_X7_readGroup fv T Sd In Nx Am (nI L) wp kh kp ko kn (nI c) (nI p) (nI (24 - d)) = some (-1, u) ∧ u.2.2.2.2.1 = nI w) ∨
    (∃ q Sd' In' Nx' Am' kh' kp' ko' kn' own' plc' str' c', sval T L (d + 1) p = .inr q ∧ m_X7_readGroup fv T Sd In Nx Am (nI L) wp kh kp ko kn (nI c) (nI p) (nI (24 - d)) = some (nI q, (Sd', In', Nx', Am', wp, kh', kp', ko', kn', nI c')) ∧ RV T L (d + 1) p q Sd In Nx Am Sd' In' Nx' Am' kh' kp' ko' kn' own plc str c own' plc' str' c') := by
  have hpL : p < L := cb_lt (B := T) (by omega)
  unfold m_X7_readGroup
  simp only [sval]
  rw [if_neg (show ¬ cb T L p = 34 by omega), if_pos hg]
  by_cases h0 : d = 0
  · subst h0
    rw [if_neg (show ¬ nI (24 - 0) < 24 from nI_nlt (a := 24) (b := 24) (Nat.le_refl _) (by decide)), if_pos rfl]
    simp only [m_X7_refuse, Option.bind_some]
    exact Or.inl ⟨p, _, rfl, rfl, rfl⟩
  · rw [if_pos (show nI (24 - d) < 24 from nI_lt (b := 24) (by omega) (by decide)), if_neg h0]
    have hob : m_X7_isObject T (nI L) (nI p) = some (if decide (cb T L p = 123) = true then 1 else 0) := by
      unfold m_X7_isObject
      rw [byt_eq hL (by omega)]
      simp only [Option.bind_some, ub123, decide_eq_true_eq]
      by_cases h : cb T L p = 123
      · rw [if_pos h, if_pos h]
      · rw [if_neg h, if_neg h]
    have h27 : ∀ cl, cl = (if cb T L p = 123 then 125 else 93) → (∃ w u, (if cb T L (sbl T L (p + 1)) = cl then .inr (sbl T L (p + 1) + 1) else sM (sgrp (sval T L d) T L (decide (cb T L p = 123)) cl (L + 1) (sbl T L (p + 1)) [])) = (.inl w : Nat ⊕ Nat) ∧ m_X7_readGroup_27 fv T (nI L) Sd In Nx Am wp kh kp ko kn (nI c) (nI p) (nI (24 - d)) (nI cl) = some (-1, u) ∧ u.2.2.2.2.1 = nI w) ∨
        (∃ q Sd' In' Nx' Am' kh' kp' ko' kn' own' plc' str' c', (if cb T L (sbl T L (p + 1)) = cl then .inr (sbl T L (p + 1) + 1) else sM (sgrp (sval T L d) T L (decide (cb T L p = 123)) cl (L + 1) (sbl T L (p + 1)) [])) = (.inr q : Nat ⊕ Nat) ∧ m_X7_readGroup_27 fv T (nI L) Sd In Nx Am wp kh kp ko kn (nI c) (nI p) (nI (24 - d)) (nI cl) = some (nI q, (Sd', In', Nx', Am', wp, kh', kp', ko', kn', nI c')) ∧ RV T L (d + 1) p q Sd In Nx Am Sd' In' Nx' Am' kh' kp' ko' kn' own plc str c own' plc' str' c') := by
      intro cl hcle
      have hcl : cl < 256 := by rw [hcle]; split <;> omega
      have hb1 := sbl_le (B := T) (L := L) (a := p + 1)
      have hb2 := sbl_le2 (B := T) (L := L) (a := p + 1) (by omega)
      have hKI : KI Sd (upd Am p 0) kh kp ko kn own plc str c := hI.keep (fun i hi => (hI.2.1 i hi).2.2.2.keep (fun _ _ _ => rfl) (pk_un (by have := hB.2 i hi; omega)))
      unfold m_X7_readGroup_27
      rw [etr_eq (by decide) (show p < 4096 by omega)]
      simp only [Option.bind_some]
      rw [etr_eq (by decide) (show p < 4096 by omega)]
      simp only [Option.bind_some, nI_1]
      rw [bbl_eq hL (by omega)]
      simp only [Option.bind_some]
      rw [byt_eq hL (by omega)]
      simp only [Option.bind_some, nI_1]
      by_cases h1 : cb T L (sbl T L (p + 1)) = cl
      · have hlt : sbl T L (p + 1) < L := cb_lt (B := T) (by omega)
        rw [if_pos h1, if_pos ((ub_e (cb_le _ _ _) hcl).mpr h1)]
        refine Or.inr ⟨sbl T L (p + 1) + 1, Sd, upd In p (-1), Nx, upd Am p 0, kh, kp, ko, kn, own, plc, str, c, rfl, rfl, fun _ _ => rfl, fun i hi => pk_un (by omega), fun _ _ => rfl, fun i hi => pk_un (by omega), ⟨fun q => by omega, fun _ => ⟨[], Or.inl ⟨by rw [← hcle]; exact h1, rfl⟩, by rw [pk_us]; exact nI_0.symm, pk_us, fun k hk => absurd hk List.not_mem_nil⟩⟩, hKI, hB.mono (by omega), KM.refl, ?_⟩
        have := hB.1
        omega
      · rw [if_neg h1, if_neg (fun z => h1 ((ub_e (cb_le _ _ _) hcl).mp z))]
        have h4 : 4 * c ≤ sbl T L (p + 1) := by have := hB.1; omega
        have g := rgrp_go hL hd (hfv (by omega)) hcl hob wp (L + 1) sr_fuel (sbl T L (p + 1)) 1 (-1) Sd (upd In p (-1)) Nx (upd Am p 0) kh kp ko kn own plc str c [] (by omega) hb2 (by omega) (by unfold sr_fuel; omega) (by decide) (by omega) hKI (hB.mono (by omega)) h4 (fun i hi => by have := hB.2 i hi; omega) (fun _ s => ⟨fun z => absurd z List.not_mem_nil, fun ⟨j, j1, j2, _⟩ => by have := hB.2 j j1; omega⟩) (Or.inl rfl)
        rw [show nI 1 = 1 from rfl] at g
        rcases g with ⟨w, u, e1, e2, e3⟩ | ⟨l, q, Sd', In', Nx', Am', kh', kp', ko', kn', own', plc', str', c', e1, e2, e3⟩
        · rw [e1]
          exact Or.inl ⟨w, u, rfl, e2, e3⟩
        · obtain ⟨z1, z2, z3, z4, z5, z6, z7, z8, z9, z10⟩ := e3
          have hq := sgrp_p hcl (sval_p d) _ _ _ _ _ e1
          rw [if_pos rfl] at z2 z3
          rw [e1]
          refine Or.inr ⟨q, Sd', In', Nx', Am', kh', kp', ko', kn', own', plc', str', c', rfl, e2, fun i hi => z1 i (by omega), fun i hi => ?_, fun i hi => z3 i (by omega), fun i hi => ?_, ⟨fun q => by omega, fun _ => ⟨l, Or.inr ⟨by rw [← hcle]; exact h1, q, by rw [← hcle]; exact e1⟩, ?_, ?_, fun k hk => ?_⟩⟩, z7, z8, z9, z10⟩
          · rw [z2 i (by omega), pk_un (by omega), pk_un (by omega)]
          · rw [z4 i (by omega), pk_un (by omega), pk_un (by omega)]
          · rw [z4 p (Or.inl (by omega)), pk_us]
            congr 1
            omega
          · rw [z2 p (Or.inl (by omega)), pk_us]
            exact z5
          · obtain ⟨t1, t2⟩ := z6 k hk
            exact ⟨t1, fun q => t2 (by rw [q]; rfl)⟩
    rw [hob]
    by_cases h : cb T L p = 123
    · have e1 : (if decide (cb T L p = 123) = true then (1 : Int32) else 0) = 1 := by simp [h]
      rw [e1]
      simp only [Option.bind_some]
      rw [if_neg (show ¬ (1 : Int32) = 0 by decide)]
      have := h27 125 (by rw [if_pos h])
      simp only [if_pos h]
      exact this
    · have e1 : (if decide (cb T L p = 123) = true then (1 : Int32) else 0) = 0 := by simp [h]
      rw [e1]
      simp only [Option.bind_some]
      rw [if_pos trivial]
      have := h27 93 (by rw [if_neg h])
      simp only [if_neg h]
      exact this
end CRDV
end
section
-- the class's values and the whole text, exactly
section CVAL
variable {T : Nat → Int32} {L : Nat}
theorem isn_eq (hL : L ≤ 4096) {a : Nat} (ha : a < 2 ^ 31) : m_X7_isNumber T (nI L) (nI a) = some (if cb T L a = 45 ∨ (48 ≤ cb T L a ∧ cb T L a ≤ 57) then 1 else 0) := by
  unfold m_X7_isNumber
  rw [byt_eq hL ha]
  simp only [Option.bind_some, ub45, dig_eq]
  by_cases h : cb T L a = 45
  · rw [if_pos h, if_pos (Or.inl h)]
  · rw [if_neg h]
    by_cases h2 : 48 ≤ cb T L a ∧ cb T L a ≤ 57
    · simp only [if_pos h2, Option.bind_some]
      rw [if_neg (by decide), if_pos (Or.inr h2)]
    · simp only [if_neg h2, Option.bind_some, if_true]
      rw [if_neg (by omega)]
theorem leaf_ok {Sd In Nx Am kh kp ko kn : Nat → Int32} {own plc : Nat → Nat} {str : Nat → List Nat} {c p q d : Nat} (hI : KI Sd Am kh kp ko kn own plc str c) (hB : KB own plc str c p) (hpq : p < q) (h1 : cb T L p ≠ 34) (h2 : cb T L p ≠ 91) (h3 : cb T L p ≠ 123) : RV T L (d + 1) p q Sd In Nx Am Sd In Nx Am kh kp ko kn own plc str c own plc str c := by
  refine ⟨fun _ _ => rfl, fun _ _ => rfl, fun _ _ => rfl, fun _ _ => rfl, ⟨fun z => absurd z h1, fun z => ?_⟩, hI, hB.mono (by omega), KM.refl, by have := hB.1; omega⟩
  rcases z with z | z
  · exact absurd z h2
  · exact absurd z h3
theorem rval_eq (hL : L ≤ 4096) : ∀ (D d : Nat), 0 < d → d ≤ 25 → d ≤ D → okC T L (m_X7_readValue D) d := by
  intro D
  induction D with
  | zero => intro d h1 _ h2; omega
  | succ D ih =>
    intro d h0 h25 hD
    obtain ⟨e, rfl⟩ : ∃ e, d = e + 1 := ⟨d - 1, by omega⟩
    intro Sd In Nx Am wp kh kp ko kn own plc str c p hp hI hB
    have ed : 25 - (e + 1) = 24 - e := by omega
    have hgr := rgrp_eq (T := T) hL (fv := m_X7_readValue D) (d := e) (by omega) (fun h => ih e h (by omega) (by omega)) Sd In Nx Am wp kh kp ko kn own plc str c p hI hB
    simp only [m_X7_readValue]
    rw [byt_eq hL (by omega), ed]
    simp only [Option.bind_some, ub34, ub91, ub102, ub110, ub116, ub123]
    by_cases c1 : cb T L p = 34
    · have hlt : p < L := cb_lt (B := T) (by omega)
      rw [if_pos c1]
      simp only [sval]
      rw [if_pos c1]
      rcases rstr_eq (T := T) (Sd := Sd) (Am := Am) hL wp hlt with ⟨w, Sd', g1, g2⟩ | ⟨s, b, g1, g2, g3, g4, g5⟩
      · rw [g2, g1]
        exact Or.inl ⟨w, _, rfl, rfl, rfl⟩
      · rw [g5, g1]
        obtain ⟨w1, w2, w3⟩ := wrS_all s Sd p (sstrf_b _ _ _ _ g1)
        refine Or.inr ⟨b, wrS Sd p s, In, Nx, upd Am p (nI s.length), kh, kp, ko, kn, own, plc, str, c, rfl, rfl, fun i hi => ?_, fun _ _ => rfl, fun _ _ => rfl, fun i hi => pk_un (by omega), ⟨fun _ => ⟨s, b, g1, by omega, by omega, pk_us, w3⟩, fun z => by omega⟩, hI.keep (fun i hi => (hI.2.1 i hi).2.2.2.keep (fun x x1 x2 => w1 x (by have := hB.2 i hi; omega)) (pk_un (by have := hB.2 i hi; omega))), hB.mono (by omega), KM.refl, by have := hB.1; omega⟩
        rcases hi with hi | hi
        · exact w1 i hi
        · exact w2 i (by omega)
    rw [if_neg c1]
    by_cases c2 : cb T L p = 91
    · rw [if_pos c2]
      rcases hgr (Or.inl c2) with ⟨w, u, g1, g2, g3⟩ | ⟨q, Sd', In', Nx', Am', kh', kp', ko', kn', own', plc', str', c', g1, g2, g3⟩
      · rw [g2]
        exact Or.inl ⟨w, u, g1, rfl, g3⟩
      · rw [g2]
        exact Or.inr ⟨q, Sd', In', Nx', Am', kh', kp', ko', kn', own', plc', str', c', g1, rfl, g3⟩
    rw [if_neg c2]
    by_cases c3 : cb T L p = 102
    · rw [if_pos c3, rwrd_eq hL (w := 1) (by decide) wp hp]
      have hv : sval T L (e + 1) p = swd T L (wdl 1) p := by
        simp only [sval]
        rw [if_neg c1, if_neg (by omega), if_pos c3]
      rw [hv]
      cases hs : swd T L (wdl 1) p with
      | inl w => exact Or.inl ⟨w, _, rfl, rfl, rfl⟩
      | inr q => exact Or.inr ⟨q, Sd, In, Nx, Am, kh, kp, ko, kn, own, plc, str, c, rfl, rfl, leaf_ok hI hB (sval_p (e + 1) p q (hv.trans hs)).1 c1 c2 (by omega)⟩
    rw [if_neg c3]
    by_cases c4 : cb T L p = 110
    · rw [if_pos c4, rwrd_eq hL (w := 2) (by decide) wp hp]
      have hv : sval T L (e + 1) p = swd T L (wdl 2) p := by
        simp only [sval]
        rw [if_neg c1, if_neg (by omega), if_neg c3, if_pos c4]
      rw [hv]
      cases hs : swd T L (wdl 2) p with
      | inl w => exact Or.inl ⟨w, _, rfl, rfl, rfl⟩
      | inr q => exact Or.inr ⟨q, Sd, In, Nx, Am, kh, kp, ko, kn, own, plc, str, c, rfl, rfl, leaf_ok hI hB (sval_p (e + 1) p q (hv.trans hs)).1 c1 c2 (by omega)⟩
    rw [if_neg c4]
    by_cases c5 : cb T L p = 116
    · rw [if_pos c5, rwrd_eq hL (w := 0) (by decide) wp hp]
      have hv : sval T L (e + 1) p = swd T L (wdl 0) p := by
        simp only [sval]
        rw [if_neg c1, if_neg (by omega), if_neg c3, if_neg c4, if_pos c5]
      rw [hv]
      cases hs : swd T L (wdl 0) p with
      | inl w => exact Or.inl ⟨w, _, rfl, rfl, rfl⟩
      | inr q => exact Or.inr ⟨q, Sd, In, Nx, Am, kh, kp, ko, kn, own, plc, str, c, rfl, rfl, leaf_ok hI hB (sval_p (e + 1) p q (hv.trans hs)).1 c1 c2 (by omega)⟩
    rw [if_neg c5]
    by_cases c6 : cb T L p = 123
    · rw [if_pos c6]
      rcases hgr (Or.inr c6) with ⟨w, u, g1, g2, g3⟩ | ⟨q, Sd', In', Nx', Am', kh', kp', ko', kn', own', plc', str', c', g1, g2, g3⟩
      · rw [g2]
        exact Or.inl ⟨w, u, g1, rfl, g3⟩
      · rw [g2]
        exact Or.inr ⟨q, Sd', In', Nx', Am', kh', kp', ko', kn', own', plc', str', c', g1, rfl, g3⟩
    rw [if_neg c6, isn_eq hL (by omega)]
    simp only [Option.bind_some, m_X7_refuse]
    by_cases c7 : cb T L p = 45 ∨ (48 ≤ cb T L p ∧ cb T L p ≤ 57)
    · have hlt : p < L := cb_lt (B := T) (by omega)
      simp only [if_pos c7]
      rw [if_neg (by decide), rnum_eq hL wp hlt]
      have hv : sval T L (e + 1) p = snum T L p := by
        simp only [sval]
        rw [if_neg c1, if_neg (by omega), if_neg c3, if_neg c4, if_neg c5, if_pos c7]
      rw [hv]
      cases hs : snum T L p with
      | inl w => exact Or.inl ⟨w, _, rfl, rfl, rfl⟩
      | inr q => exact Or.inr ⟨q, Sd, In, Nx, Am, kh, kp, ko, kn, own, plc, str, c, rfl, rfl, leaf_ok hI hB (snum_p hs).1 c1 c2 c6⟩
    · simp only [if_neg c7, if_true]
      have hv : sval T L (e + 1) p = .inl p := by
        simp only [sval]
        rw [if_neg c1, if_neg (by omega), if_neg c3, if_neg c4, if_neg c5, if_neg c7]
      exact Or.inl ⟨p, _, hv, rfl, rfl⟩
theorem kclr_eq {kh : Nat → Int32} {kc : Int32} : ∃ kh', m_X2_clear kh kc = some (kh', 0) ∧ ∀ b, b < 256 → kh' b = -1 := by
  have go : ∀ (fuel j : Nat) (row : Nat → Int32), j ≤ 256 → 256 - j < fuel → (∀ b, b < j → row b = -1) → ∃ r, m_X24_fill_5 256 fuel row (-1) (nI j) (nI 256) = some r ∧ ∀ b, b < 256 → r b = -1 := by
    intro fuel
    induction fuel with
    | zero => intro j row _ hf; exact absurd hf (Nat.not_lt_zero _)
    | succ fuel ih =>
      intro j row hj hf hr
      simp only [m_X24_fill_5, nI_1]
      by_cases h : 256 ≤ j
      · rw [if_pos (nI_le h (by omega))]
        exact ⟨row, rfl, fun b hb => hr b (by omega)⟩
      · rw [if_neg (fun q => h ((nI_leI (by omega) (by omega)).mp q)), bd_go (show j < 256 by omega) (by decide), nI_clamp (by omega)]
        refine ih (j + 1) _ (by omega) (by omega) (fun b hb => ?_)
        by_cases q : b = j
        · rw [q, pk_us]
        · rw [pk_un q]; exact hr b (by omega)
  obtain ⟨r, h1, h2⟩ := go sr_fuel 0 kh (Nat.zero_le _) (by unfold sr_fuel; omega) (fun b hb => absurd hb (Nat.not_lt_zero _))
  rw [nI_0] at h1
  refine ⟨r, ?_, h2⟩
  unfold m_X2_clear m_X24_fill
  rw [show (Int32.ofNat 256 : Int32) = nI 256 from rfl, h1]
  rfl
/-- the whole text: where its value begins, or where it is wrong -/
def sread (B : Nat → Int32) (L : Nat) : Nat ⊕ Nat := match sval B L 25 (sbl B L 0) with
  | .inl w => .inl w
  | .inr q => if sbl B L q < L then .inl (sbl B L q) else .inr (sbl B L 0)
theorem read_eq (hL : L ≤ 4096) (Sd In Nx Am : Nat → Int32) (wp : Int32) (kh kp ko kn : Nat → Int32) (kc : Int32) :
    (∃ w u, sread T L = .inl w ∧ m_X7_read T Sd In Nx Am (nI L) wp kh kp ko kn kc = some (-1, u) ∧ u.2.2.2.2.1 = nI w) ∨
    (∃ p u, sread T L = .inr p ∧ m_X7_read T Sd In Nx Am (nI L) wp kh kp ko kn kc = some (nI p, u) ∧ p < L ∧ TRE T L u.1 u.2.1 u.2.2.1 u.2.2.2.1 25 p) := by
  obtain ⟨kh', hk1, hk2⟩ := kclr_eq (kh := kh) (kc := kc)
  have hb := sbl_le2 (B := T) (L := L) (a := 0) (Nat.zero_le _)
  have hI : KI Sd Am kh' kp ko kn (fun _ => 0) (fun _ => 0) (fun _ => []) 0 := ⟨by decide, fun i hi => absurd hi (Nat.not_lt_zero _), fun b hb => Or.inl ⟨hk2 b hb, fun i hi => absurd hi (Nat.not_lt_zero _)⟩, fun i hi => absurd hi (Nat.not_lt_zero _)⟩
  have hB : KB (fun _ => 0) (fun _ => 0) (fun _ => []) 0 (sbl T L 0) := ⟨by omega, fun i hi => absurd hi (Nat.not_lt_zero _)⟩
  have hbb := bbl_eq (T := T) hL (a := 0) (by decide)
  rw [nI_0] at hbb
  unfold m_X7_read sread
  rw [hk1]
  simp only [Option.bind_some]
  rw [hbb]
  simp only [Option.bind_some]
  have hv := rval_eq (T := T) hL 27 25 (by decide) (by decide) (by decide) Sd In Nx Am (-1) kh' kp ko kn _ _ _ 0 (sbl T L 0) hb hI hB
  rw [show nI (25 - 25) = 0 from nI_0] at hv
  rcases hv with ⟨w, u, g1, g2, g3⟩ | ⟨q, Sd', In', Nx', Am', kh2, kp2, ko2, kn2, own', plc', str', c', g1, g2, g3⟩
  · obtain ⟨u1, u2, u3, u4, u5, u6, u7, u8, u9, u10⟩ := u
    rw [g2, g1]
    simp only [Option.bind_some, if_true]
    exact Or.inl ⟨w, _, rfl, rfl, g3⟩
  · obtain ⟨hpq, hqL⟩ := sval_p _ _ _ g1
    rw [g2, g1]
    simp only [Option.bind_some]
    rw [if_neg (nI_m1 (by omega)), bbl_eq hL (by omega)]
    simp only [Option.bind_some, m_X7_refuse]
    have hq2 := sbl_le2 (B := T) (L := L) (a := q) hqL
    by_cases h : sbl T L q < L
    · rw [if_pos h, if_neg (fun z => absurd ((nI_leI (by omega) (by omega)).mp z) (by omega))]
      exact Or.inl ⟨_, _, rfl, rfl, rfl⟩
    · rw [if_neg h, if_pos (nI_le (by omega) (by omega))]
      exact Or.inr ⟨_, _, rfl, rfl, by omega, g3.2.2.2.2.1⟩
end CVAL
end
section
-- the reference's bytes, and what they are as numbers
def BY (B : Nat → Int32) (L : Nat) : Prop := ∀ i, i < L → (B i).toInt8.toInt32 = B i
def sbI (n : Nat) : Int32 := if n = 256 then -1 else if n < 128 then nI n else nI n - 256
theorem byte_int (x : Int32) : x.toInt8.toInt32.toInt = if bv x < 128 then (bv x : Int) else (bv x : Int) - 256 := by
  rw [Int8.toInt_toInt32, Int32.toInt_toInt8, Int.bmod_def]
  have e : x.toInt = if 2 * x.toBitVec.toNat < 2 ^ 32 then (x.toBitVec.toNat : Int) else (x.toBitVec.toNat : Int) - ((2 ^ 32 : Nat) : Int) := BitVec.toInt_eq_toNat_cond x.toBitVec
  have hl : x.toBitVec.toNat < 2 ^ 32 := x.toBitVec.isLt
  rw [e]
  unfold bv
  generalize x.toBitVec.toNat = n at hl ⊢
  by_cases h : 2 * n < 2 ^ 32
  · simp only [if_pos h]
    by_cases h2 : n % 256 < 128
    · rw [if_pos h2, if_pos (by omega)]
      omega
    · rw [if_neg h2, if_neg (by omega)]
      omega
  · simp only [if_neg h]
    by_cases h2 : n % 256 < 128
    · rw [if_pos h2, if_pos (by omega)]
      omega
    · rw [if_neg h2, if_neg (by omega)]
      omega
theorem sbI_int {n : Nat} (hn : n ≤ 256) : (sbI n).toInt = if n = 256 then -1 else if n < 128 then (n : Int) else (n : Int) - 256 := by
  unfold sbI
  by_cases h : n = 256
  · rw [if_pos h, if_pos h]
    rfl
  · rw [if_neg h, if_neg h]
    by_cases h2 : n < 128
    · rw [if_pos h2, if_pos h2, nI_toInt (by omega)]
    · rw [if_neg h2, if_neg h2, show (256 : Int32) = nI 256 from rfl, pk_sub_toInt (by omega) (by omega)]
      rfl
theorem rk_sb {B : Nat → Int32} {L : Nat} (hB : BY B L) (a : Nat) : rk B L a = sbI (cb B L a) := by
  unfold rk cb
  by_cases h : L ≤ a
  · rw [if_pos h, if_pos h]
    rfl
  · rw [if_neg h, if_neg h]
    have hb : bv (B a) < 256 := Nat.mod_lt _ (by decide)
    apply Int32.toInt_inj.mp
    rw [sbI_int (by omega), if_neg (by omega), ← byte_int, hB a (by omega)]
theorem sb_e {n c : Nat} (hn : n ≤ 256) (hc : c < 128) : (sbI n = nI c) ↔ n = c := by
  rw [← Int32.toInt_inj, sbI_int hn, nI_toInt (by omega)]
  by_cases h : n = 256
  · rw [if_pos h]; omega
  · rw [if_neg h]
    by_cases h2 : n < 128
    · rw [if_pos h2]; omega
    · rw [if_neg h2]; omega
theorem sb_l {n c : Nat} (hn : n ≤ 256) (hc : c < 128) : (sbI n < nI c) ↔ n = 256 ∨ 128 ≤ n ∨ n < c := by
  rw [Int32.lt_iff_toInt_lt, sbI_int hn, nI_toInt (by omega)]
  by_cases h : n = 256
  · rw [if_pos h]; omega
  · rw [if_neg h]
    by_cases h2 : n < 128
    · rw [if_pos h2]; omega
    · rw [if_neg h2]; omega
theorem sb_g {n c : Nat} (hn : n ≤ 256) (hc : c < 128) : (nI c < sbI n) ↔ n < 128 ∧ c < n := by
  rw [Int32.lt_iff_toInt_lt, sbI_int hn, nI_toInt (by omega)]
  by_cases h : n = 256
  · rw [if_pos h]; omega
  · rw [if_neg h]
    by_cases h2 : n < 128
    · rw [if_pos h2]; omega
    · rw [if_neg h2]; omega
section SB
variable {B : Nat → Int32} {L a : Nat}
theorem sb9 : (sbI (cb B L a) = 9) = (cb B L a = 9) := propext (sb_e (cb_le B L a) (c := 9) (by decide))
theorem sb10 : (sbI (cb B L a) = 10) = (cb B L a = 10) := propext (sb_e (cb_le B L a) (c := 10) (by decide))
theorem sb13 : (sbI (cb B L a) = 13) = (cb B L a = 13) := propext (sb_e (cb_le B L a) (c := 13) (by decide))
theorem sb32 : (sbI (cb B L a) = 32) = (cb B L a = 32) := propext (sb_e (cb_le B L a) (c := 32) (by decide))
theorem sb34 : (sbI (cb B L a) = 34) = (cb B L a = 34) := propext (sb_e (cb_le B L a) (c := 34) (by decide))
theorem sb44 : (sbI (cb B L a) = 44) = (cb B L a = 44) := propext (sb_e (cb_le B L a) (c := 44) (by decide))
theorem sb45 : (sbI (cb B L a) = 45) = (cb B L a = 45) := propext (sb_e (cb_le B L a) (c := 45) (by decide))
theorem sb47 : (sbI (cb B L a) = 47) = (cb B L a = 47) := propext (sb_e (cb_le B L a) (c := 47) (by decide))
theorem sb48 : (sbI (cb B L a) = 48) = (cb B L a = 48) := propext (sb_e (cb_le B L a) (c := 48) (by decide))
theorem sb58 : (sbI (cb B L a) = 58) = (cb B L a = 58) := propext (sb_e (cb_le B L a) (c := 58) (by decide))
theorem sb91 : (sbI (cb B L a) = 91) = (cb B L a = 91) := propext (sb_e (cb_le B L a) (c := 91) (by decide))
theorem sb92 : (sbI (cb B L a) = 92) = (cb B L a = 92) := propext (sb_e (cb_le B L a) (c := 92) (by decide))
theorem sb93 : (sbI (cb B L a) = 93) = (cb B L a = 93) := propext (sb_e (cb_le B L a) (c := 93) (by decide))
theorem sb98 : (sbI (cb B L a) = 98) = (cb B L a = 98) := propext (sb_e (cb_le B L a) (c := 98) (by decide))
theorem sb102 : (sbI (cb B L a) = 102) = (cb B L a = 102) := propext (sb_e (cb_le B L a) (c := 102) (by decide))
theorem sb110 : (sbI (cb B L a) = 110) = (cb B L a = 110) := propext (sb_e (cb_le B L a) (c := 110) (by decide))
theorem sb114 : (sbI (cb B L a) = 114) = (cb B L a = 114) := propext (sb_e (cb_le B L a) (c := 114) (by decide))
theorem sb116 : (sbI (cb B L a) = 116) = (cb B L a = 116) := propext (sb_e (cb_le B L a) (c := 116) (by decide))
theorem sb117 : (sbI (cb B L a) = 117) = (cb B L a = 117) := propext (sb_e (cb_le B L a) (c := 117) (by decide))
theorem sb123 : (sbI (cb B L a) = 123) = (cb B L a = 123) := propext (sb_e (cb_le B L a) (c := 123) (by decide))
theorem sb125 : (sbI (cb B L a) = 125) = (cb B L a = 125) := propext (sb_e (cb_le B L a) (c := 125) (by decide))
theorem sbl32 : (sbI (cb B L a) < 32) = (cb B L a = 256 ∨ 128 ≤ cb B L a ∨ cb B L a < 32) := propext (sb_l (cb_le B L a) (c := 32) (by decide))
theorem sbl48 : (sbI (cb B L a) < 48) = (cb B L a = 256 ∨ 128 ≤ cb B L a ∨ cb B L a < 48) := propext (sb_l (cb_le B L a) (c := 48) (by decide))
theorem sbl65 : (sbI (cb B L a) < 65) = (cb B L a = 256 ∨ 128 ≤ cb B L a ∨ cb B L a < 65) := propext (sb_l (cb_le B L a) (c := 65) (by decide))
theorem sbl97 : (sbI (cb B L a) < 97) = (cb B L a = 256 ∨ 128 ≤ cb B L a ∨ cb B L a < 97) := propext (sb_l (cb_le B L a) (c := 97) (by decide))
theorem sbg57 : (57 < sbI (cb B L a)) = (cb B L a < 128 ∧ 57 < cb B L a) := propext (sb_g (cb_le B L a) (c := 57) (by decide))
theorem sbg70 : (70 < sbI (cb B L a)) = (cb B L a < 128 ∧ 70 < cb B L a) := propext (sb_g (cb_le B L a) (c := 70) (by decide))
theorem sbg102 : (102 < sbI (cb B L a)) = (cb B L a < 128 ∧ 102 < cb B L a) := propext (sb_g (cb_le B L a) (c := 102) (by decide))
theorem sbg126 : (126 < sbI (cb B L a)) = (cb B L a < 128 ∧ 126 < cb B L a) := propext (sb_g (cb_le B L a) (c := 126) (by decide))
theorem rbl_eq (hB : BY B L) (hL : L ≤ 4096) (g : Nat → Int32) (ha : a ≤ L) : m_X9_blanks (ov L B g) (nI L) (nI a) = some (nI (sbl B L a)) := by
  have go : ∀ (n a : Nat), a ≤ L → L - a < n → m_X9_blanks_0 (ov L B g) (nI L) n (nI a) = some (nI (sbl B L a)) := by
    intro n
    induction n with
    | zero => intro a _ h; exact absurd h (Nat.not_lt_zero _)
    | succ n ih =>
      intro a ha hn
      rw [blanks_step hL ha, sbl_s, rk_sb hB]
      simp only [sb32, sb9, sb10, sb13]
      by_cases h : cb B L a = 32 ∨ cb B L a = 9 ∨ cb B L a = 10 ∨ cb B L a = 13
      · rw [if_pos h, if_pos h]
        have hlt : a < L := cb_lt (B := B) (by omega)
        exact ih (a + 1) (by omega) (by omega)
      · rw [if_neg h, if_neg h]
  exact go sr_fuel a ha (by unfold sr_fuel; omega)
end SB
end
section
-- the reference's strings, as told
/-- as RES, with what the fault is -/
def REX {U V : Type} (x : Gs → Option (Except U (V × U))) (fp : U → Int32 × Int32) (E : Int32 × Int32 → Prop) (P : V → (Gs → U) → Prop) : Prop :=
  (∃ v u, P v u ∧ ∀ g, x g = some (.ok (v, u g))) ∨ (∃ c : Int32 × Int32, E c ∧ ∀ g, ∃ u, x g = some (.error u) ∧ fp u = c)
section REXs
variable {U V U' V' : Type} {fp : U → Int32 × Int32} {fp' : U' → Int32 × Int32} {E E' : Int32 × Int32 → Prop} {P Q : V → (Gs → U) → Prop} {P' : V' → (Gs → U') → Prop}
theorem REX.ok {v : V} {u : Gs → U} (h : P v u) : REX (fun g => some (.ok (v, u g))) fp E P := Or.inl ⟨v, u, h, fun _ => rfl⟩
theorem REX.er {u : Gs → U} {c : Int32 × Int32} (h : ∀ g, fp (u g) = c) (hc : E c) : REX (fun g => some (.error (u g))) fp E P := Or.inr ⟨c, hc, fun g => ⟨u g, rfl, h g⟩⟩
theorem REX.try {x : Gs → Option (Except U (V × U))} {k : Gs → V → U → Option (Except U' (V' × U'))} {e : Gs → U → U'} (h : REX x fp E' P) (hE : ∀ c, E' c → E c) (hk : ∀ v u, P v u → REX (fun g => k g v (u g)) fp' E P') (he : ∀ g u, fp' (e g u) = fp u) : REX (fun g => mr_try (x g) (k g) (e g)) fp' E P' := by
  rcases h with ⟨v, u, h1, h2⟩ | ⟨c, hc0, h⟩
  · rcases hk v u h1 with ⟨v', u', h3, h4⟩ | ⟨c, hc0, h3⟩
    · exact Or.inl ⟨v', u', h3, fun g => by
      show mr_try (x g) (k g) (e g) = _
      rw [h2 g]; exact h4 g⟩
    · refine Or.inr ⟨c, hc0, fun g => ?_⟩
      show ∃ u, mr_try (x g) (k g) (e g) = _ ∧ _
      rw [h2 g]; exact h3 g
  · refine Or.inr ⟨c, hE c hc0, fun g => ?_⟩
    obtain ⟨u, h1, h2⟩ := h g
    exact ⟨e g u, by
      show mr_try (x g) (k g) (e g) = _
      rw [h1]; rfl, by rw [he, h2]⟩
theorem REX.mono {x : Gs → Option (Except U (V × U))} (h : REX x fp E P) (hE : ∀ c, E c → E' c) (hk : ∀ v u, P v u → Q v u) : REX x fp E' Q := by
  rcases h with ⟨v, u, h1, h2⟩ | ⟨c, h1, h2⟩
  · exact Or.inl ⟨v, u, hk v u h1, h2⟩
  · exact Or.inr ⟨c, hE c h1, h2⟩
theorem REX.eq {x y : Gs → Option (Except U (V × U))} (h : REX x fp E P) (e : ∀ g, y g = x g) : REX y fp E P := by
  have : y = x := funext e
  rw [this]; exact h
theorem REX.ite {c : Prop} {i : Decidable c} {x y : Gs → Option (Except U (V × U))} (ht : c → REX x fp E P) (hf : ¬ c → REX y fp E P) : REX (fun g => @ite _ c i (x g) (y g)) fp E P := by
  by_cases h : c
  · simp only [if_pos h]; exact ht h
  · simp only [if_neg h]; exact hf h
end REXs
/-- told wrong at w -/
def EW {α : Type} (s : Nat ⊕ α) (c : Int32 × Int32) : Prop := ∃ w, s = .inl w ∧ c = (1, nI w)
theorem hexr_eq {B : Nat → Int32} {L a : Nat} : m_X9_hex (sbI (cb B L a)) = some (if hexv (cb B L a) = 16 then -1 else nI (hexv (cb B L a))) := by
  have h0 := cb_le B L a
  unfold m_X9_hex m_X9_hex_19 m_X9_hex_41
  simp only [sbl48, sbg57, sbl97, sbg102, sbl65, sbg70]
  generalize cb B L a = n at h0 ⊢
  unfold hexv sbI
  by_cases h1 : 48 ≤ n ∧ n ≤ 57
  · rw [if_neg (show ¬ (n = 256 ∨ 128 ≤ n ∨ n < 48) by omega), if_neg (show ¬ (n < 128 ∧ 57 < n) by omega), if_pos h1, if_neg (show ¬ n - 48 = 16 by omega), if_neg (show ¬ n = 256 by omega), if_pos (show n < 128 by omega), show (48 : Int32) = nI 48 from rfl, pk_sub h1.1]
  · by_cases h2 : 97 ≤ n ∧ n ≤ 102
    · have e : nI n - 97 + 10 = nI (n - 87) := by
        rw [show (97 : Int32) = nI 97 from rfl, pk_sub h2.1, show (10 : Int32) = nI 10 from rfl, nI_add]
        congr 1
        omega
      rw [if_neg h1, if_pos h2, if_neg (show ¬ n - 87 = 16 by omega)]
      rw [if_neg (show ¬ (n = 256 ∨ 128 ≤ n ∨ n < 48) by omega), if_pos (show n < 128 ∧ 57 < n by omega), if_neg (show ¬ (n = 256 ∨ 128 ≤ n ∨ n < 97) by omega), if_neg (show ¬ (n < 128 ∧ 102 < n) by omega), if_neg (show ¬ n = 256 by omega), if_pos (show n < 128 by omega), e]
    · by_cases h3 : 65 ≤ n ∧ n ≤ 70
      · have e : nI n - 65 + 10 = nI (n - 55) := by
          rw [show (65 : Int32) = nI 65 from rfl, pk_sub h3.1, show (10 : Int32) = nI 10 from rfl, nI_add]
          congr 1
          omega
        rw [if_neg h1, if_neg h2, if_pos h3, if_neg (show ¬ n - 55 = 16 by omega)]
        rw [if_neg (show ¬ (n = 256 ∨ 128 ≤ n ∨ n < 48) by omega), if_pos (show n < 128 ∧ 57 < n by omega), if_pos (show n = 256 ∨ 128 ≤ n ∨ n < 97 by omega), if_neg (show ¬ (n = 256 ∨ 128 ≤ n ∨ n < 65) by omega), if_neg (show ¬ (n < 128 ∧ 70 < n) by omega), if_neg (show ¬ n = 256 by omega), if_pos (show n < 128 by omega), e]
      · rw [if_neg h1, if_neg h2, if_neg h3, if_pos rfl]
        by_cases q1 : n = 256 ∨ 128 ≤ n ∨ n < 48
        · rw [if_pos q1, if_pos (show n = 256 ∨ 128 ≤ n ∨ n < 97 by omega), if_pos (show n = 256 ∨ 128 ≤ n ∨ n < 65 by omega)]
        · rw [if_neg q1, if_pos (show n < 128 ∧ 57 < n by omega)]
          by_cases q2 : n = 256 ∨ 128 ≤ n ∨ n < 97
          · rw [if_pos q2]
            by_cases q3 : n = 256 ∨ 128 ≤ n ∨ n < 65
            · rw [if_pos q3]
            · rw [if_neg q3, if_pos (show n < 128 ∧ 70 < n by omega)]
          · rw [if_neg q2, if_pos (show n < 128 ∧ 102 < n by omega), if_neg (show ¬ (n = 256 ∨ 128 ≤ n ∨ n < 65) by omega), if_pos (show n < 128 ∧ 70 < n by omega)]
theorem ixE : ∀ n, n < 128 → m_X20_indexOf 39 (((nI n).toUInt32 % 65536).toInt32) = some (if n = 34 then 0 else if n = 92 then 1 else if n = 47 then 2 else if n = 98 then 3 else if n = 102 then 4 else if n = 110 then 5 else if n = 114 then 6 else if n = 116 then 7 else -1) := by decide +kernel
section RSTR
variable {B : Nat → Int32} {L : Nat}
theorem esx_go (hB : BY B L) (hL : L ≤ 4096) {fl pl : Int32} {from_ : Nat} : ∀ (n i j v : Nat), i ≤ 4 → 4 - i < n → j ≤ L → (v + 1) * 16 ^ (4 - i) ≤ 65536 →
    (∃ w, shex B L from_ (4 - i) j v = .inl w ∧ ∀ g, ∃ b, m_X9_escaped_135 (ov L B g) (nI L) n (nI j) fl pl (nI from_) (nI v) (nI i) = some (.error (b, 1, nI w))) ∨ (∃ x, shex B L from_ (4 - i) j v = .inr x ∧ ∀ g, m_X9_escaped_135 (ov L B g) (nI L) n (nI j) fl pl (nI from_) (nI v) (nI i) = some (.ok (nI x, (nI (j + (4 - i)), fl, pl)))) := by
  intro n
  induction n with
  | zero => intro i j v _ h; exact absurd h (Nat.not_lt_zero _)
  | succ n ih =>
    intro i j v hi hn hj hv
    have hv2 : v + 1 ≤ 65536 := Nat.le_trans (Nat.le_mul_of_pos_right _ (Nat.pow_pos (by decide))) hv
    simp only [m_X9_escaped_135, look_eq hL hj, Option.bind_some]
    by_cases h4 : 4 ≤ i
    · have e : (4 : Int32) ≤ nI i := nI_le (a := 4) h4 (by omega)
      have e0 : 4 - i = 0 := by omega
      simp only [if_pos e, e0, shex]
      by_cases h5 : v ≤ 255
      · have e5 : ¬ (256 : Int32) ≤ nI v := fun z => absurd ((nI_leI (a := 256) (by omega) (by omega)).mp z) (by omega)
        simp only [if_neg e5, if_pos h5, m_X9_escaped_210, need_1, try_o]
        exact Or.inr ⟨v, rfl, fun g => rfl⟩
      · have e5 : (256 : Int32) ≤ nI v := nI_le (a := 256) (by omega) (by omega)
        simp only [if_pos e5, if_neg h5, m_X9_escaped_210, need_0, try_e]
        exact Or.inl ⟨from_, rfl, fun g => ⟨_, rfl⟩⟩
    · have e : ¬ (4 : Int32) ≤ nI i := fun z => absurd ((nI_leI (a := 4) (by omega) (by omega)).mp z) (by omega)
      obtain ⟨k, hk⟩ : ∃ k, 4 - i = k + 1 := ⟨4 - i - 1, by omega⟩
      rw [hk] at hv ⊢
      simp only [if_neg e, rk_sb hB, hexr_eq, Option.bind_some, shex]
      have hx := hexv_le (cb B L j)
      by_cases h6 : hexv (cb B L j) = 16
      · simp only [if_pos h6, show ((-1 : Int32) < 0) = True by decide, if_true, m_X9_escaped_157, need_0, try_e]
        exact Or.inl ⟨j, rfl, fun g => ⟨_, rfl⟩⟩
      · have hlt : j < L := cb_lt (fun z => h6 (by rw [z]; decide))
        have e7 : ¬ nI (hexv (cb B L j)) < 0 := nI_pos (by omega)
        have ev : 16 * nI v + nI (hexv (cb B L j)) = nI (v * 16 + hexv (cb B L j)) := by
          rw [show (16 : Int32) = nI 16 from rfl, pk_mul, nI_add, Nat.mul_comm]
        simp only [if_neg h6, if_neg e7, m_X9_escaped_157, need_1, try_o, look_eq hL hj, Option.bind_some, rk_sb hB, hexr_eq, nI_1, ev]
        have hb2 : (v * 16 + hexv (cb B L j) + 1) * 16 ^ k ≤ 65536 := by
          refine Nat.le_trans (Nat.mul_le_mul_right _ (show v * 16 + hexv (cb B L j) + 1 ≤ (v + 1) * 16 by omega)) ?_
          rw [Nat.mul_assoc, Nat.mul_comm 16, ← Nat.pow_succ]
          exact hv
        have e4 : 4 - (i + 1) = k := by omega
        have := ih (i + 1) (j + 1) (v * 16 + hexv (cb B L j)) (by omega) (by omega) (by omega) (by rw [e4]; exact hb2)
        rw [e4] at this
        rcases this with ⟨w, q1, q2⟩ | ⟨x, q1, q2⟩
        · exact Or.inl ⟨w, q1, q2⟩
        · refine Or.inr ⟨x, q1, fun g => ?_⟩
          rw [q2 g, show j + 1 + k = j + (k + 1) by omega]
theorem esx (hB : BY B L) (hL : L ≤ 4096) {a : Nat} (ha : a < L) {fl pl : Int32} : REX (fun g => m_X9_escaped (ov L B (g.1 6)) (nI L) (nI a) fl pl) fpE (EW (sesc B L a)) (fun v u => ∃ x, sesc B L a = .inr x ∧ v = nI x ∧ u = (fun _ => (nI (a + elen B L a), fl, pl))) := by
  have h0 := cb_le B L (a + 1)
  simp only [m_X9_escaped, nI_1, look_eq hL (show a + 1 ≤ L by omega), Option.bind_some, rk_sb hB]
  have tk : REX (fun g => m_X9_escaped_35 (ov L B (g.1 6)) (nI L) (nI (a + 1)) fl pl (nI a) (-1)) fpE (EW (if cb B L (a + 1) = 117 then shex B L a 4 (a + 2) 0 else .inl (a + 1))) (fun v u => ∃ x, (if cb B L (a + 1) = 117 then shex B L a 4 (a + 2) 0 else .inl (a + 1)) = .inr x ∧ v = nI x ∧ u = (fun _ => (nI (a + 6), fl, pl))) := by
    simp only [m_X9_escaped_35, show ((-1 : Int32) < 0) = True by decide, if_true, take_eq hL (show a + 1 ≤ L by omega), rk_sb hB, sb117]
    by_cases h1 : cb B L (a + 1) = 117
    · have hlt : a + 1 < L := cb_lt (B := B) (by omega)
      simp only [if_pos h1, try_o]
      rcases esx_go hB hL (fl := fl) (pl := pl) (from_ := a) sr_fuel 0 (a + 1 + 1) 0 (by omega) (by unfold sr_fuel; omega) (by omega) (by decide) with ⟨w, q1, q2⟩ | ⟨x, q1, q2⟩
      · refine Or.inr ⟨(1, nI w), ⟨w, q1, rfl⟩, fun g => ?_⟩
        obtain ⟨b, hb⟩ := q2 (g.1 6)
        exact ⟨_, hb, rfl⟩
      · exact Or.inl ⟨nI x, _, ⟨x, q1, rfl, rfl⟩, fun g => q2 (g.1 6)⟩
    · simp only [if_neg h1, try_e]
      exact REX.er (fun g => rfl) ⟨a + 1, rfl, rfl⟩
  by_cases h : cb B L (a + 1) < 128
  · have e1 : sbI (cb B L (a + 1)) = nI (cb B L (a + 1)) := by
      unfold sbI
      rw [if_neg (by omega), if_pos h]
    have e2 : (0 : Int32) ≤ nI (cb B L (a + 1)) := nI_pos' (by omega)
    simp only [e1, if_pos e2, ixE _ h, Option.bind_some]
    unfold sesc
    by_cases c1 : cb B L (a + 1) = 34
    · simp only [if_pos c1, m_X9_escaped_35, nI_1]
      exact REX.ok ⟨34, rfl, rfl, by unfold elen; rw [if_neg (by omega)]⟩
    by_cases c3 : cb B L (a + 1) = 92
    · simp only [if_neg c1, if_pos c3, if_neg (show ¬ cb B L (a + 1) = 47 by omega), m_X9_escaped_35, nI_1]
      exact REX.ok ⟨92, rfl, rfl, by unfold elen; rw [if_neg (by omega)]⟩
    by_cases c2 : cb B L (a + 1) = 47
    · simp only [if_neg c1, if_neg c3, if_pos c2, m_X9_escaped_35, nI_1]
      exact REX.ok ⟨47, rfl, rfl, by unfold elen; rw [if_neg (by omega)]⟩
    by_cases c4 : cb B L (a + 1) = 98
    · simp only [if_neg c1, if_neg c2, if_neg c3, if_pos c4, m_X9_escaped_35, nI_1]
      exact REX.ok ⟨8, rfl, rfl, by unfold elen; rw [if_neg (by omega)]⟩
    by_cases c5 : cb B L (a + 1) = 102
    · simp only [if_neg c1, if_neg c2, if_neg c3, if_neg c4, if_pos c5, m_X9_escaped_35, nI_1]
      exact REX.ok ⟨12, rfl, rfl, by unfold elen; rw [if_neg (by omega)]⟩
    by_cases c6 : cb B L (a + 1) = 110
    · simp only [if_neg c1, if_neg c2, if_neg c3, if_neg c4, if_neg c5, if_pos c6, m_X9_escaped_35, nI_1]
      exact REX.ok ⟨10, rfl, rfl, by unfold elen; rw [if_neg (by omega)]⟩
    by_cases c7 : cb B L (a + 1) = 114
    · simp only [if_neg c1, if_neg c2, if_neg c3, if_neg c4, if_neg c5, if_neg c6, if_pos c7, m_X9_escaped_35, nI_1]
      exact REX.ok ⟨13, rfl, rfl, by unfold elen; rw [if_neg (by omega)]⟩
    by_cases c8 : cb B L (a + 1) = 116
    · simp only [if_neg c1, if_neg c2, if_neg c3, if_neg c4, if_neg c5, if_neg c6, if_neg c7, if_pos c8, m_X9_escaped_35, nI_1]
      exact REX.ok ⟨9, rfl, rfl, by unfold elen; rw [if_neg (by omega)]⟩
    · simp only [if_neg c1, if_neg c2, if_neg c3, if_neg c4, if_neg c5, if_neg c6, if_neg c7, if_neg c8]
      refine tk.mono (fun c hc => hc) ?_
      rintro v u ⟨x, q1, q2, q3⟩
      refine ⟨x, q1, q2, ?_⟩
      by_cases c9 : cb B L (a + 1) = 117
      · unfold elen
        rw [if_pos c9]
        exact q3
      · rw [if_neg c9] at q1
        cases q1
  · have e2 : ¬ (0 : Int32) ≤ sbI (cb B L (a + 1)) := fun z => by
      have := Int32.le_iff_toInt_le.mp z
      rw [sbI_int h0] at this
      by_cases q : cb B L (a + 1) = 256
      · rw [if_pos q] at this
        exact absurd this (by decide)
      · rw [if_neg q, if_neg h] at this
        have e0 : (0 : Int32).toInt = 0 := rfl
        rw [e0] at this
        omega
    simp only [if_neg e2]
    unfold sesc
    simp only [if_neg (show ¬ cb B L (a + 1) = 34 by omega), if_neg (show ¬ cb B L (a + 1) = 47 by omega), if_neg (show ¬ cb B L (a + 1) = 92 by omega), if_neg (show ¬ cb B L (a + 1) = 98 by omega), if_neg (show ¬ cb B L (a + 1) = 102 by omega), if_neg (show ¬ cb B L (a + 1) = 110 by omega), if_neg (show ¬ cb B L (a + 1) = 114 by omega), if_neg (show ¬ cb B L (a + 1) = 116 by omega)]
    refine tk.mono (fun c hc => hc) ?_
    rintro v u ⟨x, q1, q2, q3⟩
    rw [if_neg (show ¬ cb B L (a + 1) = 117 by omega)] at q1
    cases q1
end RSTR
end
section
-- the reference's strings, as told: the loop
theorem nar_sb : ∀ x, x < 256 → vp_nar .byte ((nI x).toInt8.toInt32) = sbI x := by decide +kernel
theorem sb_inj {m n : Nat} (hm : m < 256) (hn : n < 256) (h : sbI m = sbI n) : m = n := by
  have := congrArg Int32.toInt h
  rw [sbI_int (show m ≤ 256 by omega), sbI_int (show n ≤ 256 by omega), if_neg (show ¬ m = 256 by omega), if_neg (show ¬ n = 256 by omega)] at this
  by_cases a : m < 128
  · rw [if_pos a] at this
    by_cases b : n < 128
    · rw [if_pos b] at this; omega
    · rw [if_neg b] at this; omega
  · rw [if_neg a] at this
    by_cases b : n < 128
    · rw [if_pos b] at this; omega
    · rw [if_neg b] at this; omega
section RSTR2
variable {B : Nat → Int32} {L : Nat}
theorem sE_w {x : Nat ⊕ Nat} {k : Nat → Nat ⊕ (List Nat × Nat)} {w : Nat} (h : x = .inl w) : sE x k = .inl w := by rw [h]; rfl
theorem stx_go (hB : BY B L) (hL : L ≤ 4096) {n0 n : Nat} (hn0 : n0 < n) (hn : n ≤ 4200) {K F I X : Nat → Int32} {N : Nat → Int64} {fl pl : Int32} : ∀ (fuel a l : Nat) (S Lt : Nat → Int32) (sz : Nat), a ≤ L → L - a < fuel → l ≤ a → S n0 = nI sz →
    REX (fun g => m_X9_string_27 (ov L B (g.1 6)) (nI L) fuel (nI a) fl pl (nI n) (ov n K (g.1 0)) (ov n F (g.1 1)) (ov n N g.2) (ov n S (g.1 2)) (ov n I (g.1 3)) (ov n X (g.1 4)) (ov l Lt (g.1 5)) (nI l) (nI n0)) fpS (EW (sstr B L a))
      (fun v u => ∃ b s Lt', sstr B L a = .inr (s, b) ∧ v = nI n0 ∧ u = (fun g => (nI b, fl, pl, nI n, ov n K (g.1 0), ov n F (g.1 1), ov n N g.2, ov n (upd S n0 (nI (sz + s.length))) (g.1 2), ov n I (g.1 3), ov n X (g.1 4), ov (l + s.length) Lt' (g.1 5), nI (l + s.length))) ∧ ag l Lt Lt' ∧ ∀ j, j < s.length → Lt' (l + j) = sbI (s.getD j 0)) := by
  intro fuel
  induction fuel with
  | zero => intro a l S Lt sz _ h; exact absurd h (Nat.not_lt_zero _)
  | succ fuel ih =>
    intro a l S Lt sz ha hf hl hS
    have h0 := cb_le B L a
    simp only [m_X9_string_27, look_eq hL ha, Option.bind_some, nI_1, rk_sb hB, sb34, sbl32, sbg126]
    refine REX.ite (fun h34 => ?_) (fun h34 => ?_)
    · have hlt : a < L := cb_lt (B := B) (by omega)
      have e : sstr B L a = .inr ([], a + 1) := by
        rw [sstr_s, if_neg (by omega), if_pos h34]
      refine REX.ok ⟨a + 1, [], Lt, e, rfl, ?_, ag.rfl', fun j hj => absurd hj (Nat.not_lt_zero _)⟩
      simp only [List.length_nil, Nat.add_zero, upd_self hS]
    · refine REX.ite (fun h32 => ?_) (fun h32 => REX.ite (fun h126 => ?_) (fun h126 => ?_))
      · have e : sstr B L a = .inl a := by
          rw [sstr_s]
          by_cases q : L ≤ a
          · rw [if_pos q]
          · rw [if_neg q, if_neg h34, if_pos ?_]
            have : cb B L a ≠ 256 := by
              unfold cb bv
              rw [if_neg q]
              omega
            omega
        simp only [m_X9_string_58, m_X9_string_59, need_0, try_e]
        exact REX.er (fun g => rfl) ⟨a, e, rfl⟩
      · have hlt : a < L := cb_lt (B := B) (by omega)
        have e : sstr B L a = .inl a := by
          rw [sstr_s, if_neg (by omega), if_neg h34, if_pos (Or.inr h126.2)]
        simp only [m_X9_string_58, m_X9_string_59, need_0, try_e]
        exact REX.er (fun g => rfl) ⟨a, e, rfl⟩
      · have hlt : a < L := cb_lt (B := B) (by omega)
        have hpush : ∀ (b v : Nat), v ≤ 255 → a < b → b ≤ L → sstr B L a = sC v (sstr B L b) → REX (fun g => m_X9_string_91 (ov L B (g.1 6)) (nI L) (m_X9_string_27 (ov L B (g.1 6)) (nI L) fuel) (nI b) fl pl (nI n) (ov n K (g.1 0)) (ov n F (g.1 1)) (ov n N g.2) (ov n S (g.1 2)) (ov n I (g.1 3)) (ov n X (g.1 4)) (ov l Lt (g.1 5)) (nI l) (nI n0) (nI v)) fpS (EW (sstr B L a))
            (fun v u => ∃ b s Lt', sstr B L a = .inr (s, b) ∧ v = nI n0 ∧ u = (fun g => (nI b, fl, pl, nI n, ov n K (g.1 0), ov n F (g.1 1), ov n N g.2, ov n (upd S n0 (nI (sz + s.length))) (g.1 2), ov n I (g.1 3), ov n X (g.1 4), ov (l + s.length) Lt' (g.1 5), nI (l + s.length))) ∧ ag l Lt Lt' ∧ ∀ j, j < s.length → Lt' (l + j) = sbI (s.getD j 0)) := by
          intro b x hx h1 h2 he
          simp only [m_X9_string_91, bd_go (show l < 4200 by omega) (by decide), bd_gc (show l < 4200 by omega) (by decide), bd_go (show n0 < 4200 by omega) (by decide), bd_gc (show n0 < 4200 by omega) (by decide), nI_clamp (show l < 2 ^ 31 by omega), nI_clamp (show n0 < 2 ^ 31 by omega), ov_lt hn0, ov_up hn0, ov_push, hS, nI_1]
          refine (ih b (l + 1) _ _ (sz + 1) h2 (by omega) (by omega) pk_us).mono ?_ ?_
          · rintro c ⟨w, q1, q2⟩
            exact ⟨w, by rw [he, q1]; rfl, q2⟩
          · rintro v u ⟨b', s, Lt', q1, rfl, rfl, q2, q3⟩
            refine ⟨b', x :: s, Lt', by rw [he, q1]; rfl, rfl, ?_, fun i hi => ?_, fun j hj => ?_⟩
            · rw [upd_upd, List.length_cons, show sz + 1 + s.length = sz + (s.length + 1) by omega, show l + 1 + s.length = l + (s.length + 1) by omega]
            · rw [← q2 i (by omega), pk_un (by omega)]
            · rw [List.length_cons] at hj
              cases j with
              | zero =>
                show Lt' l = sbI x
                rw [← q2 l (by omega), pk_us, nar_sb x (by omega)]
              | succ j =>
                rw [show l + (j + 1) = l + 1 + j by omega, q3 j (by omega)]
                rfl
        have eu : sbI (cb B L a) = nI (cb B L a) := by
          unfold sbI
          rw [if_neg (by omega), if_pos (by omega)]
        simp only [m_X9_string_59, need_1, try_o, nI_1, sb92]
        refine REX.ite (fun h92 => ?_) (fun h92 => ?_)
        · have e : sstr B L a = sE (sesc B L a) (fun _ => sstr B L (a + elen B L a)) := by
            rw [sstr_s, if_neg (by omega), if_neg h34, if_neg (by omega), if_pos h92]
          refine REX.try (esx hB hL hlt) ?_ ?_ (fun g u => rfl)
          · rintro c ⟨w, q1, q2⟩
            exact ⟨w, by rw [e, sE_w q1], q2⟩
          · rintro v _ ⟨x, q1, rfl, rfl⟩
            have h2 := elen_2 B L a
            exact hpush _ x (sesc_le q1) (by omega) (sesc_pos q1) (by rw [e, q1]; rfl)
        · have e : sstr B L a = sC (cb B L a) (sstr B L (a + 1)) := by
            rw [sstr_s, if_neg (by omega), if_neg h34, if_neg (by omega), if_neg h92]
          rw [eu]
          exact hpush (a + 1) _ (by omega) (by omega) (by omega) e
theorem stx (hB : BY B L) (hL : L ≤ 4096) {K F S I X Lt : Nat → Int32} {N : Nat → Int64} {fl pl : Int32} {a n l : Nat} (ha : a < L) (hn : n ≤ a) (hl : l ≤ a) :
    REX (fun g => m_X9_string (ov L B (g.1 6)) (nI L) (nI a) fl pl (nI n) (ov n K (g.1 0)) (ov n F (g.1 1)) (ov n N g.2) (ov n S (g.1 2)) (ov n I (g.1 3)) (ov n X (g.1 4)) (ov l Lt (g.1 5)) (nI l)) fpS (EW (sstr B L (a + 1)))
      (fun v u => ∃ b s Lt', sstr B L (a + 1) = .inr (s, b) ∧ v = nI n ∧ u = (fun g => (nI b, fl, pl, nI (n + 1), ov (n + 1) (upd K n 2) (g.1 0), ov (n + 1) (upd F n (nI a)) (g.1 1), ov (n + 1) (vp_updL N n (lN l)) g.2, ov (n + 1) (upd S n (nI s.length)) (g.1 2), ov (n + 1) (upd I n (-1)) (g.1 3), ov (n + 1) (upd X n (-1)) (g.1 4), ov (l + s.length) Lt' (g.1 5), nI (l + s.length))) ∧ ag l Lt Lt' ∧ ∀ j, j < s.length → Lt' (l + j) = sbI (s.getD j 0)) := by
  simp only [m_X9_string, node_eq (show n < 4200 by omega), Option.bind_some, bd_go (show n < 4200 by omega) (by decide), bd_gc (show n < 4200 by omega) (by decide), nI_clamp (show n < 2 ^ 31 by omega), ov_upL (Nat.lt_succ_self n), nI_1, nI_l (show l < 2 ^ 31 by omega)]
  have e : vp_updL (vp_updL N n 0) n (lN l) = vp_updL N n (lN l) := updL_updL
  simp only [e]
  refine (stx_go hB hL (Nat.lt_succ_self n) (by omega) sr_fuel (a + 1) l _ _ 0 (by omega) (by unfold sr_fuel; omega) (by omega) pk_us).mono (fun c hc => hc) ?_
  rintro v u ⟨b, s, Lt', q1, rfl, rfl, q2, q3⟩
  refine ⟨b, s, Lt', q1, rfl, ?_, q2, q3⟩
  rw [upd_upd, Nat.zero_add]
end RSTR2
end
section
-- the reference's numbers, as told
def swv (B : Nat → Int32) (L : Nat) : Nat → Nat → Int64 → Int64
  | 0, _, v => v
  | n + 1, q, v => swv B L n (q + 1) (v * 10 - (nI (cb B L q - 48)).toInt64)
def snv (B : Nat → Int32) (L a : Nat) : Int64 :=
  let f := if cb B L a = 45 then a + 1 else a
  let b := if cb B L f = 48 then f + 1 else sdg B L (f + 1)
  if cb B L a = 45 then swv B L (b - f) f 0 else -(swv B L (b - f) f 0)
section RNUM
variable {B : Nat → Int32} {L : Nat}
theorem nmx_fin {n0 n p : Nat} (hn0 : n0 < n) (hn : n ≤ 4200) {K F S I X : Nat → Int32} {N : Nat → Int64} {fl pl x2 : Int32} (hF : F n0 = nI p) {a : Nat} {x4 : Int32} {x5 : Int64} :
    REX (fun g : Gs => m_X9_number_243 (ov L B (g.1 6)) (nI L) (nI a) fl pl (nI n) (ov n K (g.1 0)) (ov n F (g.1 1)) (ov n N g.2) (ov n S (g.1 2)) (ov n I (g.1 3)) (ov n X (g.1 4)) (nI n0) x2 x4 x5) fpN (fun c => x4 = 0 ∧ c = (1, nI p))
      (fun v u => ¬ x4 = 0 ∧ v = nI n0 ∧ u = (fun g => (nI a, fl, pl, nI n, ov n K (g.1 0), ov n F (g.1 1), ov n (vp_updL N n0 (if x2 = 0 then -x5 else x5)) g.2, ov n S (g.1 2), ov n I (g.1 3), ov n X (g.1 4)))) := by
  simp only [m_X9_number_243, bd_go (show n0 < 4200 by omega) (by decide), bd_gc (show n0 < 4200 by omega) (by decide), nI_clamp (show n0 < 2 ^ 31 by omega), ov_lt hn0, ov_upL hn0, hF]
  by_cases h4 : x4 = 0
  · subst h4
    simp only [need_0, try_e]
    exact REX.er (fun g => rfl) ⟨trivial, rfl⟩
  · have e : ∀ (c w : Int32), m_X9_need fl pl x4 c w = some (.ok ((), (fl, pl))) := fun c w => by
      unfold m_X9_need
      rw [if_neg h4]
    simp only [e, try_o]
    refine REX.ite (fun h2 => ?_) (fun h2 => ?_)
    · exact REX.ok ⟨h4, rfl, by rw [if_pos h2]⟩
    · exact REX.ok ⟨h4, rfl, by rw [if_neg h2]⟩
theorem nmx_go (hB : BY B L) (hL : L ≤ 4096) {n0 n p : Nat} (hn0 : n0 < n) (hn : n ≤ 4200) {K F I X : Nat → Int32} {N : Nat → Int64} {fl pl x2 : Int32} (hF : F n0 = nI p) : ∀ (fuel a : Nat) (S : Nat → Int32) (sz : Nat) (x4 : Int32) (x5 : Int64), a ≤ L → L - a < fuel → S n0 = nI sz →
    REX (fun g => m_X9_number_95 (ov L B (g.1 6)) (nI L) fuel (nI a) fl pl (nI n) (ov n K (g.1 0)) (ov n F (g.1 1)) (ov n N g.2) (ov n S (g.1 2)) (ov n I (g.1 3)) (ov n X (g.1 4)) (nI n0) x2 0 x4 x5) fpN (fun c => ¬ (¬ x4 = 0 ∧ swl B L (if x2 = 0 then 7 else 8) (sdg B L a - a) a x5 = true) ∧ c = (1, nI p))
      (fun v u => (¬ x4 = 0 ∧ swl B L (if x2 = 0 then 7 else 8) (sdg B L a - a) a x5 = true) ∧ v = nI n0 ∧ ∃ sz', u = (fun g => (nI (sdg B L a), fl, pl, nI n, ov n K (g.1 0), ov n F (g.1 1), ov n (vp_updL N n0 (if x2 = 0 then -(swv B L (sdg B L a - a) a x5) else swv B L (sdg B L a - a) a x5)) g.2, ov n (upd S n0 (nI sz')) (g.1 2), ov n I (g.1 3), ov n X (g.1 4)))) := by
  intro fuel
  induction fuel with
  | zero => intro a S sz x4 x5 _ h; exact absurd h (Nat.not_lt_zero _)
  | succ fuel ih =>
    intro a S sz x4 x5 ha hf hS
    have h0 := cb_le B L a
    have fin : ¬ (48 ≤ cb B L a ∧ cb B L a ≤ 57) → REX (fun g => m_X9_number_243 (ov L B (g.1 6)) (nI L) (nI a) fl pl (nI n) (ov n K (g.1 0)) (ov n F (g.1 1)) (ov n N g.2) (ov n S (g.1 2)) (ov n I (g.1 3)) (ov n X (g.1 4)) (nI n0) x2 x4 x5) fpN (fun c => ¬ (¬ x4 = 0 ∧ swl B L (if x2 = 0 then 7 else 8) (sdg B L a - a) a x5 = true) ∧ c = (1, nI p))
      (fun v u => (¬ x4 = 0 ∧ swl B L (if x2 = 0 then 7 else 8) (sdg B L a - a) a x5 = true) ∧ v = nI n0 ∧ ∃ sz', u = (fun g => (nI (sdg B L a), fl, pl, nI n, ov n K (g.1 0), ov n F (g.1 1), ov n (vp_updL N n0 (if x2 = 0 then -(swv B L (sdg B L a - a) a x5) else swv B L (sdg B L a - a) a x5)) g.2, ov n (upd S n0 (nI sz')) (g.1 2), ov n I (g.1 3), ov n X (g.1 4)))) := by
      intro hd
      have e : sdg B L a = a := by rw [sdg_s, if_neg hd]
      rw [e, Nat.sub_self]
      refine (nmx_fin hn0 hn hF).mono ?_ ?_
      · rintro c ⟨q1, q2⟩
        exact ⟨fun z => z.1 q1, q2⟩
      · rintro v u ⟨q1, q2, q3⟩
        exact ⟨⟨q1, rfl⟩, q2, sz, by rw [upd_self hS]; exact q3⟩
    simp only [m_X9_number_95, look_eq hL ha, Option.bind_some, rk_sb hB, sbl48, sbg57]
    refine REX.ite (fun h48 => fin (by omega)) (fun h48 => REX.ite (fun h57 => fin (by omega)) (fun h57 => ?_))
    have hlt : a < L := cb_lt (B := B) (by omega)
    have hd : 48 ≤ cb B L a ∧ cb B L a ≤ 57 := by omega
    have es : sdg B L a = sdg B L (a + 1) := by rw [sdg_s, if_pos hd]
    have hp := sdg_p (B := B) (L := L) (a := a + 1) (by omega)
    obtain ⟨k, hk⟩ : ∃ k, sdg B L (a + 1) = a + 1 + k := ⟨sdg B L (a + 1) - (a + 1), by omega⟩
    have e1 : sdg B L (a + 1) - (a + 1) = k := by omega
    have e2 : sdg B L a - a = k + 1 := by omega
    have ed : sbI (cb B L a) - 48 = nI (cb B L a - 48) := by
      rw [show sbI (cb B L a) = nI (cb B L a) from by unfold sbI; rw [if_neg (by omega), if_pos (by omega)], show (48 : Int32) = nI 48 from rfl, pk_sub hd.1]
    have ez : 10 * x5 - (nI (cb B L a - 48)).toInt64 = x5 * 10 - (nI (cb B L a - 48)).toInt64 := by rw [Int64.mul_comm]
    have hsw : swl B L (if x2 = 0 then 7 else 8) (k + 1) a x5 = if lg_cmp x5 (-922337203685477580) < 0 then false else if lg_cmp x5 (-922337203685477580) = 0 ∧ (if x2 = 0 then 7 else 8) < cb B L a - 48 then false else swl B L (if x2 = 0 then 7 else 8) k (a + 1) (x5 * 10 - (nI (cb B L a - 48)).toInt64) := rfl
    have hsv : swv B L (k + 1) a x5 = swv B L k (a + 1) (x5 * 10 - (nI (cb B L a - 48)).toInt64) := rfl
    have bad : (¬ (¬ x4 = 0 ∧ swl B L (if x2 = 0 then 7 else 8) (k + 1) a x5 = true)) → REX (fun g => m_X9_number_218 (ov L B (g.1 6)) (nI L) (m_X9_number_95 (ov L B (g.1 6)) (nI L) fuel) (nI a) fl pl (nI n) (ov n K (g.1 0)) (ov n F (g.1 1)) (ov n N g.2) (ov n S (g.1 2)) (ov n I (g.1 3)) (ov n X (g.1 4)) (nI n0) x2 0 0 x5) fpN (fun c => ¬ (¬ x4 = 0 ∧ swl B L (if x2 = 0 then 7 else 8) (sdg B L a - a) a x5 = true) ∧ c = (1, nI p))
      (fun v u => (¬ x4 = 0 ∧ swl B L (if x2 = 0 then 7 else 8) (sdg B L a - a) a x5 = true) ∧ v = nI n0 ∧ ∃ sz', u = (fun g => (nI (sdg B L a), fl, pl, nI n, ov n K (g.1 0), ov n F (g.1 1), ov n (vp_updL N n0 (if x2 = 0 then -(swv B L (sdg B L a - a) a x5) else swv B L (sdg B L a - a) a x5)) g.2, ov n (upd S n0 (nI sz')) (g.1 2), ov n I (g.1 3), ov n X (g.1 4)))) := by
      intro hbad
      simp only [m_X9_number_218, bd_go (show n0 < 4200 by omega) (by decide), bd_gc (show n0 < 4200 by omega) (by decide), nI_clamp (show n0 < 2 ^ 31 by omega), ov_lt hn0, ov_up hn0, hS, nI_1]
      refine (ih (a + 1) _ (sz + 1) 0 x5 (by omega) (by omega) pk_us).mono ?_ ?_
      · rintro c ⟨_, q2⟩
        rw [e2]
        exact ⟨hbad, q2⟩
      · rintro v u ⟨⟨q1, _⟩, _⟩
        exact absurd rfl q1
    have good : ¬ x4 = 0 → swl B L (if x2 = 0 then 7 else 8) (k + 1) a x5 = swl B L (if x2 = 0 then 7 else 8) k (a + 1) (x5 * 10 - (nI (cb B L a - 48)).toInt64) → REX (fun g => m_X9_number_218 (ov L B (g.1 6)) (nI L) (m_X9_number_95 (ov L B (g.1 6)) (nI L) fuel) (nI a) fl pl (nI n) (ov n K (g.1 0)) (ov n F (g.1 1)) (ov n N g.2) (ov n S (g.1 2)) (ov n I (g.1 3)) (ov n X (g.1 4)) (nI n0) x2 0 1 (10 * x5 - (nI (cb B L a - 48)).toInt64)) fpN (fun c => ¬ (¬ x4 = 0 ∧ swl B L (if x2 = 0 then 7 else 8) (sdg B L a - a) a x5 = true) ∧ c = (1, nI p))
      (fun v u => (¬ x4 = 0 ∧ swl B L (if x2 = 0 then 7 else 8) (sdg B L a - a) a x5 = true) ∧ v = nI n0 ∧ ∃ sz', u = (fun g => (nI (sdg B L a), fl, pl, nI n, ov n K (g.1 0), ov n F (g.1 1), ov n (vp_updL N n0 (if x2 = 0 then -(swv B L (sdg B L a - a) a x5) else swv B L (sdg B L a - a) a x5)) g.2, ov n (upd S n0 (nI sz')) (g.1 2), ov n I (g.1 3), ov n X (g.1 4)))) := by
      intro h4 hg
      rw [ez]
      simp only [m_X9_number_218, bd_go (show n0 < 4200 by omega) (by decide), bd_gc (show n0 < 4200 by omega) (by decide), nI_clamp (show n0 < 2 ^ 31 by omega), ov_lt hn0, ov_up hn0, hS, nI_1]
      have g := ih (a + 1) (upd S n0 (nI (sz + 1))) (sz + 1) 1 (x5 * 10 - (nI (cb B L a - 48)).toInt64) (by omega) (by omega) pk_us
      rw [e1] at g
      rw [e2, hsv, hg, es]
      refine g.mono ?_ ?_
      · rintro c ⟨q1, q2⟩
        exact ⟨fun z => q1 ⟨by decide, z.2⟩, q2⟩
      · rintro v u ⟨⟨_, q1⟩, q2, sz', q3⟩
        exact ⟨⟨h4, q1⟩, q2, sz', by rw [upd_upd] at q3; exact q3⟩
    simp only [if_true, m_X9_number_143, m_X9_number_195, m_X9_number_191, m_X9_number_188, m_X9_number_196, look_eq hL ha, Option.bind_some, rk_sb hB, ed, if_neg (show ¬ (1 : Int32) = 0 by decide)]
    refine REX.ite (fun h4 => bad (fun z => z.1 h4)) (fun h4 => REX.ite (fun c1 => ?_) (fun c1 => REX.ite (fun c2 => REX.ite (fun c3 => REX.ite (fun c4 => ?_) (fun c4 => ?_)) (fun c3 => REX.ite (fun c4 => ?_) (fun c4 => ?_))) (fun c2 => ?_)))
    · refine good h4 ?_
      rw [hsw, if_neg (fun z => absurd (Int32.lt_trans z c1) (Int32.lt_irrefl)), if_neg (fun z => absurd c1 (by rw [z.1]; decide))]
    · refine bad (fun z => ?_)
      have h7 : 7 < cb B L a - 48 := (nI_ltI (a := 7) (by decide) (by omega)).mp c4
      rw [hsw, if_neg (by rw [c2]; decide), if_pos ⟨c2, by rw [if_pos c3]; exact h7⟩] at z
      exact absurd z.2 (by decide)
    · refine good h4 ?_
      have h7 : ¬ 7 < cb B L a - 48 := fun q => c4 (nI_lt (a := 7) q (by omega))
      rw [hsw, if_neg (by rw [c2]; decide), if_neg (fun z => h7 (by have := z.2; rw [if_pos c3] at this; exact this))]
    · refine bad (fun z => ?_)
      have h7 : 8 < cb B L a - 48 := (nI_ltI (a := 8) (by decide) (by omega)).mp c4
      rw [hsw, if_neg (by rw [c2]; decide), if_pos ⟨c2, by rw [if_neg c3]; exact h7⟩] at z
      exact absurd z.2 (by decide)
    · refine good h4 ?_
      have h7 : ¬ 8 < cb B L a - 48 := fun q => c4 (nI_lt (a := 8) q (by omega))
      rw [hsw, if_neg (by rw [c2]; decide), if_neg (fun z => h7 (by have := z.2; rw [if_neg c3] at this; exact this))]
    · refine bad (fun z => ?_)
      have hlt0 : lg_cmp x5 (-922337203685477580) < 0 := by
        unfold lg_cmp at c1 c2 ⊢
        by_cases q1 : x5 > (-922337203685477580)
        · rw [if_pos q1] at c1
          exact absurd (by decide) c1
        · rw [if_neg q1] at c2 ⊢
          by_cases q2 : x5 = (-922337203685477580)
          · rw [if_pos q2] at c2
            exact absurd rfl c2
          · rw [if_neg q2]
            decide
      rw [hsw, if_pos hlt0] at z
      exact absurd z.2 (by decide)
theorem nmx_zero (hB : BY B L) (hL : L ≤ 4096) {n0 n p : Nat} (hn0 : n0 < n) (hn : n ≤ 4200) {K F S I X : Nat → Int32} {N : Nat → Int64} {fl pl x2 : Int32} (hF : F n0 = nI p) (hK : K n0 = 3) (hS : S n0 = nI 0) {f fuel : Nat} (hc : cb B L f = 48) :
    REX (fun g => m_X9_number_95 (ov L B (g.1 6)) (nI L) (fuel + 1 + 1) (nI f) fl pl (nI n) (ov n K (g.1 0)) (ov n F (g.1 1)) (ov n N g.2) (ov n S (g.1 2)) (ov n I (g.1 3)) (ov n X (g.1 4)) (nI n0) x2 1 1 0) fpN (fun _ => False)
      (fun v u => v = nI n0 ∧ ∃ sz', u = (fun g => (nI (f + 1), fl, pl, nI n, ov n K (g.1 0), ov n F (g.1 1), ov n (vp_updL N n0 (if x2 = 0 then -(swv B L 1 f 0) else swv B L 1 f 0)) g.2, ov n (upd S n0 (nI sz')) (g.1 2), ov n I (g.1 3), ov n X (g.1 4)))) := by
  have hlt : f < L := cb_lt (B := B) (by omega)
  have h0 := cb_le B L (f + 1)
  have ed : sbI (cb B L f) - 48 = nI (cb B L f - 48) := by
    rw [hc]
    decide
  have ez : (10 : Int64) * 0 - (nI (cb B L f - 48)).toInt64 = 0 := by
    rw [hc]
    decide
  have ev : swv B L 1 f 0 = 0 := by
    show (0 : Int64) * 10 - (nI (cb B L f - 48)).toInt64 = 0
    rw [hc]
    decide
  have fin : REX (fun g => m_X9_number_243 (ov L B (g.1 6)) (nI L) (nI (f + 1)) fl pl (nI n) (ov n K (g.1 0)) (ov n F (g.1 1)) (ov n N g.2) (ov n (upd S n0 (nI 1)) (g.1 2)) (ov n I (g.1 3)) (ov n X (g.1 4)) (nI n0) x2 1 0) fpN (fun _ => False)
      (fun v u => v = nI n0 ∧ ∃ sz', u = (fun g => (nI (f + 1), fl, pl, nI n, ov n K (g.1 0), ov n F (g.1 1), ov n (vp_updL N n0 (if x2 = 0 then -(swv B L 1 f 0) else swv B L 1 f 0)) g.2, ov n (upd S n0 (nI sz')) (g.1 2), ov n I (g.1 3), ov n X (g.1 4)))) := by
    rw [ev]
    refine (nmx_fin hn0 hn hF).mono ?_ ?_
    · rintro c ⟨q1, _⟩
      exact absurd q1 (by decide)
    · rintro v u ⟨_, q2, q3⟩
      exact ⟨q2, 1, q3⟩
  simp only [m_X9_number_95, look_eq hL (show f ≤ L by omega), look_eq hL (show f + 1 ≤ L by omega), Option.bind_some, rk_sb hB, sbl48, sbg57, if_neg (show ¬ (cb B L f = 256 ∨ 128 ≤ cb B L f ∨ cb B L f < 48) by omega), if_neg (show ¬ (cb B L f < 128 ∧ 57 < cb B L f) by omega), if_neg (show ¬ (1 : Int32) = 0 by decide), if_pos (show lg_cmp 0 0 = 0 by decide), bd_go (show n0 < 4200 by omega) (by decide), bd_gc (show n0 < 4200 by omega) (by decide), nI_clamp (show n0 < 2 ^ 31 by omega), ov_lt hn0, hK, hS, if_pos (show nI 0 = 0 by decide), if_true, m_X9_number_143, m_X9_number_191, m_X9_number_196, ed, ez, if_pos (show (0 : Int32) < lg_cmp 0 (-922337203685477580) by decide), m_X9_number_218, ov_up hn0, nI_1, pk_us, if_neg (show ¬ nI 1 = 0 by decide), if_neg (show ¬ nI (0 + 1) = 0 by decide)]
  exact REX.ite (fun _ => fin) (fun _ => REX.ite (fun _ => fin) (fun _ => fin))
theorem numx (hB : BY B L) (hL : L ≤ 4096) {K F S I X : Nat → Int32} {N : Nat → Int64} {fl pl : Int32} {a n : Nat} (ha : a < L) (hn : n ≤ a) :
    REX (fun g => m_X9_number (ov L B (g.1 6)) (nI L) (nI a) fl pl (nI n) (ov n K (g.1 0)) (ov n F (g.1 1)) (ov n N g.2) (ov n S (g.1 2)) (ov n I (g.1 3)) (ov n X (g.1 4))) fpN (EW (snum B L a))
      (fun v u => ∃ b sz, snum B L a = .inr b ∧ v = nI n ∧ u = (fun g => (nI b, fl, pl, nI (n + 1), ov (n + 1) (upd K n 3) (g.1 0), ov (n + 1) (upd F n (nI a)) (g.1 1), ov (n + 1) (vp_updL N n (snv B L a)) g.2, ov (n + 1) (upd S n (nI sz)) (g.1 2), ov (n + 1) (upd I n (-1)) (g.1 3), ov (n + 1) (upd X n (-1)) (g.1 4)))) := by
  simp only [m_X9_number, node_eq (show n < 4200 by omega), Option.bind_some, look_eq hL (Nat.le_of_lt ha), rk_sb hB, sb45]
  have e : ∀ z, vp_updL (vp_updL N n 0) n z = vp_updL N n z := fun z => updL_updL
  have main : ∀ (y : Int32) (f : Nat), f ≤ L → (y = 0 ∨ y = 1) → (y = 1 ↔ cb B L a = 45) → f = (if cb B L a = 45 then a + 1 else a) → REX (fun g => m_X9_number_39 (ov L B (g.1 6)) (nI L) (nI a) fl pl (nI (n + 1)) (ov (n + 1) (upd K n 3) (g.1 0)) (ov (n + 1) (upd F n (nI a)) (g.1 1)) (ov (n + 1) (vp_updL N n 0) g.2) (ov (n + 1) (upd S n 0) (g.1 2)) (ov (n + 1) (upd I n (-1)) (g.1 3)) (ov (n + 1) (upd X n (-1)) (g.1 4)) (nI n) y (nI f)) fpN (EW (snum B L a))
      (fun v u => ∃ b sz, snum B L a = .inr b ∧ v = nI n ∧ u = (fun g => (nI b, fl, pl, nI (n + 1), ov (n + 1) (upd K n 3) (g.1 0), ov (n + 1) (upd F n (nI a)) (g.1 1), ov (n + 1) (vp_updL N n (snv B L a)) g.2, ov (n + 1) (upd S n (nI sz)) (g.1 2), ov (n + 1) (upd I n (-1)) (g.1 3), ov (n + 1) (upd X n (-1)) (g.1 4)))) := by
    intro y f hf hy hy2 hff
    have h0 := cb_le B L f
    have elim : (if y = 0 then 7 else 8 : Nat) = (if cb B L a = 45 then 8 else 7) := by
      by_cases c : cb B L a = 45
      · rw [if_pos c, if_neg (by rw [hy2.mpr c]; decide)]
      · rw [if_neg c, if_pos (hy.resolve_right (fun z => c (hy2.mp z)))]
    have esn : snum B L a = if 48 ≤ cb B L f ∧ cb B L f ≤ 57 then (if swl B L (if y = 0 then 7 else 8) ((if cb B L f = 48 then f + 1 else sdg B L (f + 1)) - f) f 0 = true then .inr (if cb B L f = 48 then f + 1 else sdg B L (f + 1)) else .inl a) else .inl f := by
      rw [elim]
      unfold snum
      simp only [← hff]
    have esv : snv B L a = if y = 0 then -(swv B L ((if cb B L f = 48 then f + 1 else sdg B L (f + 1)) - f) f 0) else swv B L ((if cb B L f = 48 then f + 1 else sdg B L (f + 1)) - f) f 0 := by
      unfold snv
      simp only [← hff]
      by_cases c : cb B L a = 45
      · have hy0 : ¬ y = 0 := by rw [hy2.mpr c]; decide
        rw [if_pos c, if_neg hy0]
      · have hy0 : y = 0 := hy.resolve_right (fun z => c (hy2.mp z))
        rw [if_neg c, if_pos hy0]
    simp only [m_X9_number_39, m_X9_number_65, m_X9_number_66, look_eq hL hf, Option.bind_some, need_0, need_1, try_e, try_o, rk_sb hB, sbl48, sbg57, sb48]
    refine REX.ite (fun h48 => REX.er (fun g => rfl) ⟨f, by rw [esn, if_neg (by omega)], rfl⟩) (fun h48 => REX.ite (fun h57 => REX.er (fun g => rfl) ⟨f, by rw [esn, if_neg (by omega)], rfl⟩) (fun h57 => ?_))
    have hd : 48 ≤ cb B L f ∧ cb B L f ≤ 57 := by omega
    have hlt : f < L := cb_lt (B := B) (by omega)
    rw [if_pos hd] at esn
    refine REX.ite (fun hz => ?_) (fun hz => ?_)
    · have ez : swl B L (if y = 0 then 7 else 8) 1 f 0 = true := by
        have q1 : ¬ lg_cmp 0 (-922337203685477580) < 0 := by decide
        have q2 : ¬ (lg_cmp 0 (-922337203685477580) = 0 ∧ (if y = 0 then 7 else 8) < cb B L f - 48) := fun z => absurd z.1 (by decide)
        simp only [swl]
        rw [if_neg q1, if_neg q2]
      rw [if_pos hz, show f + 1 - f = 1 by omega, if_pos ez] at esn
      rw [if_pos hz, show f + 1 - f = 1 by omega] at esv
      obtain ⟨k, hk⟩ : ∃ k, sr_fuel = k + 1 + 1 := ⟨sr_fuel - 2, by unfold sr_fuel; omega⟩
      simp only [m_X9_number_88, hk]
      refine (nmx_zero hB hL (p := a) (x2 := y) (Nat.lt_succ_self n) (by omega) pk_us pk_us pk_us hz).mono (fun c hc => absurd hc id) ?_
      rintro v u ⟨q1, sz, q2⟩
      exact ⟨f + 1, sz, esn, q1, by rw [q2, upd_upd, e, esv]⟩
    · have es : sdg B L f = sdg B L (f + 1) := by rw [sdg_s, if_pos hd]
      rw [if_neg hz, ← es] at esn esv
      simp only [m_X9_number_88]
      refine (nmx_go hB hL (p := a) (x2 := y) (Nat.lt_succ_self n) (by omega) pk_us sr_fuel f _ 0 1 0 hf (by unfold sr_fuel; omega) pk_us).mono ?_ ?_
      · rintro c ⟨q1, q2⟩
        exact ⟨a, by rw [esn, if_neg (fun z => q1 ⟨by decide, z⟩)], q2⟩
      · rintro v u ⟨⟨_, q1⟩, q2, sz, q3⟩
        exact ⟨sdg B L f, sz, by rw [esn, if_pos q1], q2, by rw [q3, upd_upd, e, esv]⟩
  simp only [m_X9_number_20, if_pos (rfl : (0 : Int32) = 0), if_neg (show ¬ (1 : Int32) = 0 by decide), nI_1]
  refine REX.ite (fun c => main 1 (a + 1) (by omega) (Or.inr rfl) ⟨fun _ => c, fun _ => rfl⟩ (by rw [if_pos c])) (fun c => main 0 a (by omega) (Or.inl rfl) ⟨fun z => absurd z (by decide), fun z => absurd z c⟩ (by rw [if_neg c]))
end RNUM
end
section
-- what a run that ends tells (no bounds asked for)
def PX {U V : Type} (x : Option (Except U (V × U))) (E : U → Prop) (P : V → U → Prop) : Prop := ∀ r, x = some r → (∀ u, r = .error u → E u) ∧ (∀ v u, r = .ok (v, u) → P v u)
section PXs
variable {U V U' V' A : Type} {E E2 : U → Prop} {P P2 : V → U → Prop} {E' : U' → Prop} {P' : V' → U' → Prop}
theorem PX.ok {v : V} {u : U} (h : P v u) : PX (some (.ok (v, u))) E P := fun r hr => by
  cases hr
  exact ⟨fun _ q => (nomatch q), fun v u q => by cases q; exact h⟩
theorem PX.er {u : U} (h : E u) : PX (some (.error u)) E P := fun r hr => by
  cases hr
  exact ⟨fun _ q => by cases q; exact h, fun _ _ q => (nomatch q)⟩
theorem PX.none : PX (none : Option (Except U (V × U))) E P := fun r hr => nomatch hr
theorem PX.ite {c : Prop} {i : Decidable c} {x y : Option (Except U (V × U))} (ht : c → PX x E P) (hf : ¬ c → PX y E P) : PX (@ite _ c i x y) E P := by
  by_cases h : c
  · rw [if_pos h]; exact ht h
  · rw [if_neg h]; exact hf h
theorem PX.bind {x : Option A} {k : A → Option (Except U (V × U))} (h : ∀ a, x = some a → PX (k a) E P) : PX (x.bind k) E P := by
  cases x with
  | none => exact PX.none
  | some a => exact h a rfl
theorem PX.try {x : Option (Except U' (V' × U'))} {k : V' → U' → Option (Except U (V × U))} {e : U' → U} (h : PX x E' P') (he : ∀ u, E' u → E (e u)) (hk : ∀ v u, P' v u → PX (k v u) E P) : PX (mr_try x k e) E P := by
  intro r hr
  rcases mr_tried hr with ⟨v, u, h1, h2⟩ | ⟨u, h1, h2⟩
  · exact hk v u ((h _ h1).2 v u rfl) r h2
  · subst h2
    exact PX.er (he u ((h _ h1).1 u rfl)) _ rfl
theorem PX.mono {x : Option (Except U (V × U))} (h : PX x E P) (he : ∀ u, E u → E2 u) (hk : ∀ v u, P v u → P2 v u) : PX x E2 P2 := fun r hr => ⟨fun u q => he u ((h r hr).1 u q), fun v u q => hk v u ((h r hr).2 v u q)⟩
theorem REX.px {x : Gs → Option (Except U (V × U))} {fp : U → Int32 × Int32} {F : Int32 × Int32 → Prop} {Q : V → (Gs → U) → Prop} (h : REX x fp F Q) (g : Gs) : PX (x g) (fun u => F (fp u)) (fun v u => ∃ uu, Q v uu ∧ u = uu g) := by
  intro r hr
  rcases h with ⟨v, u, h1, h2⟩ | ⟨c, h1, h2⟩
  · rw [h2 g] at hr
    cases hr
    exact ⟨fun _ q => (nomatch q), fun v' u' q => by cases q; exact ⟨u, h1, rfl⟩⟩
  · obtain ⟨u, h3, h4⟩ := h2 g
    rw [h3] at hr
    cases hr
    exact ⟨fun u' q => by cases q; rw [h4]; exact h1, fun _ _ q => (nomatch q)⟩
end PXs
theorem ov_same {α : Type} {n : Nat} {f : Nat → α} : ov n f f = f := funext (fun i => by unfold ov; split <;> rfl)
theorem ov_up1 {n : Nat} {f : Nat → Int32} {v : Int32} : ov (n + 1) (upd f n v) f = upd f n v := by
  rw [← ov_push, ov_same]
theorem ov_up1L {n : Nat} {f : Nat → Int64} {v : Int64} : ov (n + 1) (vp_updL f n v) f = vp_updL f n v := by
  rw [← ov_pushL, ov_same]
def g7 (a b c d e f g : Nat → Int32) : Nat → Nat → Int32 := fun j => match j with
  | 0 => a
  | 1 => b
  | 2 => c
  | 3 => d
  | 4 => e
  | 5 => f
  | _ => g
section RAW
variable {B : Nat → Int32} {L : Nat}
theorem look_r (hB : BY B L) (hL : L ≤ 4096) {a : Nat} (ha : a ≤ L) : m_X9_look B (nI L) (nI a) = some (sbI (cb B L a)) := by
  have := look_eq (B := B) (g := B) hL ha
  rw [ov_same, rk_sb hB] at this
  exact this
theorem blk_r (hB : BY B L) (hL : L ≤ 4096) {a : Nat} (ha : a ≤ L) : m_X9_blanks B (nI L) (nI a) = some (nI (sbl B L a)) := by
  have := rbl_eq hB hL B ha
  rw [ov_same] at this
  exact this
theorem take_r (hB : BY B L) (hL : L ≤ 4096) {a : Nat} (ha : a ≤ L) {f p x : Int32} : m_X9_take B (nI L) (nI a) f p x = if sbI (cb B L a) = x then some (.ok ((), (nI (a + 1), f, p))) else some (.error (nI a, 1, nI a)) := by
  have := take_eq (B := B) (g := B) (f := f) (p := p) (x := x) hL ha
  rw [ov_same, rk_sb hB] at this
  exact this
theorem node_r {a n : Nat} {K F S I X : Nat → Int32} {N : Nat → Int64} {k : Int32} (hn : n < 4200) : m_X9_node (nI a) (nI n) K F N S I X k = some (nI n, (nI (n + 1), upd K n k, upd F n (nI a), vp_updL N n 0, upd S n 0, upd I n (-1), upd X n (-1))) := by
  have := node_eq (a := a) (K := K) (F := F) (N := N) (S := S) (I := I) (X := X) (gK := K) (gF := F) (gN := N) (gS := S) (gI := I) (gX := X) (k := k) hn
  simp only [ov_same, ov_up1, ov_up1L] at this
  exact this
theorem str_r (hB : BY B L) (hL : L ≤ 4096) {K F S I X Lt : Nat → Int32} {N : Nat → Int64} {fl pl : Int32} {a n l : Nat} (ha : a < L) (hn : n ≤ a) (hl : l ≤ a) :
    PX (m_X9_string B (nI L) (nI a) fl pl (nI n) K F N S I X Lt (nI l)) (fun u => EW (sstr B L (a + 1)) (fpS u))
      (fun v u => ∃ b s Lt', sstr B L (a + 1) = .inr (s, b) ∧ v = nI n ∧ u = (nI b, fl, pl, nI (n + 1), upd K n 2, upd F n (nI a), vp_updL N n (lN l), upd S n (nI s.length), upd I n (-1), upd X n (-1), Lt', nI (l + s.length)) ∧ ag l Lt Lt' ∧ ∀ j, j < s.length → Lt' (l + j) = sbI (s.getD j 0)) := by
  have h := (stx hB hL (K := K) (F := F) (S := S) (I := I) (X := X) (Lt := Lt) (N := N) (fl := fl) (pl := pl) ha hn hl).px (g7 K F S I X Lt B, N)
  simp only [g7, ov_same] at h
  refine h.mono (fun u hu => hu) ?_
  rintro v u ⟨_, ⟨b, s, Lt', q1, q2, rfl, q3, q4⟩, rfl⟩
  refine ⟨b, s, ov (l + s.length) Lt' Lt, q1, q2, ?_, fun i hi => ?_, fun j hj => ?_⟩
  · simp only [g7, ov_up1, ov_up1L]
  · rw [ov_lt (by omega)]; exact q3 i hi
  · rw [ov_lt (by omega)]; exact q4 j hj
theorem num_r (hB : BY B L) (hL : L ≤ 4096) {K F S I X : Nat → Int32} {N : Nat → Int64} {fl pl : Int32} {a n : Nat} (ha : a < L) (hn : n ≤ a) :
    PX (m_X9_number B (nI L) (nI a) fl pl (nI n) K F N S I X) (fun u => EW (snum B L a) (fpN u))
      (fun v u => ∃ b sz, snum B L a = .inr b ∧ v = nI n ∧ u = (nI b, fl, pl, nI (n + 1), upd K n 3, upd F n (nI a), vp_updL N n (snv B L a), upd S n (nI sz), upd I n (-1), upd X n (-1))) := by
  have h := (numx hB hL (K := K) (F := F) (S := S) (I := I) (X := X) (N := N) (fl := fl) (pl := pl) ha hn).px (g7 K F S I X K B, N)
  simp only [g7, ov_same] at h
  refine h.mono (fun u hu => hu) ?_
  rintro v u ⟨_, ⟨b, sz, q1, q2, rfl⟩, rfl⟩
  refine ⟨b, sz, q1, q2, ?_⟩
  simp only [g7, ov_up1, ov_up1L]
end RAW
-- the reference's rows for a value, as told
def RSt (N : Nat → Int64) (S Lt : Nat → Int32) (l n : Nat) (s : List Nat) : Prop := S n = nI s.length ∧ ∃ st, N n = lN st ∧ st + s.length ≤ l ∧ ∀ j, j < s.length → Lt (st + j) = sbI (s.getD j 0)
def RKey (B : Nat → Int32) (L : Nat) (K F : Nat → Int32) (N : Nat → Int64) (S Lt : Nat → Int32) (l c part : Nat) : Prop := K c = 2 ∧ F c = nI part ∧ ∃ s b, sstr B L (part + 1) = .inr (s, b) ∧ RSt N S Lt l c s
def RTL (P : Nat → Nat → Nat → Prop) (X : Nat → Int32) (hi : Nat) : List (Nat × Nat) → Nat → Int32 → Prop
  | [], _, h => h = -1
  | k :: t, lo, h => ∃ c e, h = nI c ∧ lo ≤ c ∧ c < e ∧ e ≤ hi ∧ P c e k.2 ∧ RTL P X hi t e (X c)
def RTO (P : Nat → Nat → Nat → Prop) (Q : Nat → Nat → Prop) (X : Nat → Int32) (hi : Nat) : List (Nat × Nat) → Nat → Int32 → Prop
  | [], _, h => h = -1
  | k :: t, lo, h => ∃ c e, h = nI c ∧ lo ≤ c ∧ c + 1 < e ∧ e ≤ hi ∧ Q c k.1 ∧ P (c + 1) e k.2 ∧ X c = nI (c + 1) ∧ RTO P Q X hi t e (X (c + 1))
def RT (B : Nat → Int32) (L : Nat) (K F : Nat → Int32) (N : Nat → Int64) (S I X Lt : Nat → Int32) (l : Nat) : Nat → Nat → Nat → Nat → Prop
  | 0, _, _, _ => False
  | d + 1, n, m, p => n < m ∧ F n = nI p ∧ ((cb B L p = 34 ∧ K n = 2 ∧ ∃ s q, sstr B L (p + 1) = .inr (s, q) ∧ RSt N S Lt l n s) ∨ (cb B L p = 91 ∧ K n = 1 ∧ ∃ ks, GK B L d p ks ∧ S n = nI ks.length ∧ RTL (RT B L K F N S I X Lt l d) X m ks (n + 1) (I n)) ∨ (cb B L p = 123 ∧ K n = 0 ∧ ∃ ks, GK B L d p ks ∧ RTO (RT B L K F N S I X Lt l d) (RKey B L K F N S Lt l) X m ks (n + 1) (I n)) ∨ ((cb B L p = 45 ∨ (48 ≤ cb B L p ∧ cb B L p ≤ 57)) ∧ K n = 3 ∧ N n = snv B L p) ∨ (cb B L p = 116 ∧ K n = 4) ∨ (cb B L p = 102 ∧ K n = 5) ∨ (cb B L p = 110 ∧ K n = 6))
theorem RTL.keep {P P' : Nat → Nat → Nat → Prop} {X X' : Nat → Int32} {hi hi' : Nat} (hh : hi ≤ hi') : ∀ (ks : List (Nat × Nat)) (lo : Nat) (h : Int32), RTL P X hi ks lo h → (∀ c e p, lo ≤ c → c < e → e ≤ hi → P c e p → P' c e p) → (∀ i, lo ≤ i → i < hi → X' i = X i) → RTL P' X' hi' ks lo h := by
  intro ks
  induction ks with
  | nil => intro lo h hc _ _; exact hc
  | cons k t ih =>
    intro lo h hc hp hx
    obtain ⟨c, e, h1, h2, h3, h4, h5, h6⟩ := hc
    refine ⟨c, e, h1, h2, h3, by omega, hp c e _ h2 h3 h4 h5, ?_⟩
    rw [hx c h2 (by omega)]
    exact ih e _ h6 (fun c' e' p' q1 q2 q3 => hp c' e' p' (by omega) q2 q3) (fun i i1 i2 => hx i (by omega) i2)
theorem RTO.keep {P P' : Nat → Nat → Nat → Prop} {Q Q' : Nat → Nat → Prop} {X X' : Nat → Int32} {hi hi' : Nat} (hh : hi ≤ hi') : ∀ (ks : List (Nat × Nat)) (lo : Nat) (h : Int32), RTO P Q X hi ks lo h → (∀ c e p, lo < c → c < e → e ≤ hi → P c e p → P' c e p) → (∀ c p, lo ≤ c → c < hi → Q c p → Q' c p) → (∀ i, lo ≤ i → i < hi → X' i = X i) → RTO P' Q' X' hi' ks lo h := by
  intro ks
  induction ks with
  | nil => intro lo h hc _ _ _; exact hc
  | cons k t ih =>
    intro lo h hc hp hq hx
    obtain ⟨c, e, h1, h2, h3, h4, h5, h6, h7, h8⟩ := hc
    refine ⟨c, e, h1, h2, h3, by omega, hq c _ h2 (by omega) h5, hp (c + 1) e _ (by omega) h3 h4 h6, ?_, ?_⟩
    · rw [hx c h2 (by omega)]; exact h7
    · rw [hx (c + 1) (by omega) (by omega)]
      exact ih e _ h8 (fun c' e' p' q1 q2 q3 => hp c' e' p' (by omega) q2 q3) (fun c' p' q1 q2 => hq c' p' (by omega) q2) (fun i i1 i2 => hx i (by omega) i2)
section RTK
variable {B : Nat → Int32} {L : Nat} {K F S I X Lt K' F' S' I' X' Lt' : Nat → Int32} {N N' : Nat → Int64} {l l' : Nat}
theorem RSt.keep {n : Nat} {s : List Nat} (h : RSt N S Lt l n s) (hN : N' n = N n) (hS : S' n = S n) (hl : l ≤ l') (hLt : ag l Lt Lt') : RSt N' S' Lt' l' n s := by
  obtain ⟨h1, st, h2, h3, h4⟩ := h
  refine ⟨by rw [hS]; exact h1, st, by rw [hN]; exact h2, by omega, fun j hj => ?_⟩
  rw [← hLt (st + j) (by omega)]
  exact h4 j hj
theorem RKey.keep {c p : Nat} (h : RKey B L K F N S Lt l c p) (hK : K' c = K c) (hF : F' c = F c) (hN : N' c = N c) (hS : S' c = S c) (hl : l ≤ l') (hLt : ag l Lt Lt') : RKey B L K' F' N' S' Lt' l' c p := by
  obtain ⟨h1, h2, s, b, h3, h4⟩ := h
  exact ⟨by rw [hK]; exact h1, by rw [hF]; exact h2, s, b, h3, h4.keep hN hS hl hLt⟩
theorem RT.keep (hl : l ≤ l') (hLt : ag l Lt Lt') : ∀ (d n m p : Nat), RT B L K F N S I X Lt l d n m p → (∀ i, n ≤ i → i < m → K' i = K i ∧ F' i = F i ∧ N' i = N i ∧ S' i = S i ∧ I' i = I i) → (∀ i, n < i → i < m → X' i = X i) → RT B L K' F' N' S' I' X' Lt' l' d n m p := by
  intro d
  induction d with
  | zero => intro n m p h _ _; exact h
  | succ d ih =>
    intro n m p h he hx
    obtain ⟨h1, h2, h3⟩ := h
    obtain ⟨e1, e2, e3, e4, e5⟩ := he n (Nat.le_refl _) h1
    refine ⟨h1, by rw [e2]; exact h2, ?_⟩
    rw [e1, e3, e4, e5]
    rcases h3 with ⟨c1, c2, s, q, c3, c4⟩ | ⟨c1, c2, ks, c3, c4, c5⟩ | ⟨c1, c2, ks, c3, c4⟩ | h3
    · exact Or.inl ⟨c1, c2, s, q, c3, c4.keep e3 e4 hl hLt⟩
    · exact Or.inr (Or.inl ⟨c1, c2, ks, c3, c4, c5.keep (Nat.le_refl _) _ _ _ (fun c e p q1 q2 q3 hp => ih c e p hp (fun i i1 i2 => he i (by omega) (by omega)) (fun i i1 i2 => hx i (by omega) (by omega))) (fun i i1 i2 => hx i (by omega) i2)⟩)
    · exact Or.inr (Or.inr (Or.inl ⟨c1, c2, ks, c3, c4.keep (Nat.le_refl _) _ _ _ (fun c e p q1 q2 q3 hp => ih c e p hp (fun i i1 i2 => he i (by omega) (by omega)) (fun i i1 i2 => hx i (by omega) (by omega))) (fun c p q1 q2 hq => by
        obtain ⟨f1, f2, f3, f4, _⟩ := he c (by omega) q2
        exact hq.keep f1 f2 f3 f4 hl hLt) (fun i i1 i2 => hx i (by omega) i2)⟩))
    · exact Or.inr (Or.inr (Or.inr h3))
end RTK
end
section
-- the reference's lists, as told
def okX (B : Nat → Int32) (L : Nat) (fv : FV) (d D : Nat) : Prop :=
  ∀ (a n l : Nat) (K F : Nat → Int32) (N : Nat → Int64) (S I X Lt : Nat → Int32) (fl pl : Int32), a ≤ L → n ≤ a → l ≤ a →
    PX (fv B (nI L) (nI a) (nI d) fl pl (nI n) K F N S I X Lt (nI l)) (fun u => EW (sval B L D a) (fpV u))
      (fun v u => ∃ (b n' l' : Nat) (K' F' : Nat → Int32) (N' : Nat → Int64) (S' I' X' Lt' : Nat → Int32), sval B L D a = .inr b ∧ v = nI n ∧ u = (nI b, nI d, fl, pl, nI n', K', F', N', S', I', X', Lt', nI l') ∧ n < n' ∧ n' + a ≤ n + b ∧ l ≤ l' ∧ l' + a ≤ l + b ∧ agR n K F N S I X K' F' N' S' I' X' ∧ ag l Lt Lt' ∧ X' n = -1 ∧ RT B L K' F' N' S' I' X' Lt' l' D n n' a)
theorem sgrp_f {fv : Nat → Nat ⊕ Nat} {B : Nat → Int32} {L cl n a : Nat} {seen : List (List Nat)} : sgrp fv B L false cl (n + 1) a seen = match fv a with
    | .inl w => .inl w
    | .inr b => if cb B L (sbl B L b) = cl then .inr ([(a, a)], sbl B L b + 1) else if cb B L (sbl B L b) = 44 then
          (match sgrp fv B L false cl n (sbl B L (sbl B L b + 1)) ([] :: seen) with
          | .inl w => .inl w
          | .inr (l, q) => .inr ((a, a) :: l, q)) else .inl (sbl B L b) := rfl
section RLST
variable {B : Nat → Int32} {L : Nat}
theorem lsx_go (hB : BY B L) (hL : L ≤ 4096) {fv : FV} {d D : Nat} (hv : okX B L fv d D) {n0 : Nat} {fl pl : Int32} : ∀ (nn fuel a n l sz : Nat) (last : Int32) (K F : Nat → Int32) (N : Nat → Int64) (S I X Lt : Nat → Int32) (seen : List (List Nat)), a ≤ L → L - a < nn → n ≤ a → l ≤ a → n0 < n → S n0 = nI sz → (last = -1 ∨ ∃ la, last = nI la ∧ n0 < la ∧ la < n) →
    PX (m_X9_list_37 fv B (nI L) fuel (nI a) (nI d) fl pl (nI n) K F N S I X Lt (nI l) (nI n0) last 1) (fun u => EW (sgrp (sval B L D) B L false 93 nn a seen) (fpV u))
      (fun v u => ∃ (ks : List (Nat × Nat)) (q n' l' : Nat) (K' F' : Nat → Int32) (N' : Nat → Int64) (S' I' X' Lt' : Nat → Int32), sgrp (sval B L D) B L false 93 nn a seen = .inr (ks, q) ∧ v = nI n0 ∧ u = (nI q, nI d, fl, pl, nI n', K', F', N', S', I', X', Lt', nI l') ∧ n < n' ∧ n' + a ≤ n + q ∧ l ≤ l' ∧ l' + a ≤ l + q ∧ ag n K K' ∧ ag n F F' ∧ ag n N N' ∧ (∀ i, i < n → S' i = upd S n0 (nI (sz + ks.length)) i) ∧ (∀ i, i < n → I' i = (if last = -1 then upd I n0 (nI n) else I) i) ∧ (∀ i, i < n → X' i = (if last = -1 then X else upd X last.toNatClampNeg (nI n)) i) ∧ ag l Lt Lt' ∧ RTL (RT B L K' F' N' S' I' X' Lt' l' D) X' n' ks n (nI n)) := by
  intro nn
  induction nn with
  | zero => intro fuel a n l sz last K F N S I X Lt seen _ h; exact absurd h (Nat.not_lt_zero _)
  | succ nn ih =>
    intro fuel a n l sz last K F N S I X Lt seen ha hnn hn hl hn0 hS hlast
    cases fuel with
    | zero => exact PX.none
    | succ fuel =>
    simp only [m_X9_list_37, if_neg (show ¬ (1 : Int32) = 0 by decide)]
    refine PX.try (hv a n l K F N S I X Lt fl pl ha hn hl) ?_ ?_
    · rintro u ⟨w, h1, h2⟩
      exact ⟨w, by rw [sgrp_f, h1], h2⟩
    rintro _ _ ⟨b, n1, l1, K1, F1, N1, S1, I1, X1, Lt1, hb, rfl, rfl, h1, h2, h3, h4, ⟨gK, gF, gN, gS, gI, gX⟩, gL, hXn, hRT⟩
    obtain ⟨hab, hbL⟩ := sval_p _ _ _ hb
    dsimp only
    have hS1 : S1 n0 = nI sz := by rw [← gS n0 hn0]; exact hS
    have tail : ∀ (I2 X2 : Nat → Int32), (∀ i, i < n → I2 i = (if last = -1 then upd I n0 (nI n) else I) i) → (∀ i, n ≤ i → I2 i = I1 i) → (∀ i, i < n → X2 i = (if last = -1 then X else upd X last.toNatClampNeg (nI n)) i) → (∀ i, n ≤ i → X2 i = X1 i) →
        PX (m_X9_list_70 fv B (nI L) (m_X9_list_37 fv B (nI L) fuel) (nI b) (nI d) fl pl (nI n1) K1 F1 N1 S1 I2 X2 Lt1 (nI l1) (nI n0) (nI n)) (fun u => EW (sgrp (sval B L D) B L false 93 (nn + 1) a seen) (fpV u))
          (fun v u => ∃ (ks : List (Nat × Nat)) (q n' l' : Nat) (K' F' : Nat → Int32) (N' : Nat → Int64) (S' I' X' Lt' : Nat → Int32), sgrp (sval B L D) B L false 93 (nn + 1) a seen = .inr (ks, q) ∧ v = nI n0 ∧ u = (nI q, nI d, fl, pl, nI n', K', F', N', S', I', X', Lt', nI l') ∧ n < n' ∧ n' + a ≤ n + q ∧ l ≤ l' ∧ l' + a ≤ l + q ∧ ag n K K' ∧ ag n F F' ∧ ag n N N' ∧ (∀ i, i < n → S' i = upd S n0 (nI (sz + ks.length)) i) ∧ (∀ i, i < n → I' i = (if last = -1 then upd I n0 (nI n) else I) i) ∧ (∀ i, i < n → X' i = (if last = -1 then X else upd X last.toNatClampNeg (nI n)) i) ∧ ag l Lt Lt' ∧ RTL (RT B L K' F' N' S' I' X' Lt' l' D) X' n' ks n (nI n)) := by
      intro I2 X2 i1 i2 x1 x2
      have hb1 := sbl_le (B := B) (L := L) (a := b)
      have hb2 := sbl_le2 (B := B) (L := L) (a := b) hbL
      simp only [m_X9_list_70, bd_go (show n0 < 4200 by omega) (by decide), bd_gc (show n0 < 4200 by omega) (by decide), nI_clamp (show n0 < 2 ^ 31 by omega), hS1, blk_r hB hL hbL, Option.bind_some, look_r hB hL hb2, nI_1, sb44]
      refine PX.ite (fun h44 => ?_) (fun h44 => ?_)
      · have hlt : sbl B L b < L := cb_lt (B := B) (by omega)
        have hc1 := sbl_le (B := B) (L := L) (a := sbl B L b + 1)
        have hc2 := sbl_le2 (B := B) (L := L) (a := sbl B L b + 1) (by omega)
        simp only [m_X9_list_101, if_neg (show ¬ (1 : Int32) = 0 by decide), nI_1, blk_r hB hL (show sbl B L b + 1 ≤ L by omega), Option.bind_some]
        refine (ih fuel (sbl B L (sbl B L b + 1)) n1 l1 (sz + 1) (nI n) K1 F1 N1 (upd S1 n0 (nI (sz + 1))) I2 X2 Lt1 ([] :: seen) hc2 (by omega) (by omega) (by omega) (by omega) pk_us (Or.inr ⟨n, rfl, hn0, h1⟩)).mono ?_ ?_
        · rintro u ⟨w, q1, q2⟩
          refine ⟨w, ?_, q2⟩
          rw [sgrp_f, hb]
          simp only
          rw [if_neg (by omega), if_pos h44, q1]
        · rintro v u ⟨ks, q, n', l', K', F', N', S', I', X', Lt', z1, z2, z3, z4, z5, z6, z7, z8, z9, z10, z11, z12, z13, z14, z15⟩
          rw [if_neg (nI_m1 (by omega))] at z12 z13
          rw [nI_clamp (by omega)] at z13
          refine ⟨(a, a) :: ks, q, n', l', K', F', N', S', I', X', Lt', ?_, z2, z3, by omega, by omega, by omega, by omega, gK.trans z8 (by omega), gF.trans z9 (by omega), gN.trans z10 (by omega), fun i hi => ?_, fun i hi => ?_, fun i hi => ?_, gL.trans z14 (by omega), n, n1, rfl, Nat.le_refl _, h1, by omega, ?_, ?_⟩
          · rw [sgrp_f, hb]
            simp only
            rw [if_neg (by omega), if_pos h44, z1]
          · rw [z11 i (by omega), upd_upd, List.length_cons, show sz + 1 + ks.length = sz + (ks.length + 1) by omega]
            by_cases e : i = n0
            · rw [e, pk_us, pk_us]
            · rw [pk_un e, pk_un e]; exact (gS i hi).symm
          · rw [z12 i (by omega)]; exact i1 i hi
          · rw [z13 i (by omega), pk_un (by omega)]; exact x1 i hi
          · refine RT.keep z6 z14 _ _ _ _ hRT (fun i j1 j2 => ⟨(z8 i j2).symm, (z9 i j2).symm, (z10 i j2).symm, ?_, ?_⟩) (fun i j1 j2 => ?_)
            · rw [z11 i j2, pk_un (by omega), pk_un (by omega)]
            · rw [z12 i j2]; exact i2 i j1
            · rw [z13 i j2, pk_un (by omega)]; exact x2 i (by omega)
          · rw [z13 n h1, pk_us]
            exact z15
      · simp only [m_X9_list_101, if_pos (rfl : (0 : Int32) = 0)]
        cases fuel with
        | zero => exact PX.none
        | succ fuel =>
        simp only [m_X9_list_37, if_pos (rfl : (0 : Int32) = 0), take_r hB hL hb2, sb93]
        by_cases h93 : cb B L (sbl B L b) = 93
        · simp only [if_pos h93, try_o]
          have hlt : sbl B L b < L := cb_lt (B := B) (by omega)
          refine PX.ok ⟨[(a, a)], sbl B L b + 1, n1, l1, K1, F1, N1, upd S1 n0 (nI (sz + 1)), I2, X2, Lt1, ?_, rfl, rfl, h1, by omega, h3, by omega, gK, gF, gN, fun i hi => ?_, i1, x1, gL, n, n1, rfl, Nat.le_refl _, h1, Nat.le_refl _, ?_, ?_⟩
          · rw [sgrp_f, hb]
            simp only
            rw [if_pos h93]
          · show upd S1 n0 (nI (sz + 1)) i = upd S n0 (nI (sz + 1)) i
            by_cases e : i = n0
            · rw [e, pk_us, pk_us]
            · rw [pk_un e, pk_un e]; exact (gS i hi).symm
          · refine RT.keep (Nat.le_refl _) ag.rfl' _ _ _ _ hRT (fun i j1 j2 => ⟨rfl, rfl, rfl, pk_un (by omega), i2 i j1⟩) (fun i j1 j2 => x2 i (by omega))
          · show X2 n = -1
            rw [x2 n (Nat.le_refl _)]
            exact hXn
        · simp only [if_neg h93, try_e]
          refine PX.er ⟨sbl B L b, ?_, rfl⟩
          rw [sgrp_f, hb]
          simp only
          rw [if_neg h93, if_neg h44]
    rcases hlast with e | ⟨la, e, l1', l2'⟩
    · subst e
      rw [if_neg (show ¬ (0 : Int32) ≤ -1 by decide), bd_go (show n0 < 4200 by omega) (by decide), nI_clamp (show n0 < 2 ^ 31 by omega)]
      refine tail (upd I1 n0 (nI n)) X1 (fun i hi => ?_) (fun i hi => pk_un (by omega)) (fun i hi => ?_) (fun _ _ => rfl)
      · rw [if_pos rfl]
        by_cases e : i = n0
        · rw [e, pk_us, pk_us]
        · rw [pk_un e, pk_un e]; exact (gI i hi).symm
      · rw [if_pos rfl]; exact (gX i hi).symm
    · subst e
      have hm := nI_m1 (n := la) (by omega)
      rw [if_pos (nI_pos' (show la < 2 ^ 31 by omega)), bd_go (show la < 4200 by omega) (by decide), nI_clamp (show la < 2 ^ 31 by omega)]
      rw [nI_clamp (show la < 2 ^ 31 by omega)] at tail
      refine tail I1 (upd X1 la (nI n)) (fun i hi => ?_) (fun _ _ => rfl) (fun i hi => ?_) (fun i hi => pk_un (by omega))
      · rw [if_neg hm]; exact (gI i hi).symm
      · rw [if_neg hm]
        by_cases e : i = la
        · rw [e, pk_us, pk_us]
        · rw [pk_un e, pk_un e]; exact (gX i hi).symm
/-- a list, from its bracket on -/
theorem lsx (hB : BY B L) (hL : L ≤ 4096) {fv : FV} {d D : Nat} (hD : 0 < D) (hv : okX B L fv d D) {a n l : Nat} {K F S I X Lt : Nat → Int32} {N : Nat → Int64} {fl pl : Int32} (ha : cb B L a = 91) (hn : n ≤ a) (hl : l ≤ a) :
    PX (m_X9_list fv B (nI L) (nI a) (nI d) fl pl (nI n) K F N S I X Lt (nI l)) (fun u => EW (sval B L (D + 1) a) (fpV u))
      (fun v u => ∃ (b n' l' : Nat) (K' F' : Nat → Int32) (N' : Nat → Int64) (S' I' X' Lt' : Nat → Int32), sval B L (D + 1) a = .inr b ∧ v = nI n ∧ u = (nI b, nI d, fl, pl, nI n', K', F', N', S', I', X', Lt', nI l') ∧ n < n' ∧ n' + a ≤ n + b ∧ l ≤ l' ∧ l' + a ≤ l + b ∧ agR n K F N S I X K' F' N' S' I' X' ∧ ag l Lt Lt' ∧ X' n = -1 ∧ RT B L K' F' N' S' I' X' Lt' l' (D + 1) n n' a) := by
  have haL : a < L := cb_lt (B := B) (by omega)
  have hb1 := sbl_le (B := B) (L := L) (a := a + 1)
  have hb2 := sbl_le2 (B := B) (L := L) (a := a + 1) (by omega)
  have hv0 : sval B L (D + 1) a = if cb B L (sbl B L (a + 1)) = 93 then .inr (sbl B L (a + 1) + 1) else sM (sgrp (sval B L D) B L false 93 (L + 1) (sbl B L (a + 1)) []) := by
    simp only [sval]
    rw [if_neg (by omega), if_pos (Or.inl ha), if_neg (by omega), if_neg (show ¬ cb B L a = 123 by omega), show decide (cb B L a = 123) = false from decide_eq_false (by omega)]
  simp only [m_X9_list, node_r (show n < 4200 by omega), Option.bind_some, nI_1, blk_r hB hL (show a + 1 ≤ L by omega), look_r hB hL hb2, sb93]
  refine PX.ite (fun h => ?_) (fun h => ?_)
  · obtain ⟨f, hf⟩ : ∃ f, sr_fuel = f + 1 := ⟨sr_fuel - 1, by unfold sr_fuel; omega⟩
    have hlt : sbl B L (a + 1) < L := cb_lt (B := B) (by omega)
    simp only [hf, m_X9_list_37, if_pos (rfl : (0 : Int32) = 0), take_r hB hL hb2, sb93, if_pos h, try_o]
    refine PX.ok ⟨sbl B L (a + 1) + 1, n + 1, l, _, _, _, _, _, _, Lt, by rw [hv0, if_pos h], rfl, rfl, by omega, by omega, Nat.le_refl _, by omega, ⟨ag.rfl'.upd (Nat.le_refl _), ag.rfl'.upd (Nat.le_refl _), ag.rfl'.updL (Nat.le_refl _), ag.rfl'.upd (Nat.le_refl _), ag.rfl'.upd (Nat.le_refl _), ag.rfl'.upd (Nat.le_refl _)⟩, ag.rfl', pk_us, by omega, pk_us, Or.inr (Or.inl ⟨ha, pk_us, [], Or.inl ⟨?_, rfl⟩, pk_us, pk_us⟩)⟩
    rw [if_neg (show ¬ cb B L a = 123 by omega)]
    exact h
  · refine (lsx_go hB hL hv (n0 := n) (L + 1) sr_fuel (sbl B L (a + 1)) (n + 1) l 0 (-1) _ _ _ _ _ _ Lt [] hb2 (by omega) (by omega) (by omega) (by omega) pk_us (Or.inl rfl)).mono ?_ ?_
    · rintro u ⟨w, q1, q2⟩
      exact ⟨w, by rw [hv0, if_neg h, q1]; rfl, q2⟩
    · rintro v u ⟨ks, q, n', l', K', F', N', S', I', X', Lt', z1, z2, z3, z4, z5, z6, z7, z8, z9, z10, z11, z12, z13, z14, z15⟩
      rw [if_pos rfl] at z12 z13
      refine ⟨q, n', l', K', F', N', S', I', X', Lt', by rw [hv0, if_neg h, z1]; rfl, z2, z3, by omega, by omega, z6, by omega, ⟨fun i hi => ?_, fun i hi => ?_, fun i hi => ?_, fun i hi => ?_, fun i hi => ?_, fun i hi => ?_⟩, z14, ?_, by omega, ?_, Or.inr (Or.inl ⟨ha, ?_, ks, Or.inr ⟨?_, q, ?_⟩, ?_, ?_⟩)⟩
      · rw [← z8 i (by omega), pk_un (by omega)]
      · rw [← z9 i (by omega), pk_un (by omega)]
      · rw [← z10 i (by omega), pk_uLn (by omega)]
      · rw [z11 i (by omega), pk_un (by omega), pk_un (by omega)]
      · rw [z12 i (by omega), pk_un (by omega), pk_un (by omega)]
      · rw [z13 i (by omega), pk_un (by omega)]
      · rw [z13 n (by omega), pk_us]
      · rw [← z9 n (by omega), pk_us]
      · rw [← z8 n (by omega), pk_us]
      · rw [if_neg (show ¬ cb B L a = 123 by omega)]
        exact h
      · rw [if_neg (show ¬ cb B L a = 123 by omega), show decide (cb B L a = 123) = false from decide_eq_false (by omega)]
        exact z1
      · rw [z11 n (by omega), pk_us, Nat.zero_add]
      · rw [z12 n (by omega), pk_us]
        exact z15
end RLST
end
section
-- the reference's objects, as told
theorem list_ext {s t : List Nat} (hl : s.length = t.length) (h : ∀ j, j < s.length → s.getD j 0 = t.getD j 0) : s = t := by
  induction s generalizing t with
  | nil => cases t with
    | nil => rfl
    | cons b t => cases hl
  | cons a s ih => cases t with
    | nil => cases hl
    | cons b t =>
      have h0 := h 0 (by simp)
      have hr := ih (t := t) (by simpa using hl) (fun j hj => by
        have := h (j + 1) (by simp; omega)
        simpa using this)
      rw [hr]
      congr 1
theorem same_r {N N' : Nat → Int64} {S Lt S' Lt' : Nat → Int32} {l l' x y : Nat} {s t : List Nat} (hx : x < 4200) (hy : y < 4200) (hl : l ≤ 4200) (hl' : l' ≤ 4200) (hs : RSt N S Lt l x s) (ht : RSt N' S' Lt' l' y t) (hb : ∀ c, c ∈ s → c ≤ 255) (hb' : ∀ c, c ∈ t → c ≤ 255) : m_X9_same N S Lt N' S' Lt' (nI x) (nI y) = some (if s = t then 1 else 0) := by
  obtain ⟨a1, st, a2, a3, a4⟩ := hs
  obtain ⟨b1, st', b2, b3, b4⟩ := ht
  by_cases e : s = t
  · subst e
    rw [if_pos rfl]
    exact same_t hx hy a2 a1 b2 b1 (by omega) (by omega) (fun j hj => by rw [a4 j hj, b4 j hj])
  · rw [if_neg e]
    refine same_f hx hy a2 a1 b2 b1 (by omega) (by omega) (fun q => e (list_ext q.1 (fun j hj => ?_)))
    have h := q.2 j hj
    have hj' : j < t.length := by have := q.1; omega
    rw [a4 j hj, b4 j hj'] at h
    have m1 : s.getD j 0 ≤ 255 := by rw [ls_get hj]; exact hb _ (List.getElem_mem hj)
    have m2 : t.getD j 0 ≤ 255 := by rw [ls_get hj']; exact hb' _ (List.getElem_mem hj')
    exact sb_inj (by omega) (by omega) h
theorem sgrp_t {fv : Nat → Nat ⊕ Nat} {B : Nat → Int32} {L cl n a : Nat} {seen : List (List Nat)} : sgrp fv B L true cl (n + 1) a seen = match skey B L a seen with
    | .inl w => .inl w
    | .inr (v, s) => match fv v with
      | .inl w => .inl w
      | .inr b => if cb B L (sbl B L b) = cl then .inr ([(a, v)], sbl B L b + 1) else if cb B L (sbl B L b) = 44 then
          (match sgrp fv B L true cl n (sbl B L (sbl B L b + 1)) (s :: seen) with
          | .inl w => .inl w
          | .inr (l, q) => .inr ((a, v) :: l, q)) else .inl (sbl B L b) := rfl
section ROBJ
variable {B : Nat → Int32} {L : Nat}
/-- the members read before: k of them, their strings' rows c i, what they say st i -/
def PFX (N : Nat → Int64) (S I X Lt : Nat → Int32) (l n0 n k : Nat) (c : Nat → Nat) (st : Nat → List Nat) : Prop :=
  (∀ i, i < k → n0 < c i ∧ c i + 1 < n ∧ X (c i) = nI (c i + 1) ∧ X (c i + 1) = (if i + 1 = k then -1 else nI (c (i + 1))) ∧ RSt N S Lt l (c i) (st i) ∧ (∀ v, v ∈ st i → v ≤ 255)) ∧ (∀ i j, i < j → j < k → c i + 1 < c j) ∧ I n0 = (if k = 0 then -1 else nI (c 0))
theorem obx_dup {fv : FV} {d a n l1 n0 k part : Nat} {c : Nat → Nat} {st : Nat → List Nat} {K1 F1 S1 I1 X1 Lt1 : Nat → Int32} {N1 : Nat → Int64} {fl pl x2 : Int32} {k37 : Int32 → Int32 → Int32 → Int32 → Int32 → (Nat → Int32) → (Nat → Int32) → (Nat → Int64) → (Nat → Int32) → (Nat → Int32) → (Nat → Int32) → (Nat → Int32) → Int32 → Int32 → Int32 → Int32 → Option (Except TV (Int32 × TV))} {E : TV → Prop} {Q : Int32 → TV → Prop} {s : List Nat}
    (hn : n < 4200) (hl1 : l1 ≤ 4200) (hkey : RSt N1 S1 Lt1 l1 n s) (hsb : ∀ v, v ∈ s → v ≤ 255) (hF : F1 n = nI part)
    (hc : ∀ i, i < k → c i + 1 < 4200 ∧ X1 (c i) = nI (c i + 1) ∧ X1 (c i + 1) = (if i + 1 = k then -1 else nI (c (i + 1))) ∧ RSt N1 S1 Lt1 l1 (c i) (st i) ∧ (∀ v, v ∈ st i → v ≤ 255))
    (hdup : (∃ i, i < k ∧ st i = s) → ∀ u : TV, fpV u = (1, nI part) → E u)
    (hexit : (¬ ∃ i, i < k ∧ st i = s) → ∀ f, PX (m_X9_object_78 fv B (nI L) k37 (f + 1) (nI a) (nI d) fl pl (nI (n + 1)) K1 F1 N1 S1 I1 X1 Lt1 (nI l1) (nI n0) x2 (nI n) (-1)) E Q) :
    ∀ (fuel i : Nat), i ≤ k → (∀ j, j < i → st j ≠ s) → PX (m_X9_object_78 fv B (nI L) k37 fuel (nI a) (nI d) fl pl (nI (n + 1)) K1 F1 N1 S1 I1 X1 Lt1 (nI l1) (nI n0) x2 (nI n) (if i = k then -1 else nI (c i))) E Q := by
  intro fuel
  induction fuel with
  | zero => intro i _ _; exact PX.none
  | succ fuel ih =>
    intro i hi hne
    by_cases hik : i = k
    · rw [if_pos hik]
      exact hexit (fun ⟨j, j1, j2⟩ => hne j (by omega) j2) fuel
    · obtain ⟨c1, c2, c3, c4, c5⟩ := hc i (by omega)
      rw [if_neg hik]
      simp only [m_X9_object_78, if_neg (nI_pos (show c i < 2 ^ 31 by omega))]
      rw [same_r (by omega) hn hl1 hl1 c4 hkey c5 hsb]
      simp only [Option.bind_some]
      by_cases hs : st i = s
      · rw [if_pos hs, if_neg (show ¬ (1 : Int32) = 0 by decide)]
        simp only [m_X9_object_101, bd_go hn (by decide), bd_gc hn (by decide), nI_clamp (show n < 2 ^ 31 by omega), hF, need_0, try_e]
        exact PX.er (hdup ⟨i, by omega, hs⟩ _ rfl)
      · rw [if_neg hs, if_pos rfl]
        simp only [m_X9_object_101, bd_go hn (by decide), bd_gc hn (by decide), nI_clamp (show n < 2 ^ 31 by omega), hF, need_1, try_o, bd_go (show c i < 4200 by omega) (by decide), bd_gc (show c i < 4200 by omega) (by decide), nI_clamp (show c i < 2 ^ 31 by omega), c2, bd_go (show c i + 1 < 4200 by omega) (by decide), bd_gc (show c i + 1 < 4200 by omega) (by decide), nI_clamp (show c i + 1 < 2 ^ 31 by omega), c3]
        refine ih (i + 1) (by omega) (fun j hj => ?_)
        by_cases e : j = i
        · rw [e]; exact hs
        · exact hne j (by omega)
theorem obx_go (hB : BY B L) (hL : L ≤ 4096) {fv : FV} {d D : Nat} (hv : okX B L fv d D) {n0 : Nat} {fl pl : Int32} : ∀ (nn fuel a n l k : Nat) (c : Nat → Nat) (st : Nat → List Nat) (K F : Nat → Int32) (N : Nat → Int64) (S I X Lt : Nat → Int32) (seen : List (List Nat)), a ≤ L → L - a < nn → n ≤ a → l ≤ a → n0 < n → PFX N S I X Lt l n0 n k c st → (∀ s, s ∈ seen ↔ ∃ i, i < k ∧ st i = s) →
    PX (m_X9_object_37 fv B (nI L) fuel (nI a) (nI d) fl pl (nI n) K F N S I X Lt (nI l) (nI n0) (if k = 0 then -1 else nI (c (k - 1) + 1)) 1) (fun u => EW (sgrp (sval B L D) B L true 125 nn a seen) (fpV u))
      (fun v u => ∃ (ks : List (Nat × Nat)) (q n' l' : Nat) (K' F' : Nat → Int32) (N' : Nat → Int64) (S' I' X' Lt' : Nat → Int32), sgrp (sval B L D) B L true 125 nn a seen = .inr (ks, q) ∧ v = nI n0 ∧ u = (nI q, nI d, fl, pl, nI n', K', F', N', S', I', X', Lt', nI l') ∧ n < n' ∧ n' + a ≤ n + q ∧ l ≤ l' ∧ l' + a ≤ l + q ∧ ag n K K' ∧ ag n F F' ∧ ag n N N' ∧ ag n S S' ∧ (∀ i, i < n → I' i = (if k = 0 then upd I n0 (nI n) else I) i) ∧ (∀ i, i < n → X' i = (if k = 0 then X else upd X (c (k - 1) + 1) (nI n)) i) ∧ ag l Lt Lt' ∧ RTO (RT B L K' F' N' S' I' X' Lt' l' D) (RKey B L K' F' N' S' Lt' l') X' n' ks n (nI n)) := by
  intro nn
  induction nn with
  | zero => intro fuel a n l k c st K F N S I X Lt seen _ h; exact absurd h (Nat.not_lt_zero _)
  | succ nn ih =>
    intro fuel a n l k c st K F N S I X Lt seen ha hnn hn hl hn0 hpf hseen
    cases fuel with
    | zero => exact PX.none
    | succ fuel =>
    simp only [m_X9_object_37, if_neg (show ¬ (1 : Int32) = 0 by decide), look_r hB hL ha, Option.bind_some, sb34]
    refine PX.ite (fun h34 => ?_) (fun h34 => ?_)
    case refine_2 =>
      simp only [m_X9_object_56, need_0, try_e]
      refine PX.er ⟨a, ?_, rfl⟩
      rw [sgrp_t]
      unfold skey
      rw [if_neg h34]
    have hlt : a < L := cb_lt (B := B) (by omega)
    simp only [m_X9_object_56, need_1, try_o]
    refine PX.try (str_r hB hL hlt hn hl) ?_ ?_
    · rintro u ⟨w, h1, h2⟩
      refine ⟨w, ?_, h2⟩
      rw [sgrp_t]
      unfold skey
      rw [if_pos h34, h1]
    rintro _ _ ⟨w, s, Lt1, hstr, rfl, rfl, gL1, hlet⟩
    dsimp only
    have hsw := sstrf_p _ _ _ _ hstr
    have hsb := sstrf_b _ _ _ _ hstr
    obtain ⟨hp1, hp2, hp3⟩ := hpf
    rw [bd_go (show n0 < 4200 by omega) (by decide), nI_clamp (show n0 < 2 ^ 31 by omega), pk_un (show n0 ≠ n by omega), hp3]
    have hkey1 : RSt (vp_updL N n (lN l)) (upd S n (nI s.length)) Lt1 (l + s.length) n s := ⟨pk_us, l, pk_uLs, Nat.le_refl _, hlet⟩
    have hcs : ∀ i, i < k → c i + 1 < 4200 ∧ (upd X n (-1)) (c i) = nI (c i + 1) ∧ (upd X n (-1)) (c i + 1) = (if i + 1 = k then -1 else nI (c (i + 1))) ∧ RSt (vp_updL N n (lN l)) (upd S n (nI s.length)) Lt1 (l + s.length) (c i) (st i) ∧ (∀ v, v ∈ st i → v ≤ 255) := by
      intro i hi
      obtain ⟨q1, q2, q3, q4, q5, q6⟩ := hp1 i hi
      exact ⟨by omega, by rw [pk_un (by omega)]; exact q3, by rw [pk_un (by omega)]; exact q4, q5.keep (pk_uLn (by omega)) (pk_un (by omega)) (by omega) gL1, q6⟩
    have hstart : (if k = 0 then (-1 : Int32) else nI (c 0)) = (if 0 = k then -1 else nI (c 0)) := by
      by_cases hk : k = 0
      · rw [if_pos hk, if_pos hk.symm]
      · rw [if_neg hk, if_neg (fun q => hk q.symm)]
    rw [hstart]
    refine obx_dup (part := a) (show n < 4200 by omega) (show l + s.length ≤ 4200 by omega) hkey1 hsb pk_us hcs ?_ ?_ sr_fuel 0 (by omega) (fun j hj => absurd hj (Nat.not_lt_zero _))
    · intro hd u hu
      refine ⟨a, ?_, hu⟩
      rw [sgrp_t]
      unfold skey
      rw [if_pos h34, hstr]
      simp only
      rw [if_pos ((hseen s).mpr hd)]
    intro hnd f
    have hns : s ∉ seen := fun q => hnd ((hseen s).mp q)
    have hb1 := sbl_le (B := B) (L := L) (a := w)
    have hb2 := sbl_le2 (B := B) (L := L) (a := w) (by omega)
    simp only [m_X9_object_78, if_pos (show (-1 : Int32) < 0 by decide), blk_r hB hL (show w ≤ L by omega), Option.bind_some, take_r hB hL hb2, sb58]
    by_cases h58 : cb B L (sbl B L w) = 58
    case neg =>
      simp only [if_neg h58, try_e]
      refine PX.er ⟨sbl B L w, ?_, rfl⟩
      rw [sgrp_t]
      unfold skey
      rw [if_pos h34, hstr]
      simp only
      rw [if_neg hns, if_neg h58]
    have hlt1 : sbl B L w < L := cb_lt (B := B) (by omega)
    have hy1 := sbl_le (B := B) (L := L) (a := sbl B L w + 1)
    have hy2 := sbl_le2 (B := B) (L := L) (a := sbl B L w + 1) (by omega)
    have hsk : skey B L a seen = .inr (sbl B L (sbl B L w + 1), s) := by
      unfold skey
      rw [if_pos h34, hstr]
      simp only
      rw [if_neg hns, if_pos h58]
    simp only [if_pos h58, try_o, blk_r hB hL (show sbl B L w + 1 ≤ L by omega), Option.bind_some]
    generalize sbl B L (sbl B L w + 1) = y at hy1 hy2 hsk ⊢
    refine PX.try (hv y (n + 1) (l + s.length) _ _ _ _ _ _ Lt1 fl pl hy2 (by omega) (by omega)) ?_ ?_
    · rintro u ⟨w', q1, q2⟩
      exact ⟨w', by rw [sgrp_t, hsk]; simp only; rw [q1], q2⟩
    rintro _ _ ⟨b, n1, l1, K1, F1, N1, S1, I1, X1, Lt2, hb, rfl, rfl, h1, h2, h3, h4, ⟨gK, gF, gN, gS, gI, gX⟩, gL, hXn, hRT⟩
    obtain ⟨hab, hbL⟩ := sval_p _ _ _ hb
    dsimp only
    have eK : ∀ j, j < n → K1 j = K j := fun j hj => by rw [← gK j (by omega), pk_un (by omega)]
    have eF : ∀ j, j < n → F1 j = F j := fun j hj => by rw [← gF j (by omega), pk_un (by omega)]
    have eN : ∀ j, j < n → N1 j = N j := fun j hj => by rw [← gN j (by omega), pk_uLn (by omega)]
    have eS : ∀ j, j < n → S1 j = S j := fun j hj => by rw [← gS j (by omega), pk_un (by omega)]
    have eI : ∀ j, j < n → I1 j = I j := fun j hj => by rw [← gI j (by omega), pk_un (by omega)]
    have eX : ∀ j, j < n → X1 j = X j := fun j hj => by rw [← gX j (by omega), pk_un (by omega)]
    have hKn : K1 n = 2 := by rw [← gK n (by omega), pk_us]
    have hFn : F1 n = nI a := by rw [← gF n (by omega), pk_us]
    have hRn : RSt N1 S1 Lt2 l1 n s := hkey1.keep (gN n (by omega)).symm (gS n (by omega)).symm h3 gL
    have tail : ∀ (I2 X2 : Nat → Int32), (∀ i, i < n → I2 i = (if k = 0 then upd I n0 (nI n) else I) i) → (∀ i, n ≤ i → I2 i = I1 i) → (∀ i, i < n → X2 i = (if k = 0 then X else upd X (c (k - 1) + 1) (nI n)) i) → (∀ i, n ≤ i → X2 i = X1 i) →
        PX (m_X9_object_172 fv B (nI L) (m_X9_object_37 fv B (nI L) fuel) (nI b) (nI d) fl pl (nI n1) K1 F1 N1 S1 I2 X2 Lt2 (nI l1) (nI n0) (nI n) (nI (n + 1))) (fun u => EW (sgrp (sval B L D) B L true 125 (nn + 1) a seen) (fpV u))
          (fun v u => ∃ (ks : List (Nat × Nat)) (q n' l' : Nat) (K' F' : Nat → Int32) (N' : Nat → Int64) (S' I' X' Lt' : Nat → Int32), sgrp (sval B L D) B L true 125 (nn + 1) a seen = .inr (ks, q) ∧ v = nI n0 ∧ u = (nI q, nI d, fl, pl, nI n', K', F', N', S', I', X', Lt', nI l') ∧ n < n' ∧ n' + a ≤ n + q ∧ l ≤ l' ∧ l' + a ≤ l + q ∧ ag n K K' ∧ ag n F F' ∧ ag n N N' ∧ ag n S S' ∧ (∀ i, i < n → I' i = (if k = 0 then upd I n0 (nI n) else I) i) ∧ (∀ i, i < n → X' i = (if k = 0 then X else upd X (c (k - 1) + 1) (nI n)) i) ∧ ag l Lt Lt' ∧ RTO (RT B L K' F' N' S' I' X' Lt' l' D) (RKey B L K' F' N' S' Lt' l') X' n' ks n (nI n)) := by
      intro I2 X2 i1 i2 x1 x2
      have hc1 := sbl_le (B := B) (L := L) (a := b)
      have hc2 := sbl_le2 (B := B) (L := L) (a := b) hbL
      simp only [m_X9_object_172, bd_go (show n < 4200 by omega) (by decide), bd_gc (show n < 4200 by omega) (by decide), nI_clamp (show n < 2 ^ 31 by omega), blk_r hB hL hbL, Option.bind_some, look_r hB hL hc2, sb44]
      have hXs : ∀ i, i < n → (upd X2 n (nI (n + 1))) i = (if k = 0 then X else upd X (c (k - 1) + 1) (nI n)) i := fun i hi => by rw [pk_un (by omega)]; exact x1 i hi
      refine PX.ite (fun h44 => ?_) (fun h44 => ?_)
      · have hlt2 : sbl B L b < L := cb_lt (B := B) (by omega)
        have hd1 := sbl_le (B := B) (L := L) (a := sbl B L b + 1)
        have hd2 := sbl_le2 (B := B) (L := L) (a := sbl B L b + 1) (by omega)
        simp only [m_X9_object_202, if_neg (show ¬ (1 : Int32) = 0 by decide), nI_1, blk_r hB hL (show sbl B L b + 1 ≤ L by omega), Option.bind_some]
        have hpf2 : PFX N1 S1 I2 (upd X2 n (nI (n + 1))) Lt2 l1 n0 n1 (k + 1) (snc c k n) (fun i => if i = k then s else st i) := by
          refine ⟨fun i hi => ?_, fun i j hij hj => ?_, ?_⟩
          · by_cases e : i = k
            · subst e
              simp only [snc_s, if_true]
              exact ⟨hn0, by omega, pk_us, by rw [pk_un (by omega), x2 (n + 1) (by omega)]; exact hXn, hRn, hsb⟩
            · obtain ⟨q1, q2, q3, q4, q5, q6⟩ := hp1 i (by omega)
              have hk0 : ¬ k = 0 := by omega
              simp only [snc_n e, if_neg e]
              refine ⟨q1, by omega, ?_, ?_, q5.keep (eN _ (by omega)) (eS _ (by omega)) (by omega) (gL1.trans gL (by omega)), q6⟩
              · rw [hXs _ (by omega), if_neg hk0, pk_un ?_]
                · exact q3
                · by_cases e2 : i = k - 1
                  · rw [e2]; omega
                  · have := hp2 i (k - 1) (by omega) (by omega)
                    omega
              · rw [hXs _ (by omega), if_neg hk0, if_neg (show ¬ i + 1 = k + 1 by omega)]
                by_cases e2 : i + 1 = k
                · have e3 : i = k - 1 := by omega
                  rw [e3, pk_us, show k - 1 + 1 = k by omega, snc_s]
                · have := hp2 i (k - 1) (by omega) (by omega)
                  rw [pk_un (by omega), snc_n e2, q4, if_neg e2]
          · by_cases e : j = k
            · subst e
              rw [snc_s, snc_n (by omega)]
              have := hp1 i (by omega)
              omega
            · rw [snc_n e, snc_n (by omega)]
              exact hp2 i j hij (by omega)
          · rw [i1 n0 hn0, if_neg (show ¬ k + 1 = 0 by omega)]
            by_cases e : k = 0
            · subst e
              rw [if_pos rfl, pk_us, snc_s]
            · rw [if_neg e, snc_n (by omega), hp3, if_neg e]
        have hse2 : ∀ x, x ∈ s :: seen ↔ ∃ i, i < k + 1 ∧ (fun i => if i = k then s else st i) i = x := by
          intro x
          rw [List.mem_cons, hseen x]
          constructor
          · rintro (q | ⟨j, j1, j2⟩)
            · exact ⟨k, by omega, by simp only [if_true]; exact q.symm⟩
            · exact ⟨j, by omega, by simp only [if_neg (show ¬ j = k by omega)]; exact j2⟩
          · rintro ⟨j, j1, j2⟩
            by_cases q : j = k
            · simp only [if_pos q] at j2
              exact Or.inl j2.symm
            · simp only [if_neg q] at j2
              exact Or.inr ⟨j, by omega, j2⟩
        have hlast : (if k + 1 = 0 then (-1 : Int32) else nI (snc c k n (k + 1 - 1) + 1)) = nI (n + 1) := by
          rw [if_neg (by omega), Nat.add_sub_cancel, snc_s]
        have hI := ih fuel (sbl B L (sbl B L b + 1)) n1 l1 (k + 1) (snc c k n) (fun i => if i = k then s else st i) K1 F1 N1 S1 I2 (upd X2 n (nI (n + 1))) Lt2 (s :: seen) hd2 (by omega) (by omega) (by omega) (by omega) hpf2 hse2
        rw [hlast] at hI
        refine hI.mono ?_ ?_
        · rintro u ⟨w', q1, q2⟩
          refine ⟨w', ?_, q2⟩
          rw [sgrp_t, hsk]
          simp only
          rw [hb]
          simp only
          rw [if_neg (by omega), if_pos h44, q1]
        · rintro v u ⟨ks, q, n', l', K', F', N', S', I', X', Lt', z1, z2, z3, z4, z5, z6, z7, z8, z9, z10, z11, z12, z13, z14, z15⟩
          rw [if_neg (show ¬ k + 1 = 0 by omega)] at z12 z13
          rw [Nat.add_sub_cancel, snc_s] at z13
          refine ⟨(a, y) :: ks, q, n', l', K', F', N', S', I', X', Lt', ?_, z2, z3, by omega, by omega, by omega, by omega, fun i hi => ?_, fun i hi => ?_, fun i hi => ?_, fun i hi => ?_, fun i hi => ?_, fun i hi => ?_, (gL1.trans gL (by omega)).trans z14 (by omega), n, n1, rfl, Nat.le_refl _, by omega, by omega, ?_, ?_, ?_, ?_⟩
          · rw [sgrp_t, hsk]
            simp only
            rw [hb]
            simp only
            rw [if_neg (by omega), if_pos h44, z1]
          · rw [← z8 i (by omega)]; exact (eK i hi).symm
          · rw [← z9 i (by omega)]; exact (eF i hi).symm
          · rw [← z10 i (by omega)]; exact (eN i hi).symm
          · rw [← z11 i (by omega)]; exact (eS i hi).symm
          · rw [z12 i (by omega)]; exact i1 i hi
          · rw [z13 i (by omega), pk_un (by omega)]; exact hXs i hi
          · exact ⟨by rw [← z8 n (by omega)]; exact hKn, by rw [← z9 n (by omega)]; exact hFn, s, w, hstr, hRn.keep (z10 n (by omega)).symm (z11 n (by omega)).symm z6 z14⟩
          · refine RT.keep z6 z14 _ _ _ _ hRT (fun i j1 j2 => ⟨(z8 i j2).symm, (z9 i j2).symm, (z10 i j2).symm, (z11 i j2).symm, ?_⟩) (fun i j1 j2 => ?_)
            · rw [z12 i j2]; exact i2 i (by omega)
            · rw [z13 i j2, pk_un (by omega), pk_un (by omega)]; exact x2 i (by omega)
          · rw [z13 n (by omega), pk_un (by omega), pk_us]
          · rw [z13 (n + 1) h1, pk_us]
            exact z15
      · simp only [m_X9_object_202, if_pos (rfl : (0 : Int32) = 0)]
        cases fuel with
        | zero => exact PX.none
        | succ fuel =>
        simp only [m_X9_object_37, if_pos (rfl : (0 : Int32) = 0), take_r hB hL hc2, sb125]
        by_cases h125 : cb B L (sbl B L b) = 125
        · simp only [if_pos h125, try_o]
          have hlt2 : sbl B L b < L := cb_lt (B := B) (by omega)
          refine PX.ok ⟨[(a, y)], sbl B L b + 1, n1, l1, K1, F1, N1, S1, I2, upd X2 n (nI (n + 1)), Lt2, ?_, rfl, rfl, by omega, by omega, by omega, by omega, fun i hi => (eK i hi).symm, fun i hi => (eF i hi).symm, fun i hi => (eN i hi).symm, fun i hi => (eS i hi).symm, i1, hXs, gL1.trans gL (by omega), n, n1, rfl, Nat.le_refl _, by omega, Nat.le_refl _, ⟨hKn, hFn, s, w, hstr, hRn⟩, ?_, pk_us, ?_⟩
          · rw [sgrp_t, hsk]
            simp only
            rw [hb]
            simp only
            rw [if_pos h125]
          · exact RT.keep (Nat.le_refl _) ag.rfl' _ _ _ _ hRT (fun i j1 j2 => ⟨rfl, rfl, rfl, rfl, i2 i (by omega)⟩) (fun i j1 j2 => by rw [pk_un (by omega)]; exact x2 i (by omega))
          · show upd X2 n (nI (n + 1)) (n + 1) = -1
            rw [pk_un (by omega), x2 (n + 1) (by omega)]
            exact hXn
        · simp only [if_neg h125, try_e]
          refine PX.er ⟨sbl B L b, ?_, rfl⟩
          rw [sgrp_t, hsk]
          simp only
          rw [hb]
          simp only
          rw [if_neg h125, if_neg h44]
    by_cases hk : k = 0
    · subst hk
      rw [if_pos rfl, if_neg (show ¬ (0 : Int32) ≤ -1 by decide), bd_go (show n0 < 4200 by omega) (by decide), nI_clamp (show n0 < 2 ^ 31 by omega)]
      refine tail (upd I1 n0 (nI n)) X1 (fun i hi => ?_) (fun i hi => pk_un (by omega)) (fun i hi => ?_) (fun _ _ => rfl)
      · rw [if_pos rfl]
        by_cases e : i = n0
        · rw [e, pk_us, pk_us]
        · rw [pk_un e, pk_un e]; exact eI i hi
      · rw [if_pos rfl]; exact eX i hi
    · obtain ⟨q1, q2, q3, q4, q5, q6⟩ := hp1 (k - 1) (by omega)
      rw [if_neg hk, if_pos (nI_pos' (show c (k - 1) + 1 < 2 ^ 31 by omega)), bd_go (show c (k - 1) + 1 < 4200 by omega) (by decide), nI_clamp (show c (k - 1) + 1 < 2 ^ 31 by omega)]
      refine tail I1 (upd X1 (c (k - 1) + 1) (nI n)) (fun i hi => ?_) (fun _ _ => rfl) (fun i hi => ?_) (fun i hi => pk_un (by omega))
      · rw [if_neg hk]; exact eI i hi
      · rw [if_neg hk]
        by_cases e : i = c (k - 1) + 1
        · rw [e, pk_us, pk_us]
        · rw [pk_un e, pk_un e]; exact eX i hi
end ROBJ
end
section
-- the reference's values and the whole text, as told
section RVAL
variable {B : Nat → Int32} {L : Nat}
theorem obx (hB : BY B L) (hL : L ≤ 4096) {fv : FV} {d D : Nat} (hD : 0 < D) (hv : okX B L fv d D) {a n l : Nat} {K F S I X Lt : Nat → Int32} {N : Nat → Int64} {fl pl : Int32} (ha : cb B L a = 123) (hn : n ≤ a) (hl : l ≤ a) :
    PX (m_X9_object fv B (nI L) (nI a) (nI d) fl pl (nI n) K F N S I X Lt (nI l)) (fun u => EW (sval B L (D + 1) a) (fpV u))
      (fun v u => ∃ (b n' l' : Nat) (K' F' : Nat → Int32) (N' : Nat → Int64) (S' I' X' Lt' : Nat → Int32), sval B L (D + 1) a = .inr b ∧ v = nI n ∧ u = (nI b, nI d, fl, pl, nI n', K', F', N', S', I', X', Lt', nI l') ∧ n < n' ∧ n' + a ≤ n + b ∧ l ≤ l' ∧ l' + a ≤ l + b ∧ agR n K F N S I X K' F' N' S' I' X' ∧ ag l Lt Lt' ∧ X' n = -1 ∧ RT B L K' F' N' S' I' X' Lt' l' (D + 1) n n' a) := by
  have haL : a < L := cb_lt (B := B) (by omega)
  have hb1 := sbl_le (B := B) (L := L) (a := a + 1)
  have hb2 := sbl_le2 (B := B) (L := L) (a := a + 1) (by omega)
  have hv0 : sval B L (D + 1) a = if cb B L (sbl B L (a + 1)) = 125 then .inr (sbl B L (a + 1) + 1) else sM (sgrp (sval B L D) B L true 125 (L + 1) (sbl B L (a + 1)) []) := by
    simp only [sval]
    rw [if_neg (by omega), if_pos (Or.inr ha), if_neg (by omega), if_pos ha, show decide (cb B L a = 123) = true from decide_eq_true ha]
  simp only [m_X9_object, node_r (show n < 4200 by omega), Option.bind_some, nI_1, blk_r hB hL (show a + 1 ≤ L by omega), look_r hB hL hb2, sb125]
  refine PX.ite (fun h => ?_) (fun h => ?_)
  · obtain ⟨f, hf⟩ : ∃ f, sr_fuel = f + 1 := ⟨sr_fuel - 1, by unfold sr_fuel; omega⟩
    have hlt : sbl B L (a + 1) < L := cb_lt (B := B) (by omega)
    simp only [hf, m_X9_object_37, if_pos (rfl : (0 : Int32) = 0), take_r hB hL hb2, sb125, if_pos h, try_o]
    refine PX.ok ⟨sbl B L (a + 1) + 1, n + 1, l, _, _, _, _, _, _, Lt, by rw [hv0, if_pos h], rfl, rfl, by omega, by omega, Nat.le_refl _, by omega, ⟨ag.rfl'.upd (Nat.le_refl _), ag.rfl'.upd (Nat.le_refl _), ag.rfl'.updL (Nat.le_refl _), ag.rfl'.upd (Nat.le_refl _), ag.rfl'.upd (Nat.le_refl _), ag.rfl'.upd (Nat.le_refl _)⟩, ag.rfl', pk_us, by omega, pk_us, Or.inr (Or.inr (Or.inl ⟨ha, pk_us, [], Or.inl ⟨?_, rfl⟩, pk_us⟩))⟩
    rw [if_pos ha]
    exact h
  · have hgo := obx_go hB hL hv (n0 := n) (fl := fl) (pl := pl) (L + 1) sr_fuel (sbl B L (a + 1)) (n + 1) l 0 id (fun _ => []) (upd K n 0) (upd F n (nI a)) (vp_updL N n 0) (upd S n 0) (upd I n (-1)) (upd X n (-1)) Lt [] hb2 (by omega) (by omega) (by omega) (by omega) ⟨fun i hi => absurd hi (Nat.not_lt_zero _), fun i j _ hj => absurd hj (Nat.not_lt_zero _), pk_us⟩ (fun s => ⟨fun q => absurd q List.not_mem_nil, fun ⟨i, hi, _⟩ => absurd hi (Nat.not_lt_zero _)⟩)
    rw [if_pos rfl] at hgo
    refine hgo.mono ?_ ?_
    · rintro u ⟨w, q1, q2⟩
      exact ⟨w, by rw [hv0, if_neg h, q1]; rfl, q2⟩
    · rintro v u ⟨ks, q, n', l', K', F', N', S', I', X', Lt', z1, z2, z3, z4, z5, z6, z7, z8, z9, z10, z11, z12, z13, z14, z15⟩
      rw [if_pos rfl] at z12 z13
      refine ⟨q, n', l', K', F', N', S', I', X', Lt', by rw [hv0, if_neg h, z1]; rfl, z2, z3, by omega, by omega, z6, by omega, ⟨fun i hi => ?_, fun i hi => ?_, fun i hi => ?_, fun i hi => ?_, fun i hi => ?_, fun i hi => ?_⟩, z14, ?_, by omega, ?_, Or.inr (Or.inr (Or.inl ⟨ha, ?_, ks, Or.inr ⟨?_, q, ?_⟩, ?_⟩))⟩
      · rw [← z8 i (by omega), pk_un (by omega)]
      · rw [← z9 i (by omega), pk_un (by omega)]
      · rw [← z10 i (by omega), pk_uLn (by omega)]
      · rw [← z11 i (by omega), pk_un (by omega)]
      · rw [z12 i (by omega), pk_un (by omega), pk_un (by omega)]
      · rw [z13 i (by omega), pk_un (by omega)]
      · rw [z13 n (by omega), pk_us]
      · rw [← z9 n (by omega), pk_us]
      · rw [← z8 n (by omega), pk_us]
      · rw [if_pos ha]
        exact h
      · rw [if_pos ha, show decide (cb B L a = 123) = true from decide_eq_true ha]
        exact z1
      · rw [z12 n (by omega), pk_us]
        exact z15
theorem wdl_s : ∀ w, w < 3 → ∀ j, j < lenS.getD (40 + w) 0 → (wdl w).length = lenS.getD (40 + w) 0 ∧ (bytS.getD (40 + w) []).getD j 0 = nI ((wdl w).getD j 0) ∧ (wdl w).getD j 0 < 128 := by decide +kernel
theorem len40 : ∀ w, w < 3 → 0 < lenS.getD (40 + w) 0 := by decide +kernel
theorem wrx_go (hB : BY B L) (hL : L ≤ 4096) {fv : FV} {d n l w : Nat} {K F S I X Lt : Nat → Int32} {N : Nat → Int64} {fl pl x2 : Int32} (hw : w < 3) : ∀ (t : List Nat) (fuel j a : Nat), (wdl w).drop j = t → j ≤ (wdl w).length → a ≤ L →
    PX (m_X9_value_169 fv B (nI L) fuel (nI a) (nI d) fl pl (nI n) K F N S I X Lt (nI l) x2 (40 + w) (nI j)) (fun u => EW (swd B L t a) (fpV u))
      (fun v u => ∃ b, swd B L t a = .inr b ∧ v = x2 ∧ u = (nI b, nI d, fl, pl, nI n, K, F, N, S, I, X, Lt, nI l)) := by
  have hlen : lenS.getD (40 + w) 0 = (wdl w).length := ((wdl_s w hw 0 (len40 w hw)).1).symm
  have h8 : (wdl w).length < 8 := by
    have : ∀ w, w < 3 → (wdl w).length < 8 := by decide +kernel
    exact this w hw
  intro t
  induction t with
  | nil =>
    intro fuel j a hd hj ha
    cases fuel with
    | zero => exact PX.none
    | succ fuel =>
    have hj2 : (wdl w).length ≤ j := List.drop_eq_nil_iff.mp hd
    simp only [m_X9_value_169, if_neg (show ¬ nS ≤ 40 + w by unfold nS; omega), len_eq (40 + w) (by omega), hlen, Option.bind_some]
    rw [if_pos (nI_le hj2 (by omega))]
    exact PX.ok ⟨a, rfl, rfl, rfl⟩
  | cons c t ih =>
    intro fuel j a hd hj ha
    cases fuel with
    | zero => exact PX.none
    | succ fuel =>
    have hj2 : j < (wdl w).length := by
      apply Nat.lt_of_not_le
      intro q
      rw [List.drop_eq_nil_iff.mpr q] at hd
      cases hd
    have hd2 := List.drop_eq_getElem_cons hj2
    rw [hd, ← ls_get hj2] at hd2
    have hc : c = (wdl w).getD j 0 := (List.cons.inj hd2).1
    obtain ⟨-, w2, w3⟩ := wdl_s w hw j (by omega)
    simp only [m_X9_value_169, if_neg (show ¬ nS ≤ 40 + w by unfold nS; omega), len_eq (40 + w) (by omega), hlen, Option.bind_some]
    rw [if_neg (nI_ge hj2 (by omega)), chr_eq (40 + w) (by omega) j (by omega)]
    simp only [Option.bind_some, w2, take_r hB hL ha, swd]
    have hbe : (sbI (cb B L a) = nI ((wdl w).getD j 0)) ↔ cb B L a = c := by
      rw [hc]
      exact sb_e (cb_le B L a) w3
    by_cases h : cb B L a = c
    · have hlt : a < L := cb_lt (B := B) (by rw [h, hc]; omega)
      rw [if_pos (hbe.mpr h), if_pos h, try_o, nI_1]
      exact ih fuel (j + 1) (a + 1) (List.cons.inj hd2).2.symm (by omega) (by omega)
    · rw [if_neg (fun q => h (hbe.mp q)), if_neg h, try_e]
      exact PX.er ⟨a, rfl, rfl⟩
theorem valx (hB : BY B L) (hL : L ≤ 4096) : ∀ (D d : Nat), d ≤ 24 → okX B L (m_X9_value D) d (25 - d) := by
  intro D
  induction D with
  | zero => intro d _ a n l K F N S I X Lt fl pl _ _ _; exact PX.none
  | succ D ih =>
    intro d hd a n l K F N S I X Lt fl pl ha hn hl
    obtain ⟨e, he⟩ : ∃ e, 25 - d = e + 1 := ⟨24 - d, by omega⟩
    rw [he]
    have h0 := cb_le B L a
    simp only [m_X9_value, look_r hB hL ha, Option.bind_some, sb123, sb91, sb34, sb45, sbl48, sbg57]
    have brk : (cb B L a = 91 ∨ cb B L a = 123) → PX (m_X9_value_17 (m_X9_value D) B (nI L) (nI a) (nI d) fl pl (nI n) K F N S I X Lt (nI l) (sbI (cb B L a))) (fun u => EW (sval B L (e + 1) a) (fpV u))
      (fun v u => ∃ (b n' l' : Nat) (K' F' : Nat → Int32) (N' : Nat → Int64) (S' I' X' Lt' : Nat → Int32), sval B L (e + 1) a = .inr b ∧ v = nI n ∧ u = (nI b, nI d, fl, pl, nI n', K', F', N', S', I', X', Lt', nI l') ∧ n < n' ∧ n' + a ≤ n + b ∧ l ≤ l' ∧ l' + a ≤ l + b ∧ agR n K F N S I X K' F' N' S' I' X' ∧ ag l Lt Lt' ∧ X' n = -1 ∧ RT B L K' F' N' S' I' X' Lt' l' (e + 1) n n' a) := by
      intro hc
      have hlt : a < L := cb_lt (B := B) (by omega)
      by_cases h24 : 24 ≤ d
      · simp only [m_X9_value_17, if_pos (show (24 : Int32) ≤ nI d from nI_le (a := 24) h24 (by omega)), m_X9_value_32, need_0, try_e]
        refine PX.er ⟨a, ?_, rfl⟩
        simp only [sval]
        rw [if_neg (by omega), if_pos hc, if_pos (by omega)]
      · simp only [m_X9_value_17, if_neg (show ¬ (24 : Int32) ≤ nI d from nI_ge (b := 24) (by omega) (by omega)), m_X9_value_32, need_1, try_o, nI_1, sb123]
        have hv := ih (d + 1) (by omega)
        rw [show 25 - (d + 1) = e by omega] at hv
        refine PX.ite (fun h => ?_) (fun h => ?_)
        · refine PX.try (obx hB hL (by omega) hv h hn hl) (fun u hu => hu) ?_
          rintro _ _ ⟨b, n', l', K', F', N', S', I', X', Lt', z1, rfl, rfl, z⟩
          exact PX.ok ⟨b, n', l', K', F', N', S', I', X', Lt', z1, rfl, by rw [nI_pred], z⟩
        · refine PX.try (lsx hB hL (by omega) hv (hc.resolve_right h) hn hl) (fun u hu => hu) ?_
          rintro _ _ ⟨b, n', l', K', F', N', S', I', X', Lt', z1, rfl, rfl, z⟩
          exact PX.ok ⟨b, n', l', K', F', N', S', I', X', Lt', z1, rfl, by rw [nI_pred], z⟩
    have hagn : ∀ (k y : Int32) (z : Int64), agR n K F N S I X (upd K n k) (upd F n (nI a)) (vp_updL N n z) (upd S n y) (upd I n (-1)) (upd X n (-1)) := fun k y z => ⟨ag.rfl'.upd (Nat.le_refl _), ag.rfl'.upd (Nat.le_refl _), ag.rfl'.updL (Nat.le_refl _), ag.rfl'.upd (Nat.le_refl _), ag.rfl'.upd (Nat.le_refl _), ag.rfl'.upd (Nat.le_refl _)⟩
    have hnum : (cb B L a = 45 ∨ (48 ≤ cb B L a ∧ cb B L a ≤ 57)) → PX (mr_try (m_X9_number B (nI L) (nI a) fl pl (nI n) K F N S I X) (fun r (x : Int32 × Int32 × Int32 × Int32 × (Nat → Int32) × (Nat → Int32) × (Nat → Int64) × (Nat → Int32) × (Nat → Int32) × (Nat → Int32)) => some (Except.ok (r, (x.1, nI d, x.2.1, x.2.2.1, x.2.2.2.1, x.2.2.2.2.1, x.2.2.2.2.2.1, x.2.2.2.2.2.2.1, x.2.2.2.2.2.2.2.1, x.2.2.2.2.2.2.2.2.1, x.2.2.2.2.2.2.2.2.2, Lt, nI l)))) (fun x => (x.1, nI d, x.2.1, x.2.2.1, x.2.2.2.1, x.2.2.2.2.1, x.2.2.2.2.2.1, x.2.2.2.2.2.2.1, x.2.2.2.2.2.2.2.1, x.2.2.2.2.2.2.2.2.1, x.2.2.2.2.2.2.2.2.2, Lt, nI l))) (fun u => EW (sval B L (e + 1) a) (fpV u))
      (fun v u => ∃ (b n' l' : Nat) (K' F' : Nat → Int32) (N' : Nat → Int64) (S' I' X' Lt' : Nat → Int32), sval B L (e + 1) a = .inr b ∧ v = nI n ∧ u = (nI b, nI d, fl, pl, nI n', K', F', N', S', I', X', Lt', nI l') ∧ n < n' ∧ n' + a ≤ n + b ∧ l ≤ l' ∧ l' + a ≤ l + b ∧ agR n K F N S I X K' F' N' S' I' X' ∧ ag l Lt Lt' ∧ X' n = -1 ∧ RT B L K' F' N' S' I' X' Lt' l' (e + 1) n n' a) := by
      intro hc
      have hlt : a < L := cb_lt (B := B) (by omega)
      have hv : sval B L (e + 1) a = snum B L a := by
        simp only [sval]
        rw [if_neg (by omega), if_neg (by omega), if_neg (by omega), if_neg (by omega), if_neg (by omega), if_pos hc]
      refine PX.try (num_r hB hL hlt hn) ?_ ?_
      · rintro u ⟨w, q1, q2⟩
        exact ⟨w, hv.trans q1, q2⟩
      · rintro _ _ ⟨b, sz, q1, rfl, rfl⟩
        have hq := snum_p q1
        exact PX.ok ⟨b, n + 1, l, _, _, _, _, _, _, Lt, hv.trans q1, rfl, rfl, by omega, by omega, Nat.le_refl _, by omega, hagn _ _ _, ag.rfl', pk_us, by omega, pk_us, Or.inr (Or.inr (Or.inr (Or.inl ⟨hc, pk_us, pk_uLs⟩)))⟩
    have hwrd : ¬ cb B L a = 34 → ¬ (cb B L a = 91 ∨ cb B L a = 123) → ¬ (cb B L a = 45 ∨ (48 ≤ cb B L a ∧ cb B L a ≤ 57)) → PX (m_X9_value_114 (m_X9_value D) B (nI L) (nI a) (nI d) fl pl (nI n) K F N S I X Lt (nI l) (sbI (cb B L a))) (fun u => EW (sval B L (e + 1) a) (fpV u))
      (fun v u => ∃ (b n' l' : Nat) (K' F' : Nat → Int32) (N' : Nat → Int64) (S' I' X' Lt' : Nat → Int32), sval B L (e + 1) a = .inr b ∧ v = nI n ∧ u = (nI b, nI d, fl, pl, nI n', K', F', N', S', I', X', Lt', nI l') ∧ n < n' ∧ n' + a ≤ n + b ∧ l ≤ l' ∧ l' + a ≤ l + b ∧ agR n K F N S I X K' F' N' S' I' X' ∧ ag l Lt Lt' ∧ X' n = -1 ∧ RT B L K' F' N' S' I' X' Lt' l' (e + 1) n n' a) := by
      intro c1 c2 c3
      have go : ∀ (w : Nat) (kd : Int32), w < 3 → sval B L (e + 1) a = swd B L (wdl w) a → (∀ b, swd B L (wdl w) a = .inr b → a < b ∧ ((cb B L a = 116 ∧ kd = 4) ∨ (cb B L a = 102 ∧ kd = 5) ∨ (cb B L a = 110 ∧ kd = 6))) → PX (m_X9_value_169 (m_X9_value D) B (nI L) sr_fuel (nI a) (nI d) fl pl (nI (n + 1)) (upd K n kd) (upd F n (nI a)) (vp_updL N n 0) (upd S n 0) (upd I n (-1)) (upd X n (-1)) Lt (nI l) (nI n) (40 + w) (nI 0)) (fun u => EW (sval B L (e + 1) a) (fpV u))
          (fun v u => ∃ (b n' l' : Nat) (K' F' : Nat → Int32) (N' : Nat → Int64) (S' I' X' Lt' : Nat → Int32), sval B L (e + 1) a = .inr b ∧ v = nI n ∧ u = (nI b, nI d, fl, pl, nI n', K', F', N', S', I', X', Lt', nI l') ∧ n < n' ∧ n' + a ≤ n + b ∧ l ≤ l' ∧ l' + a ≤ l + b ∧ agR n K F N S I X K' F' N' S' I' X' ∧ ag l Lt Lt' ∧ X' n = -1 ∧ RT B L K' F' N' S' I' X' Lt' l' (e + 1) n n' a) := by
        intro w kd hw hs hcl
        refine (wrx_go hB hL hw (wdl w) sr_fuel 0 a rfl (Nat.zero_le _) ha).mono ?_ ?_
        · rintro u ⟨x, q1, q2⟩
          exact ⟨x, hs.trans q1, q2⟩
        · rintro _ _ ⟨b, q1, rfl, rfl⟩
          obtain ⟨p1, p2⟩ := hcl b q1
          refine ⟨b, n + 1, l, _, _, _, _, _, _, Lt, hs.trans q1, rfl, rfl, by omega, by omega, Nat.le_refl _, by omega, hagn _ _ _, ag.rfl', pk_us, by omega, pk_us, Or.inr (Or.inr (Or.inr (Or.inr ?_)))⟩
          rw [pk_us]
          exact p2
      have e116 : (sbI (cb B L a) = 116) = (cb B L a = 116) := sb116
      have e102 : (sbI (cb B L a) = 102) = (cb B L a = 102) := sb102
      have hz : (0 : Int32) = nI 0 := nI_0.symm
      simp only [m_X9_value_114, m_X9_value_137, node_r (show n < 4200 by omega), Option.bind_some, e116, e102]
      by_cases c4 : cb B L a = 116
      · simp only [if_pos c4]
        refine go 0 4 (by decide) ?_ (fun b hb => ?_)
        · simp only [sval]
          rw [if_neg c1, if_neg c2, if_neg (by omega), if_neg (by omega), if_pos c4]
        · have := swd_p _ _ _ (wdl_b 0 (by decide)) ha hb
          have e4 : (wdl 0).length = 4 := rfl
          exact ⟨by omega, Or.inl ⟨c4, rfl⟩⟩
      · by_cases c5 : cb B L a = 102
        · simp only [if_neg c4, if_pos c5]
          refine go 1 5 (by decide) ?_ (fun b hb => ?_)
          · simp only [sval]
            rw [if_neg c1, if_neg c2, if_pos c5]
          · have := swd_p _ _ _ (wdl_b 1 (by decide)) ha hb
            have e4 : (wdl 1).length = 5 := rfl
            exact ⟨by omega, Or.inr (Or.inl ⟨c5, rfl⟩)⟩
        · simp only [if_neg c4, if_neg c5]
          have hw2 : wdl 2 = [110, 117, 108, 108] := rfl
          refine go 2 6 (by decide) ?_ (fun b hb => ?_)
          · simp only [sval]
            rw [if_neg c1, if_neg c2, if_neg c5]
            by_cases c6 : cb B L a = 110
            · rw [if_pos c6]
            · rw [if_neg c6, if_neg c4, if_neg c3, hw2]
              simp only [swd]
              rw [if_neg c6]
          · have := swd_p _ _ _ (wdl_b 2 (by decide)) ha hb
            have e4 : (wdl 2).length = 4 := rfl
            refine ⟨by omega, Or.inr (Or.inr ⟨?_, rfl⟩)⟩
            by_cases c6 : cb B L a = 110
            · exact c6
            · rw [hw2] at hb
              simp only [swd] at hb
              rw [if_neg c6] at hb
              cases hb
    refine PX.ite (fun h => brk (Or.inr h)) (fun h123 => PX.ite (fun h => brk (Or.inl h)) (fun h91 => PX.ite (fun h => ?_) (fun h34 => PX.ite (fun h => hnum (Or.inl h)) (fun h45 => PX.ite (fun h => hwrd h34 (by omega) (by omega)) (fun h48 => PX.ite (fun h => hwrd h34 (by omega) (by omega)) (fun h57 => hnum (by omega)))))))
    have hlt : a < L := cb_lt (B := B) (by omega)
    have hv : sval B L (e + 1) a = sM (sstr B L (a + 1)) := by
      simp only [sval]
      rw [if_pos h]
    refine PX.try (str_r hB hL hlt hn hl) ?_ ?_
    · rintro u ⟨w, q1, q2⟩
      exact ⟨w, by rw [hv, q1]; rfl, q2⟩
    · rintro _ _ ⟨b, s, Lt', q1, rfl, rfl, q2, q3⟩
      have hq := sstrf_p _ _ _ _ q1
      exact PX.ok ⟨b, n + 1, l + s.length, _, _, _, _, _, _, Lt', by rw [hv, q1]; rfl, rfl, rfl, by omega, by omega, by omega, by omega, hagn _ _ _, q2, pk_us, by omega, pk_us, Or.inl ⟨h, pk_us, s, b, q1, pk_us, l, pk_uLs, Nat.le_refl _, q3⟩⟩
end RVAL
end
section
-- a value in the class's rows and in the reference's, side by side
def litN (w : Nat) : List Nat := (bytS.getD w []).map Int32.toNatClampNeg
theorem lit_len : ∀ w, w < 75 → (litN w).length = lenS.getD w 0 := by decide +kernel
theorem lit_b : ∀ w, w < 75 → ∀ c, c ∈ litN w → c < 128 := by decide +kernel
theorem lit_c : ∀ w, w < 75 → ∀ j, j < lenS.getD w 0 → (bytS.getD w []).getD j 0 = nI ((litN w).getD j 0) := by decide +kernel
theorem lit_len40 : ∀ w, w < 75 → (litN w).length < 40 := by decide +kernel
def ts (T : Nat → Int32) (L p : Nat) : List Nat := match sstr T L (p + 1) with
  | .inr (s, _) => s
  | .inl _ => []
theorem ts_eq {T : Nat → Int32} {L p q : Nat} {s : List Nat} (h : sstr T L (p + 1) = .inr (s, q)) : ts T L p = s := by
  unfold ts
  rw [h]
def kdn (b : Nat) : Int32 := if b = 34 then 2 else if b = 91 then 1 else if b = 123 then 0 else if b = 45 ∨ (48 ≤ b ∧ b ≤ 57) then 3 else if b = 116 then 4 else if b = 102 then 5 else 6
section BOTH
variable (T : Nat → Int32) (L : Nat) (Sd In Nx Am : Nat → Int32) (K F : Nat → Int32) (N : Nat → Int64) (S I X Lt : Nat → Int32) (l : Nat)
def VV (n p q : Nat) : Prop := ∃ d m, sval T L d p = .inr q ∧ TRE T L Sd In Nx Am d p ∧ RT T L K F N S I X Lt l d n m p ∧ m ≤ 4200 ∧ ¬ (48 ≤ cb T L q ∧ cb T L q ≤ 57) ∧ d ≤ 25
def LCH : List (Nat × Nat) → Nat → Nat → Int32 → Int32 → Prop
  | [], lo, hi, hc, hr => lo ≤ hi ∧ hc = -1 ∧ hr = -1
  | k :: t, lo, hi, hc, hr => ∃ c b, lo ≤ k.2 ∧ hc = nI k.2 ∧ hr = nI c ∧ VV T L Sd In Nx Am K F N S I X Lt l c k.2 b ∧ b < hi ∧ LCH t (b + 1) hi (Nx k.2) (X c)
def KEYB (c : Nat) (k : Nat × Nat) (s : List Nat) : Prop := In k.1 = nI k.2 ∧ X c = nI (c + 1) ∧ cb T L k.1 = 34 ∧ ts T L k.1 = s ∧ SAID Sd Am k.1 s ∧ RSt N S Lt l c s ∧ K c = 2 ∧ c + 1 < 4200 ∧ k.1 + s.length + 3 ≤ k.2 ∧ (∀ v, v ∈ s → v ≤ 255)
def OCH : List (Nat × Nat) → Nat → Nat → Int32 → Int32 → Prop
  | [], lo, hi, hc, hr => lo ≤ hi ∧ hc = -1 ∧ hr = -1
  | k :: t, lo, hi, hc, hr => ∃ c b s, lo ≤ k.1 ∧ hc = nI k.1 ∧ hr = nI c ∧ KEYB T L Sd In Am K N S X Lt l c k s ∧ VV T L Sd In Nx Am K F N S I X Lt l (c + 1) k.2 b ∧ b < hi ∧ OCH t (b + 1) hi (Nx k.1) (X (c + 1))
end BOTH
section BOTH2
variable {T : Nat → Int32} {L : Nat} {Sd In Nx Am K F S I X Lt : Nat → Int32} {N : Nat → Int64} {l : Nat}
theorem lch_of {d m : Nat} (hm : m ≤ 4200) (hd25 : d ≤ 25) : ∀ (ks : List (Nat × Nat)) (n part q lo : Nat) (seen : List (List Nat)) (hc hr : Int32), sgrp (sval T L d) T L false 93 n part seen = .inr (ks, q) → CHN Nx ks hc → (∀ k, k ∈ ks → TRE T L Sd In Nx Am d k.2) → RTL (RT T L K F N S I X Lt l d) X m ks lo hr → LCH T L Sd In Nx Am K F N S I X Lt l ks part q hc hr := by
  intro ks
  induction ks with
  | nil =>
    intro n part q lo seen hc hr hs
    have := (sgrp_p (by decide) (sval_p d) _ _ _ _ _ hs).2.2.1
    exact absurd this (by simp)
  | cons k t ih =>
    intro n part q lo seen hc hr hs h1 h2 h3
    cases n with
    | zero => cases hs
    | succ n =>
    have hq := sgrp_p (by decide) (sval_p d) _ _ _ _ _ hs
    rw [sgrp_f] at hs
    cases hv : sval T L d part with
    | inl w => rw [hv] at hs; cases hs
    | inr b =>
      rw [hv] at hs
      simp only at hs
      obtain ⟨c, e, r1, r2, r3, r4, r5, r6⟩ := h3
      have hb := sbl_le (B := T) (L := L) (a := b)
      have hnd : cb T L (sbl T L b) = 93 ∨ cb T L (sbl T L b) = 44 → ¬ (48 ≤ cb T L b ∧ cb T L b ≤ 57) := fun hx hd => by
        rw [sbl_s, if_neg (by omega)] at hx
        omega
      by_cases c1 : cb T L (sbl T L b) = 93
      · rw [if_pos c1] at hs
        cases hs
        exact ⟨c, b, Nat.le_refl _, h1.1, r1, ⟨d, e, hv, h2 _ List.mem_cons_self, r5, by omega, hnd (Or.inl c1), hd25⟩, by omega, by omega, h1.2, r6⟩
      · rw [if_neg c1] at hs
        by_cases c2 : cb T L (sbl T L b) = 44
        · rw [if_pos c2] at hs
          cases hr2 : sgrp (sval T L d) T L false 93 n (sbl T L (sbl T L b + 1)) ([] :: seen) with
          | inl w => rw [hr2] at hs; cases hs
          | inr y =>
            obtain ⟨t2, q2⟩ := y
            rw [hr2] at hs
            cases hs
            have g := ih n _ _ e _ _ _ hr2 h1.2 (fun k hk => h2 k (List.mem_cons_of_mem _ hk)) r6
            have hz := sgrp_p (by decide) (sval_p d) _ _ _ _ _ hr2
            have hz2 := sbl_le (B := T) (L := L) (a := sbl T L b + 1)
            refine ⟨c, b, Nat.le_refl _, h1.1, r1, ⟨d, e, hv, h2 _ List.mem_cons_self, r5, by omega, hnd (Or.inr c2), hd25⟩, by omega, ?_⟩
            cases t with
            | nil => exact absurd hz.2.2.1 (by simp)
            | cons k2 t2 =>
              obtain ⟨c', b', g1, g2, g3, g4⟩ := g
              exact ⟨c', b', by omega, g2, g3, g4⟩
        · rw [if_neg c2] at hs; cases hs
theorem och_of {d m : Nat} (hm : m ≤ 4200) (hd25 : d ≤ 25) : ∀ (ks : List (Nat × Nat)) (n part q lo : Nat) (seen : List (List Nat)) (hc hr : Int32), sgrp (sval T L d) T L true 125 n part seen = .inr (ks, q) → CHN Nx ks hc → (∀ k, k ∈ ks → TRE T L Sd In Nx Am d k.2 ∧ In k.1 = nI k.2 ∧ ∃ s q, sstr T L (k.1 + 1) = .inr (s, q) ∧ SAID Sd Am k.1 s) → RTO (RT T L K F N S I X Lt l d) (RKey T L K F N S Lt l) X m ks lo hr → OCH T L Sd In Nx Am K F N S I X Lt l ks part q hc hr := by
  intro ks
  induction ks with
  | nil =>
    intro n part q lo seen hc hr hs
    have := (sgrp_p (by decide) (sval_p d) _ _ _ _ _ hs).2.2.1
    exact absurd this (by simp)
  | cons k t ih =>
    intro n part q lo seen hc hr hs h1 h2 h3
    cases n with
    | zero => cases hs
    | succ n =>
    have hq := sgrp_p (by decide) (sval_p d) _ _ _ _ _ hs
    rw [sgrp_t] at hs
    cases hk : skey T L part seen with
    | inl w => rw [hk] at hs; cases hs
    | inr vs =>
    obtain ⟨v, s⟩ := vs
    rw [hk] at hs
    simp only at hs
    obtain ⟨e0, k1, k2, k3, k4, k5, k6, k7, k8⟩ := skey_p hk
    cases hv : sval T L d v with
    | inl w => rw [hv] at hs; cases hs
    | inr b =>
      rw [hv] at hs
      simp only at hs
      obtain ⟨c, e, r1, r2, r3, r4, r5, r6, r7, r8⟩ := h3
      have hb := sbl_le (B := T) (L := L) (a := b)
      have hnd : cb T L (sbl T L b) = 125 ∨ cb T L (sbl T L b) = 44 → ¬ (48 ≤ cb T L b ∧ cb T L b ≤ 57) := fun hx hd => by
        rw [sbl_s, if_neg (by omega)] at hx
        omega
      have hvb := sval_p _ _ _ hv
      have hkk : k = (part, v) := by
        by_cases c1 : cb T L (sbl T L b) = 125
        · rw [if_pos c1] at hs; cases hs; rfl
        · rw [if_neg c1] at hs
          by_cases c2 : cb T L (sbl T L b) = 44
          · rw [if_pos c2] at hs
            cases hr2 : sgrp (sval T L d) T L true 125 n (sbl T L (sbl T L b + 1)) (s :: seen) with
            | inl w => rw [hr2] at hs; cases hs
            | inr y => rw [hr2] at hs; cases hs; rfl
          · rw [if_neg c2] at hs; cases hs
      subst hkk
      have hkey : KEYB T L Sd In Am K N S X Lt l c (part, v) s := by
        obtain ⟨_, t2, s', q', t3, t4⟩ := h2 _ List.mem_cons_self
        obtain ⟨u1, u2, s'', q'', u3, u4⟩ := r5
        have e1 : s' = s := by
          have := t3.symm.trans k2
          cases this
          rfl
        have e2 : s'' = s := by
          have := u3.symm.trans k2
          cases this
          rfl
        subst e1
        subst e2
        exact ⟨t2, r7, k1, ts_eq k2, t4, u4, u1, by omega, by simp only; omega, sstrf_b _ _ _ _ k2⟩
      by_cases c1 : cb T L (sbl T L b) = 125
      · rw [if_pos c1] at hs
        cases hs
        exact ⟨c, b, s, Nat.le_refl _, h1.1, r1, hkey, ⟨d, e, hv, (h2 _ List.mem_cons_self).1, r6, by omega, hnd (Or.inl c1), hd25⟩, by omega, by omega, h1.2, r8⟩
      · rw [if_neg c1] at hs
        by_cases c2 : cb T L (sbl T L b) = 44
        · rw [if_pos c2] at hs
          cases hr2 : sgrp (sval T L d) T L true 125 n (sbl T L (sbl T L b + 1)) (s :: seen) with
          | inl w => rw [hr2] at hs; cases hs
          | inr y =>
            obtain ⟨t2, q2⟩ := y
            rw [hr2] at hs
            cases hs
            have g := ih n _ _ e _ _ _ hr2 h1.2 (fun k hk => h2 k (List.mem_cons_of_mem _ hk)) r8
            have hz := sgrp_p (by decide) (sval_p d) _ _ _ _ _ hr2
            have hz2 := sbl_le (B := T) (L := L) (a := sbl T L b + 1)
            refine ⟨c, b, s, Nat.le_refl _, h1.1, r1, hkey, ⟨d, e, hv, (h2 _ List.mem_cons_self).1, r6, by omega, hnd (Or.inr c2), hd25⟩, by omega, ?_⟩
            cases t with
            | nil => exact absurd hz.2.2.1 (by simp)
            | cons k2 t2 =>
              obtain ⟨c', b', s', g1, g2, g3, g4⟩ := g
              exact ⟨c', b', s', by omega, g2, g3, g4⟩
        · rw [if_neg c2] at hs; cases hs
theorem VV.base {n p q : Nat} (h : VV T L Sd In Nx Am K F N S I X Lt l n p q) : p < q ∧ q ≤ L ∧ n < 4200 ∧ F n = nI p := by
  obtain ⟨d, m, h1, h2, h3, h4, h5, h25⟩ := h
  have hp := sval_p _ _ _ h1
  cases d with
  | zero => cases h1
  | succ d => exact ⟨hp.1, hp.2, by have := h3.1; omega, h3.2.1⟩
theorem VV.kn {n p q : Nat} (h : VV T L Sd In Nx Am K F N S I X Lt l n p q) : K n = kdn (cb T L p) := by
  obtain ⟨d, m, h1, h2, h3, h4, h5, h25⟩ := h
  cases d with
  | zero => cases h1
  | succ d =>
    unfold kdn
    rcases h3.2.2 with ⟨c1, c2, _⟩ | ⟨c1, c2, _⟩ | ⟨c1, c2, _⟩ | ⟨c1, c2, _⟩ | ⟨c1, c2⟩ | ⟨c1, c2⟩ | ⟨c1, c2⟩
    · rw [if_pos c1]; exact c2
    · rw [if_neg (by omega), if_pos c1]; exact c2
    · rw [if_neg (by omega), if_neg (by omega), if_pos c1]; exact c2
    · rw [if_neg (by omega), if_neg (by omega), if_neg (by omega), if_pos c1]; exact c2
    · rw [if_neg (by omega), if_neg (by omega), if_neg (by omega), if_neg (by omega), if_pos c1]; exact c2
    · rw [if_neg (by omega), if_neg (by omega), if_neg (by omega), if_neg (by omega), if_neg (by omega), if_pos c1]; exact c2
    · rw [if_neg (by omega), if_neg (by omega), if_neg (by omega), if_neg (by omega), if_neg (by omega), if_neg (by omega)]; exact c2
theorem VV.any {n p q : Nat} (h : VV T L Sd In Nx Am K F N S I X Lt l n p q) : cb T L p = 34 ∨ cb T L p = 91 ∨ cb T L p = 123 ∨ (cb T L p = 45 ∨ (48 ≤ cb T L p ∧ cb T L p ≤ 57)) ∨ cb T L p = 116 ∨ cb T L p = 102 ∨ cb T L p = 110 := by
  obtain ⟨d, m, h1, h2, h3, h4, h5, h25⟩ := h
  cases d with
  | zero => cases h1
  | succ d =>
    rcases h3.2.2 with ⟨c1, c2, _⟩ | ⟨c1, c2, _⟩ | ⟨c1, c2, _⟩ | ⟨c1, c2, _⟩ | ⟨c1, c2⟩ | ⟨c1, c2⟩ | ⟨c1, c2⟩ <;> omega
theorem VV.str {n p q : Nat} (h : VV T L Sd In Nx Am K F N S I X Lt l n p q) (hc : cb T L p = 34) : ∃ s, sstr T L (p + 1) = .inr (s, q) ∧ ts T L p = s ∧ SAID Sd Am p s ∧ RSt N S Lt l n s ∧ p + s.length + 2 ≤ q ∧ (∀ v, v ∈ s → v ≤ 255) := by
  obtain ⟨d, m, h1, h2, h3, h4, h5, h25⟩ := h
  cases d with
  | zero => cases h1
  | succ d =>
    obtain ⟨s, q1, g1, g2⟩ := h2.1 hc
    have e : q = q1 := by
      simp only [sval] at h1
      rw [if_pos hc, g1] at h1
      cases h1
      rfl
    subst e
    have hp := sstrf_p _ _ _ _ g1
    rcases h3.2.2 with ⟨c1, c2, s', q', g3, g4⟩ | ⟨c1, c2, _⟩ | ⟨c1, c2, _⟩ | ⟨c1, c2, _⟩ | ⟨c1, c2⟩ | ⟨c1, c2⟩ | ⟨c1, c2⟩
    · have e2 := g3.symm.trans g1
      have e3 : s' = s := by
        cases e2
        rfl
      subst e3
      exact ⟨s', g1, ts_eq g1, g2, g4, by omega, sstrf_b _ _ _ _ g1⟩
    all_goals omega
theorem VV.nd {n p q : Nat} (h : VV T L Sd In Nx Am K F N S I X Lt l n p q) : ¬ (48 ≤ cb T L q ∧ cb T L q ≤ 57) := by
  obtain ⟨d, m, h1, h2, h3, h4, h5, h25⟩ := h
  exact h5
theorem VV.num {n p q : Nat} (h : VV T L Sd In Nx Am K F N S I X Lt l n p q) (hc : cb T L p = 45 ∨ (48 ≤ cb T L p ∧ cb T L p ≤ 57)) : N n = snv T L p ∧ snum T L p = .inr q := by
  obtain ⟨d, m, h1, h2, h3, h4, h5, h25⟩ := h
  cases d with
  | zero => cases h1
  | succ d =>
    refine ⟨?_, ?_⟩
    · rcases h3.2.2 with ⟨c1, c2, _⟩ | ⟨c1, c2, _⟩ | ⟨c1, c2, _⟩ | ⟨c1, c2, c3⟩ | ⟨c1, c2⟩ | ⟨c1, c2⟩ | ⟨c1, c2⟩
      case inr.inr.inr.inl => exact c3
      all_goals omega
    · simp only [sval] at h1
      rw [if_neg (by omega), if_neg (by omega), if_neg (by omega), if_neg (by omega), if_neg (by omega), if_pos hc] at h1
      exact h1
theorem gk_eq {d p : Nat} {a b : List (Nat × Nat)} (h1 : GK T L d p a) (h2 : GK T L d p b) : a = b := by
  rcases h1 with ⟨x1, x2⟩ | ⟨x1, q, x2⟩
  · rcases h2 with ⟨y1, y2⟩ | ⟨y1, _⟩
    · rw [x2, y2]
    · exact absurd x1 y1
  · rcases h2 with ⟨y1, _⟩ | ⟨_, q', y2⟩
    · exact absurd y1 x1
    · have := x2.symm.trans y2
      cases this
      rfl
theorem LCH.lo {ks : List (Nat × Nat)} {lo lo' hi : Nat} {hc hr : Int32} (h : LCH T L Sd In Nx Am K F N S I X Lt l ks lo hi hc hr) (hl : lo' ≤ lo) : LCH T L Sd In Nx Am K F N S I X Lt l ks lo' hi hc hr := by
  cases ks with
  | nil => exact ⟨by have := h.1; omega, h.2⟩
  | cons k t =>
    obtain ⟨c, b, h1, h2⟩ := h
    exact ⟨c, b, by omega, h2⟩
theorem OCH.lo {ks : List (Nat × Nat)} {lo lo' hi : Nat} {hc hr : Int32} (h : OCH T L Sd In Nx Am K F N S I X Lt l ks lo hi hc hr) (hl : lo' ≤ lo) : OCH T L Sd In Nx Am K F N S I X Lt l ks lo' hi hc hr := by
  cases ks with
  | nil => exact ⟨by have := h.1; omega, h.2⟩
  | cons k t =>
    obtain ⟨c, b, s, h1, h2⟩ := h
    exact ⟨c, b, s, by omega, h2⟩
theorem VV.list {n p q : Nat} (h : VV T L Sd In Nx Am K F N S I X Lt l n p q) (hc : cb T L p = 91) : ∃ ks, (∃ d, GK T L d p ks) ∧ Am p = nI ks.length ∧ S n = nI ks.length ∧ p + ks.length < q ∧ LCH T L Sd In Nx Am K F N S I X Lt l ks (p + 1) q (In p) (I n) := by
  obtain ⟨d, m, h1, h2, h3, h4, h5, h25⟩ := h
  have hpq := sval_p _ _ _ h1
  cases d with
  | zero => cases h1
  | succ d =>
    obtain ⟨ks, g1, g2, g3, g4⟩ := h2.2 (Or.inl hc)
    rcases h3.2.2 with ⟨c1, c2, _⟩ | ⟨c1, c2, ks', r1, r2, r3⟩ | ⟨c1, c2, _⟩ | ⟨c1, c2, c3⟩ | ⟨c1, c2⟩ | ⟨c1, c2⟩ | ⟨c1, c2⟩
    case inr.inl =>
      have e := gk_eq r1 g1
      subst e
      refine ⟨ks', ⟨d, g1⟩, g2, r2, ?_⟩
      have hn : ¬ cb T L p = 123 := by omega
      have hd : d ≠ 0 := by
        intro e
        simp only [sval] at h1
        rw [if_neg (by omega), if_pos (Or.inl hc), if_pos e] at h1
        cases h1
      rcases g1 with ⟨x1, x2⟩ | ⟨x1, q', x2⟩
      · subst x2
        exact ⟨by simp; omega, by omega, g3, r3⟩
      · rw [if_neg hn] at x1 x2
        rw [show decide (cb T L p = 123) = false from decide_eq_false hn] at x2
        have e : q = q' := by
          simp only [sval] at h1
          rw [if_neg (by omega), if_pos (Or.inl hc), if_neg hd, if_neg hn, if_neg x1, show decide (cb T L p = 123) = false from decide_eq_false hn, x2] at h1
          cases h1
          rfl
        subst e
        have g := lch_of (Sd := Sd) (In := In) (Am := Am) h4 (by omega) ks' _ _ _ _ _ _ _ x2 g3 (fun k hk => (g4 k hk).1) r3
        have hb := sbl_le (B := T) (L := L) (a := p + 1)
        have hz := sgrp_p (by decide) (sval_p d) _ _ _ _ _ x2
        exact ⟨by omega, g.lo hb⟩
    all_goals omega
theorem VV.obj {n p q : Nat} (h : VV T L Sd In Nx Am K F N S I X Lt l n p q) (hc : cb T L p = 123) : ∃ ks, (∃ d, GK T L d p ks) ∧ Am p = nI ks.length ∧ p + ks.length < q ∧ OCH T L Sd In Nx Am K F N S I X Lt l ks (p + 1) q (In p) (I n) := by
  obtain ⟨d, m, h1, h2, h3, h4, h5, h25⟩ := h
  have hpq := sval_p _ _ _ h1
  cases d with
  | zero => cases h1
  | succ d =>
    obtain ⟨ks, g1, g2, g3, g4⟩ := h2.2 (Or.inr hc)
    rcases h3.2.2 with ⟨c1, c2, _⟩ | ⟨c1, c2, _⟩ | ⟨c1, c2, ks', r1, r3⟩ | ⟨c1, c2, c3⟩ | ⟨c1, c2⟩ | ⟨c1, c2⟩ | ⟨c1, c2⟩
    case inr.inr.inl =>
      have e := gk_eq r1 g1
      subst e
      refine ⟨ks', ⟨d, g1⟩, g2, ?_⟩
      have hd : d ≠ 0 := by
        intro e
        simp only [sval] at h1
        rw [if_neg (by omega), if_pos (Or.inr hc), if_pos e] at h1
        cases h1
      rcases g1 with ⟨x1, x2⟩ | ⟨x1, q', x2⟩
      · subst x2
        exact ⟨by simp; omega, by omega, g3, r3⟩
      · rw [if_pos hc] at x1 x2
        rw [show decide (cb T L p = 123) = true from decide_eq_true hc] at x2
        have e : q = q' := by
          simp only [sval] at h1
          rw [if_neg (by omega), if_pos (Or.inr hc), if_neg hd, if_pos hc, if_neg x1, show decide (cb T L p = 123) = true from decide_eq_true hc, x2] at h1
          cases h1
          rfl
        subst e
        have g := och_of (Sd := Sd) (In := In) (Am := Am) h4 (by omega) ks' _ _ _ _ _ _ _ x2 g3 (fun k hk => ⟨(g4 k hk).1, (g4 k hk).2 hc⟩) r3
        have hb := sbl_le (B := T) (L := L) (a := p + 1)
        have hz := sgrp_p (by decide) (sval_p d) _ _ _ _ _ x2
        exact ⟨by omega, g.lo hb⟩
    all_goals omega
/-- a member of an object, by what its string says -/
def MEM (T : Nat → Int32) (L : Nat) (Sd In Nx Am K F : Nat → Int32) (N : Nat → Int64) (S I X Lt : Nat → Int32) (l : Nat) (k : Nat × Nat) (c b : Nat) (s : List Nat) (lo hi : Nat) : Prop := lo ≤ k.1 ∧ k.1 + s.length + 3 ≤ k.2 ∧ b < hi ∧ ts T L k.1 = s ∧ VV T L Sd In Nx Am K F N S I X Lt l c k.2 b
theorem OCH.mem : ∀ (ks : List (Nat × Nat)) (lo hi : Nat) (hc hr : Int32), OCH T L Sd In Nx Am K F N S I X Lt l ks lo hi hc hr → ∀ k, k ∈ ks → ∃ c b s, MEM T L Sd In Nx Am K F N S I X Lt l k c b s lo hi := by
  intro ks
  induction ks with
  | nil => intro lo hi hc hr _ k hk; exact absurd hk List.not_mem_nil
  | cons k0 t ih =>
    intro lo hi hc hr h k hk
    obtain ⟨c, b, s, h1, h2, h3, h4, h5, h6, h7⟩ := h
    rcases List.mem_cons.mp hk with e | e
    · subst e
      exact ⟨c + 1, b, s, h1, h4.2.2.2.2.2.2.2.2.1, h6, h4.2.2.2.1, h5⟩
    · obtain ⟨c', b', s', m1, m2, m3, m4, m5⟩ := ih _ _ _ _ h7 k e
      have hb := h5.base
      have := h4.2.2.2.2.2.2.2.2.1
      exact ⟨c', b', s', by omega, m2, m3, m4, m5⟩
/-- two members that say otherwise lie apart -/
theorem OCH.two : ∀ (ks : List (Nat × Nat)) (lo hi : Nat) (hc hr : Int32), OCH T L Sd In Nx Am K F N S I X Lt l ks lo hi hc hr → ∀ k k', k ∈ ks → k' ∈ ks → ts T L k.1 ≠ ts T L k'.1 → ∃ b b', (∃ c, VV T L Sd In Nx Am K F N S I X Lt l c k.2 b) ∧ (∃ c, VV T L Sd In Nx Am K F N S I X Lt l c k'.2 b') ∧ (b < k'.1 ∨ b' < k.1) := by
  intro ks
  induction ks with
  | nil => intro lo hi hc hr _ k k' hk; exact absurd hk List.not_mem_nil
  | cons k0 t ih =>
    intro lo hi hc hr h k k' hk hk' hne
    obtain ⟨c, b, s, h1, h2, h3, h4, h5, h6, h7⟩ := h
    rcases List.mem_cons.mp hk with e | e
    · subst e
      rcases List.mem_cons.mp hk' with e' | e'
      · subst e'
        exact absurd rfl hne
      · obtain ⟨c', b', s', m1, m2, m3, m4, m5⟩ := h7.mem _ _ _ _ _ k' e'
        exact ⟨b, b', ⟨_, h5⟩, ⟨_, m5⟩, Or.inl (by omega)⟩
    · rcases List.mem_cons.mp hk' with e' | e'
      · subst e'
        obtain ⟨c', b', s', m1, m2, m3, m4, m5⟩ := h7.mem _ _ _ _ _ k e
        exact ⟨b', b, ⟨_, m5⟩, ⟨_, h5⟩, Or.inr (by omega)⟩
      · exact ih _ _ _ _ h7 k k' e e' hne
end BOTH2
end
section
-- leaves of both programs, as told
theorem bv_lt (x : Int32) : bv x < 256 := Nat.mod_lt _ (by decide)
theorem lit_g {w j : Nat} (hw : w < 75) (hj : j < (litN w).length) : (litN w).getD j 0 < 128 := by
  rw [ls_get hj]
  exact lit_b w hw _ (List.getElem_mem hj)
theorem sgrp_mono {f g : Nat → Nat ⊕ Nat} {B : Nat → Int32} {L cl : Nat} {obj : Bool} (h : ∀ v b, f v = .inr b → g v = .inr b) : ∀ (n part : Nat) (seen : List (List Nat)) (r : List (Nat × Nat) × Nat), sgrp f B L obj cl n part seen = .inr r → sgrp g B L obj cl n part seen = .inr r := by
  intro n
  induction n with
  | zero => intro part seen r hs; cases hs
  | succ n ih =>
    intro part seen r hs
    simp only [sgrp] at hs ⊢
    cases hk : (if obj = true then skey B L part seen else .inr (part, []) : Nat ⊕ (Nat × List Nat)) with
    | inl w => rw [hk] at hs; cases hs
    | inr x =>
      obtain ⟨v, s⟩ := x
      rw [hk] at hs
      simp only at hs ⊢
      cases hv : f v with
      | inl w => rw [hv] at hs; cases hs
      | inr b =>
        rw [hv] at hs
        rw [h v b hv]
        simp only at hs ⊢
        by_cases c1 : cb B L (sbl B L b) = cl
        · rw [if_pos c1] at hs ⊢
          exact hs
        · rw [if_neg c1] at hs ⊢
          by_cases c2 : cb B L (sbl B L b) = 44
          · rw [if_pos c2] at hs ⊢
            cases hr : sgrp f B L obj cl n (sbl B L (sbl B L b + 1)) (s :: seen) with
            | inl w => rw [hr] at hs; cases hs
            | inr y =>
              rw [hr] at hs
              rw [ih _ _ _ hr]
              exact hs
          · rw [if_neg c2] at hs
            cases hs
theorem sval_s1 {B : Nat → Int32} {L : Nat} : ∀ (d p q : Nat), sval B L d p = .inr q → sval B L (d + 1) p = .inr q := by
  intro d
  induction d with
  | zero => intro p q h; cases h
  | succ d ih =>
    intro p q h
    rw [sval] at h ⊢
    by_cases c1 : cb B L p = 34
    · rw [if_pos c1] at h ⊢; exact h
    rw [if_neg c1] at h ⊢
    by_cases c2 : cb B L p = 91 ∨ cb B L p = 123
    · rw [if_pos c2] at h ⊢
      by_cases c3 : d = 0
      · rw [if_pos c3] at h; cases h
      rw [if_neg c3] at h
      rw [if_neg (show ¬ d + 1 = 0 by omega)]
      by_cases c4 : cb B L (sbl B L (p + 1)) = (if cb B L p = 123 then 125 else 93)
      · rw [if_pos c4] at h ⊢; exact h
      · rw [if_neg c4] at h ⊢
        cases hs : sgrp (sval B L d) B L (decide (cb B L p = 123)) (if cb B L p = 123 then 125 else 93) (L + 1) (sbl B L (p + 1)) [] with
        | inl w => rw [hs] at h; cases h
        | inr r =>
          rw [hs] at h
          rw [sgrp_mono ih _ _ _ _ hs]
          exact h
    rw [if_neg c2] at h ⊢
    exact h
theorem sval_mono {B : Nat → Int32} {L p q : Nat} {d : Nat} (h : sval B L d p = .inr q) : ∀ e, sval B L (d + e) p = .inr q := by
  intro e
  induction e with
  | zero => exact h
  | succ e ih => exact sval_s1 _ _ _ ih
theorem sval_one {B : Nat → Int32} {L p q q' d d' : Nat} (h : sval B L d p = .inr q) (h' : sval B L d' p = .inr q') : q = q' := by
  have a := sval_mono h d'
  have b := sval_mono h' d
  rw [Nat.add_comm] at b
  have := a.symm.trans b
  cases this
  rfl
section LEAF
variable {T : Nat → Int32} {L : Nat} {Sd In Nx Am K F S I X Lt : Nat → Int32} {N : Nat → Int64} {l : Nat}
theorem VV.one {n n' p q q' : Nat} (h : VV T L Sd In Nx Am K F N S I X Lt l n p q) (h' : VV T L Sd In Nx Am K F N S I X Lt l n' p q') : q = q' := by
  obtain ⟨d, m, h1, _⟩ := h
  obtain ⟨d', m', h1', _⟩ := h'
  exact sval_one h1 h1'
theorem says_eq (hL : L ≤ 4096) {p : Nat} {s : List Nat} (hc : cb T L p = 34) (hs : SAID Sd Am p s) {w : Nat} (hw : w < 75) : m_X7_says T Sd Am (nI L) (nI p) w = some (if s = litN w then 1 else 0) := by
  obtain ⟨h1, h2, h3, h4⟩ := hs
  have hlen := lit_len w hw
  have h40 := lit_len40 w hw
  unfold m_X7_says
  rw [byt_eq hL (by omega)]
  simp only [Option.bind_some, ub34, if_pos hc, ent_eq (n := 4096) (by decide) h1, h3, if_neg (show ¬ nS ≤ w by unfold nS; omega), len_eq w hw]
  by_cases he : s.length = lenS.getD w 0
  · rw [if_pos (by rw [he])]
    have go : ∀ (fuel j : Nat), j ≤ s.length → s.length - j < fuel → (∀ i, i < j → s.getD i 0 = (litN w).getD i 0) → m_X7_says_29 T Sd Am (nI L) fuel (nI p) w (nI j) = some (if s = litN w then 1 else 0) := by
      intro fuel
      induction fuel with
      | zero => intro j _ h; exact absurd h (Nat.not_lt_zero _)
      | succ fuel ih =>
        intro j hj hf ha
        simp only [m_X7_says_29, if_neg (show ¬ nS ≤ w by unfold nS; omega), len_eq w hw, Option.bind_some, nI_add, nI_1]
        by_cases c : s.length ≤ j
        · rw [if_pos (nI_le (by omega) (by omega)), if_pos (ls_eq (by omega) (fun i hi => ha i (by omega)))]
        · have hg := lit_g (j := j) hw (by omega)
          have hb := bv_lt (Sd (p + j))
          rw [if_neg (nI_ge (show j < lenS.getD w 0 by omega) (by omega)), sai_eq (by omega), chr_eq w hw j (by omega)]
          simp only [Option.bind_some]
          rw [lit_c w hw j (by omega)]
          rw [h4 j (by omega)] at hb ⊢
          by_cases q : s.getD j 0 = (litN w).getD j 0
          · rw [if_pos (by rw [q])]
            refine ih (j + 1) (by omega) (by omega) (fun i hi => ?_)
            by_cases e : i = j
            · rw [e]; exact q
            · exact ha i (by omega)
          · rw [if_neg (fun z => q ((nI_eq (by omega) (by omega)).mp z)), if_neg (fun z => q (by rw [z]))]
    exact go sr_fuel 0 (by omega) (by unfold sr_fuel; omega) (fun i hi => absurd hi (Nat.not_lt_zero _))
  · rw [if_neg (fun z => he ((nI_eq (by omega) (by omega)).mp z)), if_neg (fun z => he (by rw [z]; exact hlen))]
theorem isr_eq (hl : l ≤ 4200) {n : Nat} {s : List Nat} (hn : n < 4200) (hk : K n = 2) (hs : RSt N S Lt l n s) (hb : ∀ v, v ∈ s → v ≤ 255) {w : Nat} (hw : w < 75) : m_X9_is K N S Lt (nI n) w = some (if s = litN w then 1 else 0) := by
  obtain ⟨h1, st, h2, h3, h4⟩ := hs
  have hlen := lit_len w hw
  have h40 := lit_len40 w hw
  simp only [m_X9_is, bd_go hn (by decide), bd_gc hn (by decide), nI_clamp (show n < 2 ^ 31 by omega), if_neg (show ¬ nS ≤ w by unfold nS; omega), len_eq w hw, Option.bind_some, if_pos hk, h1]
  obtain ⟨f1, hf1⟩ : ∃ f, sr_fuel = f + 1 := ⟨sr_fuel - 1, by unfold sr_fuel; omega⟩
  by_cases he : s.length = lenS.getD w 0
  · rw [if_pos (by rw [he])]
    have go : ∀ (fuel j : Nat), j ≤ s.length → s.length - j < fuel → (∀ i, i < j → s.getD i 0 = (litN w).getD i 0) → m_X9_is_32 K N S Lt fuel (nI n) w 1 (nI j) = some (if s = litN w then 1 else 0) := by
      intro fuel
      induction fuel with
      | zero => intro j _ h; exact absurd h (Nat.not_lt_zero _)
      | succ fuel ih =>
        intro j hj hf ha
        simp only [m_X9_is_32, if_neg (show ¬ nS ≤ w by unfold nS; omega), len_eq w hw, Option.bind_some]
        by_cases c : s.length ≤ j
        · rw [if_pos (nI_le (by omega) (by omega)), if_pos (Or.inr trivial), if_pos (ls_eq (by omega) (fun i hi => ha i (by omega)))]
        · have hg := lit_g (j := j) hw (by omega)
          rw [if_neg (nI_ge (show j < lenS.getD w 0 by omega) (by omega)), if_neg (show ¬ (1 : Int32) = 0 by decide), bd_go hn (by decide), nI_clamp (show n < 2 ^ 31 by omega), h2, lN_i, nI_add, bd_go (show st + j < 4200 by omega) (by decide), chr_eq w hw j (by omega), Option.bind_some, nI_clamp (show st + j < 2 ^ 31 by omega), h4 j (by omega), lit_c w hw j (by omega)]
          have hb2 : s.getD j 0 ≤ 255 := by rw [ls_get (show j < s.length by omega)]; exact hb _ (List.getElem_mem _)
          by_cases q : s.getD j 0 = (litN w).getD j 0
          · rw [if_pos ((sb_e (by omega) hg).mpr q), nI_1]
            refine ih (j + 1) (by omega) (by omega) (fun i hi => ?_)
            by_cases e : i = j
            · rw [e]; exact q
            · exact ha i (by omega)
          · obtain ⟨f2, rfl⟩ : ∃ f2, fuel = f2 + 1 := ⟨fuel - 1, by omega⟩
            rw [if_neg (fun z => q ((sb_e (by omega) hg).mp z)), is0 hw, if_neg (fun z => q (by rw [z]))]
    exact go sr_fuel 0 (by omega) (by unfold sr_fuel; omega) (fun i hi => absurd hi (Nat.not_lt_zero _))
  · rw [if_neg (fun z => he ((nI_eq (by omega) (by omega)).mp z)), if_neg (fun z => he (by rw [z]; exact hlen)), hf1]
    exact is0 hw
-- members
def tfind (T : Nat → Int32) (L : Nat) (s : List Nat) : List (Nat × Nat) → Option (Nat × Nat)
  | [] => none
  | k :: t => if ts T L k.1 = s then some k else tfind T L s t
def tfc : Option (Nat × Nat) → Int32
  | none => -1
  | some k => nI k.2
theorem memc_go (hL : L ≤ 4096) {p w tot : Nat} (hp : p < 4096) (hA : Am p = nI tot) (ht : tot ≤ 4096) (hw : w < 75) : ∀ (ks : List (Nat × Nat)) (fuel i lo hi : Nat) (hc hr : Int32), i + ks.length = tot → ks.length < fuel → OCH T L Sd In Nx Am K F N S I X Lt l ks lo hi hc hr → m_X7_member_9 T Sd In Nx Am (nI L) fuel (nI p) w hc (nI i) = some (tfc (tfind T L (litN w) ks)) := by
  intro ks
  induction ks with
  | nil =>
    intro fuel i lo hi hc hr hi2 hf h
    obtain ⟨f, rfl⟩ : ∃ f, fuel = f + 1 := ⟨fuel - 1, by omega⟩
    simp only [m_X7_member_9, m_X7_amount, ent_eq (n := 4096) (by decide) hp, Option.bind_some, hA]
    rw [if_pos (nI_le (by simp at hi2; omega) (by omega))]
    rfl
  | cons k t ih =>
    intro fuel i lo hi hc hr hi2 hf h
    obtain ⟨f, rfl⟩ : ∃ f, fuel = f + 1 := ⟨fuel - 1, by omega⟩
    simp only [List.length_cons] at hi2 hf
    obtain ⟨c, b, s, h1, h2, h3, ⟨k1, k2, k3, k4, k5, k6, k7, k8, k9, k10⟩, h5, h6, h7⟩ := h
    have hk1 : k.1 < 4096 := k5.1
    simp only [m_X7_member_9, m_X7_amount, ent_eq (n := 4096) (by decide) hp, Option.bind_some, hA]
    rw [if_neg (nI_ge (show i < tot by omega) (by omega)), h2, says_eq hL k3 k5 hw]
    simp only [Option.bind_some, tfind, m_X7_next, m_X7_inner, ent_eq (n := 4096) (by decide) hk1, k4]
    by_cases e : s = litN w
    · rw [if_pos e, if_pos e, if_neg (by decide), k1]
      rfl
    · rw [if_neg e, if_neg e, if_pos rfl, nI_1]
      exact ih f (i + 1) _ _ _ _ (by omega) (by omega) h7
theorem memr_go (hl : l ≤ 4200) {w : Nat} (hw : w < 75) : ∀ (ks : List (Nat × Nat)) (fuel lo hi : Nat) (hc hr : Int32), ks.length < fuel → OCH T L Sd In Nx Am K F N S I X Lt l ks lo hi hc hr → (tfind T L (litN w) ks = none ∧ m_X9_member_7 K N S I X Lt fuel w hr = some (-1)) ∨ (∃ k c b, tfind T L (litN w) ks = some k ∧ k ∈ ks ∧ m_X9_member_7 K N S I X Lt fuel w hr = some (nI c) ∧ MEM T L Sd In Nx Am K F N S I X Lt l k c b (litN w) lo hi) := by
  intro ks
  induction ks with
  | nil =>
    intro fuel lo hi hc hr hf h
    obtain ⟨f, rfl⟩ : ∃ f, fuel = f + 1 := ⟨fuel - 1, by omega⟩
    refine Or.inl ⟨rfl, ?_⟩
    simp only [m_X9_member_7]
    rw [h.2.2, if_pos (show (-1 : Int32) < 0 by decide)]
  | cons k t ih =>
    intro fuel lo hi hc hr hf h
    obtain ⟨f, rfl⟩ : ∃ f, fuel = f + 1 := ⟨fuel - 1, by omega⟩
    simp only [List.length_cons] at hf
    obtain ⟨c, b, s, h1, h2, h3, ⟨k1, k2, k3, k4, k5, k6, k7, k8, k9, k10⟩, h5, h6, h7⟩ := h
    simp only [m_X9_member_7]
    rw [h3, if_neg (nI_pos (show c < 2 ^ 31 by omega)), isr_eq hl (by omega) k7 k6 k10 hw]
    simp only [Option.bind_some, tfind, k4]
    by_cases e : s = litN w
    · simp only [if_pos e, if_neg (show ¬ (1 : Int32) = 0 by decide), bd_go (show c < 4200 by omega) (by decide), bd_gc (show c < 4200 by omega) (by decide), nI_clamp (show c < 2 ^ 31 by omega), k2]
      exact Or.inr ⟨k, c + 1, b, rfl, List.mem_cons_self, rfl, h1, by rw [← e]; exact k9, h6, by rw [← e]; exact k4, h5⟩
    · simp only [if_neg e, if_true, bd_go (show c < 4200 by omega) (by decide), bd_gc (show c < 4200 by omega) (by decide), nI_clamp (show c < 2 ^ 31 by omega), k2, bd_go (show c + 1 < 4200 by omega) (by decide), bd_gc (show c + 1 < 4200 by omega) (by decide), nI_clamp (show c + 1 < 2 ^ 31 by omega)]
      rcases ih f _ _ _ _ (by omega) h7 with g | ⟨k', c', b', g1, g2, g3, g4, g5⟩
      · exact Or.inl g
      · have := h5.base
        exact Or.inr ⟨k', c', b', g1, List.mem_cons_of_mem _ g2, g3, by omega, g5⟩
theorem memb (hL : L ≤ 4096) (hl : l ≤ 4200) {n p q : Nat} (h : VV T L Sd In Nx Am K F N S I X Lt l n p q) (hc : cb T L p = 123) : ∃ ks, OCH T L Sd In Nx Am K F N S I X Lt l ks (p + 1) q (In p) (I n) ∧ Am p = nI ks.length ∧ p + ks.length < q ∧ ∀ w w', w < 75 → w' < 75 → litN w' = litN w → (m_X7_member T Sd In Nx Am (nI L) (nI p) w = some (-1) ∧ m_X9_member K N S I X Lt (nI n) w' = some (-1)) ∨ (∃ k c b, k ∈ ks ∧ m_X7_member T Sd In Nx Am (nI L) (nI p) w = some (nI k.2) ∧ m_X9_member K N S I X Lt (nI n) w' = some (nI c) ∧ MEM T L Sd In Nx Am K F N S I X Lt l k c b (litN w) (p + 1) q) := by
  obtain ⟨hb1, hb2, hb3, hb4⟩ := h.base
  obtain ⟨ks, _, g1, g2, g3⟩ := h.obj hc
  refine ⟨ks, g3, g1, g2, fun w w' hw hw' he => ?_⟩
  have a := memc_go (p := p) (w := w) (tot := ks.length) hL (by omega) g1 (by omega) hw ks sr_fuel 0 _ _ _ _ (by omega) (by unfold sr_fuel; omega) g3
  have b := memr_go hl hw' ks sr_fuel _ _ _ _ (by unfold sr_fuel; omega) g3
  unfold m_X7_member m_X9_member
  simp only [m_X7_inner, ent_eq (n := 4096) (by decide) (show p < 4096 by omega), Option.bind_some, bd_go hb3 (by decide), nI_clamp (show n < 2 ^ 31 by omega)]
  rw [nI_0] at a
  rw [a]
  rw [he] at b
  rcases b with ⟨b1, b2⟩ | ⟨k, c, b', b1, b2, b3, b4⟩
  · rw [b1, b2]
    exact Or.inl ⟨rfl, by rw [bd_gc hb3 (by decide)]⟩
  · rw [b1, b3]
    exact Or.inr ⟨k, c, b', b2, rfl, by rw [bd_gc hb3 (by decide)], b4⟩
end LEAF
end
section
-- leaves: words, names, numbers
def kwf (s : List Nat) : Nat → Nat → Int32
  | 0, _ => -1
  | n + 1, k => if s = litN (3 + k) then nI k else kwf s n (k + 1)
/-- the kind whose word it is, or -1 -/
def kw (s : List Nat) : Int32 := kwf s 11 0
theorem kw_say (s : List Nat) : kw s = if s = litN 3 then 0 else if s = litN 4 then 1 else if s = litN 5 then 2 else if s = litN 6 then 3 else if s = litN 7 then 4 else if s = litN 8 then 5 else if s = litN 9 then 6 else if s = litN 10 then 7 else if s = litN 11 then 8 else if s = litN 12 then 9 else if s = litN 13 then 10 else -1 := rfl
theorem kw_lit : kw (litN 3) = 0 ∧ kw (litN 4) = 1 ∧ kw (litN 5) = 2 ∧ kw (litN 6) = 3 ∧ kw (litN 7) = 4 ∧ kw (litN 8) = 5 ∧ kw (litN 9) = 6 ∧ kw (litN 10) = 7 ∧ kw (litN 11) = 8 ∧ kw (litN 12) = 9 ∧ kw (litN 13) = 10 := by decide +kernel
theorem kw_any (s : List Nat) : kw s = -1 ∨ ∃ k, k ≤ 10 ∧ kw s = nI k ∧ s = litN (3 + k) := by
  have go : ∀ (n k : Nat), k + n = 11 → kwf s n k = -1 ∨ ∃ j, j ≤ 10 ∧ kwf s n k = nI j ∧ s = litN (3 + j) := by
    intro n
    induction n with
    | zero => intro k _; exact Or.inl rfl
    | succ n ih =>
      intro k hk
      simp only [kwf]
      by_cases h : s = litN (3 + k)
      · rw [if_pos h]
        exact Or.inr ⟨k, by omega, rfl, h⟩
      · rw [if_neg h]
        exact ih (k + 1) (by omega)
  exact go 11 0 rfl
theorem wrd_k : ∀ k, k ≤ 10 → m_X3_word (nI k) = some (3 + k) := by decide +kernel
def chr (c : Nat) : Prop := (97 ≤ c ∧ c ≤ 122) ∨ (65 ≤ c ∧ c ≤ 90) ∨ (48 ≤ c ∧ c ≤ 57) ∨ c = 95
def isNm (s : List Nat) : Prop := 1 ≤ s.length ∧ s.length ≤ 32 ∧ ¬ (48 ≤ s.getD 0 0 ∧ s.getD 0 0 ≤ 57) ∧ ∀ j, j < s.length → chr (s.getD j 0)
section LEAF2
variable {T : Nat → Int32} {L : Nat} {Sd In Nx Am K F S I X Lt : Nat → Int32} {N : Nat → Int64} {l : Nat}
theorem ksaid_eq (hL : L ≤ 4096) {p : Nat} {s : List Nat} (hc : cb T L p = 34) (hs : SAID Sd Am p s) : m_X3_said T Sd Am (nI L) (nI p) = some (kw s) := by
  have go : ∀ (n k fuel : Nat), k + n = 11 → n < fuel → m_X3_said_2 T Sd Am (nI L) fuel (nI p) (nI k) = some (kwf s n k) := by
    intro n
    induction n with
    | zero =>
      intro k fuel hk hf
      obtain ⟨f, rfl⟩ : ∃ f, fuel = f + 1 := ⟨fuel - 1, by omega⟩
      simp only [m_X3_said_2]
      rw [if_pos (show (10 : Int32) < nI k from nI_lt (a := 10) (by omega) (by omega))]
      rfl
    | succ n ih =>
      intro k fuel hk hf
      obtain ⟨f, rfl⟩ : ∃ f, fuel = f + 1 := ⟨fuel - 1, by omega⟩
      simp only [m_X3_said_2, nI_1]
      rw [if_neg (show ¬ (10 : Int32) < nI k from nI_nlt (a := 10) (by omega) (by omega)), wrd_k k (by omega)]
      simp only [Option.bind_some]
      rw [says_eq hL hc hs (by omega)]
      simp only [Option.bind_some, kwf]
      by_cases h : s = litN (3 + k)
      · rw [if_pos h, if_pos h, if_neg (by decide)]
      · rw [if_neg h, if_neg h, if_pos rfl]
        exact ih (k + 1) f (by omega) (by omega)
  have := go 11 0 sr_fuel rfl (by unfold sr_fuel; omega)
  rw [nI_0] at this
  exact this
/-- one of the six, or -1 -/
def kw6 (s : List Nat) : Int32 := if s = litN 3 then 0 else if s = litN 4 then 1 else if s = litN 5 then 2 else if s = litN 6 then 3 else if s = litN 7 then 4 else if s = litN 8 then 5 else -1
theorem lit_six : litN 42 = litN 3 ∧ litN 43 = litN 4 ∧ litN 44 = litN 5 ∧ litN 45 = litN 6 ∧ litN 46 = litN 7 ∧ litN 47 = litN 8 := by decide +kernel
theorem word_eq (hl : l ≤ 4200) {n : Nat} {s : List Nat} (hn : n < 4200) (hk : K n = 2) (hs : RSt N S Lt l n s) (hb : ∀ v, v ∈ s → v ≤ 255) : m_X9_word K N S Lt (nI n) = some (kw6 s) := by
  obtain ⟨e1, e2, e3, e4, e5, e6⟩ := lit_six
  unfold m_X9_word kw6
  simp only [isr_eq hl hn hk hs hb (show 42 < 75 by decide), isr_eq hl hn hk hs hb (show 43 < 75 by decide), isr_eq hl hn hk hs hb (show 44 < 75 by decide), isr_eq hl hn hk hs hb (show 45 < 75 by decide), isr_eq hl hn hk hs hb (show 46 < 75 by decide), isr_eq hl hn hk hs hb (show 47 < 75 by decide), Option.bind_some, e1, e2, e3, e4, e5, e6]
  by_cases c1 : s = litN 3
  · simp only [if_pos c1, if_neg (show ¬ (1 : Int32) = 0 by decide)]
  simp only [if_neg c1, if_true]
  by_cases c2 : s = litN 4
  · simp only [if_pos c2, if_neg (show ¬ (1 : Int32) = 0 by decide)]
  simp only [if_neg c2, if_true]
  by_cases c3 : s = litN 5
  · simp only [if_pos c3, if_neg (show ¬ (1 : Int32) = 0 by decide)]
  simp only [if_neg c3, if_true]
  by_cases c4 : s = litN 6
  · simp only [if_pos c4, if_neg (show ¬ (1 : Int32) = 0 by decide)]
  simp only [if_neg c4, if_true]
  by_cases c5 : s = litN 7
  · simp only [if_pos c5, if_neg (show ¬ (1 : Int32) = 0 by decide)]
  simp only [if_neg c5, if_true]
  by_cases c6 : s = litN 8
  · simp only [if_pos c6, if_neg (show ¬ (1 : Int32) = 0 by decide)]
  simp only [if_neg c6, if_true]
theorem kw6_of (s : List Nat) : (∃ k, k ≤ 5 ∧ kw s = nI k ∧ kw6 s = nI k) ∨ (kw6 s = -1 ∧ (kw s = -1 ∨ ∃ k, 6 ≤ k ∧ k ≤ 10 ∧ kw s = nI k ∧ s = litN (3 + k))) := by
  rw [kw_say]
  unfold kw6
  by_cases c1 : s = litN 3
  · simp only [if_pos c1]; exact Or.inl ⟨0, by decide, rfl, rfl⟩
  simp only [if_neg c1]
  by_cases c2 : s = litN 4
  · simp only [if_pos c2]; exact Or.inl ⟨1, by decide, rfl, rfl⟩
  simp only [if_neg c2]
  by_cases c3 : s = litN 5
  · simp only [if_pos c3]; exact Or.inl ⟨2, by decide, rfl, rfl⟩
  simp only [if_neg c3]
  by_cases c4 : s = litN 6
  · simp only [if_pos c4]; exact Or.inl ⟨3, by decide, rfl, rfl⟩
  simp only [if_neg c4]
  by_cases c5 : s = litN 7
  · simp only [if_pos c5]; exact Or.inl ⟨4, by decide, rfl, rfl⟩
  simp only [if_neg c5]
  by_cases c6 : s = litN 8
  · simp only [if_pos c6]; exact Or.inl ⟨5, by decide, rfl, rfl⟩
  simp only [if_neg c6]
  refine Or.inr ⟨trivial, ?_⟩
  by_cases d1 : s = litN 9
  · simp only [if_pos d1]; exact Or.inr ⟨6, by decide, by decide, rfl, d1⟩
  simp only [if_neg d1]
  by_cases d2 : s = litN 10
  · simp only [if_pos d2]; exact Or.inr ⟨7, by decide, by decide, rfl, d2⟩
  simp only [if_neg d2]
  by_cases d3 : s = litN 11
  · simp only [if_pos d3]; exact Or.inr ⟨8, by decide, by decide, rfl, d3⟩
  simp only [if_neg d3]
  by_cases d4 : s = litN 12
  · simp only [if_pos d4]; exact Or.inr ⟨9, by decide, by decide, rfl, d4⟩
  simp only [if_neg d4]
  by_cases d5 : s = litN 13
  · simp only [if_pos d5]; exact Or.inr ⟨10, by decide, by decide, rfl, d5⟩
  simp only [if_neg d5]
  exact Or.inl trivial
theorem let_c {c : Nat} (h : c < 256) : m_X8_isLetter (nI c) = some (if (97 ≤ c ∧ c ≤ 122) ∨ (65 ≤ c ∧ c ≤ 90) then 1 else 0) := by
  have : ∀ c, c < 256 → m_X8_isLetter (nI c) = some (if (97 ≤ c ∧ c ≤ 122) ∨ (65 ≤ c ∧ c ≤ 90) then 1 else 0) := by decide +kernel
  exact this c h
theorem dig_c {c : Nat} (h : c < 256) : m_X8_isDigit (nI c) = some (if 48 ≤ c ∧ c ≤ 57 then 1 else 0) := by
  have : ∀ c, c < 256 → m_X8_isDigit (nI c) = some (if 48 ≤ c ∧ c ≤ 57 then 1 else 0) := by decide +kernel
  exact this c h
theorem snm_eq (hL : L ≤ 4096) {p : Nat} {s : List Nat} (hc : cb T L p = 34) (hs : SAID Sd Am p s) : (isNm s ∧ m_X7_saysName T Sd Am (nI L) (nI p) = some 1) ∨ (¬ isNm s ∧ m_X7_saysName T Sd Am (nI L) (nI p) = some 0) := by
  obtain ⟨h1, h2, h3, h4⟩ := hs
  have hlt := cb_lt (B := T) (L := L) (a := p) (by omega)
  unfold m_X7_saysName
  have e1 : m_X7_isString T (nI L) (nI p) = some 1 := by
    unfold m_X7_isString
    rw [byt_eq hL (by omega)]
    simp only [Option.bind_some, ub34, if_pos hc]
  simp only [m_X7_amount, ent_eq (n := 4096) (by decide) h1, h3, Option.bind_some, e1, if_neg (show ¬ (1 : Int32) = 0 by decide)]
  by_cases a1 : 1 ≤ s.length
  case neg =>
    rw [if_pos (show nI s.length < 1 from nI_lt (b := 1) (by omega) (by decide))]
    exact Or.inr ⟨fun z => a1 z.1, rfl⟩
  rw [if_neg (show ¬ nI s.length < 1 from nI_nlt (b := 1) a1 (by omega))]
  by_cases a2 : s.length ≤ 32
  case neg =>
    rw [if_pos (show (32 : Int32) < nI s.length from nI_lt (a := 32) (by omega) (by omega))]
    exact Or.inr ⟨fun z => a2 z.2.1, rfl⟩
  rw [if_neg (show ¬ (32 : Int32) < nI s.length from nI_nlt (a := 32) a2 (by omega)), sai_eq (by omega)]
  have hb0 := bv_lt (Sd p)
  have h40 := h4 0 (by omega)
  rw [Nat.add_zero] at h40
  rw [h40] at hb0
  simp only [Option.bind_some, h40, dig_c hb0]
  by_cases a3 : 48 ≤ s.getD 0 0 ∧ s.getD 0 0 ≤ 57
  · simp only [if_pos a3, if_neg (show ¬ (1 : Int32) = 0 by decide)]
    exact Or.inr ⟨fun z => z.2.2.1 a3, trivial⟩
  simp only [if_neg a3, if_true]
  have go : ∀ (fuel j : Nat), j ≤ s.length → s.length - j < fuel → (∀ i, i < j → chr (s.getD i 0)) → (isNm s ∧ m_X7_saysName_40 T Sd Am (nI L) fuel (nI p) (nI s.length) (nI j) = some 1) ∨ (¬ isNm s ∧ m_X7_saysName_40 T Sd Am (nI L) fuel (nI p) (nI s.length) (nI j) = some 0) := by
    intro fuel
    induction fuel with
    | zero => intro j _ hf; exact absurd hf (Nat.not_lt_zero _)
    | succ fuel ih =>
      intro j hj hf ha
      simp only [m_X7_saysName_40, nI_add, nI_1]
      by_cases c : s.length ≤ j
      · rw [if_pos (nI_le c (by omega))]
        exact Or.inl ⟨⟨a1, a2, a3, fun i hi => ha i (by omega)⟩, rfl⟩
      · have hb := bv_lt (Sd (p + j))
        have hj2 := h4 j (by omega)
        rw [if_neg (nI_ge (show j < s.length by omega) (by omega)), sai_eq (by omega)]
        rw [hj2] at hb
        simp only [Option.bind_some, hj2, let_c hb, dig_c hb]
        have nxt : chr (s.getD j 0) → (isNm s ∧ m_X7_saysName_40 T Sd Am (nI L) fuel (nI p) (nI s.length) (nI (j + 1)) = some 1) ∨ (¬ isNm s ∧ m_X7_saysName_40 T Sd Am (nI L) fuel (nI p) (nI s.length) (nI (j + 1)) = some 0) := fun hch => ih (j + 1) (by omega) (by omega) (fun i hi => by
          by_cases e : i = j
          · rw [e]; exact hch
          · exact ha i (by omega))
        by_cases l1 : (97 ≤ s.getD j 0 ∧ s.getD j 0 ≤ 122) ∨ (65 ≤ s.getD j 0 ∧ s.getD j 0 ≤ 90)
        · simp only [if_pos l1, if_neg (show ¬ (1 : Int32) = 0 by decide)]
          exact nxt (by unfold chr; omega)
        · simp only [if_neg l1, if_true]
          by_cases l2 : 48 ≤ s.getD j 0 ∧ s.getD j 0 ≤ 57
          · simp only [if_pos l2, if_neg (show ¬ (1 : Int32) = 0 by decide)]
            exact nxt (by unfold chr; omega)
          · simp only [if_neg l2, if_true]
            by_cases l3 : s.getD j 0 = 95
            · simp only [l3, if_pos (show nI 95 = 95 from rfl)]
              rw [l3] at nxt
              exact nxt (by unfold chr; omega)
            · simp only [if_neg (show ¬ nI (s.getD j 0) = 95 from fun z => l3 ((nI_eq (b := 95) (by omega) (by decide)).mp z))]
              refine Or.inr ⟨fun z => ?_, trivial⟩
              have := z.2.2.2 j (by omega)
              unfold chr at this
              omega
  have := go sr_fuel 0 (by omega) (by unfold sr_fuel; omega) (fun i hi => absurd hi (Nat.not_lt_zero _))
  rw [nI_0] at this
  exact this
theorem inm_eq (hl : l ≤ 4200) {n : Nat} {s : List Nat} (hn : n < 4200) (hk : K n = 2) (hs : RSt N S Lt l n s) (hb : ∀ v, v ∈ s → v ≤ 255) : (isNm s ∧ m_X9_isName K N S Lt (nI n) = some 1) ∨ (¬ isNm s ∧ m_X9_isName K N S Lt (nI n) = some 0) := by
  obtain ⟨h1, st, h2, h3, h4⟩ := hs
  obtain ⟨f1, hf1⟩ : ∃ f, sr_fuel = f + 1 := ⟨sr_fuel - 1, by unfold sr_fuel; omega⟩
  have hz : m_X9_isName_38 K N S Lt sr_fuel (nI n) 0 0 = some 0 := by rw [hf1]; exact nm0 hn
  simp only [m_X9_isName, bd_go hn (by decide), bd_gc hn (by decide), nI_clamp (show n < 2 ^ 31 by omega), if_pos hk, h1, hz]
  by_cases a1 : 1 ≤ s.length
  case neg =>
    simp only [if_pos (show nI s.length ≤ 0 from nI_le (b := 0) (by omega) (by decide))]
    exact Or.inr ⟨fun z => a1 z.1, trivial⟩
  simp only [if_neg (show ¬ nI s.length ≤ 0 from nI_ge (a := 0) (by omega) (by omega))]
  by_cases a2 : s.length ≤ 32
  case neg =>
    simp only [if_pos (show (33 : Int32) ≤ nI s.length from nI_le (a := 33) (by omega) (by omega))]
    exact Or.inr ⟨fun z => a2 z.2.1, trivial⟩
  simp only [if_neg (show ¬ (33 : Int32) ≤ nI s.length from nI_ge (b := 33) (by omega) (by omega))]
  have go : ∀ (fuel j : Nat), j ≤ s.length → s.length - j < fuel → (∀ i, i < j → chr (s.getD i 0)) → (0 < j → ¬ (48 ≤ s.getD 0 0 ∧ s.getD 0 0 ≤ 57)) → (isNm s ∧ m_X9_isName_38 K N S Lt fuel (nI n) 1 (nI j) = some 1) ∨ (¬ isNm s ∧ m_X9_isName_38 K N S Lt fuel (nI n) 1 (nI j) = some 0) := by
    intro fuel
    induction fuel with
    | zero => intro j _ hf; exact absurd hf (Nat.not_lt_zero _)
    | succ fuel ih =>
      intro j hj hf ha h0
      simp only [m_X9_isName_38, bd_go hn (by decide), bd_gc hn (by decide), nI_clamp (show n < 2 ^ 31 by omega), h1, h2, lN_i, nI_add]
      by_cases c : s.length ≤ j
      · simp only [if_pos (nI_le c (show j < 2 ^ 31 by omega)), if_pos (Or.inr trivial)]
        exact Or.inl ⟨⟨a1, a2, h0 (by omega), fun i hi => ha i (by omega)⟩, trivial⟩
      · have hbj : s.getD j 0 ≤ 255 := by rw [ls_get (show j < s.length by omega)]; exact hb _ (List.getElem_mem _)
        obtain ⟨f2, rfl⟩ : ∃ f2, fuel = f2 + 1 := ⟨fuel - 1, by omega⟩
        have bad : ¬ isNm s → (isNm s ∧ (m_X9_isName_38 K N S Lt (f2 + 1)) (nI n) 0 (nI (j + 1)) = some 1) ∨ (¬ isNm s ∧ (m_X9_isName_38 K N S Lt (f2 + 1)) (nI n) 0 (nI (j + 1)) = some 0) := fun hx => Or.inr ⟨hx, nm0 hn⟩
        have nxt : chr (s.getD j 0) → (j = 0 → ¬ (48 ≤ s.getD 0 0 ∧ s.getD 0 0 ≤ 57)) → (isNm s ∧ (m_X9_isName_38 K N S Lt (f2 + 1)) (nI n) 1 (nI (j + 1)) = some 1) ∨ (¬ isNm s ∧ (m_X9_isName_38 K N S Lt (f2 + 1)) (nI n) 1 (nI (j + 1)) = some 0) := fun hch hd => ih (j + 1) (by omega) (by omega) (fun i hi => by
          by_cases e : i = j
          · rw [e]; exact hch
          · exact ha i (by omega)) (fun _ => by
          by_cases e : j = 0
          · exact hd e
          · exact h0 (by omega))
        have q48 := sb_l (n := s.getD j 0) (c := 48) (by omega) (by decide)
        have q57 := sb_g (n := s.getD j 0) (c := 57) (by omega) (by decide)
        have q97 := sb_l (n := s.getD j 0) (c := 97) (by omega) (by decide)
        have q65 := sb_l (n := s.getD j 0) (c := 65) (by omega) (by decide)
        have q122 : (sbI (s.getD j 0) ≤ 122) ↔ ¬ (s.getD j 0 < 128 ∧ 122 < s.getD j 0) := by
          rw [← sb_g (n := s.getD j 0) (c := 122) (by omega) (by decide), Int32.not_lt]
          exact Iff.rfl
        have q90 : (sbI (s.getD j 0) ≤ 90) ↔ ¬ (s.getD j 0 < 128 ∧ 90 < s.getD j 0) := by
          rw [← sb_g (n := s.getD j 0) (c := 90) (by omega) (by decide), Int32.not_lt]
          exact Iff.rfl
        have q95 := sb_e (n := s.getD j 0) (c := 95) (by omega) (by decide)
        simp only [if_neg (nI_ge (show j < s.length by omega) (by omega)), if_neg (show ¬ (1 : Int32) = 0 by decide), bd_go (show st + j < 4200 by omega) (by decide), bd_gc (show st + j < 4200 by omega) (by decide), nI_clamp (show st + j < 2 ^ 31 by omega), h4 j (by omega), m_X9_isName_86, m_X9_isName_87, m_X9_isName_103, m_X9_isName_117, m_X9_isName_133, nI_1, if_true]
        generalize hcj : s.getD j 0 = cj at *
        have h0j : j = 0 → s.getD 0 0 = cj := fun e => by rw [← hcj, e]
        have e48 : (sbI cj < 48) = (cj = 256 ∨ 128 ≤ cj ∨ cj < 48) := propext q48
        have e57 : (57 < sbI cj) = (cj < 128 ∧ 57 < cj) := propext q57
        have e97 : (sbI cj < 97) = (cj = 256 ∨ 128 ≤ cj ∨ cj < 97) := propext q97
        have e65 : (sbI cj < 65) = (cj = 256 ∨ 128 ≤ cj ∨ cj < 65) := propext q65
        have e122 : (sbI cj ≤ 122) = ¬ (cj < 128 ∧ 122 < cj) := propext q122
        have e90 : (sbI cj ≤ 90) = ¬ (cj < 128 ∧ 90 < cj) := propext q90
        have e95 : (sbI cj = 95) = (cj = 95) := propext q95
        simp only [e48, e57, e97, e65, e122, e90, e95]
        have nob : ¬ chr cj → ¬ isNm s := fun hx z => hx (by have := z.2.2.2 j (by omega); rw [hcj] at this; exact this)
        by_cases r1 : 97 ≤ cj ∧ cj ≤ 122
        · simp only [if_neg (show ¬ (cj = 256 ∨ 128 ≤ cj ∨ cj < 48) by omega), if_pos (show cj < 128 ∧ 57 < cj by omega), if_neg (show ¬ (cj = 256 ∨ 128 ≤ cj ∨ cj < 97) by omega), if_pos (show ¬ (cj < 128 ∧ 122 < cj) by omega)]
          exact nxt (by unfold chr; omega) (fun e => by rw [h0j e]; omega)
        by_cases r2 : 65 ≤ cj ∧ cj ≤ 90
        · simp only [if_neg (show ¬ (cj = 256 ∨ 128 ≤ cj ∨ cj < 48) by omega), if_pos (show cj < 128 ∧ 57 < cj by omega), if_pos (show cj = 256 ∨ 128 ≤ cj ∨ cj < 97 by omega), if_neg (show ¬ (cj = 256 ∨ 128 ≤ cj ∨ cj < 65) by omega), if_pos (show ¬ (cj < 128 ∧ 90 < cj) by omega)]
          exact nxt (by unfold chr; omega) (fun e => by rw [h0j e]; omega)
        by_cases r3 : cj = 95
        · simp only [if_neg (show ¬ (cj = 256 ∨ 128 ≤ cj ∨ cj < 48) by omega), if_pos (show cj < 128 ∧ 57 < cj by omega), if_pos (show cj = 256 ∨ 128 ≤ cj ∨ cj < 97 by omega), if_neg (show ¬ (cj = 256 ∨ 128 ≤ cj ∨ cj < 65) by omega), if_neg (show ¬ ¬ (cj < 128 ∧ 90 < cj) by omega), if_pos r3]
          exact nxt (by unfold chr; omega) (fun e => by rw [h0j e]; omega)
        by_cases r4 : 48 ≤ cj ∧ cj ≤ 57
        · simp only [if_neg (show ¬ (cj = 256 ∨ 128 ≤ cj ∨ cj < 48) by omega), if_neg (show ¬ (cj < 128 ∧ 57 < cj) by omega), if_pos (show cj = 256 ∨ 128 ≤ cj ∨ cj < 97 by omega), if_pos (show cj = 256 ∨ 128 ≤ cj ∨ cj < 65 by omega), if_neg r3, if_neg (show ¬ (1 : Int32) = 0 by decide)]
          by_cases r5 : j = 0
          · simp only [if_pos (show nI j ≤ 0 from nI_le (b := 0) (by omega) (by decide))]
            exact bad (fun z => z.2.2.1 (by rw [h0j r5]; exact r4))
          · simp only [if_neg (show ¬ nI j ≤ 0 from nI_ge (a := 0) (by omega) (by omega))]
            exact nxt (by unfold chr; omega) (fun e => absurd e r5)
        have hno : ¬ chr cj := by unfold chr; omega
        by_cases r6 : cj = 256 ∨ 128 ≤ cj ∨ cj < 48
        · simp only [if_pos r6, if_pos (show cj = 256 ∨ 128 ≤ cj ∨ cj < 97 by omega), if_pos (show cj = 256 ∨ 128 ≤ cj ∨ cj < 65 by omega), if_neg r3]
          exact bad (nob hno)
        · simp only [if_neg r6, if_pos (show cj < 128 ∧ 57 < cj by omega)]
          by_cases r7 : cj < 65
          · simp only [if_pos (show cj = 256 ∨ 128 ≤ cj ∨ cj < 97 by omega), if_pos (show cj = 256 ∨ 128 ≤ cj ∨ cj < 65 by omega), if_neg r3]
            exact bad (nob hno)
          · by_cases r8 : cj < 97
            · simp only [if_pos (show cj = 256 ∨ 128 ≤ cj ∨ cj < 97 by omega), if_neg (show ¬ (cj = 256 ∨ 128 ≤ cj ∨ cj < 65) by omega), if_neg (show ¬ ¬ (cj < 128 ∧ 90 < cj) by omega), if_neg r3]
              exact bad (nob hno)
            · simp only [if_neg (show ¬ (cj = 256 ∨ 128 ≤ cj ∨ cj < 97) by omega), if_neg (show ¬ ¬ (cj < 128 ∧ 122 < cj) by omega), if_neg (show ¬ (cj = 256 ∨ 128 ≤ cj ∨ cj < 65) by omega), if_neg (show ¬ ¬ (cj < 128 ∧ 90 < cj) by omega), if_neg r3]
              exact bad (nob hno)
  have := go sr_fuel 0 (by omega) (by unfold sr_fuel; omega) (fun i hi => absurd hi (Nat.not_lt_zero _)) (fun h => absurd h (Nat.lt_irrefl _))
  rw [nI_0] at this
  exact this
end LEAF2
end
section
-- the class's plain form: what is written, and names in it
section PLAIN
variable {T : Nat → Int32} {L : Nat} {Sd In Nx Am : Nat → Int32}
theorem wrS_app : ∀ (a b : List Nat) (f : Nat → Int32) (i : Nat), wrS f i (a ++ b) = wrS (wrS f i a) (i + a.length) b := by
  intro a
  induction a with
  | nil => intro b f i; rfl
  | cons v t ih =>
    intro b f i
    show wrS _ (i + 1) (t ++ b) = _
    rw [ih, List.length_cons, show i + 1 + t.length = i + (t.length + 1) by omega]
    rfl
theorem wb_eq {Pl : Nat → Int32} {lc v : Nat} (h : lc < 4096) : m_X6_writeByte Pl (nI lc) (nI v) = some (wrS Pl lc [v], nI (lc + 1)) := by
  unfold m_X6_writeByte
  rw [if_neg (show ¬ Int32.ofNat 4096 ≤ nI lc from nI_ge (b := 4096) h (by decide)), bd_go h (by decide), nI_clamp (by omega), nI_1]
  rfl
theorem wr_eq {Pl : Nat → Int32} {lc w : Nat} (hw : w < 75) (h : lc + (litN w).length ≤ 4096) : m_X6_write Pl (nI lc) w = some (wrS Pl lc (litN w), nI (lc + (litN w).length)) := by
  have hlen := lit_len w hw
  have h40 := lit_len40 w hw
  have go : ∀ (t : List Nat) (fuel j : Nat) (P : Nat → Int32), (litN w).drop j = t → j ≤ (litN w).length → t.length < fuel → m_X6_write_2 fuel P (nI (lc + j)) w (nI j) = some (wrS P (lc + j) t, nI (lc + (litN w).length)) := by
    intro t
    induction t with
    | nil =>
      intro fuel j P hd hj hf
      obtain ⟨f, rfl⟩ : ∃ f, fuel = f + 1 := ⟨fuel - 1, by omega⟩
      have hj2 : (litN w).length ≤ j := List.drop_eq_nil_iff.mp hd
      simp only [m_X6_write_2, if_neg (show ¬ nS ≤ w by unfold nS; omega), len_eq w hw, Option.bind_some]
      rw [if_pos (nI_le (by omega) (by omega)), show lc + j = lc + (litN w).length by omega]
      rfl
    | cons c t ih =>
      intro fuel j P hd hj hf
      obtain ⟨f, rfl⟩ : ∃ f, fuel = f + 1 := ⟨fuel - 1, by omega⟩
      have hj2 : j < (litN w).length := by
        apply Nat.lt_of_not_le
        intro q
        rw [List.drop_eq_nil_iff.mpr q] at hd
        cases hd
      have hd2 := ls_drop hj2
      rw [hd] at hd2
      have hc : c = (litN w).getD j 0 := (List.cons.inj hd2).1
      simp only [m_X6_write_2, if_neg (show ¬ nS ≤ w by unfold nS; omega), len_eq w hw, Option.bind_some]
      rw [if_neg (nI_ge (show j < lenS.getD w 0 by omega) (by omega)), chr_eq w hw j (by omega)]
      simp only [Option.bind_some]
      rw [lit_c w hw j (by omega), ← hc, wb_eq (by omega)]
      simp only [Option.bind_some, nI_1]
      have := ih f (j + 1) (wrS P (lc + j) [c]) (List.cons.inj hd2).2.symm (by omega) (by simp at hf; omega)
      rw [show lc + (j + 1) = lc + j + 1 by omega] at this
      exact this
  have := go (litN w) sr_fuel 0 Pl rfl (by omega) (by unfold sr_fuel; omega)
  rw [Nat.add_zero, nI_0] at this
  exact this
theorem ws_eq {Pl : Nat → Int32} {lc p : Nat} {s : List Nat} (hs : SAID Sd Am p s) (h : lc + s.length + 2 ≤ 4096) : m_X6_writeSaid Pl (nI lc) Sd Am (nI p) = some (nI (lc + 1), (wrS Pl lc (34 :: (s ++ [34])), nI (lc + s.length + 2))) := by
  obtain ⟨h1, h2, h3, h4⟩ := hs
  have go : ∀ (t : List Nat) (fuel j : Nat) (P : Nat → Int32), s.drop j = t → j ≤ s.length → t.length < fuel → m_X6_writeSaid_14 Sd Am fuel P (nI (lc + 1 + j)) (nI p) (nI (lc + 1)) (nI j) = some (nI (lc + 1), (wrS P (lc + 1 + j) (t ++ [34]), nI (lc + s.length + 2))) := by
    intro t
    induction t with
    | nil =>
      intro fuel j P hd hj hf
      obtain ⟨f, rfl⟩ : ∃ f, fuel = f + 1 := ⟨fuel - 1, by omega⟩
      have hj2 : s.length ≤ j := List.drop_eq_nil_iff.mp hd
      simp only [m_X6_writeSaid_14, m_X7_amount, ent_eq (n := 4096) (by decide) h1, Option.bind_some, h3]
      rw [if_pos (nI_le (by omega) (by omega)), show (34 : Int32) = nI 34 from rfl, wb_eq (by omega)]
      simp only [Option.bind_some]
      rw [show lc + 1 + j + 1 = lc + s.length + 2 by omega]
      rfl
    | cons c t ih =>
      intro fuel j P hd hj hf
      obtain ⟨f, rfl⟩ : ∃ f, fuel = f + 1 := ⟨fuel - 1, by omega⟩
      have hj2 : j < s.length := by
        apply Nat.lt_of_not_le
        intro q
        rw [List.drop_eq_nil_iff.mpr q] at hd
        cases hd
      have hd2 := ls_drop hj2
      rw [hd] at hd2
      have hc : c = s.getD j 0 := (List.cons.inj hd2).1
      simp only [m_X6_writeSaid_14, m_X7_amount, ent_eq (n := 4096) (by decide) h1, Option.bind_some, h3, nI_add, nI_1]
      rw [if_neg (nI_ge hj2 (by omega)), sai_eq (by omega)]
      simp only [Option.bind_some]
      rw [h4 j hj2, ← hc, wb_eq (by omega)]
      simp only [Option.bind_some]
      exact ih f (j + 1) (wrS P (lc + 1 + j) [c]) (List.cons.inj hd2).2.symm (by omega) (by simp at hf; omega)
  unfold m_X6_writeSaid
  rw [show (34 : Int32) = nI 34 from rfl, wb_eq (by omega)]
  simp only [Option.bind_some]
  have := go s sr_fuel 0 (wrS Pl lc [34]) rfl (by omega) (by unfold sr_fuel; omega)
  rw [Nat.add_zero, nI_0] at this
  exact this
theorem lat_eq {Pl : Nat → Int32} {lc i : Nat} (h : lc ≤ 4096) (hi : i < 2 ^ 31) : m_X6_letterAt Pl (nI lc) (nI i) = some (if i < lc then nI (bv (Pl i)) else -1) := by
  unfold m_X6_letterAt
  rw [if_neg (nI_pos hi)]
  by_cases c : lc ≤ i
  · rw [if_pos (nI_le c hi), if_neg (by omega)]
  · rw [if_neg (nI_ge (by omega) (by omega)), bd_go (show i < 4096 by omega) (by decide), nI_clamp hi, pk_and (Pl i) 8 (by decide), if_pos (by omega)]
    rfl
/-- at x the plain form says the name s, and a quote ends it -/
def PN (Pl : Nat → Int32) (lc x : Nat) (s : List Nat) : Prop := x + s.length < lc ∧ lc ≤ 4096 ∧ isNm s ∧ (∀ j, j < s.length → bv (Pl (x + j)) = s.getD j 0) ∧ bv (Pl (x + s.length)) = 34
theorem PN.keep {Pl Pl' : Nat → Int32} {lc lc' x : Nat} {s : List Nat} (h : PN Pl lc x s) (h1 : lc ≤ lc') (h2 : lc' ≤ 4096) (h3 : ag lc Pl Pl') : PN Pl' lc' x s := by
  obtain ⟨a1, a2, a3, a4, a5⟩ := h
  refine ⟨by omega, h2, a3, fun j hj => ?_, ?_⟩
  · rw [← h3 _ (by omega)]; exact a4 j hj
  · rw [← h3 _ a1]; exact a5
theorem PN.wr {Pl : Nat → Int32} {lc : Nat} {s : List Nat} (hn : isNm s) (hb : ∀ v, v ∈ s → v ≤ 255) (h : lc + s.length + 2 ≤ 4096) : PN (wrS Pl lc (34 :: (s ++ [34]))) (lc + s.length + 2) (lc + 1) s := by
  have hall : ∀ v, v ∈ (34 :: (s ++ [34])) → v ≤ 255 := by
    intro v hv
    rcases List.mem_cons.mp hv with e | e
    · omega
    · rcases List.mem_append.mp e with e | e
      · exact hb v e
      · rw [List.mem_singleton.mp e]; decide
  obtain ⟨w1, w2, w3⟩ := wrS_all (34 :: (s ++ [34])) Pl lc hall
  have hlen : (34 :: (s ++ [34])).length = s.length + 2 := by simp
  refine ⟨by omega, h, hn, fun j hj => ?_, ?_⟩
  · rw [show lc + 1 + j = lc + (j + 1) by omega, w3 (j + 1) (by omega)]
    simp only [List.getD_cons_succ]
    rw [ls_get (show j < (s ++ [34]).length by simp; omega), ls_get hj, List.getElem_append_left hj]
  · rw [show lc + 1 + s.length = lc + (s.length + 1) by omega, w3 (s.length + 1) (by omega)]
    simp
theorem nm_q {s : List Nat} {j : Nat} (h : isNm s) (hj : j < s.length) : s.getD j 0 ≠ 34 := fun e => by
  have := h.2.2.2 j hj
  rw [e] at this
  unfold chr at this
  omega
theorem isd_eq {Pl : Nat → Int32} {lc x p : Nat} {s t : List Nat} (h : PN Pl lc x s) (ht : SAID Sd Am p t) : m_X6_isSaid Pl (nI lc) Sd Am (nI x) (nI p) = some (if s = t then 1 else 0) := by
  obtain ⟨a1, a2, a3, a4, a5⟩ := h
  obtain ⟨h1, h2, h3, h4⟩ := ht
  have hs1 := a3.1
  have hs2 := a3.2.1
  unfold m_X6_isSaid
  simp only [m_X7_amount, ent_eq (n := 4096) (by decide) h1, Option.bind_some, h3]
  by_cases c1 : t.length < 1
  · rw [if_pos (show nI t.length < 1 from nI_lt (b := 1) c1 (by decide)), if_neg (fun e => by rw [e] at hs1; omega)]
  rw [if_neg (show ¬ nI t.length < 1 from nI_nlt (b := 1) (by omega) (by omega))]
  by_cases c2 : t.length ≤ 32
  case neg =>
    rw [if_neg (show ¬ nI t.length ≤ 32 from nI_ge (a := 32) (by omega) (by omega)), if_neg (fun e => by rw [e] at hs2; omega)]
  rw [if_pos (show nI t.length ≤ 32 from nI_le (b := 32) c2 (by decide))]
  have go : ∀ (fuel j : Nat), j ≤ t.length → j ≤ s.length → t.length - j < fuel → (∀ i, i < j → s.getD i 0 = t.getD i 0) → m_X6_isSaid_25 Pl (nI lc) Sd Am fuel (nI x) (nI p) (nI t.length) (nI j) = some (if s = t then 1 else 0) := by
    intro fuel
    induction fuel with
    | zero => intro j _ _ hf; exact absurd hf (Nat.not_lt_zero _)
    | succ fuel ih =>
      intro j hj hjs hf ha
      simp only [m_X6_isSaid_25, nI_add, nI_1]
      by_cases c : t.length ≤ j
      · have ej : j = t.length := by omega
        rw [if_pos (nI_le c (by omega)), lat_eq a2 (by omega), if_pos (show x + t.length < lc by omega)]
        simp only [Option.bind_some]
        by_cases e : s.length = t.length
        · rw [if_pos (ls_eq e (fun i hi => ha i (by omega))), ← e, a5, if_pos (show nI 34 = 34 from rfl)]
        · have hq := nm_q a3 (show t.length < s.length by omega)
          have hb := bv_lt (Pl (x + t.length))
          rw [a4 _ (by omega)] at hb ⊢
          rw [if_neg (show ¬ nI (s.getD t.length 0) = 34 from fun z => hq ((nI_eq (b := 34) (by omega) (by decide)).mp z)), if_neg (fun z => e (by rw [z]))]
      · have hb := bv_lt (Pl (x + j))
        have hb2 := bv_lt (Sd (p + j))
        rw [if_neg (nI_ge (show j < t.length by omega) (by omega)), lat_eq a2 (by omega), if_pos (show x + j < lc by omega)]
        simp only [Option.bind_some]
        by_cases e : j = s.length
        · rw [e, a5, if_pos (show nI 34 = 34 from rfl), if_neg (fun z => by rw [z] at e; omega)]
        · have hq := nm_q a3 (show j < s.length by omega)
          rw [a4 j (by omega)] at hb ⊢
          rw [h4 j (by omega)] at hb2
          rw [if_neg (show ¬ nI (s.getD j 0) = 34 from fun z => hq ((nI_eq (b := 34) (by omega) (by decide)).mp z)), sai_eq (by omega)]
          simp only [Option.bind_some]
          rw [h4 j (by omega)]
          by_cases q : s.getD j 0 = t.getD j 0
          · rw [if_pos (by rw [q])]
            refine ih (j + 1) (by omega) (by omega) (by omega) (fun i hi => ?_)
            by_cases e2 : i = j
            · rw [e2]; exact q
            · exact ha i (by omega)
          · rw [if_neg (fun z => q ((nI_eq (by omega) (by omega)).mp z)), if_neg (fun z => q (by rw [z]))]
  have := go sr_fuel 0 (by omega) (by omega) (by unfold sr_fuel; omega) (fun i hi => absurd hi (Nat.not_lt_zero _))
  rw [nI_0] at this
  exact this
/-- names of slots: each says one, or it is none -/
def NMS (Pl Na : Nat → Int32) (lc sc : Nat) : Prop := ∀ i, i < sc → Na i = -1 ∨ ∃ x s, Na i = nI x ∧ PN Pl lc x s
theorem def_eq {Pl Na : Nat → Int32} {lc sc p : Nat} {t : List Nat} (hsc : sc ≤ 128) (hn : NMS Pl Na lc sc) (ht : SAID Sd Am p t) : (∃ i x, i < sc ∧ Na i = nI x ∧ PN Pl lc x t ∧ m_X6_definition Pl Na (nI lc) (nI sc) Sd Am (nI p) = some (nI i)) ∨ ((∀ i x, i < sc → Na i = nI x → ¬ PN Pl lc x t) ∧ m_X6_definition Pl Na (nI lc) (nI sc) Sd Am (nI p) = some (-1)) := by
  have go : ∀ (fuel j : Nat), j ≤ sc → sc - j < fuel → (∀ i x, i < j → Na i = nI x → ¬ PN Pl lc x t) → (∃ i x, i < sc ∧ Na i = nI x ∧ PN Pl lc x t ∧ m_X6_definition_2 Pl Na (nI lc) (nI sc) Sd Am fuel (nI p) (nI j) = some (nI i)) ∨ ((∀ i x, i < sc → Na i = nI x → ¬ PN Pl lc x t) ∧ m_X6_definition_2 Pl Na (nI lc) (nI sc) Sd Am fuel (nI p) (nI j) = some (-1)) := by
    intro fuel
    induction fuel with
    | zero => intro j _ hf; exact absurd hf (Nat.not_lt_zero _)
    | succ fuel ih =>
      intro j hj hf ha
      simp only [m_X6_definition_2, nI_1]
      by_cases c : sc ≤ j
      · simp only [if_pos (nI_le c (show j < 2 ^ 31 by omega))]
        exact Or.inr ⟨fun i x hi => ha i x (by omega), trivial⟩
      · simp only [if_neg (nI_ge (show j < sc by omega) (show sc < 2 ^ 31 by omega)), bd_go (show j < 128 by omega) (by decide), bd_gc (show j < 128 by omega) (by decide), nI_clamp (show j < 2 ^ 31 by omega)]
        have nxt : (∀ x, Na j = nI x → ¬ PN Pl lc x t) → _ := fun hx => ih (j + 1) (by omega) (by omega) (fun i x hi => by
          by_cases e : i = j
          · rw [e]; exact hx x
          · exact ha i x (by omega))
        rcases hn j (by omega) with e | ⟨x, s, e, hp⟩
        · simp only [e, if_true]
          refine nxt (fun x hx hp => ?_)
          rw [e] at hx
          exact nI_m1 (n := x) (by have := hp.1; have := hp.2.1; omega) hx.symm
        · have hx1 := hp.1
          have hx2 := hp.2.1
          simp only [e, if_neg (nI_m1 (n := x) (by omega)), isd_eq hp ht, Option.bind_some]
          by_cases q : s = t
          · simp only [if_pos q, if_neg (show ¬ (1 : Int32) = 0 by decide)]
            exact Or.inl ⟨j, x, by omega, e, by rw [← q]; exact hp, rfl⟩
          · simp only [if_neg q, if_true]
            refine nxt (fun x' hx' hp' => q ?_)
            have e2 : x = x' := (nI_eq (by omega) (by have := hp'.1; have := hp'.2.1; omega)).mp (e.symm.trans hx')
            subst e2
            obtain ⟨a1, a2, a3, a4, a5⟩ := hp
            obtain ⟨b1, b2, b3, b4, b5⟩ := hp'
            have hlen : s.length = t.length := by
              rcases Nat.lt_trichotomy s.length t.length with z | z | z
              · exact absurd (by rw [← b4 _ z]; exact a5) (nm_q b3 z)
              · exact z
              · exact absurd (by rw [← a4 _ z]; exact b5) (nm_q a3 z)
            exact ls_eq hlen (fun i hi => by rw [← a4 i hi, b4 i (by omega)])
  have := go sr_fuel 0 (by omega) (by unfold sr_fuel; omega) (fun i x hi => absurd hi (Nat.not_lt_zero _))
  rw [nI_0] at this
  exact this
end PLAIN
end
section
-- chains in rows; fields and symbols by name
def ICH (X : Nat → Int32) (h : Int32) (k : Nat) (c : Nat → Nat) (hi : Nat) : Prop := (∀ i, i < k → c i < hi ∧ X (c i) = (if i + 1 = k then -1 else nI (c (i + 1)))) ∧ (∀ i j, i < j → j < k → c i < c j) ∧ h = (if k = 0 then -1 else nI (c 0))
theorem ICH.nil {X : Nat → Int32} {hi : Nat} {c : Nat → Nat} : ICH X (-1) 0 c hi := ⟨fun i hi => absurd hi (Nat.not_lt_zero _), fun i j _ hj => absurd hj (Nat.not_lt_zero _), rfl⟩
theorem ICH.keep {X X' : Nat → Int32} {h : Int32} {k hi hi' : Nat} {c : Nat → Nat} (hc : ICH X h k c hi) (hh : hi ≤ hi') (ha : ∀ i, i < hi → X' i = X i) : ICH X' h k c hi' := by
  obtain ⟨a1, a2, a3⟩ := hc
  refine ⟨fun i hi => ?_, a2, a3⟩
  obtain ⟨b1, b2⟩ := a1 i hi
  exact ⟨by omega, by rw [ha _ b1]; exact b2⟩
theorem ICH.push {X X2 : Nat → Int32} {h h2 : Int32} {k hi hi' n : Nat} {c : Nat → Nat} (hc : ICH X h k c hi) (hn : hi ≤ n) (hn' : n < hi') (hx : ∀ i, i < hi → X2 i = (if k = 0 then X else upd X (c (k - 1)) (nI n)) i) (hxn : X2 n = -1) (hh : h2 = (if k = 0 then nI n else h)) : ICH X2 h2 (k + 1) (snc c k n) hi' := by
  obtain ⟨a1, a2, a3⟩ := hc
  refine ⟨fun i hik => ?_, fun i j hij hj => ?_, ?_⟩
  · by_cases e : i = k
    · subst e
      rw [snc_s, if_pos rfl]
      exact ⟨hn', hxn⟩
    · obtain ⟨b1, b2⟩ := a1 i (by omega)
      rw [snc_n e, if_neg (show ¬ i + 1 = k + 1 by omega), hx _ b1, if_neg (by omega)]
      refine ⟨by omega, ?_⟩
      by_cases e2 : i + 1 = k
      · rw [show k - 1 = i by omega, pk_us, e2, snc_s]
      · have := a2 i (k - 1) (by omega) (by omega)
        rw [pk_un (by omega), snc_n e2, b2, if_neg e2]
  · by_cases e : j = k
    · subst e
      rw [snc_s, snc_n (by omega)]
      have := (a1 i (by omega)).1
      omega
    · rw [snc_n e, snc_n (by omega)]
      exact a2 i j hij (by omega)
  · rw [hh, if_neg (show ¬ k + 1 = 0 by omega)]
    by_cases e : k = 0
    · subst e
      rw [if_pos rfl, snc_s]
    · rw [if_neg e, snc_n (by omega), a3, if_neg e]
theorem ICH.ptr {X : Nat → Int32} {h : Int32} {k hi : Nat} {c : Nat → Nat} (hc : ICH X h k c hi) : h = (if 0 = k then -1 else nI (c 0)) := by
  rw [hc.2.2]
  by_cases e : k = 0
  · rw [if_pos e, if_pos e.symm]
  · rw [if_neg e, if_neg (fun z => e z.symm)]
section NAMES
variable {Sd Am : Nat → Int32}
theorem hfd_eq {Pl Me Fi Ne Fn Ac : Nat → Int32} {lc r k p : Nat} {c : Nat → Nat} {nm : Nat → List Nat} {t : List Nat} (hr : r < 128) (hme : Me r = nI r) (hac : Ac r = nI k) (hk : k < 1000) (hch : ICH Ne (Fi r) k c 128) (hnm : ∀ i, i < k → ∃ x, Fn (c i) = nI x ∧ PN Pl lc x (nm i)) (ht : SAID Sd Am p t) :
    ((∃ i, i < k ∧ nm i = t) ∧ m_X6_hasField Pl Me Fi Ne Fn Ac (nI lc) Sd Am (nI r) (nI p) = some 1) ∨ ((¬ ∃ i, i < k ∧ nm i = t) ∧ m_X6_hasField Pl Me Fi Ne Fn Ac (nI lc) Sd Am (nI r) (nI p) = some 0) := by
  have go : ∀ (fuel j : Nat), j ≤ k → k - j < fuel → (∀ i, i < j → nm i ≠ t) → ((∃ i, i < k ∧ nm i = t) ∧ m_X6_hasField_10 Pl Me Fi Ne Fn Ac (nI lc) Sd Am fuel (nI r) (nI p) (if j = k then -1 else nI (c j)) (nI j) = some 1) ∨ ((¬ ∃ i, i < k ∧ nm i = t) ∧ m_X6_hasField_10 Pl Me Fi Ne Fn Ac (nI lc) Sd Am fuel (nI r) (nI p) (if j = k then -1 else nI (c j)) (nI j) = some 0) := by
    intro fuel
    induction fuel with
    | zero => intro j _ hf; exact absurd hf (Nat.not_lt_zero _)
    | succ fuel ih =>
      intro j hj hf ha
      simp only [m_X6_hasField_10, m_X6_amount, ent_eq (n := 128) (by decide) hr, hme, hac, Option.bind_some, nI_1]
      by_cases e : j = k
      · simp only [if_pos (nI_le (show k ≤ j by omega) (show j < 2 ^ 31 by omega))]
        exact Or.inr ⟨fun ⟨i, i1, i2⟩ => ha i (by omega) i2, trivial⟩
      · obtain ⟨c1, c2⟩ := hch.1 j (by omega)
        obtain ⟨x, x1, x2⟩ := hnm j (by omega)
        simp only [if_neg e, if_neg (nI_ge (show j < k by omega) (show k < 2 ^ 31 by omega)), m_X6_fieldName, ent_eq (n := 128) (by decide) c1, x1, Option.bind_some, isd_eq x2 ht, m_X6_next, c2]
        by_cases q : nm j = t
        · simp only [if_pos q, if_neg (show ¬ (1 : Int32) = 0 by decide)]
          exact Or.inl ⟨⟨j, by omega, q⟩, trivial⟩
        · simp only [if_neg q, if_true]
          refine ih (j + 1) (by omega) (by omega) (fun i hi => ?_)
          by_cases e2 : i = j
          · rw [e2]; exact q
          · exact ha i (by omega)
  unfold m_X6_hasField
  simp only [m_X6_first, ent_eq (n := 128) (by decide) hr, hme, Option.bind_some]
  have := go sr_fuel 0 (by omega) (by unfold sr_fuel; omega) (fun i hi => absurd hi (Nat.not_lt_zero _))
  rw [nI_0, ← hch.ptr] at this
  exact this
/-- symbols one behind the other in the plain form -/
def SYM (Pl : Nat → Int32) (lc k : Nat) (x : Nat → Nat) (sy : Nat → List Nat) : Prop := (∀ i, i < k → PN Pl lc (x i) (sy i)) ∧ ∀ i, i + 1 < k → x (i + 1) = x i + (sy i).length + 3
theorem nxs_eq {Pl : Nat → Int32} {lc x : Nat} {s : List Nat} (h : PN Pl lc x s) : m_X6_nextSymbol Pl (nI lc) (nI x) = some (nI (x + s.length + 3)) := by
  obtain ⟨a1, a2, a3, a4, a5⟩ := h
  have go : ∀ (fuel j : Nat), j ≤ s.length → s.length - j < fuel → m_X6_nextSymbol_2 Pl (nI lc) fuel (nI (x + j)) = some (nI (x + s.length + 3)) := by
    intro fuel
    induction fuel with
    | zero => intro j _ hf; exact absurd hf (Nat.not_lt_zero _)
    | succ fuel ih =>
      intro j hj hf
      simp only [m_X6_nextSymbol_2, nI_1]
      rw [if_neg (nI_ge (show x + j < lc by omega) (by omega)), lat_eq a2 (by omega), if_pos (show x + j < lc by omega)]
      simp only [Option.bind_some]
      by_cases e : j = s.length
      · rw [e, a5, if_pos (show nI 34 = 34 from rfl), show (3 : Int32) = nI 3 from rfl, nI_add]
      · have hq := nm_q a3 (show j < s.length by omega)
        have hb := bv_lt (Pl (x + j))
        rw [a4 j (by omega)] at hb ⊢
        rw [if_neg (show ¬ nI (s.getD j 0) = 34 from fun z => hq ((nI_eq (b := 34) (by omega) (by decide)).mp z))]
        exact ih (j + 1) (by omega) (by omega)
  have := go sr_fuel 0 (by omega) (by have := a3.2.1; unfold sr_fuel; omega)
  rw [Nat.add_zero] at this
  exact this
theorem hsy_eq {Pl Me Fi Ac : Nat → Int32} {lc r m k p : Nat} {x : Nat → Nat} {sy : Nat → List Nat} {t : List Nat} (hr : r < 128) (hm : m < 128) (hme : Me r = nI m) (hac : Ac m = nI k) (hk : k < 1000) (hfi : 0 < k → Fi m = nI (x 0)) (hsy : SYM Pl lc k x sy) (ht : SAID Sd Am p t) :
    ((∃ i, i < k ∧ sy i = t) ∧ m_X6_hasSymbol Pl Me Fi Ac (nI lc) Sd Am (nI r) (nI p) = some 1) ∨ ((¬ ∃ i, i < k ∧ sy i = t) ∧ m_X6_hasSymbol Pl Me Fi Ac (nI lc) Sd Am (nI r) (nI p) = some 0) := by
  have go : ∀ (fuel j : Nat) (y : Int32), j ≤ k → k - j < fuel → (j < k → y = nI (x j)) → (∀ i, i < j → sy i ≠ t) → ((∃ i, i < k ∧ sy i = t) ∧ m_X6_hasSymbol_10 Pl Me Fi Ac (nI lc) Sd Am fuel (nI r) (nI p) y (nI j) = some 1) ∨ ((¬ ∃ i, i < k ∧ sy i = t) ∧ m_X6_hasSymbol_10 Pl Me Fi Ac (nI lc) Sd Am fuel (nI r) (nI p) y (nI j) = some 0) := by
    intro fuel
    induction fuel with
    | zero => intro j y _ hf; exact absurd hf (Nat.not_lt_zero _)
    | succ fuel ih =>
      intro j y hj hf hy ha
      simp only [m_X6_hasSymbol_10, m_X6_amount, ent_eq (n := 128) (by decide) hr, hme, ent_eq (n := 128) (by decide) hm, hac, Option.bind_some, nI_1]
      by_cases e : k ≤ j
      · simp only [if_pos (nI_le e (show j < 2 ^ 31 by omega))]
        exact Or.inr ⟨fun ⟨i, i1, i2⟩ => ha i (by omega) i2, trivial⟩
      · have hp := hsy.1 j (by omega)
        rw [hy (by omega)]
        simp only [if_neg (nI_ge (show j < k by omega) (show k < 2 ^ 31 by omega)), isd_eq hp ht, Option.bind_some, nxs_eq hp]
        by_cases q : sy j = t
        · simp only [if_pos q, if_neg (show ¬ (1 : Int32) = 0 by decide)]
          exact Or.inl ⟨⟨j, by omega, q⟩, trivial⟩
        · simp only [if_neg q, if_true]
          refine ih (j + 1) _ (by omega) (by omega) (fun h => by rw [hsy.2 j h]) (fun i hi => ?_)
          by_cases e2 : i = j
          · rw [e2]; exact q
          · exact ha i (by omega)
  unfold m_X6_hasSymbol
  simp only [m_X6_first, ent_eq (n := 128) (by decide) hr, hme, ent_eq (n := 128) (by decide) hm, Option.bind_some]
  have := go sr_fuel 0 (Fi m) (by omega) (by unfold sr_fuel; omega) hfi (fun i hi => absurd hi (Nat.not_lt_zero _))
  rw [nI_0] at this
  exact this
end NAMES
section RNAMES
variable {N : Nat → Int64} {S Lt : Nat → Int32} {l : Nat}
/-- a row that says s -/
def RNm (N : Nat → Int64) (S Lt : Nat → Int32) (l : Nat) (x : Int32) (s : List Nat) : Prop := ∃ n, x = nI n ∧ n < 4200 ∧ RSt N S Lt l n s ∧ ∀ v, v ∈ s → v ≤ 255
theorem rsy_eq {Ki Kn Kx : Nat → Int32} {t k n kc : Nat} {e : Nat → Nat} {sy : Nat → List Nat} {u : List Nat} (hl : l ≤ 4200) (ht : t < 140) (hkc : kc ≤ 2200) (hch : ICH Kx (Ki t) k e kc) (hnm : ∀ i, i < k → RNm N S Lt l (Kn (e i)) (sy i)) (hu : RNm N S Lt l (nI n) u) (hn : n < 4200) (hk : k < 90000) :
    ((∃ i, i < k ∧ sy i = u) ∧ ∃ j, j < k ∧ m_X9_symbol N S Lt Ki Kn Kx N S Lt (nI t) (nI n) = some (nI j)) ∨ ((¬ ∃ i, i < k ∧ sy i = u) ∧ m_X9_symbol N S Lt Ki Kn Kx N S Lt (nI t) (nI n) = some (-1)) := by
  obtain ⟨n', en, _, hu1, hu2⟩ := hu
  have en2 : n = n' := (nI_eq (by omega) (by omega)).mp en
  subst en2
  have go : ∀ (fuel j : Nat), j ≤ k → k - j < fuel → (∀ i, i < j → sy i ≠ u) → ((∃ i, i < k ∧ sy i = u) ∧ ∃ j', j' < k ∧ m_X9_symbol_11 N S Lt Ki Kn Kx N S Lt fuel (nI n) (nI j) (if j = k then -1 else nI (e j)) = some (nI j')) ∨ ((¬ ∃ i, i < k ∧ sy i = u) ∧ m_X9_symbol_11 N S Lt Ki Kn Kx N S Lt fuel (nI n) (nI j) (if j = k then -1 else nI (e j)) = some (-1)) := by
    intro fuel
    induction fuel with
    | zero => intro j _ hf; exact absurd hf (Nat.not_lt_zero _)
    | succ fuel ih =>
      intro j hj hf ha
      by_cases ej : j = k
      · simp only [if_pos ej, m_X9_symbol_11, if_pos (show (-1 : Int32) < 0 by decide)]
        exact Or.inr ⟨fun ⟨i, i1, i2⟩ => ha i (by omega) i2, trivial⟩
      · obtain ⟨c1, c2⟩ := hch.1 j (by omega)
        obtain ⟨m, m1, m2, m3, m4⟩ := hnm j (by omega)
        simp only [if_neg ej, m_X9_symbol_11, if_neg (nI_pos (show e j < 2 ^ 31 by omega)), bd_go (show e j < 2200 by omega) (by decide), bd_gc (show e j < 2200 by omega) (by decide), nI_clamp (show e j < 2 ^ 31 by omega), m1, same_r m2 hn hl hl m3 hu1 m4 hu2, Option.bind_some, c2, nI_1]
        by_cases q : sy j = u
        · simp only [if_pos q, if_neg (show ¬ (1 : Int32) = 0 by decide)]
          exact Or.inl ⟨⟨j, by omega, q⟩, j, by omega, rfl⟩
        · simp only [if_neg q, if_true]
          refine ih (j + 1) (by omega) (by omega) (fun i hi => ?_)
          by_cases e2 : i = j
          · rw [e2]; exact q
          · exact ha i (by omega)
  unfold m_X9_symbol
  rw [bd_go ht (by decide), nI_clamp (by omega)]
  have := go sr_fuel 0 (by omega) (by unfold sr_fuel; omega) (fun i hi => absurd hi (Nat.not_lt_zero _))
  rw [nI_0, ← hch.ptr] at this
  exact this
theorem dfr_eq {Nm : Nat → Int32} {sh n : Nat} {u : List Nat} (hl : l ≤ 4200) (h6 : 6 ≤ sh) (hsh : sh ≤ 140) (hnm : ∀ t, 6 ≤ t → t < sh → Nm t = -1 ∨ ∃ s, RNm N S Lt l (Nm t) s) (hu : RNm N S Lt l (nI n) u) (hn : n < 4200) :
    (∃ t, 6 ≤ t ∧ t < sh ∧ RNm N S Lt l (Nm t) u ∧ m_X9_defined N S Lt (nI sh) Nm (nI n) = some (nI t)) ∨ ((∀ t, 6 ≤ t → t < sh → ¬ RNm N S Lt l (Nm t) u) ∧ m_X9_defined N S Lt (nI sh) Nm (nI n) = some (-1)) := by
  obtain ⟨n', en, _, hu1, hu2⟩ := hu
  have en2 : n = n' := (nI_eq (by omega) (by omega)).mp en
  subst en2
  have go : ∀ (fuel j : Nat), 6 ≤ j → j ≤ sh → sh - j < fuel → (∀ t, 6 ≤ t → t < j → ¬ RNm N S Lt l (Nm t) u) → (∃ t, 6 ≤ t ∧ t < sh ∧ RNm N S Lt l (Nm t) u ∧ m_X9_defined_3 N S Lt (nI sh) Nm fuel (nI n) (nI j) = some (nI t)) ∨ ((∀ t, 6 ≤ t → t < sh → ¬ RNm N S Lt l (Nm t) u) ∧ m_X9_defined_3 N S Lt (nI sh) Nm fuel (nI n) (nI j) = some (-1)) := by
    intro fuel
    induction fuel with
    | zero => intro j _ _ hf; exact absurd hf (Nat.not_lt_zero _)
    | succ fuel ih =>
      intro j h6j hj hf ha
      simp only [m_X9_defined_3, nI_1]
      by_cases c : sh ≤ j
      · simp only [if_pos (nI_le c (show j < 2 ^ 31 by omega))]
        exact Or.inr ⟨fun t h1 h2 => ha t h1 (by omega), trivial⟩
      · simp only [if_neg (nI_ge (show j < sh by omega) (show sh < 2 ^ 31 by omega)), bd_go (show j < 140 by omega) (by decide), bd_gc (show j < 140 by omega) (by decide), nI_clamp (show j < 2 ^ 31 by omega)]
        have nxt : ¬ RNm N S Lt l (Nm j) u → _ := fun hx => ih (j + 1) (by omega) (by omega) (by omega) (fun t h1 h2 => by
          by_cases e : t = j
          · rw [e]; exact hx
          · exact ha t h1 (by omega))
        rcases hnm j h6j (by omega) with e | ⟨s, m, m1, m2, m3, m4⟩
        · simp only [e, if_pos (show (-1 : Int32) < 0 by decide)]
          refine nxt (fun ⟨x, x1, x2, _⟩ => ?_)
          rw [e] at x1
          exact nI_m1 (n := x) (by omega) x1.symm
        · simp only [m1, if_neg (nI_pos (show m < 2 ^ 31 by omega)), same_r m2 hn hl hl m3 hu1 m4 hu2, Option.bind_some]
          by_cases q : s = u
          · simp only [if_pos q, if_neg (show ¬ (1 : Int32) = 0 by decide)]
            exact Or.inl ⟨j, h6j, by omega, ⟨m, m1, m2, by rw [← q]; exact m3, hu2⟩, rfl⟩
          · simp only [if_neg q, if_true]
            refine nxt (fun ⟨x, x1, x2, x3, x4⟩ => q ?_)
            have e2 : m = x := (nI_eq (by omega) (by omega)).mp (m1.symm.trans x1)
            subst e2
            have a := same_r m2 m2 hl hl m3 m3 m4 m4
            have b := same_r m2 m2 hl hl m3 x3 m4 x4
            rw [if_pos rfl] at a
            rw [a] at b
            by_cases e3 : s = u
            · exact e3
            · rw [if_neg e3] at b
              exact absurd (Option.some.inj b) (by decide)
  unfold m_X9_defined
  have := go sr_fuel 6 (by omega) h6 (by unfold sr_fuel; omega) (fun t h1 h2 => by omega)
  exact this
end RNAMES
end
section
-- numbers as the class takes them
theorem one_dig : ∀ c, c < 10 → -((0 : Int64) * 10 - (nI c).toInt64) = lN c := by decide +kernel
theorem ite_inr {c : Prop} {i : Decidable c} {a b q : Nat} (h : (@ite _ c i (Sum.inr b) (Sum.inl a) : Nat ⊕ Nat) = .inr q) : b = q := by
  by_cases hc : c
  · rw [if_pos hc] at h
    exact Sum.inr.inj h
  · rw [if_neg hc] at h
    cases h
theorem snum_d {T : Nat → Int32} {L p q : Nat} (h : snum T L p = .inr q) : (if cb T L p = 45 then p + 1 else p) < q ∧ (∀ i, (if cb T L p = 45 then p + 1 else p) ≤ i → i < q → 48 ≤ cb T L i ∧ cb T L i ≤ 57) ∧ (if cb T L (if cb T L p = 45 then p + 1 else p) = 48 then (if cb T L p = 45 then p + 1 else p) + 1 else sdg T L ((if cb T L p = 45 then p + 1 else p) + 1)) = q := by
  simp only [snum] at h
  generalize (if cb T L p = 45 then p + 1 else p) = f at h ⊢
  by_cases c1 : 48 ≤ cb T L f ∧ cb T L f ≤ 57
  · rw [if_pos c1] at h
    have e := ite_inr h
    have hd := sdgf_le (B := T) (L := L) (L - (f + 1)) (f + 1)
    refine ⟨?_, fun i i1 i2 => ?_, e⟩
    · unfold sdg at e
      by_cases c2 : cb T L f = 48
      · rw [if_pos c2] at e; omega
      · rw [if_neg c2] at e; omega
    · by_cases ei : i = f
      · rw [ei]; exact c1
      · by_cases c2 : cb T L f = 48
        · rw [if_pos c2] at e; omega
        · rw [if_neg c2] at e
          unfold sdg at e
          exact hd.2.2 i (by omega) (by omega)
  · rw [if_neg c1] at h; cases h
theorem snv1 {T : Nat → Int32} {L p q : Nat} (h : snum T L p = .inr q) (hq : p + 1 = q) : ∃ k, k ≤ 9 ∧ snv T L p = lN k := by
  obtain ⟨h1, h2, h3⟩ := snum_d h
  by_cases c0 : cb T L p = 45
  · rw [if_pos c0] at h1; omega
  · simp only [if_neg c0] at h1 h2 h3
    have hd := h2 p (Nat.le_refl _) h1
    refine ⟨cb T L p - 48, by omega, ?_⟩
    simp only [snv, if_neg c0]
    rw [h3, show q - p = 1 by omega]
    exact one_dig _ (by omega)
section NUMC
variable {T : Nat → Int32} {L : Nat}
theorem numc_go (hL : L ≤ 4096) {b : Nat} (hb : b ≤ L) (hnd : ¬ (48 ≤ cb T L b ∧ cb T L b ≤ 57)) (x2 : Int32) : ∀ (n q : Nat) (v : Int64) (fuel : Nat), q + n = b → (∀ i, q ≤ i → i < b → 48 ≤ cb T L i ∧ cb T L i ≤ 57) → n < fuel → m_X7_numberAt_31 T (nI L) fuel x2 v (nI q) = some (if x2 = 0 then -(swv T L n q v) else swv T L n q v) := by
  intro n
  induction n with
  | zero =>
    intro q v fuel hq _ hf
    obtain ⟨fu, rfl⟩ : ∃ k, fuel = k + 1 := ⟨fuel - 1, by omega⟩
    have e : q = b := by omega
    subst e
    simp only [m_X7_numberAt_31, swv]
    by_cases c : L ≤ q
    · rw [if_pos (nI_le c (by omega))]
      split <;> rfl
    · rw [if_neg (nI_ge (show q < L by omega) (by omega)), byt_eq hL (by omega)]
      simp only [Option.bind_some, dig_eq, if_neg hnd, if_true]
      split <;> rfl
  | succ n ih =>
    intro q v fuel hq hd hf
    obtain ⟨fu, rfl⟩ : ∃ k, fuel = k + 1 := ⟨fuel - 1, by omega⟩
    obtain ⟨d1, d2⟩ := hd q (Nat.le_refl _) (by omega)
    have eu : ubI (cb T L q) - 48 = nI (cb T L q - 48) := by
      rw [show ubI (cb T L q) = nI (cb T L q) from if_neg (by omega), show (48 : Int32) = nI 48 from rfl, pk_sub d1]
    simp only [m_X7_numberAt_31, nI_1]
    rw [if_neg (nI_ge (show q < L by omega) (by omega)), byt_eq hL (by omega)]
    simp only [Option.bind_some, dig_eq, if_pos (show 48 ≤ cb T L q ∧ cb T L q ≤ 57 from ⟨d1, d2⟩), if_neg (show ¬ (1 : Int32) = 0 by decide), eu]
    exact ih (q + 1) _ fu (by omega) (fun i i1 i2 => hd i (by omega) i2) (by omega)
theorem numc_eq (hL : L ≤ 4096) {p q : Nat} (hp : p < L) (h : snum T L p = .inr q) (hq : q ≤ L) (hnd : ¬ (48 ≤ cb T L q ∧ cb T L q ≤ 57)) : m_X7_numberAt T (nI L) (nI p) = some (snv T L p) := by
  obtain ⟨h1, h2, h3⟩ := snum_d h
  unfold m_X7_numberAt m_X7_numberAt_15 snv
  rw [byt_eq hL (by omega)]
  simp only [Option.bind_some, ub45]
  rw [h3]
  by_cases c : cb T L p = 45
  · simp only [if_pos c, nI_1] at h1 h2 ⊢
    rw [if_neg (show ¬ (1 : Int32) = 0 by decide), numc_go hL hq hnd 1 (q - (p + 1)) (p + 1) 0 sr_fuel (by omega) h2 (by unfold sr_fuel; omega), if_neg (show ¬ (1 : Int32) = 0 by decide)]
  · simp only [if_neg c] at h1 h2 ⊢
    rw [if_pos trivial, numc_go hL hq hnd 0 (q - p) p 0 sr_fuel (by omega) h2 (by unfold sr_fuel; omega), if_pos (show (0 : Int32) = 0 from rfl)]
end NUMC
section NUMV
variable {T : Nat → Int32} {L : Nat} {Sd In Nx Am K F S I X Lt : Nat → Int32} {N : Nat → Int64} {l : Nat}
theorem VV.nmc (hL : L ≤ 4096) {n p q : Nat} (h : VV T L Sd In Nx Am K F N S I X Lt l n p q) (hc : cb T L p = 45 ∨ (48 ≤ cb T L p ∧ cb T L p ≤ 57)) : m_X7_numberAt T (nI L) (nI p) = some (snv T L p) := by
  obtain ⟨h1, h2⟩ := h.num hc
  obtain ⟨b1, b2, b3, b4⟩ := h.base
  exact numc_eq hL (by omega) h2 b2 h.nd
theorem VV.nm1 {n p q : Nat} (h : VV T L Sd In Nx Am K F N S I X Lt l n p q) (hc : cb T L p = 45 ∨ (48 ≤ cb T L p ∧ cb T L p ≤ 57)) (hq : p + 1 = q) : ∃ k, k ≤ 9 ∧ snv T L p = lN k := snv1 (h.num hc).2 hq
end NUMV
end
section
-- what the document says of schemas, over the bytes alone
noncomputable def dec (P : Prop) : Bool := @decide P (Classical.propDecidable P)
theorem dec_t {P : Prop} (h : P) : dec P = true := @decide_eq_true P (Classical.propDecidable P) h
theorem dec_f {P : Prop} (h : ¬ P) : dec P = false := @decide_eq_false P (Classical.propDecidable P) h
theorem GK.one {T : Nat → Int32} {L d d' p : Nat} {a b : List (Nat × Nat)} (h1 : GK T L d p a) (h2 : GK T L d' p b) : a = b := by
  have up : ∀ {d e : Nat} {a : List (Nat × Nat)}, GK T L d p a → GK T L (d + e) p a := by
    intro d e a h
    rcases h with h | ⟨x1, q, x2⟩
    · exact Or.inl h
    · exact Or.inr ⟨x1, q, sgrp_mono (fun v b hv => sval_mono hv e) _ _ _ _ x2⟩
  have y := up (e := d) h2
  rw [Nat.add_comm] at y
  exact gk_eq (up (e := d') h1) y
noncomputable def prt (T : Nat → Int32) (L p : Nat) : List (Nat × Nat) := Classical.epsilon (fun ks => ∃ d, GK T L d p ks)
theorem prt_eq {T : Nat → Int32} {L p : Nat} {ks : List (Nat × Nat)} (h : ∃ d, GK T L d p ks) : prt T L p = ks := by
  obtain ⟨d, h⟩ := h
  obtain ⟨d', h'⟩ := Classical.epsilon_spec (p := fun ks => ∃ d, GK T L d p ks) ⟨ks, d, h⟩
  exact GK.one h' h
noncomputable def mbr (T : Nat → Int32) (L p : Nat) (w : List Nat) : Option Nat := (tfind T L w (prt T L p)).map Prod.snd
/-- kind, meant, shape, size, name as a field, symbols, inner slots, kids, outer slot -/
abbrev Nod := Nat × Nat × Nat × Nat × List Nat × List (List Nat) × List Nat × List Nat × Nat
def n_kd (x : Nod) : Nat := x.1
def n_me (x : Nod) : Nat := x.2.1
def n_sg (x : Nod) : Nat := x.2.2.1
def n_wd (x : Nod) : Nat := x.2.2.2.1
def n_fn (x : Nod) : List Nat := x.2.2.2.2.1
def n_sy (x : Nod) : List (List Nat) := x.2.2.2.2.2.1
def n_ch (x : Nod) : List Nat := x.2.2.2.2.2.2.1
def n_kl (x : Nod) : List Nat := x.2.2.2.2.2.2.2.1
def n_pa (x : Nod) : Nat := x.2.2.2.2.2.2.2.2
def mkN (kd me sg wd : Nat) (sy : List (List Nat)) (kl : List Nat) : Nod := (kd, me, sg, wd, [], sy, [], kl, 999)
def chN (x : Nod) (c : Nat) : Nod := (n_kd x, n_me x, n_sg x, n_wd x, n_fn x, n_sy x, n_ch x ++ [c], n_kl x, n_pa x)
def klN (x : Nod) (k : Nat) : Nod := (n_kd x, n_me x, n_sg x, n_wd x, n_fn x, n_sy x, n_ch x, n_kl x ++ [k], n_pa x)
def syN (x : Nod) (w : List Nat) (k : Nat) : Nod := (n_kd x, n_me x, n_sg x, n_wd x, n_fn x, n_sy x ++ [w], n_ch x, n_kl x ++ [k], n_pa x)
def paN (x : Nod) (s : Nat) : Nod := (n_kd x, n_me x, n_sg x, n_wd x, n_fn x, n_sy x, n_ch x, n_kl x, s)
def fnN (x : Nod) (w : List Nat) : Nod := (n_kd x, n_me x, n_sg x, n_wd x, w, n_sy x, n_ch x, n_kl x, n_pa x)
def upG (G : Nat → Nod) (i : Nat) (x : Nod) : Nat → Nod := fun j => if j = i then x else G j
theorem upG_s {G : Nat → Nod} {i : Nat} {x : Nod} : upG G i x i = x := if_pos rfl
theorem upG_n {G : Nat → Nod} {i j : Nat} {x : Nod} (h : j ≠ i) : upG G i x j = G j := if_neg h
/-- slots, shapes, kids, plain form, definitions, fields done, nodes -/
abbrev LSt := Nat × Nat × Nat × List Nat × (List Nat → Option Nat) × List (Nat × Nat × Option Nat) × (Nat → Nod)
abbrev LRs := (Nat × Nat) ⊕ LSt
def qt (w : List Nat) : List Nat := 34 :: (w ++ [34])
def wrt (b : List Nat) : LSt → LSt
  | (sc, sh, kc, pl, D, fi, G) => (sc, sh, kc, pl ++ b, D, fi, G)
def jon (s c : Nat) : LSt → LSt
  | (sc, sh, kc, pl, D, fi, G) => (sc, sh, kc, pl, D, fi, upG (upG G s (chN (G s) c)) c (paN (G c) s))
def kid (s : Nat) : LSt → LSt
  | (sc, sh, kc, pl, D, fi, G) => (sc, sh, kc + 1, pl, D, fi, upG G s (klN (G s) kc))
def alk (G : Nat → Nod) (b c : Nat) : Bool := decide (n_kd (G (n_me (G b))) = n_kd (G (n_me (G c))) ∧ (¬ (8 ≤ n_kd (G (n_me (G b))) ∧ n_kd (G (n_me (G b))) ≤ 10) ∨ n_me (G b) = n_me (G c)))
def hlk (s c : Nat) : LSt → Bool
  | (_, _, _, _, _, _, G) => (n_ch (G s)).any (fun b => alk G b c)
section SPEC
variable (T : Nat → Int32) (L : Nat)
noncomputable def lwd (s p : Nat) : LSt → LRs
  | (sc, sh, kc, pl, D, fi, G) => if kw6 (ts T L p) = -1 then
      (match D (ts T L p) with
      | none => .inl (3, p)
      | some d => .inr (sc, sh, kc, pl ++ qt (ts T L p), D, fi, upG G s (mkN 12 d (n_sg (G d)) 0 [] [])))
    else .inr (sc, sh, kc, pl ++ qt (ts T L p), D, fi, upG G s (mkN (kw6 (ts T L p)).toNatClampNeg s (kw6 (ts T L p)).toNatClampNeg 0 [] []))
def lun (f : Nat → Bool → LSt → LRs) (s : Nat) : List (Nat × Nat) → Nat → LSt → LRs
  | [], _, st => .inr (wrt [93] st)
  | v :: t, i, st => match f v.2 true (wrt [if i = 0 then 91 else 44] st) with
    | .inl e => .inl e
    | .inr st' => if hlk s st.1 st' = true then .inl (6, v.2) else lun f s t (i + 1) (jon s st.1 (kid s st'))
noncomputable def lit (f : Nat → Bool → LSt → LRs) (s p k : Nat) : LSt → LRs
  | (sc, sh, kc, pl, D, fi, G) => match mbr T L p (litN (if k = 6 then 16 else 19)) with
    | none => .inl (8, p)
    | some v => match f v false (sc, sh + 1, kc + 1, pl ++ litN (if k = 6 then 17 else 18), D, fi, upG G s (mkN k s sh 0 [] [kc])) with
      | .inl e => .inl e
      | .inr st' => .inr (wrt [125] (jon s sc st'))
def dgs (w : Nat) : List Nat := if 10 ≤ w then [48 + w / 10, 48 + w % 10] else [48 + w % 10]
def lsz (x : Int64) : Option Nat := if x = lN x.toNatClampNeg ∧ x.toNatClampNeg ≤ 64 then some x.toNatClampNeg else none
noncomputable def lfx (s p : Nat) : LSt → LRs
  | (sc, sh, kc, pl, D, fi, G) => match mbr T L p (litN 23) with
    | none => .inl (8, p)
    | some v => match (if cb T L v = 45 ∨ (48 ≤ cb T L v ∧ cb T L v ≤ 57) then lsz (snv T L v) else none : Option Nat) with
      | none => .inl (10, v)
      | some w => .inr (sc, sh, kc, pl ++ (litN 24 ++ (dgs w ++ [125])), D, fi, upG G s (mkN 8 s (n_sg (G s)) w [] []))
noncomputable def lsy (s : Nat) : List (Nat × Nat) → LSt → LRs
  | [], st => .inr st
  | v :: t, (sc, sh, kc, pl, D, fi, G) => if dec (cb T L v.2 = 34 ∧ isNm (ts T L v.2) ∧ ts T L v.2 ∉ n_sy (G s)) = true then
      lsy s t (sc, sh, kc + 1, pl ++ ((if n_sy (G s) = [] then [] else [44]) ++ qt (ts T L v.2)), D, fi, upG G s (syN (G s) (ts T L v.2) kc))
    else .inl (11, v.2)
noncomputable def len (s p : Nat) (st : LSt) : LRs := match mbr T L p (litN 25) with
  | none => .inl (8, p)
  | some v => if cb T L v = 91 ∧ 1 ≤ (prt T L v).length ∧ (prt T L v).length ≤ 32 then
      (match lsy T L s (prt T L v) (wrt (litN 26) st) with
      | .inl e => .inl e
      | .inr (sc, sh, kc, pl, D, fi, G) => match mbr T L p (litN 28) with
        | none => .inr (sc, sh, kc, pl ++ litN 27, D, fi, G)
        | some d => if dec (cb T L d = 34 ∧ ts T L d ∈ n_sy (G s)) = true then .inr (sc, sh, kc, pl ++ litN 27, D, fi, G) else .inl (12, d))
    else .inl (11, v)
noncomputable def lfd (f : Nat → Bool → LSt → LRs) (s p i : Nat) : LSt → LRs
  | (sc, sh, kc, pl, D, fi, G) => if cb T L p = 123 then
      (match mbr T L p (litN 20) with
      | none => .inl (8, p)
      | some n => if cb T L n = 34 then
          (if dec (isNm (ts T L n) ∧ ∀ c, c ∈ n_ch (G s) → n_fn (G c) ≠ ts T L n) = true then
            (match mbr T L p (litN 15) with
            | none => .inl (8, p)
            | some t => match f t false (sc, sh, kc + 1, pl ++ ((if i = 0 then [] else [44]) ++ (litN 21 ++ (qt (ts T L n) ++ litN 31))), D, fi, upG G s (klN (G s) kc)) with
              | .inl e => .inl e
              | .inr (sc', sh', kc', pl', D', fi', G') => .inr (jon s sc (sc', sh', kc', pl' ++ [125], D', fi' ++ [(kc, sc, mbr T L p (litN 28))], upG G' sc (fnN (G' sc) (ts T L n)))))
          else .inl (9, n))
        else .inl (8, p))
    else .inl (11, p)
noncomputable def lfs (f : Nat → Bool → LSt → LRs) (s : Nat) : List (Nat × Nat) → Nat → LSt → LRs
  | [], _, st => .inr (wrt (litN 27) st)
  | v :: t, i, st => match lfd T L f s v.2 i st with
    | .inl e => .inl e
    | .inr st' => lfs f s t (i + 1) st'
noncomputable def lrc (f : Nat → Bool → LSt → LRs) (s p : Nat) (st : LSt) : LRs := match mbr T L p (litN 29) with
  | none => .inl (8, p)
  | some v => if cb T L v = 91 ∧ (prt T L v).length ≤ 32 then lfs T L f s (prt T L v) 0 (wrt (litN 30) st) else .inl (11, v)
noncomputable def ldf (f : Nat → Bool → LSt → LRs) (s p k : Nat) : LSt → LRs
  | (sc, sh, kc, pl, D, fi, G) => match mbr T L p (litN 20) with
    | none => .inl (8, p)
    | some n => if cb T L n = 34 then
        (if dec (isNm (ts T L n) ∧ kw (ts T L n) = -1 ∧ D (ts T L n) = none) = true then
          (if k = 8 then lfx T L s p (sc, sh + 1, kc, pl ++ (litN 21 ++ (qt (ts T L n) ++ (litN 22 ++ (litN (3 + k) ++ [34])))), (fun u => if u = ts T L n then some s else D u), fi, upG G s (mkN k s sh 0 [] []))
          else if k = 9 then len T L s p (sc, sh + 1, kc, pl ++ (litN 21 ++ (qt (ts T L n) ++ (litN 22 ++ (litN (3 + k) ++ [34])))), (fun u => if u = ts T L n then some s else D u), fi, upG G s (mkN k s sh 0 [] []))
          else lrc T L f s p (sc, sh + 1, kc, pl ++ (litN 21 ++ (qt (ts T L n) ++ (litN 22 ++ (litN (3 + k) ++ [34])))), (fun u => if u = ts T L n then some s else D u), fi, upG G s (mkN k s sh 0 [] [])))
        else .inl (9, n))
      else .inl (8, p)
noncomputable def lob (f : Nat → Bool → LSt → LRs) (s p : Nat) (st : LSt) : LRs := match mbr T L p (litN 15) with
  | none => .inl (7, p)
  | some t => if cb T L t = 34 then
      (if kw (ts T L t) = 6 ∨ kw (ts T L t) = 7 then lit T L f s p (kw (ts T L t)).toNatClampNeg st
      else if kw (ts T L t) = 8 ∨ kw (ts T L t) = 9 ∨ kw (ts T L t) = 10 then ldf T L f s p (kw (ts T L t)).toNatClampNeg st
      else lwd T L s t st)
    else .inl (7, p)
noncomputable def look : Nat → Nat → Bool → LSt → LRs
  | 0, p, _, (sc, _, _, _, _, _, _) => if 128 ≤ sc then .inl (13, p) else .inl (14, p)
  | k + 1, p, br, (sc, sh, kc, pl, D, fi, G) => if 128 ≤ sc then .inl (13, p) else
      if cb T L p = 34 then lwd T L sc p (sc + 1, sh, kc, pl, D, fi, upG G sc (mkN 12 sc 0 0 [] []))
      else if cb T L p = 91 then
        (if br = true then .inl (4, p)
        else if 1 ≤ (prt T L p).length ∧ (prt T L p).length ≤ 16 then lun (look k) sc (prt T L p) 0 (sc + 1, sh + 1, kc, pl, D, fi, upG G sc (mkN 11 sc sh 0 [] []))
        else .inl (5, p))
      else if cb T L p = 123 then lob T L (look k) sc p (sc + 1, sh, kc, pl, D, fi, upG G sc (mkN 12 sc 0 0 [] []))
      else .inl (2, p)
end SPEC
section MEMB
variable {T : Nat → Int32} {L : Nat} {Sd In Nx Am K F S I X Lt : Nat → Int32} {N : Nat → Int64} {l : Nat}
theorem VV.lst {n p q : Nat} (h : VV T L Sd In Nx Am K F N S I X Lt l n p q) (hc : cb T L p = 91) : Am p = nI (prt T L p).length ∧ S n = nI (prt T L p).length ∧ p + (prt T L p).length < q ∧ LCH T L Sd In Nx Am K F N S I X Lt l (prt T L p) (p + 1) q (In p) (I n) := by
  obtain ⟨ks, g0, g⟩ := h.list hc
  rw [prt_eq g0]
  exact g
theorem mbc (hL : L ≤ 4096) (hl : l ≤ 4200) {n p q : Nat} (h : VV T L Sd In Nx Am K F N S I X Lt l n p q) (hc : cb T L p = 123) {w : Nat} (hw : w < 75) :
    (mbr T L p (litN w) = none ∧ m_X7_member T Sd In Nx Am (nI L) (nI p) w = some (-1)) ∨ (∃ v kp c b, mbr T L p (litN w) = some v ∧ m_X7_member T Sd In Nx Am (nI L) (nI p) w = some (nI v) ∧ VV T L Sd In Nx Am K F N S I X Lt l c v b ∧ p < kp ∧ kp + (litN w).length + 3 ≤ v ∧ b < q ∧ (kp, v) ∈ prt T L p ∧ ts T L kp = litN w) := by
  obtain ⟨hb1, hb2, hb3, hb4⟩ := h.base
  obtain ⟨ks, g0, g1, g2, g3⟩ := h.obj hc
  have e0 := prt_eq g0
  have a := memc_go (p := p) (w := w) (tot := ks.length) hL (by omega) g1 (by omega) hw ks sr_fuel 0 _ _ _ _ (by omega) (by unfold sr_fuel; omega) g3
  have b := memr_go hl hw ks sr_fuel _ _ _ _ (by unfold sr_fuel; omega) g3
  unfold m_X7_member mbr
  simp only [m_X7_inner, ent_eq (n := 4096) (by decide) (show p < 4096 by omega), Option.bind_some, e0]
  rw [nI_0] at a
  rw [a]
  rcases b with ⟨b1, b2⟩ | ⟨k, c, b', b1, b2, b3, b4⟩
  · rw [b1]
    exact Or.inl ⟨rfl, rfl⟩
  · rw [b1]
    obtain ⟨m1, m2, m3, m4, m5⟩ := b4
    exact Or.inr ⟨k.2, k.1, c, b', rfl, rfl, m5, by omega, m2, m3, b2, m4⟩
theorem mbr_r (hl : l ≤ 4200) {n p q : Nat} (h : VV T L Sd In Nx Am K F N S I X Lt l n p q) (hc : cb T L p = 123) {w : Nat} (hw : w < 75) (hL : L ≤ 4096) :
    (mbr T L p (litN w) = none ∧ m_X9_member K N S I X Lt (nI n) w = some (-1)) ∨ (∃ v c b, mbr T L p (litN w) = some v ∧ m_X9_member K N S I X Lt (nI n) w = some (nI c) ∧ VV T L Sd In Nx Am K F N S I X Lt l c v b) := by
  obtain ⟨hb1, hb2, hb3, hb4⟩ := h.base
  obtain ⟨ks, g0, g1, g2, g3⟩ := h.obj hc
  have e0 := prt_eq g0
  have b := memr_go hl hw ks sr_fuel _ _ _ _ (by unfold sr_fuel; omega) g3
  unfold m_X9_member mbr
  simp only [e0, bd_go hb3 (by decide), bd_gc hb3 (by decide), nI_clamp (show n < 2 ^ 31 by omega)]
  rcases b with ⟨b1, b2⟩ | ⟨k, c, b', b1, b2, b3, b4⟩
  · rw [b1, b2]
    exact Or.inl ⟨rfl, rfl⟩
  · rw [b1, b3]
    exact Or.inr ⟨k.2, c, b', rfl, rfl, b4.2.2.2.2⟩
theorem mb2 {n p q : Nat} (h : VV T L Sd In Nx Am K F N S I X Lt l n p q) (hc : cb T L p = 123) {kp kp' v v' c c' b b' : Nat} (h1 : (kp, v) ∈ prt T L p) (h2 : (kp', v') ∈ prt T L p) (hv : VV T L Sd In Nx Am K F N S I X Lt l c v b) (hv' : VV T L Sd In Nx Am K F N S I X Lt l c' v' b') (hn : ts T L kp ≠ ts T L kp') : b < kp' ∨ b' < kp := by
  obtain ⟨ks, g0, g1, g2, g3⟩ := h.obj hc
  rw [prt_eq g0] at h1 h2
  obtain ⟨x, x', ⟨_, y⟩, ⟨_, y'⟩, z⟩ := g3.two _ _ _ _ _ (kp, v) (kp', v') h1 h2 hn
  rw [hv.one y, hv'.one y']
  exact z
end MEMB
end
section
-- what looking leaves as it was, by the telling alone
def dul (fi : List (Nat × Nat × Option Nat)) : List (Nat × Nat) := fi.filterMap (fun x => x.2.2.map (fun p => (x.2.1, p)))
theorem dul_1 (fi : List (Nat × Nat × Option Nat)) (x : Nat × Nat × Option Nat) : (dul (fi ++ [x])).length ≤ (dul fi).length + 1 := by
  unfold dul
  rw [List.filterMap_append, List.length_append]
  obtain ⟨a, b, o⟩ := x
  cases o <;> simp
def DOK (D : List Nat → Option Nat) (G : Nat → Nod) (sc : Nat) : Prop := ∀ w d, D w = some d → d < sc ∧ n_me (G d) = d ∧ 8 ≤ n_kd (G d) ∧ n_kd (G d) ≤ 10
theorem DOK.up {D : List Nat → Option Nat} {G : Nat → Nod} {sc i : Nat} {x : Nod} (h : DOK D G sc) (h1 : n_kd x = n_kd (G i)) (h2 : n_me x = n_me (G i)) : DOK D (upG G i x) sc := by
  intro w d hd
  obtain ⟨a, b, c, e⟩ := h w d hd
  by_cases q : d = i
  · subst q
    rw [upG_s, h1, h2]
    exact ⟨a, b, c, e⟩
  · rw [upG_n q]
    exact ⟨a, b, c, e⟩
def WFs : LSt → Prop
  | (sc, _, _, _, D, fi, G) => DOK D G sc ∧ (dul fi).length ≤ sc
def FQ (s : Nat) : LSt → LSt → Prop
  | (sc, sh, kc, pl, D, fi, G), (sc', sh', kc', pl', D', fi', G') => sc ≤ sc' ∧ sh ≤ sh' ∧ kc ≤ kc' ∧ (∃ t, pl' = pl ++ t) ∧ (∀ i, i < sc → i ≠ s → G' i = G i) ∧ (∀ w i, D w = some i → D' w = some i) ∧ (∀ w i, D' w = some i → D w = some i ∨ sc ≤ i) ∧ (dul fi').length + sc ≤ (dul fi).length + sc' ∧ DOK D' G' sc' ∧ n_kd (G' s) = n_kd (G s) ∧ n_me (G' s) = n_me (G s) ∧ n_sg (G' s) = n_sg (G s) ∧ n_pa (G' s) = n_pa (G s)
def FPs (br : Bool) : LSt → LSt → Prop
  | (sc, sh, kc, pl, D, fi, G), (sc', sh', kc', pl', D', fi', G') => sc < sc' ∧ sh ≤ sh' ∧ kc ≤ kc' ∧ (∃ t, pl' = pl ++ t) ∧ (∀ i, i < sc → G' i = G i) ∧ (∀ w i, D w = some i → D' w = some i) ∧ (∀ w i, D' w = some i → D w = some i ∨ sc ≤ i) ∧ (dul fi').length + sc + 1 ≤ (dul fi).length + sc' ∧ DOK D' G' sc' ∧ n_pa (G' sc) = 999 ∧ (n_me (G' sc) < sc' ∧ n_me (G' (n_me (G' sc))) = n_me (G' sc)) ∧ n_kd (G' (n_me (G' sc))) ≤ 11 ∧ (br = true → n_kd (G' (n_me (G' sc))) ≤ 10)
theorem FQ.refl {s : Nat} {st : LSt} (h : WFs st) : FQ s st st := by
  obtain ⟨sc, sh, kc, pl, D, fi, G⟩ := st
  exact ⟨Nat.le_refl _, Nat.le_refl _, Nat.le_refl _, ⟨[], (List.append_nil _).symm⟩, fun _ _ _ => rfl, fun _ _ h => h, fun _ _ h => Or.inl h, Nat.le_refl _, h.1, rfl, rfl, rfl, rfl⟩
theorem FQ.trans {s : Nat} {a b c : LSt} (h1 : FQ s a b) (h2 : FQ s b c) : FQ s a c := by
  obtain ⟨sc, sh, kc, pl, D, fi, G⟩ := a
  obtain ⟨sc', sh', kc', pl', D', fi', G'⟩ := b
  obtain ⟨sc2, sh2, kc2, pl2, D2, fi2, G2⟩ := c
  obtain ⟨a1, a2, a3, ⟨t, a4⟩, a5, a6, a7, a8, a9, a10, a11, a12, a13⟩ := h1
  obtain ⟨b1, b2, b3, ⟨u, b4⟩, b5, b6, b7, b8, b9, b10, b11, b12, b13⟩ := h2
  refine ⟨by omega, by omega, by omega, ⟨t ++ u, by rw [b4, a4, List.append_assoc]⟩, fun i h1 h2 => (b5 i (by omega) h2).trans (a5 i h1 h2), fun w i h => b6 w i (a6 w i h), fun w i h => ?_, by omega, b9, b10.trans a10, b11.trans a11, b12.trans a12, b13.trans a13⟩
  rcases b7 w i h with q | q
  · exact a7 w i q
  · exact Or.inr (by omega)
theorem FPs.q {br : Bool} {s : Nat} {a b : LSt} (h : FPs br a b) (hs : s < a.1) : FQ s a b := by
  obtain ⟨sc, sh, kc, pl, D, fi, G⟩ := a
  obtain ⟨sc', sh', kc', pl', D', fi', G'⟩ := b
  obtain ⟨a1, a2, a3, a4, a5, a6, a7, a8, a9, a10, a11, a12, a13⟩ := h
  have e := a5 s hs
  exact ⟨by omega, a2, a3, a4, fun i h _ => a5 i h, a6, a7, by omega, a9, by rw [e], by rw [e], by rw [e], by rw [e]⟩
theorem FQ.wf {s : Nat} {a b : LSt} (h : FQ s a b) (hw : WFs a) : WFs b := by
  obtain ⟨sc, sh, kc, pl, D, fi, G⟩ := a
  obtain ⟨sc', sh', kc', pl', D', fi', G'⟩ := b
  obtain ⟨a1, a2, a3, a4, a5, a6, a7, a8, a9, a10, a11, a12, a13⟩ := h
  have := hw.2
  exact ⟨a9, by omega⟩
theorem FQ.wrt {s : Nat} {a b : LSt} (h : FQ s a b) (t : List Nat) : FQ s a (wrt t b) := by
  obtain ⟨sc, sh, kc, pl, D, fi, G⟩ := a
  obtain ⟨sc', sh', kc', pl', D', fi', G'⟩ := b
  obtain ⟨a1, a2, a3, ⟨u, a4⟩, a5⟩ := h
  exact ⟨a1, a2, a3, ⟨u ++ t, by rw [a4, List.append_assoc]⟩, a5⟩
/-- nodes changed at the open slot and at new ones alone -/
theorem FQ.jon {s c : Nat} {a b : LSt} (h : FQ s a b) (hs : s < a.1) (hc : a.1 ≤ c) : FQ s a (jon s c b) := by
  obtain ⟨sc, sh, kc, pl, D, fi, G⟩ := a
  obtain ⟨sc', sh', kc', pl', D', fi', G'⟩ := b
  have hs : s < sc := hs
  have hc : sc ≤ c := hc
  obtain ⟨a1, a2, a3, a4, a5, a6, a7, a8, a9, a10, a11, a12, a13⟩ := h
  refine ⟨a1, a2, a3, a4, fun i h1 h2 => ?_, a6, a7, a8, ?_, ?_⟩
  · rw [upG_n (show i ≠ c by omega), upG_n h2]
    exact a5 i h1 h2
  · exact DOK.up (x := paN (G' c) s) (DOK.up (x := chN (G' s) c) a9 rfl rfl) (congrArg n_kd (upG_n (show c ≠ s by omega))).symm (congrArg n_me (upG_n (show c ≠ s by omega))).symm
  · rw [upG_n (show s ≠ c by omega), upG_s]
    exact ⟨a10, a11, a12, a13⟩
theorem FQ.kid {s : Nat} {a b : LSt} (h : FQ s a b) : FQ s a (kid s b) := by
  obtain ⟨sc, sh, kc, pl, D, fi, G⟩ := a
  obtain ⟨sc', sh', kc', pl', D', fi', G'⟩ := b
  obtain ⟨a1, a2, a3, a4, a5, a6, a7, a8, a9, a10, a11, a12, a13⟩ := h
  refine ⟨a1, a2, by omega, a4, fun i h1 h2 => ?_, a6, a7, a8, DOK.up (x := klN (G' s) kc') a9 rfl rfl, ?_⟩
  · rw [upG_n h2]
    exact a5 i h1 h2
  · rw [upG_s]
    exact ⟨a10, a11, a12, a13⟩
section PURE
variable {T : Nat → Int32} {L : Nat} {Sd In Nx Am K F S I X Lt : Nat → Int32} {N : Nat → Int64} {l : Nat}
theorem VV.two {n p q : Nat} (h : VV T L Sd In Nx Am K F N S I X Lt l n p q) (hc : cb T L p = 91 ∨ cb T L p = 123) : p + 2 ≤ q := by
  obtain ⟨d, m, h1, h2, h3, h4, h5, h25⟩ := h
  cases d with
  | zero => cases h1
  | succ d =>
    have hb := sbl_le (B := T) (L := L) (a := p + 1)
    simp only [sval] at h1
    rw [if_neg (by omega), if_pos hc] at h1
    by_cases c3 : d = 0
    · rw [if_pos c3] at h1; cases h1
    rw [if_neg c3] at h1
    by_cases c4 : cb T L (sbl T L (p + 1)) = (if cb T L p = 123 then 125 else 93)
    · rw [if_pos c4] at h1
      have := Sum.inr.inj h1
      omega
    · rw [if_neg c4] at h1
      cases hs : sgrp (sval T L d) T L (decide (cb T L p = 123)) (if cb T L p = 123 then 125 else 93) (L + 1) (sbl T L (p + 1)) [] with
      | inl w => rw [hs] at h1; cases h1
      | inr r =>
        rw [hs] at h1
        have hz := sgrp_p (by split <;> decide) (sval_p d) _ _ _ _ _ hs
        have := Sum.inr.inj h1
        omega
def okSp (T : Nat → Int32) (L : Nat) (Sd In Nx Am K F : Nat → Int32) (N : Nat → Int64) (S I X Lt : Nat → Int32) (l : Nat) (f : Nat → Bool → LSt → LRs) : Prop := ∀ (p : Nat) (br : Bool) (st st' : LSt) (n q : Nat), VV T L Sd In Nx Am K F N S I X Lt l n p q → WFs st → f p br st = .inr st' → FPs br st st' ∧ st'.2.2.2.1.length ≤ st.2.2.2.1.length + (q - p)
theorem lun_p {f : Nat → Bool → LSt → LRs} (hf : okSp T L Sd In Nx Am K F N S I X Lt l f) {s : Nat} : ∀ (ks : List (Nat × Nat)) (i lo hi : Nat) (st st' : LSt) (hc hr : Int32), s < st.1 → WFs st → LCH T L Sd In Nx Am K F N S I X Lt l ks lo hi hc hr → lun f s ks i st = .inr st' → FQ s st st' ∧ st'.2.2.2.1.length ≤ st.2.2.2.1.length + (hi - lo) + 1 := by
  intro ks
  induction ks with
  | nil =>
    intro i lo hi st st' hc hr hs hw hl h
    simp only [lun] at h
    have e := Sum.inr.inj h
    rw [← e]
    refine ⟨(FQ.refl hw).wrt _, ?_⟩
    obtain ⟨sc, sh, kc, pl, D, fi, G⟩ := st
    show (pl ++ [93]).length ≤ pl.length + (hi - lo) + 1
    rw [List.length_append, List.length_singleton]
    omega
  | cons k t ih =>
    intro i lo hi st st' hc hr hs hw hl h
    obtain ⟨c, b, c1, c2, c3, c4, c5, c6⟩ := hl
    have hb := c4.base
    simp only [lun] at h
    have hw1 := ((FQ.refl (s := s) hw).wrt [if i = 0 then 91 else 44]).wf hw
    cases hv : f k.2 true (wrt [if i = 0 then 91 else 44] st) with
    | inl e => rw [hv] at h; cases h
    | inr st1 =>
      rw [hv] at h
      simp only at h
      obtain ⟨g1, g2⟩ := hf _ _ _ _ _ _ c4 hw1 hv
      by_cases ha : hlk s st.1 st1 = true
      · rw [if_pos ha] at h; cases h
      · rw [if_neg ha] at h
        have hs1 : s < (wrt [if i = 0 then 91 else 44] st).1 := by
          obtain ⟨sc, sh, kc, pl, D, fi, G⟩ := st
          exact hs
        have q1 : FQ s st st1 := ((FQ.refl hw).wrt _).trans (g1.q hs1)
        have q2 := (q1.kid).jon (c := st.1) hs (Nat.le_refl _)
        have hl2 : (jon s st.1 (kid s st1)).2.2.2.1.length ≤ st.2.2.2.1.length + 1 + (b - k.2) := by
          obtain ⟨sc, sh, kc, pl, D, fi, G⟩ := st
          obtain ⟨sc', sh', kc', pl', D', fi', G'⟩ := st1
          have g2 : pl'.length ≤ (pl ++ [if i = 0 then 91 else 44]).length + (b - k.2) := g2
          rw [List.length_append] at g2
          exact g2
        obtain ⟨r1, r2⟩ := ih (i + 1) _ _ _ _ _ _ (by
          obtain ⟨sc, sh, kc, pl, D, fi, G⟩ := st
          obtain ⟨sc', sh', kc', pl', D', fi', G'⟩ := st1
          have := q2.1
          show s < sc'
          have hs : s < sc := hs
          omega) (q2.wf hw) c6 h
        exact ⟨q2.trans r1, by omega⟩
theorem lit_p (hL : L ≤ 4096) (hl : l ≤ 4200) {f : Nat → Bool → LSt → LRs} (hf : okSp T L Sd In Nx Am K F N S I X Lt l f) {s k n p q t0 : Nat} (hk : k = 6 ∨ k = 7) {sc sh kc : Nat} {pl : List Nat} {D : List Nat → Option Nat} {fi : List (Nat × Nat × Option Nat)} {G : Nat → Nod} {st' : LSt} (hs : s + 1 = sc) (hG : G s = mkN 12 s 0 0 [] []) (hw : WFs (sc, sh, kc, pl, D, fi, G)) (hD : ∀ w d, D w = some d → d < s) (hv : VV T L Sd In Nx Am K F N S I X Lt l n p q) (hc : cb T L p = 123) (h0 : mbr T L p (litN 15) = some t0) (h1 : ts T L t0 = litN (3 + k)) (h1' : cb T L t0 = 34) (h : lit T L f s p k (sc, sh, kc, pl, D, fi, G) = .inr st') : FQ s (sc, sh, kc, pl, D, fi, upG G s (mkN k s sh 0 [] [kc])) st' ∧ st'.2.2.2.1.length ≤ pl.length + (q - p) := by
  simp only [lit] at h
  have h15 : (litN 15).length = 4 := by decide
  have h3k : (litN (3 + k)).length = (if k = 6 then 5 else 3) := by rcases hk with e | e <;> (subst e; decide)
  have hwl : (litN (if k = 6 then 16 else 19)).length = (if k = 6 then 5 else 6) := by rcases hk with e | e <;> (subst e; decide)
  have htl : (litN (if k = 6 then 17 else 18)).length = (if k = 6 then 24 else 23) := by rcases hk with e | e <;> (subst e; decide)
  have hne : litN 15 ≠ litN (if k = 6 then 16 else 19) := by rcases hk with e | e <;> (subst e; decide)
  rcases mbc hL hl hv hc (w := 15) (by decide) with ⟨e, _⟩ | ⟨v0, kp0, c0, b0, e0, _, x1, x2, x3, x4, x5, x6⟩
  · rw [h0] at e; cases e
  rw [h0] at e0
  cases e0
  obtain ⟨s0, y1, y2, y3, y4, y5, y6⟩ := x1.str h1'
  rw [y2] at h1
  subst h1
  rcases mbc hL hl hv hc (w := if k = 6 then 16 else 19) (by split <;> decide) with ⟨e, _⟩ | ⟨v, kp, c, b, e, _, z1, z2, z3, z4, z5, z6⟩
  · rw [e] at h; cases h
  rw [e] at h
  simp only at h
  have hap := mb2 hv hc x5 z5 x1 z1 (by rw [x6, z6]; exact hne)
  have hb := z1.base
  have hw1 : WFs (sc, sh + 1, kc + 1, pl ++ litN (if k = 6 then 17 else 18), D, fi, upG G s (mkN k s sh 0 [] [kc])) := by
    refine ⟨fun w d hd => ?_, hw.2⟩
    have := hD w d hd
    rw [upG_n (by omega)]
    exact hw.1 w d hd
  cases hr : f v false (sc, sh + 1, kc + 1, pl ++ litN (if k = 6 then 17 else 18), D, fi, upG G s (mkN k s sh 0 [] [kc])) with
  | inl e => rw [hr] at h; cases h
  | inr st1 =>
    rw [hr] at h
    have e := Sum.inr.inj h
    obtain ⟨g1, g2⟩ := hf _ _ _ _ _ _ z1 hw1 hr
    have q1 := g1.q (s := s) (show s < sc by omega)
    have q0 : FQ s (sc, sh, kc, pl, D, fi, upG G s (mkN k s sh 0 [] [kc])) st1 := by
      obtain ⟨sc', sh', kc', pl', D', fi', G'⟩ := st1
      obtain ⟨a1, a2, a3, ⟨t, a4⟩, a5⟩ := q1
      exact ⟨a1, by omega, by omega, ⟨litN (if k = 6 then 17 else 18) ++ t, by rw [a4, List.append_assoc]⟩, a5⟩
    rw [← e]
    refine ⟨(q0.jon (c := sc) (show s < sc by omega) (Nat.le_refl _)).wrt _, ?_⟩
    obtain ⟨sc', sh', kc', pl', D', fi', G'⟩ := st1
    have g2 : pl'.length ≤ (pl ++ litN (if k = 6 then 17 else 18)).length + (b - v) := g2
    show (pl' ++ [125]).length ≤ pl.length + (q - p)
    rw [List.length_append] at g2 ⊢
    rw [List.length_singleton]
    rcases hk with ek | ek
    · simp only [if_pos ek] at hwl htl h3k z3 g2 ⊢
      omega
    · have e6 : ¬ k = 6 := by omega
      simp only [if_neg e6] at hwl htl h3k z3 g2 ⊢
      omega
end PURE
end
section
-- the same for names, sizes, symbols, fields
section PURE2
variable {T : Nat → Int32} {L : Nat} {Sd In Nx Am K F S I X Lt : Nat → Int32} {N : Nat → Int64} {l : Nat}
theorem lsz_of {x : Int64} {w : Nat} (h : lsz x = some w) : x = lN w ∧ w ≤ 64 := by
  unfold lsz at h
  by_cases c : x = lN x.toNatClampNeg ∧ x.toNatClampNeg ≤ 64
  · rw [if_pos c] at h
    have e := Option.some.inj h
    rw [e] at c
    exact c
  · rw [if_neg c] at h; cases h
theorem lN_inj : ∀ a, a ≤ 64 → ∀ b, b ≤ 64 → lN a = lN b → a = b := by decide +kernel
theorem dgs_len {w : Nat} : (dgs w).length = if 10 ≤ w then 2 else 1 := by
  unfold dgs
  split <;> rfl
theorem lfx_p (hL : L ≤ 4096) (hl : l ≤ 4200) {s n p q : Nat} {sc sh kc : Nat} {pl : List Nat} {D : List Nat → Option Nat} {fi : List (Nat × Nat × Option Nat)} {G : Nat → Nod} {st' : LSt} (hs : s < sc) (hk : n_kd (G s) = 8 ∧ n_me (G s) = s ∧ n_pa (G s) = 999) (hw : WFs (sc, sh, kc, pl, D, fi, G)) (hv : VV T L Sd In Nx Am K F N S I X Lt l n p q) (hc : cb T L p = 123) (h : lfx T L s p (sc, sh, kc, pl, D, fi, G) = .inr st') : FQ s (sc, sh, kc, pl, D, fi, G) st' ∧ ∃ v kp c b, (kp, v) ∈ prt T L p ∧ VV T L Sd In Nx Am K F N S I X Lt l c v b ∧ ts T L kp = litN 23 ∧ p < kp ∧ kp + 7 ≤ v ∧ b < q ∧ st'.2.2.2.1.length ≤ pl.length + 9 + (b - v) := by
  simp only [lfx] at h
  have h23 : (litN 23).length = 4 := by decide
  have h24 : (litN 24).length = 8 := by decide
  rcases mbc hL hl hv hc (w := 23) (by decide) with ⟨e, _⟩ | ⟨v, kp, c, b, e, _, z1, z2, z3, z4, z5, z6⟩
  · rw [e] at h; cases h
  rw [e] at h
  simp only at h
  by_cases cn : cb T L v = 45 ∨ (48 ≤ cb T L v ∧ cb T L v ≤ 57)
  · rw [if_pos cn] at h
    cases hz : lsz (snv T L v) with
    | none => rw [hz] at h; cases h
    | some w =>
      rw [hz] at h
      have e := Sum.inr.inj h
      obtain ⟨w1, w2⟩ := lsz_of hz
      rw [← e]
      have hb := z1.base
      refine ⟨⟨Nat.le_refl _, Nat.le_refl _, Nat.le_refl _, ⟨_, rfl⟩, fun i h1 h2 => upG_n h2, fun _ _ h => h, fun _ _ h => Or.inl h, Nat.le_refl _, hw.1.up hk.1.symm hk.2.1.symm, ?_⟩, v, kp, c, b, z5, z1, z6, z2, by omega, z4, ?_⟩
      · rw [upG_s]
        exact ⟨hk.1.symm, hk.2.1.symm, rfl, hk.2.2.symm⟩
      · show (pl ++ (litN 24 ++ (dgs w ++ [125]))).length ≤ _
        simp only [List.length_append, List.length_singleton, h24, dgs_len]
        by_cases c10 : 10 ≤ w
        · rw [if_pos c10]
          by_cases eb : v + 1 = b
          · obtain ⟨k, k1, k2⟩ := z1.nm1 cn eb
            have := lN_inj _ w2 _ (show k ≤ 64 by omega) (w1.symm.trans k2)
            omega
          · omega
        · rw [if_neg c10]
          omega
  · rw [if_neg cn] at h; cases h
theorem lsy_p {s : Nat} : ∀ (ks : List (Nat × Nat)) (lo hi : Nat) (sc sh kc : Nat) (pl : List Nat) (D : List Nat → Option Nat) (fi : List (Nat × Nat × Option Nat)) (G : Nat → Nod) (st' : LSt) (hc hr : Int32), s < sc → WFs (sc, sh, kc, pl, D, fi, G) → LCH T L Sd In Nx Am K F N S I X Lt l ks lo hi hc hr → lsy T L s ks (sc, sh, kc, pl, D, fi, G) = .inr st' → FQ s (sc, sh, kc, pl, D, fi, G) st' ∧ st'.2.2.2.1.length + (if n_sy (G s) = [] ∧ ks ≠ [] then 1 else 0) ≤ pl.length + (hi - lo) ∧ (n_sy (st'.2.2.2.2.2.2 s)).length = (n_sy (G s)).length + ks.length := by
  intro ks
  induction ks with
  | nil =>
    intro lo hi sc sh kc pl D fi G st' hc hr hs hw hl h
    simp only [lsy] at h
    have e := Sum.inr.inj h
    rw [← e]
    refine ⟨FQ.refl hw, ?_, rfl⟩
    rw [if_neg (fun z => z.2 rfl)]
    show pl.length + 0 ≤ _
    omega
  | cons k t ih =>
    intro lo hi sc sh kc pl D fi G st' hc hr hs hw hl h
    obtain ⟨c, b, c1, c2, c3, c4, c5, c6⟩ := hl
    have hb := c4.base
    simp only [lsy] at h
    by_cases hd : cb T L k.2 = 34 ∧ isNm (ts T L k.2) ∧ ts T L k.2 ∉ n_sy (G s)
    · rw [dec_t hd, if_pos rfl] at h
      obtain ⟨s0, y1, y2, y3, y4, y5, y6⟩ := c4.str hd.1
      have q1 : FQ s (sc, sh, kc, pl, D, fi, G) (sc, sh, kc + 1, pl ++ ((if n_sy (G s) = [] then [] else [44]) ++ qt (ts T L k.2)), D, fi, upG G s (syN (G s) (ts T L k.2) kc)) := by
        refine ⟨Nat.le_refl _, Nat.le_refl _, by omega, ⟨_, rfl⟩, fun i h1 h2 => upG_n h2, fun _ _ h => h, fun _ _ h => Or.inl h, Nat.le_refl _, DOK.up (x := syN (G s) (ts T L k.2) kc) hw.1 rfl rfl, ?_⟩
        rw [upG_s]
        exact ⟨rfl, rfl, rfl, rfl⟩
      obtain ⟨r1, r2, r3⟩ := ih _ _ _ _ _ _ _ _ _ _ _ _ hs (q1.wf hw) c6 h
      refine ⟨q1.trans r1, ?_, ?_⟩
      · rw [upG_s, if_neg (show ¬ (n_sy (syN (G s) (ts T L k.2) kc) = [] ∧ t ≠ []) from fun z => absurd z.1 (by show ¬ n_sy (G s) ++ [ts T L k.2] = []; simp))] at r2
        simp only [List.length_append, qt, List.length_cons, List.length_nil] at r2
        rw [y2] at r2
        by_cases e0 : n_sy (G s) = []
        · rw [if_pos ⟨e0, by simp⟩]
          rw [if_pos e0, List.length_nil] at r2
          omega
        · rw [if_neg (fun z => e0 z.1)]
          rw [if_neg e0, List.length_singleton] at r2
          omega
      · rw [upG_s] at r3
        rw [r3]
        show (n_sy (G s) ++ [ts T L k.2]).length + t.length = (n_sy (G s)).length + (t.length + 1)
        rw [List.length_append, List.length_singleton]
        omega
    · rw [dec_f hd, if_neg (by decide)] at h; cases h
theorem len_p (hL : L ≤ 4096) (hl : l ≤ 4200) {s n p q : Nat} {sc sh kc : Nat} {pl : List Nat} {D : List Nat → Option Nat} {fi : List (Nat × Nat × Option Nat)} {G : Nat → Nod} {st' : LSt} (hs : s < sc) (hy : n_sy (G s) = []) (hw : WFs (sc, sh, kc, pl, D, fi, G)) (hv : VV T L Sd In Nx Am K F N S I X Lt l n p q) (hc : cb T L p = 123) (h : len T L s p (sc, sh, kc, pl, D, fi, G) = .inr st') : FQ s (sc, sh, kc, pl, D, fi, G) st' ∧ ∃ v kp c b, (kp, v) ∈ prt T L p ∧ VV T L Sd In Nx Am K F N S I X Lt l c v b ∧ ts T L kp = litN 25 ∧ p < kp ∧ kp + 10 ≤ v ∧ b < q ∧ st'.2.2.2.1.length ≤ pl.length + 12 + (b - v) := by
  simp only [len] at h
  have h25 : (litN 25).length = 7 := by decide
  have h26 : (litN 26).length = 12 := by decide
  have h27 : (litN 27).length = 2 := by decide
  rcases mbc hL hl hv hc (w := 25) (by decide) with ⟨e, _⟩ | ⟨v, kp, c, b, e, _, z1, z2, z3, z4, z5, z6⟩
  · rw [e] at h; cases h
  rw [e] at h
  simp only at h
  by_cases cn : cb T L v = 91 ∧ 1 ≤ (prt T L v).length ∧ (prt T L v).length ≤ 32
  · rw [if_pos cn] at h
    obtain ⟨a1, a2, a3, a4⟩ := z1.lst cn.1
    have q0 : FQ s (sc, sh, kc, pl, D, fi, G) (wrt (litN 26) (sc, sh, kc, pl, D, fi, G)) := (FQ.refl hw).wrt _
    cases hr : lsy T L s (prt T L v) (wrt (litN 26) (sc, sh, kc, pl, D, fi, G)) with
    | inl e => rw [hr] at h; cases h
    | inr st1 =>
      rw [hr] at h
      obtain ⟨r1, r2, r3⟩ := lsy_p (prt T L v) _ _ sc sh kc (pl ++ litN 26) D fi G st1 _ _ hs (q0.wf hw) a4 hr
      obtain ⟨sc', sh', kc', pl', D', fi', G'⟩ := st1
      simp only at h
      rw [if_pos ⟨hy, fun z => by rw [z] at cn; simp at cn⟩] at r2
      have r2 : pl'.length + 1 ≤ (pl ++ litN 26).length + (b - (v + 1)) := r2
      rw [List.length_append] at r2
      have hb := z1.base
      have fin : Sum.inr (sc', sh', kc', pl' ++ litN 27, D', fi', G') = (Sum.inr st' : LRs) → FQ s (sc, sh, kc, pl, D, fi, G) st' ∧ ∃ v kp c b, (kp, v) ∈ prt T L p ∧ VV T L Sd In Nx Am K F N S I X Lt l c v b ∧ ts T L kp = litN 25 ∧ p < kp ∧ kp + 10 ≤ v ∧ b < q ∧ st'.2.2.2.1.length ≤ pl.length + 12 + (b - v) := by
        intro e
        have e := Sum.inr.inj e
        rw [← e]
        refine ⟨(q0.trans r1).wrt (litN 27), v, kp, c, b, z5, z1, z6, z2, by omega, z4, ?_⟩
        show (pl' ++ litN 27).length ≤ _
        rw [List.length_append]
        omega
      cases hm : mbr T L p (litN 28) with
      | none => rw [hm] at h; exact fin h
      | some d =>
        rw [hm] at h
        simp only at h
        by_cases hd : cb T L d = 34 ∧ ts T L d ∈ n_sy (G' s)
        · rw [dec_t hd, if_pos rfl] at h
          exact fin h
        · rw [dec_f hd, if_neg (by decide)] at h; cases h
  · rw [if_neg cn] at h; cases h
theorem lfd_p (hL : L ≤ 4096) (hl : l ≤ 4200) {f : Nat → Bool → LSt → LRs} (hf : okSp T L Sd In Nx Am K F N S I X Lt l f) {s n p q i : Nat} {sc sh kc : Nat} {pl : List Nat} {D : List Nat → Option Nat} {fi : List (Nat × Nat × Option Nat)} {G : Nat → Nod} {st' : LSt} (hs : s < sc) (hw : WFs (sc, sh, kc, pl, D, fi, G)) (hv : VV T L Sd In Nx Am K F N S I X Lt l n p q) (h : lfd T L f s p i (sc, sh, kc, pl, D, fi, G) = .inr st') : FQ s (sc, sh, kc, pl, D, fi, G) st' ∧ st'.2.2.2.1.length ≤ pl.length + (q - p) + (if i = 0 then 0 else 1) := by
  simp only [lfd] at h
  have h20 : (litN 20).length = 4 := by decide
  have h15 : (litN 15).length = 4 := by decide
  have h21 : (litN 21).length = 8 := by decide
  have h31 : (litN 31).length = 8 := by decide
  by_cases hc : cb T L p = 123
  rotate_left
  · rw [if_neg hc] at h; cases h
  rw [if_pos hc] at h
  rcases mbc hL hl hv hc (w := 20) (by decide) with ⟨e, _⟩ | ⟨v0, kp0, c0, b0, e0, _, x1, x2, x3, x4, x5, x6⟩
  · rw [e] at h; cases h
  rw [e0] at h
  simp only at h
  by_cases c34 : cb T L v0 = 34
  rotate_left
  · rw [if_neg c34] at h; cases h
  rw [if_pos c34] at h
  by_cases hd : isNm (ts T L v0) ∧ ∀ c, c ∈ n_ch (G s) → n_fn (G c) ≠ ts T L v0
  rotate_left
  · rw [dec_f hd, if_neg (by decide)] at h; cases h
  rw [dec_t hd, if_pos rfl] at h
  obtain ⟨s0, y1, y2, y3, y4, y5, y6⟩ := x1.str c34
  rcases mbc hL hl hv hc (w := 15) (by decide) with ⟨e, _⟩ | ⟨v, kp, c, b, e, _, z1, z2, z3, z4, z5, z6⟩
  · rw [e] at h; cases h
  rw [e] at h
  simp only at h
  have hap := mb2 hv hc x5 z5 x1 z1 (by rw [x6, z6]; decide)
  have hb := z1.base
  have q0 : FQ s (sc, sh, kc, pl, D, fi, G) (sc, sh, kc + 1, pl ++ ((if i = 0 then [] else [44]) ++ (litN 21 ++ (qt (ts T L v0) ++ litN 31))), D, fi, upG G s (klN (G s) kc)) := ((FQ.refl hw).wrt ((if i = 0 then [] else [44]) ++ (litN 21 ++ (qt (ts T L v0) ++ litN 31)))).kid
  cases hr : f v false (sc, sh, kc + 1, pl ++ ((if i = 0 then [] else [44]) ++ (litN 21 ++ (qt (ts T L v0) ++ litN 31))), D, fi, upG G s (klN (G s) kc)) with
  | inl e => rw [hr] at h; cases h
  | inr st1 =>
    rw [hr] at h
    obtain ⟨g1, g2⟩ := hf _ _ _ _ _ _ z1 (q0.wf hw) hr
    obtain ⟨sc', sh', kc', pl', D', fi', G'⟩ := st1
    have e := Sum.inr.inj h
    rw [← e]
    have q1 := q0.trans (g1.q (s := s) hs)
    obtain ⟨a1, a2, a3, ⟨t, a4⟩, a5, a6, a7, a8, a9, a10, a11, a12, a13⟩ := q1
    have g8 := g1.2.2.2.2.2.2.2.1
    have q2 : FQ s (sc, sh, kc, pl, D, fi, G) (sc', sh', kc', pl' ++ [125], D', fi' ++ [(kc, sc, mbr T L p (litN 28))], upG G' sc (fnN (G' sc) (ts T L v0))) := by
      have := dul_1 fi' (kc, sc, mbr T L p (litN 28))
      refine ⟨a1, a2, a3, ⟨t ++ [125], by rw [a4, List.append_assoc]⟩, fun i h1 h2 => ?_, a6, a7, by omega, DOK.up (x := fnN (G' sc) (ts T L v0)) a9 rfl rfl, ?_⟩
      · rw [upG_n (show i ≠ sc by omega)]
        exact a5 i h1 h2
      · rw [upG_n (show s ≠ sc by omega)]
        exact ⟨a10, a11, a12, a13⟩
    refine ⟨q2.jon (c := sc) hs (Nat.le_refl _), ?_⟩
    have g2 : pl'.length ≤ (pl ++ ((if i = 0 then [] else [44]) ++ (litN 21 ++ (qt (ts T L v0) ++ litN 31)))).length + (b - v) := g2
    show (pl' ++ [125]).length ≤ _
    simp only [List.length_append, qt, List.length_cons, List.length_nil, h21, h31] at g2 ⊢
    rw [y2] at g2
    by_cases ei : i = 0
    · rw [if_pos ei] at g2 ⊢
      rw [List.length_nil] at g2
      omega
    · rw [if_neg ei] at g2 ⊢
      rw [List.length_singleton] at g2
      omega
theorem lfs_p (hL : L ≤ 4096) (hl : l ≤ 4200) {f : Nat → Bool → LSt → LRs} (hf : okSp T L Sd In Nx Am K F N S I X Lt l f) {s : Nat} : ∀ (ks : List (Nat × Nat)) (i lo hi : Nat) (st st' : LSt) (hc hr : Int32), s < st.1 → WFs st → LCH T L Sd In Nx Am K F N S I X Lt l ks lo hi hc hr → lfs T L f s ks i st = .inr st' → FQ s st st' ∧ st'.2.2.2.1.length + (if i = 0 ∧ ks ≠ [] then 1 else 0) ≤ st.2.2.2.1.length + (hi - lo) + 2 := by
  intro ks
  have h27 : (litN 27).length = 2 := by decide
  induction ks with
  | nil =>
    intro i lo hi st st' hc hr hs hw hl h
    simp only [lfs] at h
    have e := Sum.inr.inj h
    rw [← e]
    refine ⟨(FQ.refl hw).wrt _, ?_⟩
    rw [if_neg (fun z => z.2 rfl)]
    obtain ⟨sc, sh, kc, pl, D, fi, G⟩ := st
    show (pl ++ litN 27).length + 0 ≤ pl.length + (hi - lo) + 2
    rw [List.length_append, h27]
    omega
  | cons k t ih =>
    intro i lo hi st st' hc hr hs hw hlc h
    obtain ⟨c, b, c1, c2, c3, c4, c5, c6⟩ := hlc
    have hb := c4.base
    simp only [lfs] at h
    cases hv : lfd T L f s k.2 i st with
    | inl e => rw [hv] at h; cases h
    | inr st1 =>
      rw [hv] at h
      simp only at h
      obtain ⟨sc, sh, kc, pl, D, fi, G⟩ := st
      obtain ⟨g1, g2⟩ := lfd_p hL hl hf hs hw c4 hv
      have hs1 : s < st1.1 := by
        obtain ⟨sc', sh', kc', pl', D', fi', G'⟩ := st1
        have := g1.1
        have hs : s < sc := hs
        show s < sc'
        omega
      obtain ⟨r1, r2⟩ := ih (i + 1) _ _ _ _ _ _ hs1 (g1.wf hw) c6 h
      refine ⟨g1.trans r1, ?_⟩
      rw [if_neg (show ¬ (i + 1 = 0 ∧ t ≠ []) by omega)] at r2
      show _ ≤ pl.length + (hi - lo) + 2
      by_cases ei : i = 0
      · rw [if_pos ⟨ei, by simp⟩]
        rw [if_pos ei] at g2
        omega
      · rw [if_neg (fun z => ei z.1)]
        rw [if_neg ei] at g2
        omega
theorem lrc_p (hL : L ≤ 4096) (hl : l ≤ 4200) {f : Nat → Bool → LSt → LRs} (hf : okSp T L Sd In Nx Am K F N S I X Lt l f) {s n p q : Nat} {sc sh kc : Nat} {pl : List Nat} {D : List Nat → Option Nat} {fi : List (Nat × Nat × Option Nat)} {G : Nat → Nod} {st' : LSt} (hs : s < sc) (hw : WFs (sc, sh, kc, pl, D, fi, G)) (hv : VV T L Sd In Nx Am K F N S I X Lt l n p q) (hc : cb T L p = 123) (h : lrc T L f s p (sc, sh, kc, pl, D, fi, G) = .inr st') : FQ s (sc, sh, kc, pl, D, fi, G) st' ∧ ∃ v kp c b, (kp, v) ∈ prt T L p ∧ VV T L Sd In Nx Am K F N S I X Lt l c v b ∧ ts T L kp = litN 29 ∧ p < kp ∧ kp + 9 ≤ v ∧ b < q ∧ st'.2.2.2.1.length ≤ pl.length + 11 + (b - v) := by
  simp only [lrc] at h
  have h29 : (litN 29).length = 6 := by decide
  have h30 : (litN 30).length = 11 := by decide
  rcases mbc hL hl hv hc (w := 29) (by decide) with ⟨e, _⟩ | ⟨v, kp, c, b, e, _, z1, z2, z3, z4, z5, z6⟩
  · rw [e] at h; cases h
  rw [e] at h
  simp only at h
  by_cases cn : cb T L v = 91 ∧ (prt T L v).length ≤ 32
  · rw [if_pos cn] at h
    obtain ⟨a1, a2, a3, a4⟩ := z1.lst cn.1
    have q0 : FQ s (sc, sh, kc, pl, D, fi, G) (wrt (litN 30) (sc, sh, kc, pl, D, fi, G)) := (FQ.refl hw).wrt _
    obtain ⟨r1, r2⟩ := lfs_p hL hl hf (prt T L v) _ _ _ _ _ _ _ hs (q0.wf hw) a4 h
    refine ⟨q0.trans r1, v, kp, c, b, z5, z1, z6, z2, by omega, z4, ?_⟩
    have hb := z1.base
    have r2 : st'.2.2.2.1.length + (if 0 = 0 ∧ prt T L v ≠ [] then 1 else 0) ≤ (pl ++ litN 30).length + (b - (v + 1)) + 2 := r2
    rw [List.length_append] at r2
    by_cases e0 : prt T L v = []
    · have := z1.two (Or.inl cn.1)
      rw [e0] at h
      simp only [lfs] at h
      have e := Sum.inr.inj h
      rw [← e]
      show ((pl ++ litN 30) ++ litN 27).length ≤ _
      rw [List.length_append, List.length_append, show (litN 27).length = 2 by decide]
      omega
    · rw [if_pos ⟨rfl, e0⟩] at r2
      omega
  · rw [if_neg cn] at h; cases h
theorem FQ.fp {br : Bool} {sc sh kc sh0 kc0 : Nat} {pl pl1 : List Nat} {D D0 : List Nat → Option Nat} {fi : List (Nat × Nat × Option Nat)} {G : Nat → Nod} {x : Nod} {st' : LSt} (h : FQ sc (sc + 1, sh0, kc0, pl1, D0, fi, upG G sc x) st') (hsh : sh ≤ sh0) (hkc : kc ≤ kc0) (hpl : ∃ t, pl1 = pl ++ t) (hD : ∀ w i, D w = some i → D0 w = some i) (hD' : ∀ w i, D0 w = some i → D w = some i ∨ sc ≤ i) (hk : n_kd x ≤ 11) (hb : br = true → n_kd x ≤ 10) (hm : n_me x = sc) (hp : n_pa x = 999) : FPs br (sc, sh, kc, pl, D, fi, G) st' := by
  obtain ⟨sc', sh', kc', pl', D', fi', G'⟩ := st'
  obtain ⟨a1, a2, a3, ⟨t, a4⟩, a5, a6, a7, a8, a9, a10, a11, a12, a13⟩ := h
  obtain ⟨u, hpl⟩ := hpl
  rw [upG_s] at a10 a11 a13
  have em : n_me (G' sc) = sc := a11.trans hm
  refine ⟨by omega, by omega, by omega, ⟨u ++ t, by rw [a4, hpl, List.append_assoc]⟩, fun i hi => ?_, fun w i q => a6 w i (hD w i q), fun w i q => ?_, by omega, a9, a13.trans hp, ⟨by omega, by rw [em, em]⟩, by rw [em, a10]; exact hk, fun q => by rw [em, a10]; exact hb q⟩
  · rw [a5 i (by omega) (by omega), upG_n (by omega)]
  · rcases a7 w i q with z | z
    · exact hD' w i z
    · exact Or.inr (by omega)
theorem lwd_p {sc sh kc : Nat} {pl : List Nat} {D : List Nat → Option Nat} {fi : List (Nat × Nat × Option Nat)} {G : Nat → Nod} {x : Nod} {st' : LSt} {p n q : Nat} {br : Bool} (hw : WFs (sc, sh, kc, pl, D, fi, G)) (hv : VV T L Sd In Nx Am K F N S I X Lt l n p q) (hc : cb T L p = 34) (h : lwd T L sc p (sc + 1, sh, kc, pl, D, fi, upG G sc x) = .inr st') : FPs br (sc, sh, kc, pl, D, fi, G) st' ∧ st'.2.2.2.1.length ≤ pl.length + (q - p) := by
  obtain ⟨s0, y1, y2, y3, y4, y5, y6⟩ := hv.str hc
  simp only [lwd] at h
  have hln : (pl ++ qt (ts T L p)).length ≤ pl.length + (q - p) := by
    simp only [List.length_append, qt, List.length_cons, List.length_nil]
    rw [y2]
    omega
  by_cases c6 : kw6 (ts T L p) = -1
  · rw [if_pos c6] at h
    cases hD : D (ts T L p) with
    | none => rw [hD] at h; cases h
    | some d =>
      rw [hD] at h
      have e := Sum.inr.inj h
      obtain ⟨d1, d2, d3, d4⟩ := hw.1 _ _ hD
      rw [← e]
      have en : ∀ i, i < sc → upG (upG G sc x) sc (mkN 12 d (n_sg (upG G sc x d)) 0 [] []) i = G i := fun i hi => by
        rw [upG_n (by omega), upG_n (by omega)]
      refine ⟨⟨by omega, Nat.le_refl _, Nat.le_refl _, ⟨_, rfl⟩, en, fun _ _ h => h, fun _ _ h => Or.inl h, by omega, fun w i hi => ?_, ?_⟩, hln⟩
      · obtain ⟨e1, e2⟩ := hw.1 w i hi
        rw [en i e1]
        exact ⟨by omega, e2⟩
      · rw [upG_s]
        show 999 = 999 ∧ (d < sc + 1 ∧ n_me (upG (upG G sc x) sc _ d) = d) ∧ n_kd (upG (upG G sc x) sc _ d) ≤ 11 ∧ (br = true → n_kd (upG (upG G sc x) sc _ d) ≤ 10)
        rw [en d d1]
        exact ⟨rfl, ⟨by omega, d2⟩, by omega, fun _ => d4⟩
  · rw [if_neg c6] at h
    have e := Sum.inr.inj h
    rw [← e]
    have hk : (kw6 (ts T L p)).toNatClampNeg ≤ 5 := by
      rcases kw6_of (ts T L p) with ⟨k, k1, k2, k3⟩ | ⟨k1, _⟩
      · rw [k3, nI_clamp (by omega)]; exact k1
      · exact absurd k1 c6
    generalize (kw6 (ts T L p)).toNatClampNeg = k at hk
    have en : ∀ i, i < sc → upG (upG G sc x) sc (mkN k sc k 0 [] []) i = G i := fun i hi => by
      rw [upG_n (by omega), upG_n (by omega)]
    refine ⟨⟨by omega, Nat.le_refl _, Nat.le_refl _, ⟨_, rfl⟩, en, fun _ _ h => h, fun _ _ h => Or.inl h, by omega, fun w i hi => ?_, ?_⟩, hln⟩
    · obtain ⟨e1, e2⟩ := hw.1 w i hi
      rw [en i e1]
      exact ⟨by omega, e2⟩
    · rw [upG_s]
      show 999 = 999 ∧ (sc < sc + 1 ∧ n_me (upG (upG G sc x) sc (mkN k sc k 0 [] []) sc) = sc) ∧ n_kd (upG (upG G sc x) sc (mkN k sc k 0 [] []) sc) ≤ 11 ∧ (br = true → n_kd (upG (upG G sc x) sc (mkN k sc k 0 [] []) sc) ≤ 10)
      rw [upG_s]
      exact ⟨rfl, ⟨by omega, rfl⟩, show k ≤ 11 by omega, fun _ => show k ≤ 10 by omega⟩
theorem lwd_p2 {sc sh kc : Nat} {pl : List Nat} {D : List Nat → Option Nat} {fi : List (Nat × Nat × Option Nat)} {G : Nat → Nod} {x : Nod} {st' : LSt} {p n q : Nat} {br : Bool} {p0 q0 : Nat} (hw : WFs (sc, sh, kc, pl, D, fi, G)) (hv : VV T L Sd In Nx Am K F N S I X Lt l n p q) (hc : cb T L p = 34) (h : lwd T L sc p (sc + 1, sh, kc, pl, D, fi, upG G sc x) = .inr st') (hp : p0 ≤ p) (hq : q ≤ q0) : FPs br (sc, sh, kc, pl, D, fi, G) st' ∧ st'.2.2.2.1.length ≤ pl.length + (q0 - p0) := by
  obtain ⟨h1, h2⟩ := lwd_p (br := br) hw hv hc h
  have := hv.base
  exact ⟨h1, by omega⟩
theorem ldf_p (hL : L ≤ 4096) (hl : l ≤ 4200) {f : Nat → Bool → LSt → LRs} (hf : okSp T L Sd In Nx Am K F N S I X Lt l f) {k n p q t0 : Nat} {br : Bool} (hk : k = 8 ∨ k = 9 ∨ k = 10) {sc sh kc : Nat} {pl : List Nat} {D : List Nat → Option Nat} {fi : List (Nat × Nat × Option Nat)} {G : Nat → Nod} {x : Nod} {st' : LSt} (hw : WFs (sc, sh, kc, pl, D, fi, G)) (hv : VV T L Sd In Nx Am K F N S I X Lt l n p q) (hc : cb T L p = 123) (h0 : mbr T L p (litN 15) = some t0) (h1 : ts T L t0 = litN (3 + k)) (h1' : cb T L t0 = 34) (h : ldf T L f sc p k (sc + 1, sh, kc, pl, D, fi, upG G sc x) = .inr st') : FPs br (sc, sh, kc, pl, D, fi, G) st' ∧ st'.2.2.2.1.length ≤ pl.length + (q - p) := by
  simp only [ldf] at h
  have h15 : (litN 15).length = 4 := by decide
  have h20 : (litN 20).length = 4 := by decide
  have h21 : (litN 21).length = 8 := by decide
  have h22 : (litN 22).length = 9 := by decide
  rcases mbc hL hl hv hc (w := 15) (by decide) with ⟨e, _⟩ | ⟨v0, kp0, c0, b0, e0, _, x1, x2, x3, x4, x5, x6⟩
  · rw [h0] at e; cases e
  rw [h0] at e0
  cases e0
  obtain ⟨s0, y1, y2, y3, y4, y5, y6⟩ := x1.str h1'
  rw [y2] at h1
  subst h1
  rcases mbc hL hl hv hc (w := 20) (by decide) with ⟨e, _⟩ | ⟨v, kp, c, b, e, _, z1, z2, z3, z4, z5, z6⟩
  · rw [e] at h; cases h
  rw [e] at h
  simp only at h
  by_cases c34 : cb T L v = 34
  rotate_left
  · rw [if_neg c34] at h; cases h
  rw [if_pos c34] at h
  obtain ⟨s1, u1, u2, u3, u4, u5, u6⟩ := z1.str c34
  by_cases hd : isNm (ts T L v) ∧ kw (ts T L v) = -1 ∧ D (ts T L v) = none
  rotate_left
  · rw [dec_f hd, if_neg (by decide)] at h; cases h
  rw [dec_t hd, if_pos rfl] at h
  have hap := mb2 hv hc x5 z5 x1 z1 (by rw [x6, z6]; decide)
  have e2 : ∀ y, upG (upG G sc x) sc y = upG G sc y := fun y => funext (fun i => by
    by_cases q : i = sc
    · rw [q, upG_s, upG_s]
    · rw [upG_n q, upG_n q, upG_n q])
  rw [e2] at h
  have hw1 : ∀ pl', WFs (sc + 1, sh + 1, kc, pl', (fun u => if u = ts T L v then some sc else D u), fi, upG G sc (mkN k sc sh 0 [] [])) := by
    intro pl'
    refine ⟨fun w d hdd => ?_, by have := hw.2; omega⟩
    by_cases ew : w = ts T L v
    · simp only [if_pos ew] at hdd
      have e := Option.some.inj hdd
      subst e
      rw [upG_s]
      exact ⟨by omega, rfl, show 8 ≤ k by omega, show k ≤ 10 by omega⟩
    · simp only [if_neg ew] at hdd
      obtain ⟨a, b⟩ := hw.1 w d hdd
      rw [upG_n (by omega)]
      exact ⟨by omega, b⟩
  have hln : (pl ++ (litN 21 ++ (qt (ts T L v) ++ (litN 22 ++ (litN (3 + k) ++ [34]))))).length = pl.length + 20 + s1.length + (litN (3 + k)).length := by
    simp only [List.length_append, qt, List.length_cons, List.length_nil, h21, h22, u2]
    omega
  have fin : ∀ y, FQ sc (sc + 1, sh + 1, kc, pl ++ (litN 21 ++ (qt (ts T L v) ++ (litN 22 ++ (litN (3 + k) ++ [34])))), (fun u => if u = ts T L v then some sc else D u), fi, upG G sc (mkN k sc sh 0 [] [])) y → FPs br (sc, sh, kc, pl, D, fi, G) y := fun y hy => by
    refine FQ.fp hy (by omega) (Nat.le_refl _) ⟨_, rfl⟩ (fun w i hi => ?_) (fun w i hi => ?_) (show k ≤ 11 by omega) (fun _ => show k ≤ 10 by omega) rfl rfl
    · have : w ≠ ts T L v := fun e => by rw [e, hd.2.2] at hi; cases hi
      simp only [if_neg this]
      exact hi
    · by_cases ew : w = ts T L v
      · simp only [if_pos ew] at hi
        exact Or.inr (by rw [Option.some.inj hi]; omega)
      · simp only [if_neg ew] at hi
        exact Or.inl hi
  by_cases k8 : k = 8
  · rw [if_pos k8] at h
    subst k8
    obtain ⟨r1, v2, kp2, c2, b2, w1, w2, w3, w4, w5, w6, w7⟩ := lfx_p hL hl (show sc < sc + 1 by omega) (by rw [upG_s]; exact ⟨rfl, rfl, rfl⟩) (hw1 _) hv hc h
    have ha1 := mb2 hv hc x5 w1 x1 w2 (by rw [x6, w3]; decide)
    have ha2 := mb2 hv hc z5 w1 z1 w2 (by rw [z6, w3]; decide)
    have hb := w2.base
    refine ⟨fin _ r1, ?_⟩
    rw [hln] at w7
    have h11 : (litN (3 + 8)).length = 5 := by decide
    omega
  rw [if_neg k8] at h
  by_cases k9 : k = 9
  · rw [if_pos k9] at h
    subst k9
    obtain ⟨r1, v2, kp2, c2, b2, w1, w2, w3, w4, w5, w6, w7⟩ := len_p hL hl (show sc < sc + 1 by omega) (by rw [upG_s]; rfl) (hw1 _) hv hc h
    have ha1 := mb2 hv hc x5 w1 x1 w2 (by rw [x6, w3]; decide)
    have ha2 := mb2 hv hc z5 w1 z1 w2 (by rw [z6, w3]; decide)
    have hb := w2.base
    refine ⟨fin _ r1, ?_⟩
    rw [hln] at w7
    have h11 : (litN (3 + 9)).length = 4 := by decide
    omega
  rw [if_neg k9] at h
  have k10 : k = 10 := by omega
  subst k10
  obtain ⟨r1, v2, kp2, c2, b2, w1, w2, w3, w4, w5, w6, w7⟩ := lrc_p hL hl hf (show sc < sc + 1 by omega) (hw1 _) hv hc h
  have ha1 := mb2 hv hc x5 w1 x1 w2 (by rw [x6, w3]; decide)
  have ha2 := mb2 hv hc z5 w1 z1 w2 (by rw [z6, w3]; decide)
  have hb := w2.base
  refine ⟨fin _ r1, ?_⟩
  rw [hln] at w7
  have h11 : (litN (3 + 10)).length = 6 := by decide
  omega
theorem kw_6 (s : List Nat) {k : Nat} (hk : k ≤ 10) (h : kw s = nI k) : s = litN (3 + k) := by
  rcases kw_any s with e | ⟨k', k1, k2, k3⟩
  · exact absurd (e.symm.trans h) (fun z => nI_m1 (n := k) (by omega) z.symm)
  · have := (nI_eq (by omega) (by omega)).mp (k2.symm.trans h)
    subst this
    exact k3
theorem lob_p (hL : L ≤ 4096) (hl : l ≤ 4200) {f : Nat → Bool → LSt → LRs} (hf : okSp T L Sd In Nx Am K F N S I X Lt l f) {n p q : Nat} {br : Bool} {sc sh kc : Nat} {pl : List Nat} {D : List Nat → Option Nat} {fi : List (Nat × Nat × Option Nat)} {G : Nat → Nod} {st' : LSt} (hw : WFs (sc, sh, kc, pl, D, fi, G)) (hv : VV T L Sd In Nx Am K F N S I X Lt l n p q) (hc : cb T L p = 123) (h : lob T L f sc p (sc + 1, sh, kc, pl, D, fi, upG G sc (mkN 12 sc 0 0 [] [])) = .inr st') : FPs br (sc, sh, kc, pl, D, fi, G) st' ∧ st'.2.2.2.1.length ≤ pl.length + (q - p) := by
  simp only [lob] at h
  rcases mbc hL hl hv hc (w := 15) (by decide) with ⟨e, _⟩ | ⟨v, kp, c, b, e, _, z1, z2, z3, z4, z5, z6⟩
  · rw [e] at h; cases h
  rw [e] at h
  simp only at h
  by_cases c34 : cb T L v = 34
  rotate_left
  · rw [if_neg c34] at h; cases h
  rw [if_pos c34] at h
  have e2 : ∀ y, upG (upG G sc (mkN 12 sc 0 0 [] [])) sc y = upG G sc y := fun y => funext (fun i => by
    by_cases q : i = sc
    · rw [q, upG_s, upG_s]
    · rw [upG_n q, upG_n q, upG_n q])
  have hDs : ∀ w d, D w = some d → d < sc := fun w d h => (hw.1 w d h).1
  have hw1 : WFs (sc + 1, sh, kc, pl, D, fi, upG G sc (mkN 12 sc 0 0 [] [])) := by
    refine ⟨fun w d hd => ?_, by have := hw.2; omega⟩
    obtain ⟨a, b⟩ := hw.1 w d hd
    rw [upG_n (by omega)]
    exact ⟨by omega, b⟩
  have grp : ∀ k, k = 6 ∨ k = 7 → kw (ts T L v) = nI k → lit T L f sc p k (sc + 1, sh, kc, pl, D, fi, upG G sc (mkN 12 sc 0 0 [] [])) = .inr st' → FPs br (sc, sh, kc, pl, D, fi, G) st' ∧ st'.2.2.2.1.length ≤ pl.length + (q - p) := by
    intro k hk ek hh
    obtain ⟨r1, r2⟩ := lit_p hL hl hf hk rfl upG_s hw1 hDs hv hc e (kw_6 _ (by omega) ek) c34 hh
    rw [e2] at r1
    exact ⟨FQ.fp r1 (Nat.le_refl _) (Nat.le_refl _) ⟨[], (List.append_nil _).symm⟩ (fun _ _ h => h) (fun _ _ h => Or.inl h) (show k ≤ 11 by omega) (fun _ => show k ≤ 10 by omega) rfl rfl, r2⟩
  by_cases c67 : kw (ts T L v) = 6 ∨ kw (ts T L v) = 7
  · rw [if_pos c67] at h
    rcases c67 with c6 | c7
    · rw [c6] at h
      exact grp 6 (Or.inl rfl) c6 h
    · rw [c7] at h
      exact grp 7 (Or.inr rfl) c7 h
  rw [if_neg c67] at h
  by_cases c8 : kw (ts T L v) = 8 ∨ kw (ts T L v) = 9 ∨ kw (ts T L v) = 10
  · rw [if_pos c8] at h
    rcases c8 with c | c | c
    · rw [c] at h
      exact ldf_p hL hl hf (k := 8) (Or.inl rfl) hw hv hc e (kw_6 _ (by decide) c) c34 h
    · rw [c] at h
      exact ldf_p hL hl hf (k := 9) (Or.inr (Or.inl rfl)) hw hv hc e (kw_6 _ (by decide) c) c34 h
    · rw [c] at h
      exact ldf_p hL hl hf (k := 10) (Or.inr (Or.inr rfl)) hw hv hc e (kw_6 _ (by decide) c) c34 h
  rw [if_neg c8] at h
  exact lwd_p2 hw z1 c34 h (by omega) (by omega)
theorem look_p (hL : L ≤ 4096) (hl : l ≤ 4200) : ∀ k, okSp T L Sd In Nx Am K F N S I X Lt l (look T L k) := by
  intro k
  induction k with
  | zero =>
    intro p br st st' n q hv hw h
    obtain ⟨sc, sh, kc, pl, D, fi, G⟩ := st
    simp only [look] at h
    by_cases c : 128 ≤ sc
    · rw [if_pos c] at h; cases h
    · rw [if_neg c] at h; cases h
  | succ k ih =>
    intro p br st st' n q hv hw h
    obtain ⟨sc, sh, kc, pl, D, fi, G⟩ := st
    simp only [look] at h
    by_cases c : 128 ≤ sc
    · rw [if_pos c] at h; cases h
    rw [if_neg c] at h
    by_cases c1 : cb T L p = 34
    · rw [if_pos c1] at h
      exact lwd_p hw hv c1 h
    rw [if_neg c1] at h
    by_cases c2 : cb T L p = 91
    · rw [if_pos c2] at h
      by_cases c3 : br = true
      · rw [if_pos c3] at h; cases h
      rw [if_neg c3] at h
      by_cases c4 : 1 ≤ (prt T L p).length ∧ (prt T L p).length ≤ 16
      · rw [if_pos c4] at h
        obtain ⟨a1, a2, a3, a4⟩ := hv.lst c2
        have hw1 : WFs (sc + 1, sh + 1, kc, pl, D, fi, upG G sc (mkN 11 sc sh 0 [] [])) := by
          refine ⟨fun w d hd => ?_, by have := hw.2; omega⟩
          obtain ⟨a, b⟩ := hw.1 w d hd
          rw [upG_n (by omega)]
          exact ⟨by omega, b⟩
        obtain ⟨r1, r2⟩ := lun_p ih (s := sc) (prt T L p) _ _ _ _ _ _ _ (show sc < sc + 1 by omega) hw1 a4 h
        have hb := hv.base
        refine ⟨FQ.fp r1 (by omega) (Nat.le_refl _) ⟨[], (List.append_nil _).symm⟩ (fun _ _ h => h) (fun _ _ h => Or.inl h) (show 11 ≤ 11 by omega) (fun q => absurd q c3) rfl rfl, ?_⟩
        show st'.2.2.2.1.length ≤ pl.length + (q - p)
        have r2 : st'.2.2.2.1.length ≤ pl.length + (q - (p + 1)) + 1 := r2
        omega
      · rw [if_neg c4] at h; cases h
    rw [if_neg c2] at h
    by_cases c3 : cb T L p = 123
    · rw [if_pos c3] at h
      exact lob_p hL hl ih hw hv c3 h
    · rw [if_neg c3] at h; cases h
end PURE2
end
section
-- the class's rows and the told nodes
def PLI (Pl : Nat → Int32) (pl : List Nat) : Prop := ∀ i, i < pl.length → bv (Pl i) = pl.getD i 0
def PNL (pl : List Nat) (x : Nat) (s : List Nat) : Prop := x + s.length < pl.length ∧ isNm s ∧ (∀ j, j < s.length → pl.getD (x + j) 0 = s.getD j 0) ∧ pl.getD (x + s.length) 0 = 34
theorem getD_l {a b : List Nat} {j : Nat} (h : j < a.length) : (a ++ b).getD j 0 = a.getD j 0 := by
  rw [ls_get (show j < (a ++ b).length by rw [List.length_append]; omega), ls_get h, List.getElem_append_left h]
theorem getD_r {a b : List Nat} {j : Nat} (h : j < b.length) : (a ++ b).getD (a.length + j) 0 = b.getD j 0 := by
  rw [ls_get (show a.length + j < (a ++ b).length by rw [List.length_append]; omega), ls_get h, List.getElem_append_right (by omega)]
  simp
theorem PNL.app {pl t : List Nat} {x : Nat} {s : List Nat} (h : PNL pl x s) : PNL (pl ++ t) x s := by
  obtain ⟨a1, a2, a3, a4⟩ := h
  refine ⟨by rw [List.length_append]; omega, a2, fun j hj => ?_, ?_⟩
  · rw [getD_l (by omega)]; exact a3 j hj
  · rw [getD_l a1]; exact a4
theorem PNL.new {pl a b w : List Nat} (h : isNm w) : PNL (pl ++ (a ++ (qt w ++ b))) (pl.length + a.length + 1) w := by
  have hq : (qt w).length = w.length + 2 := by simp [qt]
  have hlen : (pl ++ (a ++ (qt w ++ b))).length = pl.length + (a.length + (w.length + 2 + b.length)) := by
    rw [List.length_append, List.length_append, List.length_append, hq]
  have gt : ∀ j, j < (qt w).length → (pl ++ (a ++ (qt w ++ b))).getD (pl.length + a.length + j) 0 = (qt w).getD j 0 := by
    intro j hj
    rw [show pl.length + a.length + j = pl.length + (a.length + j) by omega, getD_r (by rw [List.length_append, List.length_append]; omega), getD_r (by rw [List.length_append]; omega), getD_l hj]
  refine ⟨by omega, h, fun j hj => ?_, ?_⟩
  · rw [show pl.length + a.length + 1 + j = pl.length + a.length + (j + 1) by omega, gt _ (by omega)]
    show (w ++ [34]).getD j 0 = _
    exact getD_l hj
  · rw [show pl.length + a.length + 1 + w.length = pl.length + a.length + (w.length + 1) by omega, gt _ (by omega)]
    show (w ++ [34]).getD w.length 0 = 34
    have := getD_r (a := w) (b := [34]) (j := 0) (by decide)
    rw [Nat.add_zero] at this
    rw [this]
    rfl
theorem PLI.wr {Pl : Nat → Int32} {pl b : List Nat} (h : PLI Pl pl) (hb : ∀ v, v ∈ b → v ≤ 255) : PLI (wrS Pl pl.length b) (pl ++ b) := by
  obtain ⟨w1, w2, w3⟩ := wrS_all b Pl pl.length hb
  intro i hi
  rw [List.length_append] at hi
  by_cases c : i < pl.length
  · rw [w1 i c, getD_l c]
    exact h i c
  · have e : i = pl.length + (i - pl.length) := by omega
    rw [e, w3 _ (by omega), getD_r (by omega)]
theorem PNL.pn {Pl : Nat → Int32} {pl : List Nat} {x : Nat} {s : List Nat} (h : PNL pl x s) (hp : PLI Pl pl) (hl : pl.length ≤ 4096) : PN Pl pl.length x s := by
  obtain ⟨a1, a2, a3, a4⟩ := h
  refine ⟨a1, hl, a2, fun j hj => ?_, ?_⟩
  · rw [hp _ (by omega)]; exact a3 j hj
  · rw [hp _ a1]; exact a4
def SYML (pl : List Nat) (k : Nat) (x : Nat → Nat) (sy : Nat → List Nat) : Prop := (∀ i, i < k → PNL pl (x i) (sy i)) ∧ ∀ i, i + 1 < k → x (i + 1) = x i + (sy i).length + 3
theorem ICH.keep2 {X X' : Nat → Int32} {h : Int32} {k hi hi' : Nat} {c : Nat → Nat} (hc : ICH X h k c hi) (hh : ∀ i, i < k → c i < hi') (ha : ∀ i, i < k → X' (c i) = X (c i)) : ICH X' h k c hi' := by
  obtain ⟨a1, a2, a3⟩ := hc
  refine ⟨fun i hi => ?_, a2, a3⟩
  obtain ⟨b1, b2⟩ := a1 i hi
  exact ⟨hh i hi, by rw [ha i hi]; exact b2⟩
theorem ch_mem {l : List Nat} {j : Nat} (h : j < l.length) : l.getD j 0 ∈ l := by
  rw [ls_get h]
  exact List.getElem_mem h
theorem mem_ch {l : List Nat} {c : Nat} (h : c ∈ l) : ∃ j, j < l.length ∧ l.getD j 0 = c := by
  obtain ⟨j, hj, e⟩ := List.getElem_of_mem h
  exact ⟨j, hj, by rw [ls_get hj]; exact e⟩
theorem snc_app {l : List Nat} {n : Nat} : snc (fun j => l.getD j 0) l.length n = fun j => (l ++ [n]).getD j 0 := by
  funext j
  by_cases e : j = l.length
  · rw [e, snc_s]
    have := getD_r (a := l) (b := [n]) (j := 0) (by simp)
    rw [Nat.add_zero] at this
    rw [this]
    rfl
  · rw [snc_n e]
    by_cases c : j < l.length
    · rw [getD_l c]
    · rw [show l.getD j 0 = 0 by simp [List.getD, List.getElem?_eq_none (show l.length ≤ j by omega)], show (l ++ [n]).getD j 0 = 0 by simp [List.getD, List.getElem?_eq_none (show (l ++ [n]).length ≤ j by simp; omega)]]
/-- the last symbol ends the plain form -/
def SE (Fi : Nat → Int32) (pl : List Nat) (s : Nat) (sy : List (List Nat)) : Prop := ∀ x, sy.length ≠ 0 → SYML pl sy.length x (fun j => sy.getD j []) → (0 < sy.length → Fi s = nI (x 0)) → x (sy.length - 1) + (sy.getD (sy.length - 1) []).length + 1 = pl.length
theorem SE.step {Fi : Nat → Int32} {pl t w : List Nat} {s : Nat} {sy : List (List Nat)} {x : Nat → Nat} (h : SE Fi pl s sy) (hx : SYML pl sy.length x (fun j => sy.getD j [])) (h0 : 0 < sy.length → Fi s = nI (x 0)) (ht : t = (if sy = [] then [] else [44]) ++ qt w) (hl : (pl ++ t).length ≤ 4096) : SE (if sy.length = 0 then upd Fi s (nI (pl.length + 1)) else Fi) (pl ++ t) s (sy ++ [w]) := by
  intro x' _ h1 h2
  have hgl : ∀ j, j < sy.length → (sy ++ [w]).getD j [] = sy.getD j [] := fun j hj => by
    simp [List.getD, List.getElem?_append_left hj]
  have hgr : (sy ++ [w]).getD sy.length [] = w := by
    simp [List.getD]
  have hq : (qt w).length = w.length + 2 := by simp [qt]
  rw [List.length_append, List.length_singleton] at h1 h2 ⊢
  have hb := (h1.1 0 (by omega)).1
  have h2 := h2 (by omega)
  rw [Nat.add_sub_cancel, hgr]
  by_cases c0 : sy.length = 0
  · have e0 : sy = [] := List.eq_nil_of_length_eq_zero c0
    rw [if_pos c0, pk_us] at h2
    have hll := hl
    rw [List.length_append] at hll
    have := (nI_eq (a := pl.length + 1) (b := x' 0) (by omega) (by omega)).mp h2
    rw [c0, ← this, ht, if_pos e0, List.nil_append, List.length_append, hq]
    omega
  · have e0 : sy ≠ [] := fun q => c0 (by rw [q]; rfl)
    have hpp := h x c0 hx h0
    rw [if_neg c0, h0 (by omega)] at h2
    have hb2 := (hx.1 0 (by omega)).1
    have hll := hl
    rw [List.length_append] at hll
    have e1 := (nI_eq (a := x 0) (b := x' 0) (by omega) (by omega)).mp h2
    have go : ∀ j, j < sy.length → x' j = x j := by
      intro j
      induction j with
      | zero => intro _; exact e1.symm
      | succ j ih =>
        intro hj
        have a := h1.2 j (by omega)
        have b := hx.2 j hj
        have c := ih (by omega)
        simp only at a b
        rw [hgl j (by omega)] at a
        omega
    have a := h1.2 (sy.length - 1) (by omega)
    simp only at a
    rw [hgl (sy.length - 1) (by omega), go (sy.length - 1) (by omega), show sy.length - 1 + 1 = sy.length by omega] at a
    rw [ht, if_neg e0, List.length_append, List.length_append, hq, List.length_singleton]
    omega
def LOC (Ki Me Fi Ne Fn Ac : Nat → Int32) (pl : List Nat) (sc : Nat) (G : Nat → Nod) (i : Nat) : Prop :=
  Me i = nI (n_me (G i)) ∧ n_me (G i) < sc ∧ (n_pa (G i) = 999 → Ne i = -1) ∧ (n_me (G i) = i → (n_kd (G i) ≤ 11 → Ki i = nI (n_kd (G i))) ∧ (n_kd (G i) ≠ 8 → n_kd (G i) ≠ 9 → ICH Ne (Fi i) (n_ch (G i)).length (fun j => (n_ch (G i)).getD j 0) sc ∧ Ac i = nI (n_ch (G i)).length ∧ (n_ch (G i)).length ≤ 32 ∧ ∀ c, c ∈ n_ch (G i) → i < c ∧ n_pa (G c) = i ∧ (n_kd (G i) = 10 → ∃ a, Fn c = nI a ∧ PNL pl a (n_fn (G c)))) ∧ (n_kd (G i) = 8 → Ac i = nI (n_wd (G i)) ∧ n_wd (G i) ≤ 64) ∧ (n_kd (G i) = 9 → Ac i = nI (n_sy (G i)).length ∧ (n_sy (G i)).length ≤ 32 ∧ ∃ x, (0 < (n_sy (G i)).length → Fi i = nI (x 0)) ∧ SYML pl (n_sy (G i)).length x (fun j => (n_sy (G i)).getD j [])))
section LOCS
variable {Ki Me Fi Ne Fn Ac Ki' Me' Fi' Ne' Fn' Ac' : Nat → Int32} {pl pl' : List Nat} {sc sc' i : Nat} {G G' : Nat → Nod}
theorem LOC.cg (h : LOC Ki Me Fi Ne Fn Ac pl sc G i) (hMe : Me' i = Me i) (hKi : Ki' i = Ki i) (hFi : Fi' i = Fi i) (hAc : Ac' i = Ac i) (hkd : n_kd (G' i) = n_kd (G i)) (hme : n_me (G' i) = n_me (G i)) (hch : n_ch (G' i) = n_ch (G i)) (hwd : n_wd (G' i) = n_wd (G i)) (hsy : n_sy (G' i) = n_sy (G i)) (hc : ∀ c, c ∈ n_ch (G i) → n_pa (G c) = i → i < c → c < sc → Ne' c = Ne c ∧ Fn' c = Fn c ∧ n_pa (G' c) = n_pa (G c) ∧ n_fn (G' c) = n_fn (G c)) (hpa : n_pa (G' i) = 999 → n_pa (G i) = 999 ∧ Ne' i = Ne i) (hsc : sc ≤ sc') (hpl : ∃ t, pl' = pl ++ t) : LOC Ki' Me' Fi' Ne' Fn' Ac' pl' sc' G' i := by
  obtain ⟨a1, a2, a3, a4⟩ := h
  obtain ⟨t, hpl⟩ := hpl
  refine ⟨by rw [hMe, hme]; exact a1, by rw [hme]; omega, fun z => by rw [(hpa z).2]; exact a3 (hpa z).1, fun z => ?_⟩
  rw [hme] at z
  obtain ⟨b1, b2, b3, b4⟩ := a4 z
  refine ⟨fun q => ?_, fun q1 q2 => ?_, fun q => ?_, fun q => ?_⟩
  · rw [hkd] at q ⊢; rw [hKi]; exact b1 q
  · rw [hkd] at q1 q2
    obtain ⟨c1, c2, c3, c4⟩ := b2 q1 q2
    have hlt : ∀ c, c ∈ n_ch (G i) → c < sc := fun c hc' => by
      obtain ⟨j, hj, e⟩ := mem_ch hc'
      rw [← e]
      exact (c1.1 j hj).1
    rw [hch, hFi, hAc]
    refine ⟨c1.keep2 (fun j hj => ?_) (fun j hj => ?_), c2, c3, fun c hcc => ?_⟩
    · have : (n_ch (G i)).getD j 0 < sc := (c1.1 j hj).1
      omega
    · have hm := ch_mem hj
      exact (hc _ hm (c4 _ hm).2.1 (c4 _ hm).1 (hlt _ hm)).1
    · obtain ⟨d1, d2, d3⟩ := c4 c hcc
      obtain ⟨e1, e2, e3, e4⟩ := hc c hcc d2 d1 (hlt c hcc)
      refine ⟨d1, by rw [e3]; exact d2, fun q => ?_⟩
      rw [hkd] at q
      obtain ⟨a, x1, x2⟩ := d3 q
      rw [hpl, e4]
      exact ⟨a, by rw [e2]; exact x1, x2.app⟩
  · rw [hkd] at q
    rw [hAc, hwd]; exact b3 q
  · rw [hkd] at q
    obtain ⟨c1, c2, x, c3, c4⟩ := b4 q
    rw [hsy, hAc, hFi]
    exact ⟨c1, c2, x, c3, fun j hj => by rw [hpl]; exact (c4.1 j hj).app, c4.2⟩
def LCs (Ki Me Fi Ne Fn Ac : Nat → Int32) (pl : List Nat) (sc : Nat) (G : Nat → Nod) : Prop := ∀ i, i < sc → LOC Ki Me Fi Ne Fn Ac pl sc G i
theorem LCs.wr (h : LCs Ki Me Fi Ne Fn Ac pl sc G) (t : List Nat) : LCs Ki Me Fi Ne Fn Ac (pl ++ t) sc G := fun i hi => (h i hi).cg rfl rfl rfl rfl rfl rfl rfl rfl rfl (fun _ _ _ _ _ => ⟨rfl, rfl, rfl, rfl⟩) (fun z => ⟨z, rfl⟩) (Nat.le_refl _) ⟨t, rfl⟩
/-- only shapes and kids changed -/
theorem LCs.kl (h : LCs Ki Me Fi Ne Fn Ac pl sc G) {s : Nat} {x : Nod} (h1 : n_kd x = n_kd (G s)) (h2 : n_me x = n_me (G s)) (h3 : n_ch x = n_ch (G s)) (h4 : n_wd x = n_wd (G s)) (h5 : n_sy x = n_sy (G s)) (h6 : n_pa x = n_pa (G s)) (h7 : n_fn x = n_fn (G s)) : LCs Ki Me Fi Ne Fn Ac pl sc (upG G s x) := by
  have e : ∀ {β : Type} (g : Nod → β), g x = g (G s) → ∀ i, g (upG G s x i) = g (G i) := fun g hg i => by
    by_cases q : i = s
    · rw [q, upG_s]; exact hg
    · rw [upG_n q]
  exact fun i hi => (h i hi).cg rfl rfl rfl rfl (e _ h1 i) (e _ h2 i) (e _ h3 i) (e _ h4 i) (e _ h5 i) (fun c _ _ _ _ => ⟨rfl, rfl, e _ h6 c, e _ h7 c⟩) (fun z => ⟨(e _ h6 i).symm.trans z, rfl⟩) (Nat.le_refl _) ⟨[], (List.append_nil _).symm⟩
theorem LCs.opn (h : LCs Ki Me Fi Ne Fn Ac pl sc G) : LCs (upd Ki sc (-1)) (upd Me sc (nI sc)) (upd Fi sc (-1)) (upd Ne sc (-1)) (upd Fn sc (-1)) (upd Ac sc 0) pl (sc + 1) (upG G sc (mkN 12 sc 0 0 [] [])) := by
  intro i hi
  by_cases e : i = sc
  · subst e
    refine ⟨by rw [pk_us, upG_s]; rfl, by rw [upG_s]; show i < i + 1; omega, fun _ => pk_us, fun _ => ?_⟩
    rw [upG_s]
    refine ⟨fun z => absurd z (show ¬ 12 ≤ 11 by decide), fun _ _ => ⟨?_, ?_, by show 0 ≤ 32; omega, fun c hc => absurd hc List.not_mem_nil⟩, fun z => absurd z (show ¬ 12 = 8 by decide), fun z => absurd z (show ¬ 12 = 9 by decide)⟩
    · rw [pk_us]
      exact ICH.nil
    · exact pk_us
  · refine (h i (by omega)).cg (pk_un e) (pk_un e) (pk_un e) (pk_un e) (by rw [upG_n e]) (by rw [upG_n e]) (by rw [upG_n e]) (by rw [upG_n e]) (by rw [upG_n e]) (fun c _ _ _ hc => ?_) (fun z => ?_) (by omega) ⟨[], (List.append_nil _).symm⟩
    · rw [pk_un (show c ≠ sc by omega), pk_un (show c ≠ sc by omega), upG_n (show c ≠ sc by omega)]
      exact ⟨rfl, rfl, rfl, rfl⟩
    · rw [upG_n e] at z
      exact ⟨z, pk_un e⟩
/-- a kind for a new slot -/
theorem LCs.set (h : LCs Ki Me Fi Ne Fn Ac pl sc G) {s k sg : Nat} {kl : List Nat} (hs : s < sc) (hG : G s = mkN 12 s 0 0 [] []) : LCs (upd Ki s (nI k)) Me Fi Ne Fn Ac pl sc (upG G s (mkN k s sg 0 [] kl)) := by
  intro i hi
  have hp : ∀ c, n_pa (upG G s (mkN k s sg 0 [] kl) c) = n_pa (G c) ∧ n_fn (upG G s (mkN k s sg 0 [] kl) c) = n_fn (G c) := fun c => by
    by_cases q : c = s
    · rw [q, upG_s, hG]; exact ⟨rfl, rfl⟩
    · rw [upG_n q]; exact ⟨rfl, rfl⟩
  by_cases e : i = s
  · subst e
    have hl := h i hs
    unfold LOC at hl
    rw [hG] at hl
    obtain ⟨a1, a2, a3, a4⟩ := hl
    obtain ⟨b1, b2, b3, b4⟩ := a4 rfl
    obtain ⟨c1, c2, c3, c4⟩ := b2 (show 12 ≠ 8 by decide) (show 12 ≠ 9 by decide)
    refine ⟨by rw [upG_s]; exact a1, by rw [upG_s]; exact hs, fun _ => a3 rfl, fun _ => ?_⟩
    rw [upG_s]
    refine ⟨fun _ => pk_us, fun _ _ => ⟨c1, c2, c3, fun c hc => absurd hc List.not_mem_nil⟩, fun _ => ⟨c2, by show 0 ≤ 64; omega⟩, fun _ => ⟨c2, by show 0 ≤ 32; omega, fun _ => 0, fun z => absurd z (show ¬ 0 < 0 by decide), fun j hj => absurd hj (Nat.not_lt_zero _), fun j hj => absurd hj (by show ¬ j + 1 < 0; omega)⟩⟩
  · exact (h i hi).cg rfl (pk_un e) rfl rfl (by rw [upG_n e]) (by rw [upG_n e]) (by rw [upG_n e]) (by rw [upG_n e]) (by rw [upG_n e]) (fun c _ _ _ _ => ⟨rfl, rfl, (hp c).1, (hp c).2⟩) (fun z => ⟨(hp i).1.symm.trans z, rfl⟩) (Nat.le_refl _) ⟨[], (List.append_nil _).symm⟩
/-- a name told before -/
theorem LCs.mea (h : LCs Ki Me Fi Ne Fn Ac pl sc G) {s d sg : Nat} (hs : s < sc) (hd : d < s) (hG : G s = mkN 12 s 0 0 [] []) : LCs Ki (upd Me s (nI d)) Fi Ne Fn Ac pl sc (upG G s (mkN 12 d sg 0 [] [])) := by
  intro i hi
  have hp : ∀ c, n_pa (upG G s (mkN 12 d sg 0 [] []) c) = n_pa (G c) ∧ n_fn (upG G s (mkN 12 d sg 0 [] []) c) = n_fn (G c) := fun c => by
    by_cases q : c = s
    · rw [q, upG_s, hG]; exact ⟨rfl, rfl⟩
    · rw [upG_n q]; exact ⟨rfl, rfl⟩
  by_cases e : i = s
  · subst e
    have hl := h i hs
    unfold LOC at hl
    rw [hG] at hl
    refine ⟨by rw [upG_s]; exact pk_us, by rw [upG_s]; show d < sc; omega, fun _ => hl.2.2.1 rfl, fun z => ?_⟩
    rw [upG_s] at z
    have z : d = i := z
    omega
  · exact (h i hi).cg (pk_un e) rfl rfl rfl (by rw [upG_n e]) (by rw [upG_n e]) (by rw [upG_n e]) (by rw [upG_n e]) (by rw [upG_n e]) (fun c _ _ _ _ => ⟨rfl, rfl, (hp c).1, (hp c).2⟩) (fun z => ⟨(hp i).1.symm.trans z, rfl⟩) (Nat.le_refl _) ⟨[], (List.append_nil _).symm⟩
/-- the size of a fixed -/
theorem LCs.amt (h : LCs Ki Me Fi Ne Fn Ac pl sc G) {s w sg : Nat} {x : Nod} (hs : s < sc) (hG : G s = x) (h1 : n_kd x = 8) (h2 : n_me x = s) (h3 : n_pa x = 999) (h4 : n_fn x = []) (h64 : w ≤ 64) : LCs Ki Me Fi Ne Fn (upd Ac s (nI w)) pl sc (upG G s (mkN 8 s sg w [] [])) := by
  intro i hi
  have hp : ∀ c, n_pa (upG G s (mkN 8 s sg w [] []) c) = n_pa (G c) ∧ n_fn (upG G s (mkN 8 s sg w [] []) c) = n_fn (G c) := fun c => by
    by_cases q : c = s
    · rw [q, upG_s, hG, h3, h4]; exact ⟨rfl, rfl⟩
    · rw [upG_n q]; exact ⟨rfl, rfl⟩
  by_cases e : i = s
  · subst e
    have hl := h i hs
    unfold LOC at hl
    rw [hG, h1, h2, h3] at hl
    obtain ⟨a1, a2, a3, a4⟩ := hl
    obtain ⟨b1, b2, b3, b4⟩ := a4 rfl
    refine ⟨by rw [upG_s]; exact a1, by rw [upG_s]; exact hs, fun _ => a3 rfl, fun _ => ?_⟩
    rw [upG_s]
    exact ⟨fun _ => b1 (by decide), fun q => absurd rfl q, fun _ => ⟨pk_us, h64⟩, fun q => absurd q (show ¬ 8 = 9 by decide)⟩
  · exact (h i hi).cg rfl rfl rfl (pk_un e) (by rw [upG_n e]) (by rw [upG_n e]) (by rw [upG_n e]) (by rw [upG_n e]) (by rw [upG_n e]) (fun c _ _ _ _ => ⟨rfl, rfl, (hp c).1, (hp c).2⟩) (fun z => ⟨(hp i).1.symm.trans z, rfl⟩) (Nat.le_refl _) ⟨[], (List.append_nil _).symm⟩
/-- a field's name -/
theorem LCs.fld (h : LCs Ki Me Fi Ne Fn Ac pl sc G) {c : Nat} {v : Int32} {w : List Nat} (hc : c < sc) (h9 : n_pa (G c) = 999) (hsc : sc ≤ 128) : LCs Ki Me Fi Ne (upd Fn c v) Ac pl sc (upG G c (fnN (G c) w)) := by
  have e : ∀ {β : Type} (g : Nod → β), g (fnN (G c) w) = g (G c) → ∀ i, g (upG G c (fnN (G c) w) i) = g (G i) := fun g hg i => by
    by_cases q : i = c
    · rw [q, upG_s]; exact hg
    · rw [upG_n q]
  refine fun i hi => (h i hi).cg rfl rfl rfl rfl (e _ rfl i) (e _ rfl i) (e _ rfl i) (e _ rfl i) (e _ rfl i) (fun c' _ hp h1 h2 => ?_) (fun z => ⟨(e n_pa rfl i).symm.trans z, rfl⟩) (Nat.le_refl _) ⟨[], (List.append_nil _).symm⟩
  have hne : c' ≠ c := fun q => by rw [q, h9] at hp; omega
  rw [pk_un hne, upG_n hne]
  exact ⟨rfl, rfl, rfl, rfl⟩
/-- a slot behind the others of its outer one -/
theorem LCs.jon (h : LCs Ki Me Fi Ne Fn Ac pl sc G) {s c : Nat} (hsc : sc ≤ 128) (hs : s < c) (hc : c < sc) (hm : n_me (G s) = s) (h8 : n_kd (G s) ≠ 8) (h9 : n_kd (G s) ≠ 9) (hp : n_pa (G c) = 999) (hlt : ∀ x, x ∈ n_ch (G s) → x < c) (hl : (n_ch (G s)).length < 32) (hf : n_kd (G s) = 10 → ∃ a, Fn c = nI a ∧ PNL pl a (n_fn (G c))) :
    LCs Ki Me (if (n_ch (G s)).length = 0 then upd Fi s (nI c) else Fi) (if (n_ch (G s)).length = 0 then Ne else upd Ne ((n_ch (G s)).getD ((n_ch (G s)).length - 1) 0) (nI c)) Fn (upd Ac s (Ac s + 1)) pl sc (upG (upG G s (chN (G s) c)) c (paN (G c) s)) := by
  obtain ⟨s1, s2, s3, s4⟩ := h s (by omega)
  obtain ⟨t1, t2, t3, t4⟩ := s4 hm
  obtain ⟨u1, u2, u3, u4⟩ := t2 h8 h9
  have e : ∀ {β : Type} (g : Nod → β), (∀ x, g (chN x c) = g x) → (∀ x, g (paN x s) = g x) → ∀ i, g (upG (upG G s (chN (G s) c)) c (paN (G c) s) i) = g (G i) := fun g h1 h2 i => by
    by_cases q : i = c
    · rw [q, upG_s]; exact h2 _
    · rw [upG_n q]
      by_cases q2 : i = s
      · rw [q2, upG_s]; exact h1 _
      · rw [upG_n q2]
  have epa : ∀ i, i ≠ c → n_pa (upG (upG G s (chN (G s) c)) c (paN (G c) s) i) = n_pa (G i) := fun i q => by
    rw [upG_n q]
    by_cases q2 : i = s
    · rw [q2, upG_s]; rfl
    · rw [upG_n q2]
  have epc : n_pa (upG (upG G s (chN (G s) c)) c (paN (G c) s) c) = s := by rw [upG_s]; rfl
  have ech : ∀ i, i ≠ s → n_ch (upG (upG G s (chN (G s) c)) c (paN (G c) s) i) = n_ch (G i) := fun i q => by
    by_cases q2 : i = c
    · rw [q2, upG_s]; rfl
    · rw [upG_n q2, upG_n q]
  have ecs : n_ch (upG (upG G s (chN (G s) c)) c (paN (G c) s) s) = n_ch (G s) ++ [c] := by rw [upG_n (by omega), upG_s]; rfl
  have hne : ∀ j, ¬ ((n_ch (G s)).length ≠ 0 ∧ j = (n_ch (G s)).getD ((n_ch (G s)).length - 1) 0) → (if (n_ch (G s)).length = 0 then Ne else upd Ne ((n_ch (G s)).getD ((n_ch (G s)).length - 1) 0) (nI c)) j = Ne j := fun j hj => by
    by_cases q : (n_ch (G s)).length = 0
    · rw [if_pos q]
    · rw [if_neg q]
      exact pk_un (fun z => hj ⟨q, z⟩)
  have hlast : (n_ch (G s)).length ≠ 0 → (n_ch (G s)).getD ((n_ch (G s)).length - 1) 0 ∈ n_ch (G s) := fun q => ch_mem (by omega)
  intro i hi
  by_cases ei : i = s
  · subst ei
    refine ⟨by rw [e n_me (fun _ => rfl) (fun _ => rfl)]; exact s1, by rw [e n_me (fun _ => rfl) (fun _ => rfl)]; exact s2, fun z => ?_, fun _ => ?_⟩
    · rw [epa i (by omega)] at z
      rw [hne i (fun q => by
        have := (u4 _ (hlast q.1)).1
        omega)]
      exact s3 z
    · rw [e n_kd (fun _ => rfl) (fun _ => rfl), e n_wd (fun _ => rfl) (fun _ => rfl), e n_sy (fun _ => rfl) (fun _ => rfl), ecs]
      refine ⟨t1, fun _ _ => ⟨?_, ?_, by rw [List.length_append, List.length_singleton]; omega, fun c' hc' => ?_⟩, fun q => absurd q h8, fun q => absurd q h9⟩
      · rw [List.length_append, List.length_singleton, ← snc_app]
        refine ICH.push (X := Ne) (h := Fi i) (hi := c) (n := c) (u1.keep2 (fun j hj => hlt _ (ch_mem hj)) (fun _ _ => rfl)) (Nat.le_refl _) hc (fun j _ => rfl) ?_ ?_
        · rw [hne c (fun q => by
            have := hlt _ (hlast q.1)
            omega)]
          exact (h c hc).2.2.1 hp
        · by_cases q : (n_ch (G i)).length = 0
          · rw [if_pos q, if_pos q, pk_us]
          · rw [if_neg q, if_neg q]
      · rw [pk_us, u2, nI_1, List.length_append, List.length_singleton]
      · rcases List.mem_append.mp hc' with q | q
        · obtain ⟨v1, v2, v3⟩ := u4 c' q
          have := hlt c' q
          rw [epa c' (by omega), e n_fn (fun _ => rfl) (fun _ => rfl)]
          exact ⟨v1, v2, v3⟩
        · have q := List.mem_singleton.mp q
          subst q
          rw [epc, e n_fn (fun _ => rfl) (fun _ => rfl)]
          exact ⟨hs, rfl, hf⟩
  · refine (h i hi).cg rfl rfl ?_ (pk_un ei) (e _ (fun _ => rfl) (fun _ => rfl) i) (e _ (fun _ => rfl) (fun _ => rfl) i) (ech i ei) (e _ (fun _ => rfl) (fun _ => rfl) i) (e _ (fun _ => rfl) (fun _ => rfl) i) (fun c' hc' hp' h1 h2 => ?_) (fun z => ?_) (Nat.le_refl _) ⟨[], (List.append_nil _).symm⟩
    · by_cases q : (n_ch (G s)).length = 0
      · rw [if_pos q]; exact pk_un ei
      · rw [if_neg q]
    · have hcc : c' ≠ c := fun q => by rw [q, hp] at hp'; omega
      refine ⟨hne c' (fun q => ?_), rfl, epa c' hcc, e _ (fun _ => rfl) (fun _ => rfl) c'⟩
      have := (u4 _ (hlast q.1)).2.1
      rw [← q.2] at this
      omega
    · by_cases q : i = c
      · rw [q, epc] at z
        omega
      · rw [epa i q] at z
        refine ⟨z, hne i (fun w => ?_)⟩
        have := (u4 _ (hlast w.1)).2.1
        rw [← w.2, z] at this
        omega
/-- a symbol behind the others -/
theorem LCs.sym (h : LCs Ki Me Fi Ne Fn Ac pl sc G) {s k0 : Nat} {w t : List Nat} (hs : s < sc) (hm : n_me (G s) = s) (h9 : n_kd (G s) = 9) (hw : isNm w) (hl : (n_sy (G s)).length < 32) (hp : SE Fi pl s (n_sy (G s))) (ht : t = (if n_sy (G s) = [] then [] else [44]) ++ qt w) :
    LCs Ki Me (if (n_sy (G s)).length = 0 then upd Fi s (nI (pl.length + 1)) else Fi) Ne Fn (upd Ac s (Ac s + 1)) (pl ++ t) sc (upG G s (syN (G s) w k0)) := by
  have e : ∀ {β : Type} (g : Nod → β), (∀ x, g (syN x w k0) = g x) → ∀ i, g (upG G s (syN (G s) w k0) i) = g (G i) := fun g hg i => by
    by_cases q : i = s
    · rw [q, upG_s]; exact hg _
    · rw [upG_n q]
  intro i hi
  by_cases ei : i = s
  · subst ei
    obtain ⟨s1, s2, s3, s4⟩ := h i hi
    obtain ⟨t1, t2, t3, t4⟩ := s4 hm
    obtain ⟨u1, u2, x, u3, u4⟩ := t4 h9
    refine ⟨by rw [upG_s]; exact s1, by rw [upG_s]; exact s2, fun z => s3 (by rw [upG_s] at z; exact z), fun _ => ?_⟩
    rw [upG_s]
    refine ⟨fun q => t1 q, fun _ q => absurd h9 q, fun q => absurd (h9.symm.trans q) (by decide), fun _ => ?_⟩
    show upd Ac i (Ac i + 1) i = nI (n_sy (G i) ++ [w]).length ∧ (n_sy (G i) ++ [w]).length ≤ 32 ∧ ∃ x, (0 < (n_sy (G i) ++ [w]).length → (if (n_sy (G i)).length = 0 then upd Fi i (nI (pl.length + 1)) else Fi) i = nI (x 0)) ∧ SYML (pl ++ t) (n_sy (G i) ++ [w]).length x (fun j => (n_sy (G i) ++ [w]).getD j [])
    have hgl : ∀ j, j < (n_sy (G i)).length → (n_sy (G i) ++ [w]).getD j [] = (n_sy (G i)).getD j [] := fun j hj => by
      simp [List.getD, List.getElem?_append_left hj]
    have hgr : (n_sy (G i) ++ [w]).getD (n_sy (G i)).length [] = w := by
      simp [List.getD]
    rw [List.length_append, List.length_singleton]
    refine ⟨by rw [pk_us, u1, nI_1], by omega, ?_⟩
    by_cases c0 : (n_sy (G i)).length = 0
    · have e0 : n_sy (G i) = [] := List.eq_nil_of_length_eq_zero c0
      refine ⟨fun _ => pl.length + 1, fun _ => ?_, fun j hj => ?_, fun j hj => by omega⟩
      · rw [if_pos c0, pk_us]
      · have ej : j = (n_sy (G i)).length := by omega
        show PNL (pl ++ t) (pl.length + 1) ((n_sy (G i) ++ [w]).getD j [])
        rw [ej, hgr, ht, if_pos e0]
        have := PNL.new (pl := pl) (a := []) (b := []) hw
        rw [List.append_nil] at this
        exact this
    · have e0 : n_sy (G i) ≠ [] := fun q => c0 (by rw [q]; rfl)
      have hpp := hp x c0 u4 u3
      refine ⟨fun j => if j = (n_sy (G i)).length then pl.length + 2 else x j, fun _ => ?_, fun j hj => ?_, fun j hj => ?_⟩
      · show (if (n_sy (G i)).length = 0 then upd Fi i (nI (pl.length + 1)) else Fi) i = nI (if 0 = (n_sy (G i)).length then pl.length + 2 else x 0)
        rw [if_neg c0, if_neg (show ¬ 0 = (n_sy (G i)).length by omega)]
        exact u3 (by omega)
      · show PNL (pl ++ t) (if j = (n_sy (G i)).length then pl.length + 2 else x j) ((n_sy (G i) ++ [w]).getD j [])
        by_cases ej : j = (n_sy (G i)).length
        · rw [if_pos ej, ej, hgr, ht, if_neg e0]
          have := PNL.new (pl := pl) (a := [44]) (b := []) hw
          rw [List.append_nil] at this
          exact this
        · rw [if_neg ej, hgl j (by omega)]
          exact (u4.1 j (by omega)).app
      · show (if j + 1 = (n_sy (G i)).length then pl.length + 2 else x (j + 1)) = (if j = (n_sy (G i)).length then pl.length + 2 else x j) + ((n_sy (G i) ++ [w]).getD j []).length + 3
        rw [if_neg (show ¬ j = (n_sy (G i)).length by omega), hgl j (by omega)]
        by_cases ej : j + 1 = (n_sy (G i)).length
        · rw [if_pos ej]
          rw [show (n_sy (G i)).length - 1 = j by omega] at hpp
          omega
        · rw [if_neg ej]
          exact u4.2 j (by omega)
  · refine (h i hi).cg rfl rfl ?_ (pk_un ei) (e _ (fun _ => rfl) i) (e _ (fun _ => rfl) i) (e _ (fun _ => rfl) i) (e _ (fun _ => rfl) i) (by rw [upG_n ei]) (fun c' hc' hp' h1 h2 => ⟨rfl, rfl, e _ (fun _ => rfl) c', e _ (fun _ => rfl) c'⟩) (fun z => ⟨(e n_pa (fun _ => rfl) i).symm.trans z, rfl⟩) (Nat.le_refl _) ⟨t, rfl⟩
    by_cases q : (n_sy (G s)).length = 0
    · rw [if_pos q]; exact pk_un ei
    · rw [if_neg q]
end LOCS
end
section
-- the class's single steps on its rows
theorem byt_m1 {T : Nat → Int32} {L : Nat} : m_X7_byteAt T (nI L) (-1) = some (-1) := by
  unfold m_X7_byteAt
  rw [if_pos (show (-1 : Int32) < 0 by decide)]
section ISX
variable {T : Nat → Int32} {L : Nat}
theorem iss_eq (hL : L ≤ 4096) {p : Nat} (hp : p < 4096) : m_X7_isString T (nI L) (nI p) = some (if cb T L p = 34 then 1 else 0) := by
  unfold m_X7_isString
  rw [byt_eq hL (by omega)]
  simp only [Option.bind_some, ub34]
  split <;> rfl
theorem isl_eq (hL : L ≤ 4096) {p : Nat} (hp : p < 4096) : m_X7_isList T (nI L) (nI p) = some (if cb T L p = 91 then 1 else 0) := by
  unfold m_X7_isList
  rw [byt_eq hL (by omega)]
  simp only [Option.bind_some, ub91]
  split <;> rfl
theorem iso_eq (hL : L ≤ 4096) {p : Nat} (hp : p < 4096) : m_X7_isObject T (nI L) (nI p) = some (if cb T L p = 123 then 1 else 0) := by
  unfold m_X7_isObject
  rw [byt_eq hL (by omega)]
  simp only [Option.bind_some, show (ubI (cb T L p) = 123) = (cb T L p = 123) from propext (ub_e (cb_le T L p) (c := 123) (by decide))]
  split <;> rfl
theorem isnb_eq (hL : L ≤ 4096) {p : Nat} (hp : p < 4096) : m_X7_isNumber T (nI L) (nI p) = some (if cb T L p = 45 ∨ (48 ≤ cb T L p ∧ cb T L p ≤ 57) then 1 else 0) := by
  unfold m_X7_isNumber
  rw [byt_eq hL (by omega)]
  simp only [Option.bind_some, ub45, dig_eq]
  by_cases c : cb T L p = 45
  · rw [if_pos c, if_pos (Or.inl c)]
  · rw [if_neg c]
    by_cases c2 : 48 ≤ cb T L p ∧ cb T L p ≤ 57
    · simp only [if_pos c2, if_neg (show ¬ (1 : Int32) = 0 by decide)]
      rw [if_pos (Or.inr c2)]
    · simp only [if_neg c2, if_true]
      rw [if_neg (fun z => z.elim c c2)]
theorem iss_m1 : m_X7_isString T (nI L) (-1) = some 0 := by
  unfold m_X7_isString
  rw [byt_m1]
  rfl
theorem isl_m1 : m_X7_isList T (nI L) (-1) = some 0 := by
  unfold m_X7_isList
  rw [byt_m1]
  rfl
theorem snm_no {Sd Am : Nat → Int32} (hL : L ≤ 4096) {p : Nat} (hp : p < 4096) (hc : ¬ cb T L p = 34) : m_X7_saysName T Sd Am (nI L) (nI p) = some 0 := by
  unfold m_X7_saysName
  simp only [m_X7_amount, ent_eq (n := 4096) (by decide) hp, Option.bind_some, iss_eq hL hp, if_neg hc, if_true]
end ISX
theorem sto_eq {α : Type} {s : Nat} {a b : Option α} (hs : s < 128) : ((m_X6_isSlot (nI s)).bind fun r1 => (if r1 = 0 then a else (if nI s < (0 : Int32) ∨ 128 ≤ (nI s).toNatClampNeg then none else b))) = b := by
  rw [slt_1 hs]
  simp only [Option.bind_some, if_neg (show ¬ (1 : Int32) = 0 by decide)]
  exact bd_go hs (by decide)
section ROWS
variable {Ki Me Na Ac Fn Fd Ed Fi Ne : Nat → Int32}
theorem stk_eq {s : Nat} {v : Int32} (hs : s < 128) : m_X6_setKind Ki (nI s) v = some (upd Ki s v) := by
  unfold m_X6_setKind
  rw [sto_eq hs, nI_clamp (by omega)]
theorem stm_eq {s : Nat} {v : Int32} (hs : s < 128) : m_X6_setMeant Me (nI s) v = some (upd Me s v) := by
  unfold m_X6_setMeant
  rw [sto_eq hs, nI_clamp (by omega)]
theorem stn_eq {s : Nat} {v : Int32} (hs : s < 128) : m_X6_setName Na (nI s) v = some (upd Na s v) := by
  unfold m_X6_setName
  rw [sto_eq hs, nI_clamp (by omega)]
theorem sta_eq {s : Nat} {v : Int32} (hs : s < 128) : m_X6_setAmount Ac (nI s) v = some (upd Ac s v) := by
  unfold m_X6_setAmount
  rw [sto_eq hs, nI_clamp (by omega)]
theorem ste_eq {s : Nat} (hs : s < 128) : ∃ Ed', m_X6_setEnumDefault Ed (nI s) = some Ed' := by
  unfold m_X6_setEnumDefault
  rw [sto_eq hs]
  exact ⟨_, rfl⟩
theorem stf_eq {s : Nat} {v w : Int32} (hs : s < 128) : ∃ Fd', m_X6_setField Fn Fd (nI s) v w = some (upd Fn s v, Fd') := by
  unfold m_X6_setField
  rw [sto_eq hs, bd_go hs (by decide), nI_clamp (by omega)]
  exact ⟨_, rfl⟩
theorem slt_m1 : m_X6_isSlot (-1) = some 0 := by decide
theorem joi_eq {s c : Nat} {ch : List Nat} (hs : s < 128) (hl : ∀ x, x ∈ ch → x < 128) : m_X6_join Fi Ne Ac (nI s) (if ch.length = 0 then -1 else nI (ch.getD (ch.length - 1) 0)) (nI c) = some ((if ch.length = 0 then upd Fi s (nI c) else Fi), (if ch.length = 0 then Ne else upd Ne (ch.getD (ch.length - 1) 0) (nI c)), upd Ac s (Ac s + 1)) := by
  unfold m_X6_join
  rw [slt_1 hs]
  simp only [Option.bind_some, if_neg (show ¬ (1 : Int32) = 0 by decide)]
  by_cases c0 : ch.length = 0
  · simp only [if_pos c0, slt_m1, Option.bind_some, if_true, bd_go hs (by decide), bd_gc hs (by decide), nI_clamp (show s < 2 ^ 31 by omega)]
  · have hlt := hl _ (ch_mem (l := ch) (j := ch.length - 1) (by omega))
    simp only [if_neg c0, slt_1 hlt, Option.bind_some, if_neg (show ¬ (1 : Int32) = 0 by decide), bd_go hlt (by decide), bd_gc hlt (by decide), bd_go hs (by decide), bd_gc hs (by decide), nI_clamp (show s < 2 ^ 31 by omega), nI_clamp (show ch.getD (ch.length - 1) 0 < 2 ^ 31 by omega)]
theorem knd_eq {i m : Nat} (hi : i < 128) (hm : m < 128) (h : Me i = nI m) : m_X6_kind Ki Me (nI i) = some (Ki m) := by
  unfold m_X6_kind
  simp only [ent_eq (n := 128) (by decide) hi, h, ent_eq (n := 128) (by decide) hm, Option.bind_some]
theorem nam_k {k : Nat} (hk : k < 2 ^ 31) : m_X3_isNamed (nI k) = some (if 8 ≤ k ∧ k ≤ 10 then 1 else 0) := by
  unfold m_X3_isNamed
  by_cases c8 : k = 8
  · subst c8; rfl
  by_cases c9 : k = 9
  · subst c9; rfl
  by_cases c10 : k = 10
  · subst c10; rfl
  rw [if_neg (show ¬ nI k = 8 from fun z => c8 ((nI_eq (b := 8) hk (by decide)).mp z)), if_neg (show ¬ nI k = 9 from fun z => c9 ((nI_eq (b := 9) hk (by decide)).mp z)), if_neg (show ¬ nI k = 10 from fun z => c10 ((nI_eq (b := 10) hk (by decide)).mp z)), if_neg (by omega)]
end ROWS
section WRL
variable {Sd Am : Nat → Int32}
theorem lit_255 {w : Nat} (hw : w < 75) : ∀ v, v ∈ litN w → v ≤ 255 := fun v hv => by
  have := lit_b w hw v hv
  omega
theorem wrL {Pl : Nat → Int32} {pl : List Nat} {w : Nat} (hw : w < 75) (h : PLI Pl pl) (hl : pl.length + (litN w).length ≤ 4096) : ∃ Pl', m_X6_write Pl (nI pl.length) w = some (Pl', nI (pl ++ litN w).length) ∧ PLI Pl' (pl ++ litN w) := by
  rw [wr_eq hw hl, List.length_append]
  exact ⟨_, rfl, h.wr (lit_255 hw)⟩
theorem wbL {Pl : Nat → Int32} {pl : List Nat} {v : Nat} (hv : v ≤ 255) (h : PLI Pl pl) (hl : pl.length + 1 ≤ 4096) : ∃ Pl', m_X6_writeByte Pl (nI pl.length) (nI v) = some (Pl', nI (pl ++ [v]).length) ∧ PLI Pl' (pl ++ [v]) := by
  rw [wb_eq (by omega), List.length_append]
  exact ⟨_, rfl, h.wr (fun x hx => by rw [List.mem_singleton.mp hx]; exact hv)⟩
theorem qt_255 {s : List Nat} (hb : ∀ v, v ∈ s → v ≤ 255) : ∀ v, v ∈ qt s → v ≤ 255 := by
  intro v hv
  rcases List.mem_cons.mp hv with e | e
  · omega
  · rcases List.mem_append.mp e with e | e
    · exact hb v e
    · rw [List.mem_singleton.mp e]; decide
theorem qt_len {s : List Nat} : (qt s).length = s.length + 2 := by simp [qt]
theorem wsL {Pl : Nat → Int32} {pl s : List Nat} {p : Nat} (hs : SAID Sd Am p s) (hb : ∀ v, v ∈ s → v ≤ 255) (h : PLI Pl pl) (hl : pl.length + s.length + 2 ≤ 4096) : ∃ Pl', m_X6_writeSaid Pl (nI pl.length) Sd Am (nI p) = some (nI (pl.length + 1), Pl', nI (pl ++ qt s).length) ∧ PLI Pl' (pl ++ qt s) := by
  rw [ws_eq hs hl, List.length_append, qt_len]
  exact ⟨_, rfl, h.wr (qt_255 hb)⟩
end WRL
def NM1 (Na : Nat → Int32) (pl : List Nat) (k : Nat) (D : List Nat → Option Nat) : Prop := (∀ i, i < k → Na i = -1 ∨ ∃ w a, D w = some i ∧ Na i = nI a ∧ PNL pl a w) ∧ (∀ w i, D w = some i → i < k ∧ ∃ a, Na i = nI a ∧ PNL pl a w)
theorem NM1.wr {Na : Nat → Int32} {pl : List Nat} {k : Nat} {D : List Nat → Option Nat} (h : NM1 Na pl k D) (t : List Nat) : NM1 Na (pl ++ t) k D := by
  refine ⟨fun i hi => (h.1 i hi).imp id ?_, fun w i q => ?_⟩
  · rintro ⟨w, a, x1, x2, x3⟩
    exact ⟨w, a, x1, x2, x3.app⟩
  · obtain ⟨y, a, x1, x2⟩ := h.2 w i q
    exact ⟨y, a, x1, x2.app⟩
theorem NM1.opn {Na : Nat → Int32} {pl : List Nat} {k : Nat} {D : List Nat → Option Nat} (h : NM1 Na pl k D) : NM1 (upd Na k (-1)) pl (k + 1) D := by
  refine ⟨fun i hi => ?_, fun w i q => ?_⟩
  · by_cases e : i = k
    · exact Or.inl (by rw [e, pk_us])
    · rw [pk_un e]
      exact h.1 i (by omega)
  · obtain ⟨y, a, x1, x2⟩ := h.2 w i q
    exact ⟨by omega, a, by rw [pk_un (by omega)]; exact x1, x2⟩
def DUI (Cf Cs : Nat → Int32) (fi : List (Nat × Nat × Option Nat)) : Prop := ∀ j, j < (dul fi).length → Cf j = nI ((dul fi).getD j (0, 0)).1 ∧ Cs j = nI ((dul fi).getD j (0, 0)).2
def CI (Pl Ki Me Fi Ne Na Fn Ac : Nat → Int32) (lc sc : Int32) (Cf Cs : Nat → Int32) (cc : Int32) : LSt → Prop
  | (k, _, _, pl, D, fi, G) => sc = nI k ∧ k ≤ 128 ∧ lc = nI pl.length ∧ pl.length ≤ 4096 ∧ PLI Pl pl ∧ NM1 Na pl k D ∧ LCs Ki Me Fi Ne Fn Ac pl k G ∧ cc = nI (dul fi).length ∧ DUI Cf Cs fi
section DFN
variable {Sd Am Pl Na : Nat → Int32}
theorem pnl_one {pl : List Nat} {Pl Sd Am : Nat → Int32} {a p : Nat} {s t : List Nat} (h : PLI Pl pl) (hl : pl.length ≤ 4096) (h1 : PNL pl a s) (h2 : PN Pl pl.length a t) (ht : SAID Sd Am p t) : s = t := by
  have x := isd_eq (h1.pn h hl) ht
  have y := isd_eq h2 ht
  rw [if_pos rfl] at y
  rw [y] at x
  by_cases e : s = t
  · exact e
  · rw [if_neg e] at x
    exact absurd (Option.some.inj x) (by decide)
theorem dfn_c {pl : List Nat} {k p : Nat} {D : List Nat → Option Nat} {t : List Nat} (hk : k ≤ 128) (h : PLI Pl pl) (hl : pl.length ≤ 4096) (hn : NM1 Na pl k D) (ht : SAID Sd Am p t) : m_X6_definition Pl Na (nI pl.length) (nI k) Sd Am (nI p) = some (match D t with | none => -1 | some d => nI d) := by
  have hN : NMS Pl Na pl.length k := fun i hi => (hn.1 i hi).imp id (fun ⟨w, a, x1, x2, x3⟩ => ⟨a, w, x2, x3.pn h hl⟩)
  rcases def_eq hk hN ht with ⟨i, x, i1, i2, i3, i4⟩ | ⟨i1, i2⟩
  · rw [i4]
    rcases hn.1 i i1 with e | ⟨w, a, w1, w2, w3⟩
    · rw [e] at i2
      have := i3.1
      exact absurd i2.symm (nI_m1 (by have := i3.2.1; omega))
    · have ea : a = x := by
        have := i3.1
        have := i3.2.1
        have := w3.1
        exact (nI_eq (by omega) (by omega)).mp (w2.symm.trans i2)
      subst ea
      have := pnl_one h hl w3 i3 ht
      subst this
      rw [w1]
  · rw [i2]
    cases hD : D t with
    | none => rfl
    | some d =>
      obtain ⟨y, a, x1, x2⟩ := hn.2 t d hD
      exact absurd (x2.pn h hl) (i1 d a y x1)
end DFN
end
section
-- the class's look at words, unions, items
/-- a result of the class's against the telling's -/
def CX (lf lp : Int32) (x : Option (Int32 × TL)) (good bad : Int32) : LRs → Prop
  | .inl e => ∃ u, x = some (bad, (nI e.1, (nI e.2, u)))
  | .inr st => ∃ Pl Ki Me Fi Ne Na Fn Ac Fd Ed lc sc Cf Cs cc, x = some (good, (lf, lp, Pl, Ki, Me, Fi, Ne, Na, Fn, Ac, Fd, Ed, lc, sc, Cf, Cs, cc)) ∧ CI Pl Ki Me Fi Ne Na Fn Ac lc sc Cf Cs cc st
def okCl (T : Nat → Int32) (L : Nat) (Sd In Nx Am K F : Nat → Int32) (N : Nat → Int64) (S I X Lt : Nat → Int32) (l : Nat) (f : FL) (d : Nat) (g : Nat → Bool → LSt → LRs) : Prop := ∀ (lf lp : Int32) (Pl Ki Me Fi Ne Na Fn Ac Fd Ed : Nat → Int32) (lc sc : Int32) (Cf Cs : Nat → Int32) (cc : Int32) (p : Nat) (br : Bool) (st : LSt) (n q : Nat), CI Pl Ki Me Fi Ne Na Fn Ac lc sc Cf Cs cc st → WFs st → VV T L Sd In Nx Am K F N S I X Lt l n p q → st.2.2.2.1.length + (q - p) ≤ 4096 → CX lf lp (f lf lp T Sd In Nx Am (nI L) Pl Ki Me Fi Ne Na Fn Ac Fd Ed lc sc Cf Cs cc (nI p) (nI d) (if br = true then 1 else 0)) (nI st.1) (-1) (g p br st)
theorem alk_i {G : Nat → Nod} {b c : Nat} : alk G b c = true ↔ (n_kd (G (n_me (G b))) = n_kd (G (n_me (G c))) ∧ (¬ (8 ≤ n_kd (G (n_me (G b))) ∧ n_kd (G (n_me (G b))) ≤ 10) ∨ n_me (G b) = n_me (G c))) := decide_eq_true_iff
section CWORD
variable {T : Nat → Int32} {L : Nat} {Sd In Nx Am K F S I X Lt : Nat → Int32} {N : Nat → Int64} {l : Nat}
theorem law_c (hL : L ≤ 4096) (lf lp : Int32) {Pl Ki Me Fi Ne Na Fn Ac : Nat → Int32} {lc sc : Int32} {Cf Cs : Nat → Int32} {cc : Int32} {k sh kc : Nat} {pl : List Nat} {D : List Nat → Option Nat} {fi : List (Nat × Nat × Option Nat)} {G : Nat → Nod} {s n p q : Nat} (hI : CI Pl Ki Me Fi Ne Na Fn Ac lc sc Cf Cs cc (k, sh, kc, pl, D, fi, G)) (hs : s + 1 = k) (hG : G s = mkN 12 s 0 0 [] []) (hD : ∀ w d, D w = some d → d < s) (hv : VV T L Sd In Nx Am K F N S I X Lt l n p q) (hc : cb T L p = 34) (hb : pl.length + (q - p) ≤ 4096) :
    (∃ e, lwd T L s p (k, sh, kc, pl, D, fi, G) = .inl e ∧ ∃ u, m_X4_lookAtWord lf lp T Sd Am (nI L) Pl Ki Me Na lc sc (nI s) (nI p) = some (0, (nI e.1, nI e.2, u))) ∨ (∃ st' Pl' Ki' Me' lc', lwd T L s p (k, sh, kc, pl, D, fi, G) = .inr st' ∧ m_X4_lookAtWord lf lp T Sd Am (nI L) Pl Ki Me Na lc sc (nI s) (nI p) = some (1, (lf, lp, Pl', Ki', Me', lc')) ∧ CI Pl' Ki' Me' Fi Ne Na Fn Ac lc' sc Cf Cs cc st') := by
  obtain ⟨i1, i2, i3, i4, i5, i6, i7, i8, i9⟩ := hI
  subst i1
  subst i3
  obtain ⟨s0, y1, y2, y3, y4, y5, y6⟩ := hv.str hc
  have hp := hv.base
  have hdf := dfn_c (Sd := Sd) (Am := Am) i2 i5 i4 i6 y3
  obtain ⟨Pl', w1, w2⟩ := wsL y3 y6 i5 (by omega)
  have hln : (pl ++ qt s0).length ≤ 4096 := by rw [List.length_append, qt_len]; omega
  simp only [lwd, y2, m_X4_lookAtWord, ksaid_eq hL hc y3, Option.bind_some]
  have h31 : kw6 s0 = -1 → (∃ e, (match D s0 with | none => Sum.inl (3, p) | some d => Sum.inr (k, sh, kc, pl ++ qt s0, D, fi, upG G s (mkN 12 d (n_sg (G d)) 0 [] []))) = (Sum.inl e : LRs) ∧ ∃ u, m_X4_lookAtWord_31 T Sd Am (nI L) Na (nI k) lf lp Pl Ki Me (nI pl.length) (nI s) (nI p) = some (0, (nI e.1, nI e.2, u))) ∨ (∃ st' Pl' Ki' Me' lc', (match D s0 with | none => Sum.inl (3, p) | some d => Sum.inr (k, sh, kc, pl ++ qt s0, D, fi, upG G s (mkN 12 d (n_sg (G d)) 0 [] []))) = (Sum.inr st' : LRs) ∧ m_X4_lookAtWord_31 T Sd Am (nI L) Na (nI k) lf lp Pl Ki Me (nI pl.length) (nI s) (nI p) = some (1, (lf, lp, Pl', Ki', Me', lc')) ∧ CI Pl' Ki' Me' Fi Ne Na Fn Ac lc' (nI k) Cf Cs cc st') := by
    intro _
    unfold m_X4_lookAtWord_31
    rw [hdf]
    cases hd : D s0 with
    | none =>
      simp only [Option.bind_some, if_true, m_X4_refuse, true_or]
      exact Or.inl ⟨(3, p), rfl, _, rfl⟩
    | some d =>
      have hds := hD s0 d hd
      simp only [Option.bind_some, if_neg (nI_m1 (show d < 2 ^ 31 by omega)), stm_eq (show s < 128 by omega), m_X4_lookAtWord_68, w1]
      exact Or.inr ⟨_, _, _, _, _, rfl, rfl, rfl, i2, rfl, hln, w2, i6.wr _, (i7.mea (by omega) hds hG).wr _, i8, i9⟩
  rcases kw6_of s0 with ⟨k6, k1, k2, k3⟩ | ⟨k1, k2⟩
  · rw [if_neg (show ¬ kw6 s0 = -1 by rw [k3]; exact nI_m1 (by omega)), k2, if_neg (nI_m1 (show k6 < 2 ^ 31 by omega)), if_neg (show ¬ (5 : Int32) < nI k6 from Int32.not_lt.mpr (nI_le (a := k6) (b := 5) (by omega) (by decide))), stk_eq (show s < 128 by omega)]
    simp only [Option.bind_some, m_X4_lookAtWord_68, w1]
    rw [k3, nI_clamp (by omega)]
    exact Or.inr ⟨_, _, _, _, _, rfl, rfl, rfl, i2, rfl, hln, w2, i6.wr _, (i7.set (by omega) hG).wr _, i8, i9⟩
  · rw [if_pos k1]
    rcases k2 with e | ⟨k6, a1, a2, a3, a4⟩
    · rw [e, if_pos rfl]
      exact h31 k1
    · rw [a3, if_neg (nI_m1 (show k6 < 2 ^ 31 by omega)), if_pos (show (5 : Int32) < nI k6 from nI_lt (a := 5) (by omega) (by omega))]
      exact h31 k1
theorem hal_eq {Ki Me Fi Ne Fn Ac : Nat → Int32} {pl : List Nat} {k : Nat} {G : Nat → Nod} (hk : k ≤ 128) (h : LCs Ki Me Fi Ne Fn Ac pl k G) {s c : Nat} (hs : s < k) (hc : c < k) (hm : n_me (G s) = s) (h8 : n_kd (G s) = 11) (hkd : ∀ x, x ∈ n_ch (G s) → n_kd (G (n_me (G x))) ≤ 11 ∧ n_me (G (n_me (G x))) = n_me (G x)) (hkc : n_kd (G (n_me (G c))) ≤ 11 ∧ n_me (G (n_me (G c))) = n_me (G c)) : m_X4_hasAlike Ki Me Fi Ne Ac (nI s) (nI c) = some (if (n_ch (G s)).any (fun b => alk G b c) = true then 1 else 0) := by
  obtain ⟨s1, s2, s3, s4⟩ := h s hs
  obtain ⟨t1, t2, t3, t4⟩ := s4 hm
  obtain ⟨u1, u2, u3, u4⟩ := t2 (by omega) (by omega)
  rw [hm] at s1
  have kof : ∀ x, x < k → (n_kd (G (n_me (G x))) ≤ 11 ∧ n_me (G (n_me (G x))) = n_me (G x)) → m_X6_kind Ki Me (nI x) = some (nI (n_kd (G (n_me (G x))))) ∧ m_X6_meant Me (nI x) = some (nI (n_me (G x))) ∧ n_me (G x) < k := by
    intro x hx hq
    obtain ⟨x1, x2, x3, x4⟩ := h x hx
    obtain ⟨z1, z2, z3, z4⟩ := h _ x2
    refine ⟨?_, ?_, x2⟩
    · rw [knd_eq (by omega) (by omega) x1, (z4 hq.2).1 hq.1]
    · unfold m_X6_meant
      rw [ent_eq (n := 128) (by decide) (by omega), x1]
      rfl
  have alk_eq : ∀ x, x < k → (n_kd (G (n_me (G x))) ≤ 11 ∧ n_me (G (n_me (G x))) = n_me (G x)) → m_X6_isAlike Ki Me (nI x) (nI c) = some (if alk G x c = true then 1 else 0) := by
    intro x hx hq
    obtain ⟨x1, x2, x3⟩ := kof x hx hq
    obtain ⟨c1, c2, c3⟩ := kof c hc hkc
    unfold m_X6_isAlike
    simp only [x1, c1, Option.bind_some, nam_k (show n_kd (G (n_me (G x))) < 2 ^ 31 by omega), x2, c2]
    by_cases e : n_kd (G (n_me (G x))) = n_kd (G (n_me (G c)))
    · rw [if_pos (by rw [e])]
      by_cases nn : 8 ≤ n_kd (G (n_me (G x))) ∧ n_kd (G (n_me (G x))) ≤ 10
      · rw [if_pos nn, if_neg (show ¬ (1 : Int32) = 0 by decide)]
        by_cases mm : n_me (G x) = n_me (G c)
        · rw [if_pos (by rw [mm]), if_pos (alk_i.mpr ⟨e, Or.inr mm⟩)]
        · rw [if_neg (fun z => mm ((nI_eq (by omega) (by omega)).mp z)), if_neg (fun z => (alk_i.mp z).2.elim (fun w => w nn) mm)]
      · rw [if_neg nn, if_pos rfl, if_pos (alk_i.mpr ⟨e, Or.inl nn⟩)]
    · rw [if_neg (fun z => e ((nI_eq (by omega) (by omega)).mp z)), if_neg (fun z => e (alk_i.mp z).1)]
  have go : ∀ (fuel j : Nat), j ≤ (n_ch (G s)).length → (n_ch (G s)).length - j < fuel → ((n_ch (G s)).take j).any (fun b => alk G b c) = false → m_X4_hasAlike_12 Ki Me Fi Ne Ac fuel (nI s) (nI c) (if j = (n_ch (G s)).length then -1 else nI ((n_ch (G s)).getD j 0)) (nI j) = some (if (n_ch (G s)).any (fun b => alk G b c) = true then 1 else 0) := by
    intro fuel
    induction fuel with
    | zero => intro j _ hf; exact absurd hf (Nat.not_lt_zero _)
    | succ fuel ih =>
      intro j hj hf ha
      simp only [m_X4_hasAlike_12, m_X6_amount, ent_eq (n := 128) (by decide) (show s < 128 by omega), s1, u2, Option.bind_some, nI_1]
      by_cases e : j = (n_ch (G s)).length
      · rw [if_pos (nI_le (show (n_ch (G s)).length ≤ j by omega) (by omega))]
        rw [e, List.take_length] at ha
        rw [ha]
        rfl
      · have hjl : j < (n_ch (G s)).length := by omega
        obtain ⟨d1, d2⟩ := u1.1 j hjl
        have d1 : (n_ch (G s)).getD j 0 < k := d1
        have hmem := ch_mem hjl
        rw [if_neg (nI_ge hjl (by omega)), if_neg e, alk_eq _ d1 (hkd _ hmem)]
        simp only [Option.bind_some]
        by_cases q : alk G ((n_ch (G s)).getD j 0) c = true
        · rw [if_pos q, if_neg (show ¬ (1 : Int32) = 0 by decide), if_pos (List.any_eq_true.mpr ⟨_, hmem, q⟩)]
        · rw [if_neg q, if_pos rfl]
          unfold m_X6_next
          rw [ent_eq (n := 128) (by decide) (show (n_ch (G s)).getD j 0 < 128 by omega), d2]
          simp only [Option.bind_some]
          refine ih (j + 1) (by omega) (by omega) ?_
          rw [List.take_succ_eq_append_getElem hjl, List.any_append, ha]
          rw [ls_get hjl] at q
          simp [q]
  unfold m_X4_hasAlike
  simp only [m_X6_first, ent_eq (n := 128) (by decide) (show s < 128 by omega), s1, Option.bind_some]
  have := go sr_fuel 0 (by omega) (by unfold sr_fuel; omega) rfl
  rw [nI_0, ← u1.ptr] at this
  exact this
end CWORD
end
section
-- the class's look at unions and items
section CIOPS
variable {Pl Ki Me Fi Ne Na Fn Ac Cf Cs Pl' : Nat → Int32} {lc sc cc : Int32} {k sh kc : Nat} {pl : List Nat} {D : List Nat → Option Nat} {fi : List (Nat × Nat × Option Nat)} {G : Nat → Nod}
theorem CI.kid {s : Nat} (h : CI Pl Ki Me Fi Ne Na Fn Ac lc sc Cf Cs cc (k, sh, kc, pl, D, fi, G)) : CI Pl Ki Me Fi Ne Na Fn Ac lc sc Cf Cs cc (k, sh, kc + 1, pl, D, fi, upG G s (klN (G s) kc)) := by
  obtain ⟨i1, i2, i3, i4, i5, i6, i7, i8, i9⟩ := h
  exact ⟨i1, i2, i3, i4, i5, i6, i7.kl rfl rfl rfl rfl rfl rfl rfl, i8, i9⟩
theorem CI.wr {t : List Nat} (h : CI Pl Ki Me Fi Ne Na Fn Ac lc sc Cf Cs cc (k, sh, kc, pl, D, fi, G)) (hp : PLI Pl' (pl ++ t)) (hl : (pl ++ t).length ≤ 4096) : CI Pl' Ki Me Fi Ne Na Fn Ac (nI (pl ++ t).length) sc Cf Cs cc (k, sh, kc, pl ++ t, D, fi, G) := by
  obtain ⟨i1, i2, i3, i4, i5, i6, i7, i8, i9⟩ := h
  exact ⟨i1, i2, rfl, hl, hp, i6.wr _, i7.wr _, i8, i9⟩
theorem CI.jon {s c : Nat} (h : CI Pl Ki Me Fi Ne Na Fn Ac lc sc Cf Cs cc (k, sh, kc, pl, D, fi, G)) (hs : s < c) (hc : c < k) (hm : n_me (G s) = s) (h8 : n_kd (G s) ≠ 8) (h9 : n_kd (G s) ≠ 9) (hp : n_pa (G c) = 999) (hlt : ∀ x, x ∈ n_ch (G s) → x < c) (hl : (n_ch (G s)).length < 32) (hf : n_kd (G s) = 10 → ∃ a, Fn c = nI a ∧ PNL pl a (n_fn (G c))) :
    CI Pl Ki Me (if (n_ch (G s)).length = 0 then upd Fi s (nI c) else Fi) (if (n_ch (G s)).length = 0 then Ne else upd Ne ((n_ch (G s)).getD ((n_ch (G s)).length - 1) 0) (nI c)) Na Fn (upd Ac s (Ac s + 1)) lc sc Cf Cs cc (jon s c (k, sh, kc, pl, D, fi, G)) := by
  obtain ⟨i1, i2, i3, i4, i5, i6, i7, i8, i9⟩ := h
  exact ⟨i1, i2, i3, i4, i5, i6, i7.jon i2 hs hc hm h8 h9 hp hlt hl hf, i8, i9⟩
theorem CI.lt {s x : Nat} (h : CI Pl Ki Me Fi Ne Na Fn Ac lc sc Cf Cs cc (k, sh, kc, pl, D, fi, G)) (hs : s < k) (hm : n_me (G s) = s) (h8 : n_kd (G s) ≠ 8) (h9 : n_kd (G s) ≠ 9) (hx : x ∈ n_ch (G s)) : s < x ∧ x < k ∧ n_me (G x) < k := by
  obtain ⟨i1, i2, i3, i4, i5, i6, i7, i8, i9⟩ := h
  obtain ⟨s1, s2, s3, s4⟩ := i7 s hs
  obtain ⟨t1, t2, t3, t4⟩ := s4 hm
  obtain ⟨u1, u2, u3, u4⟩ := t2 h8 h9
  obtain ⟨j, hj, e⟩ := mem_ch hx
  have : (n_ch (G s)).getD j 0 < k := (u1.1 j hj).1
  rw [e] at this
  exact ⟨(u4 x hx).1, this, (i7 x this).2.1⟩
end CIOPS
def KD1 (G : Nat → Nod) (x : Nat) : Prop := n_kd (G (n_me (G x))) ≤ 11 ∧ n_me (G (n_me (G x))) = n_me (G x)
theorem KD1.cg {G G' : Nat → Nod} {x : Nat} (h : KD1 G x) (h1 : ∀ i, n_kd (G' i) = n_kd (G i)) (h2 : ∀ i, n_me (G' i) = n_me (G i)) : KD1 G' x := by
  unfold KD1
  rw [h2 x, h1, h2]
  exact h
theorem KD1.low {G G' : Nat → Nod} {x k : Nat} (h : KD1 G x) (h1 : ∀ i, i < k → G' i = G i) (hx : x < k) (hm : n_me (G x) < k) : KD1 G' x := by
  unfold KD1
  rw [h1 x hx, h1 _ hm]
  exact h
theorem jon_kd {s c : Nat} {G : Nat → Nod} : (∀ i, n_kd (upG (upG G s (chN (G s) c)) c (paN (G c) s) i) = n_kd (G i)) ∧ (∀ i, n_me (upG (upG G s (chN (G s) c)) c (paN (G c) s) i) = n_me (G i)) := by
  have e : ∀ {β : Type} (g : Nod → β), (∀ x, g (chN x c) = g x) → (∀ x, g (paN x s) = g x) → ∀ i, g (upG (upG G s (chN (G s) c)) c (paN (G c) s) i) = g (G i) := fun g h1 h2 i => by
    by_cases q : i = c
    · rw [q, upG_s]; exact h2 _
    · rw [upG_n q]
      by_cases q2 : i = s
      · rw [q2, upG_s]; exact h1 _
      · rw [upG_n q2]
  exact ⟨e _ (fun _ => rfl) (fun _ => rfl), e _ (fun _ => rfl) (fun _ => rfl)⟩
theorem klN_kd {s kc : Nat} {G : Nat → Nod} : (∀ i, n_kd (upG G s (klN (G s) kc) i) = n_kd (G i)) ∧ (∀ i, n_me (upG G s (klN (G s) kc) i) = n_me (G i)) ∧ (∀ i, n_ch (upG G s (klN (G s) kc) i) = n_ch (G i)) ∧ (∀ i, n_pa (upG G s (klN (G s) kc) i) = n_pa (G i)) ∧ (∀ i, n_fn (upG G s (klN (G s) kc) i) = n_fn (G i)) := by
  have e : ∀ {β : Type} (g : Nod → β), (∀ x, g (klN x kc) = g x) → ∀ i, g (upG G s (klN (G s) kc) i) = g (G i) := fun g h1 i => by
    by_cases q : i = s
    · rw [q, upG_s]; exact h1 _
    · rw [upG_n q]
  exact ⟨e _ (fun _ => rfl), e _ (fun _ => rfl), e _ (fun _ => rfl), e _ (fun _ => rfl), e _ (fun _ => rfl)⟩
section CUNI
variable {T : Nat → Int32} {L : Nat} {Sd In Nx Am K F S I X Lt : Nat → Int32} {N : Nat → Int64} {l : Nat}
theorem c_uni_go {f : FL} {g : Nat → Bool → LSt → LRs} {d : Nat} (hf : okCl T L Sd In Nx Am K F N S I X Lt l f (d + 1) g) (hg : okSp T L Sd In Nx Am K F N S I X Lt l g) (lf lp : Int32) {s : Nat} : ∀ (ks : List (Nat × Nat)) (fuel i lo hi : Nat) (hc hr : Int32) (Pl Ki Me Fi Ne Na Fn Ac Fd Ed : Nat → Int32) (lc sc : Int32) (Cf Cs : Nat → Int32) (cc : Int32) (k sh kc : Nat) (pl : List Nat) (D : List Nat → Option Nat) (fi : List (Nat × Nat × Option Nat)) (G : Nat → Nod), ks.length < fuel → i + ks.length ≤ 16 → CI Pl Ki Me Fi Ne Na Fn Ac lc sc Cf Cs cc (k, sh, kc, pl, D, fi, G) → WFs (k, sh, kc, pl, D, fi, G) → s < k → n_me (G s) = s → n_kd (G s) = 11 → (n_ch (G s)).length = i → (∀ x, x ∈ n_ch (G s) → KD1 G x) → LCH T L Sd In Nx Am K F N S I X Lt l ks lo hi hc hr → hi ≤ 4096 → pl.length + (hi - lo) + 1 ≤ 4096 →
    CX lf lp (m_X4_lookAtUnion_68 f T Sd In Nx Am (nI L) fuel lf lp Pl Ki Me Fi Ne Na Fn Ac Fd Ed lc sc Cf Cs cc (nI s) (nI d) (nI (i + ks.length)) hc (if (n_ch (G s)).length = 0 then -1 else nI ((n_ch (G s)).getD ((n_ch (G s)).length - 1) 0)) (nI i)) 1 0 (lun g s ks i (k, sh, kc, pl, D, fi, G)) := by
  intro ks
  induction ks with
  | nil =>
    intro fuel i lo hi hc hr Pl Ki Me Fi Ne Na Fn Ac Fd Ed lc sc Cf Cs cc k sh kc pl D fi G hfu hi16 hI hw hs hm hk hch hkd hl hhi hbu
    obtain ⟨fu, rfl⟩ : ∃ z, fuel = z + 1 := ⟨fuel - 1, by omega⟩
    have i3 := hI.2.2.1
    obtain ⟨Pl', w1, w2⟩ := wbL (v := 93) (by decide) hI.2.2.2.2.1 (by omega)
    simp only [m_X4_lookAtUnion_68, lun, wrt]
    rw [if_pos (nI_le (by simp) (by omega)), i3, show (93 : Int32) = nI 93 from rfl, w1]
    exact ⟨_, _, _, _, _, _, _, _, _, _, _, _, _, _, _, rfl, hI.wr w2 (by rw [List.length_append, List.length_singleton]; omega)⟩
  | cons v t ih =>
    intro fuel i lo hi hc hr Pl Ki Me Fi Ne Na Fn Ac Fd Ed lc sc Cf Cs cc k sh kc pl D fi G hfu hi16 hI hw hs hm hk hch hkd hl hhi hbu
    obtain ⟨fu, rfl⟩ : ∃ z, fuel = z + 1 := ⟨fuel - 1, by omega⟩
    rw [List.length_cons] at hfu hi16
    obtain ⟨c, b, c1, c2, c3, c4, c5, c6⟩ := hl
    have hb := c4.base
    have i2 := hI.2.1
    have i3 := hI.2.2.1
    have hy : (if i = 0 then 91 else 44) ≤ 255 := by split <;> decide
    obtain ⟨Pl1, w1, w2⟩ := wbL (v := if i = 0 then 91 else 44) hy hI.2.2.2.2.1 (by omega)
    have hI1 := hI.wr w2 (by rw [List.length_append, List.length_singleton]; omega)
    have hw1 : WFs (k, sh, kc, pl ++ [if i = 0 then 91 else 44], D, fi, G) := hw
    have hf1 := hf lf lp Pl1 Ki Me Fi Ne Na Fn Ac Fd Ed _ sc Cf Cs cc v.2 true _ _ _ hI1 hw1 c4 (by
      show (pl ++ [if i = 0 then 91 else 44]).length + (b - v.2) ≤ 4096
      rw [List.length_append, List.length_singleton]; omega)
    have h91 : CX lf lp (m_X4_lookAtUnion_91 f T Sd In Nx Am (nI L) (m_X4_lookAtUnion_68 f T Sd In Nx Am (nI L) fu) lf lp Pl Ki Me Fi Ne Na Fn Ac Fd Ed lc sc Cf Cs cc (nI s) (nI d) (nI (i + (v :: t).length)) hc (if (n_ch (G s)).length = 0 then -1 else nI ((n_ch (G s)).getD ((n_ch (G s)).length - 1) 0)) (nI i) (nI (if i = 0 then 91 else 44))) 1 0 (lun g s (v :: t) i (k, sh, kc, pl, D, fi, G)) := by
      simp only [m_X4_lookAtUnion_91, lun, wrt, nI_1]
      rw [i3, w1, c2]
      simp only [Option.bind_some]
      simp only [if_true] at hf1
      cases hv : g v.2 true (k, sh, kc, pl ++ [if i = 0 then 91 else 44], D, fi, G) with
      | inl e =>
        rw [hv] at hf1
        obtain ⟨u, hu⟩ := hf1
        rw [hu]
        obtain ⟨u1, u2, u3, u4, u5, u6, u7, u8, u9, u10, u11, u12, u13, u14, u15⟩ := u
        simp only [Option.bind_some, if_true]
        exact ⟨_, rfl⟩
      | inr st1 =>
        rw [hv] at hf1
        obtain ⟨fp, fl⟩ := hg _ _ _ _ _ _ c4 hw1 hv
        obtain ⟨k1, sh1, kc1, pl1, D1, fi1, G1⟩ := st1
        obtain ⟨Pl2, Ki2, Me2, Fi2, Ne2, Na2, Fn2, Ac2, Fd2, Ed2, lc2, sc2, Cf2, Cs2, cc2, hu, hI2⟩ := hf1
        rw [hu]
        have fl : pl1.length ≤ (pl ++ [if i = 0 then 91 else 44]).length + (b - v.2) := fl
        rw [List.length_append, List.length_singleton] at fl
        obtain ⟨a1, a2, a3, a4, a5, a6, a7, a8, a9, a10, a11, a12, a13⟩ := fp
        have i22 := hI2.2.1
        have eGs : G1 s = G s := a5 s hs
        have hms : n_me (G1 s) = s := by rw [eGs]; exact hm
        have hks : n_kd (G1 s) = 11 := by rw [eGs]; exact hk
        have hkd1 : ∀ x, x ∈ n_ch (G1 s) → KD1 G1 x := fun x hx => by
          rw [eGs] at hx
          obtain ⟨z1, z2, z3⟩ := hI.lt hs hm (by omega) (by omega) hx
          exact (hkd x hx).low a5 z2 z3
        simp only [Option.bind_some, if_neg (nI_m1 (show k < 2 ^ 31 by omega)), hal_eq i22 hI2.2.2.2.2.2.2.1 (show s < k1 by omega) a1 hms hks hkd1 ⟨a12, a11.2⟩]
        by_cases q : hlk s k (k1, sh1, kc1, pl1, D1, fi1, G1) = true
        · have q' : (n_ch (G1 s)).any (fun b => alk G1 b k) = true := q
          rw [if_pos q, if_pos q']
          simp only [if_neg (show ¬ (1 : Int32) = 0 by decide), m_X4_refuse, Option.bind_some, true_or, if_true]
          exact ⟨_, rfl⟩
        · have q' : ¬ (n_ch (G1 s)).any (fun b => alk G1 b k) = true := q
          rw [if_neg q, if_neg q']
          simp only [if_true]
          have hlt : ∀ x, x ∈ n_ch (G1 s) → x < k := fun x hx => by
            rw [eGs] at hx
            exact (hI.lt hs hm (by omega) (by omega) hx).2.1
          rw [← eGs, joi_eq (show s < 128 by omega) (fun x hx => by have := hlt x hx; omega)]
          simp only [Option.bind_some, m_X7_next]
          rw [ent_eq (n := 4096) (by decide) (show v.2 < 4096 by omega)]
          simp only [Option.bind_some]
          have hIk := hI2.kid (s := s)
          obtain ⟨e1, e2, e3, e4, e5⟩ := klN_kd (s := s) (kc := kc1) (G := G1)
          have hlen : (n_ch (G1 s)).length = i := by rw [eGs]; exact hch
          have hIj := hIk.jon (s := s) (c := k) hs a1 ((e2 s).trans hms) (by rw [e1, hks]; decide) (by rw [e1, hks]; decide) ((e4 k).trans a10) (fun x hx => hlt x (by rw [e3] at hx; exact hx)) (by rw [e3]; omega) (fun z => by rw [e1, hks] at z; cases z)
          rw [e3] at hIj
          have q1 : FQ s (k, sh, kc, pl, D, fi, G) (k1, sh1, kc1, pl1, D1, fi1, G1) := by
            have := (FPs.q (br := true) (a := (k, sh, kc, pl ++ [if i = 0 then 91 else 44], D, fi, G)) (b := (k1, sh1, kc1, pl1, D1, fi1, G1)) ⟨a1, a2, a3, a4, a5, a6, a7, a8, a9, a10, a11, a12, a13⟩ hs)
            exact ((FQ.refl hw).wrt _).trans this
          have q2 := (q1.kid).jon (c := k) hs (Nat.le_refl _)
          have hw2 := q2.wf hw
          obtain ⟨j1, j2⟩ := jon_kd (s := s) (c := k) (G := upG G1 s (klN (G1 s) kc1))
          have ecs : n_ch (upG (upG (upG G1 s (klN (G1 s) kc1)) s (chN (upG G1 s (klN (G1 s) kc1) s) k)) k (paN (upG G1 s (klN (G1 s) kc1) k) s) s) = n_ch (G1 s) ++ [k] := by
            rw [upG_n (show s ≠ k by omega), upG_s]
            show n_ch (upG G1 s (klN (G1 s) kc1) s) ++ [k] = _
            rw [e3]
          have hlast : (if (n_ch (G1 s) ++ [k]).length = 0 then (-1 : Int32) else nI ((n_ch (G1 s) ++ [k]).getD ((n_ch (G1 s) ++ [k]).length - 1) 0)) = nI k := by
            rw [List.length_append, List.length_singleton, if_neg (by omega), Nat.add_sub_cancel, show (n_ch (G1 s) ++ [k]).getD (n_ch (G1 s)).length 0 = k from (congrFun snc_app.symm _).trans snc_s]
          have fin := ih fu (i + 1) _ hi (Nx v.2) (X c) Pl2 Ki2 Me2 _ _ Na2 Fn2 _ Fd2 Ed2 lc2 sc2 Cf2 Cs2 cc2 k1 sh1 (kc1 + 1) pl1 D1 fi1 _ (by omega) (by omega) hIj hw2 (by omega) ((j2 s).trans ((e2 s).trans hms)) ((j1 s).trans ((e1 s).trans hks)) (by rw [ecs, List.length_append, List.length_singleton]; omega) (fun x hx => by
            rw [ecs] at hx
            refine KD1.cg ?_ j1 j2
            refine KD1.cg ?_ e1 e2
            rcases List.mem_append.mp hx with z | z
            · exact hkd1 x z
            · rw [List.mem_singleton.mp z]
              exact ⟨a12, a11.2⟩) c6 hhi (by omega)
          rw [ecs, hlast] at fin
          rw [List.length_cons, show i + (t.length + 1) = i + 1 + t.length by omega]
          exact fin
    simp only [m_X4_lookAtUnion_68]
    rw [if_neg (nI_ge (show i < i + (v :: t).length by rw [List.length_cons]; omega) (by rw [List.length_cons]; omega))]
    by_cases e0 : i = 0
    · rw [if_pos (by rw [e0]; rfl)]
      rw [if_pos e0] at h91
      exact h91
    · rw [if_neg (show ¬ nI i = 0 from fun z => e0 ((nI_eq (b := 0) (by omega) (by decide)).mp z))]
      rw [if_neg e0] at h91
      exact h91
theorem c_uni (hL : L ≤ 4096) {f : FL} {g : Nat → Bool → LSt → LRs} {d : Nat} (hf : okCl T L Sd In Nx Am K F N S I X Lt l f (d + 1) g) (hg : okSp T L Sd In Nx Am K F N S I X Lt l g) (lf lp : Int32) {s n p q : Nat} {br : Bool} {Pl Ki Me Fi Ne Na Fn Ac Fd Ed : Nat → Int32} {lc sc : Int32} {Cf Cs : Nat → Int32} {cc : Int32} {k sh kc : Nat} {pl : List Nat} {D : List Nat → Option Nat} {fi : List (Nat × Nat × Option Nat)} {G : Nat → Nod} (hI : CI Pl Ki Me Fi Ne Na Fn Ac lc sc Cf Cs cc (k, sh, kc, pl, D, fi, G)) (hs : s + 1 = k) (hG : G s = mkN 12 s 0 0 [] []) (hD : ∀ w d, D w = some d → d < s) (hw : WFs (k, sh, kc, pl, D, fi, G)) (hv : VV T L Sd In Nx Am K F N S I X Lt l n p q) (hc : cb T L p = 91) (hb : pl.length + (q - p) ≤ 4096) :
    CX lf lp (m_X4_lookAtUnion f lf lp T Sd In Nx Am (nI L) Pl Ki Me Fi Ne Na Fn Ac Fd Ed lc sc Cf Cs cc (nI s) (nI p) (nI d) (if br = true then 1 else 0)) 1 0 (if br = true then .inl (4, p) else if 1 ≤ (prt T L p).length ∧ (prt T L p).length ≤ 16 then lun g s (prt T L p) 0 (k, sh + 1, kc, pl, D, fi, upG G s (mkN 11 s sh 0 [] [])) else .inl (5, p)) := by
  have hp := hv.base
  obtain ⟨a1, a2, a3, a4⟩ := hv.lst hc
  unfold m_X4_lookAtUnion
  by_cases e : br = true
  · rw [if_pos e, if_pos e, if_neg (show ¬ (1 : Int32) = 0 by decide)]
    simp only [m_X4_refuse, Option.bind_some, true_or, if_true]
    exact ⟨_, rfl⟩
  · rw [if_neg e, if_neg e, if_pos rfl]
    simp only [m_X7_amount, ent_eq (n := 4096) (by decide) (show p < 4096 by omega), Option.bind_some, a1, m_X4_lookAtUnion_35, m_X4_refuse, true_or, if_true, stk_eq (show s < 128 by have := hI.2.1; omega), m_X7_inner]
    by_cases c1 : 1 ≤ (prt T L p).length
    · rw [if_neg (show ¬ nI (prt T L p).length < 1 from Int32.not_lt.mpr (nI_le (a := 1) c1 (by omega)))]
      by_cases c2 : (prt T L p).length ≤ 16
      · rw [if_pos (show nI (prt T L p).length ≤ 16 from nI_le (b := 16) c2 (by decide)), if_pos ⟨c1, c2⟩]
        obtain ⟨i1, i2, i3, i4, i5, i6, i7, i8, i9⟩ := hI
        have hI1 : CI Pl (upd Ki s (nI 11)) Me Fi Ne Na Fn Ac lc sc Cf Cs cc (k, sh + 1, kc, pl, D, fi, upG G s (mkN 11 s sh 0 [] [])) := ⟨i1, i2, i3, i4, i5, i6, i7.set (by omega) hG, i8, i9⟩
        have hw1 : WFs (k, sh + 1, kc, pl, D, fi, upG G s (mkN 11 s sh 0 [] [])) := by
          refine ⟨fun w d hd => ?_, hw.2⟩
          have := hD w d hd
          rw [upG_n (by omega)]
          exact hw.1 w d hd
        have hgo := c_uni_go hf hg lf lp (s := s) (prt T L p) sr_fuel 0 _ _ _ _ Pl (upd Ki s (nI 11)) Me Fi Ne Na Fn Ac Fd Ed lc sc Cf Cs cc k (sh + 1) kc pl D fi _ (by unfold sr_fuel; omega) (by omega) hI1 hw1 (by omega) (by rw [upG_s]; rfl) (by rw [upG_s]; rfl) (by rw [upG_s]; rfl) (fun x hx => by rw [upG_s] at hx; exact absurd hx List.not_mem_nil) a4 (by omega) (by omega)
        rw [upG_s] at hgo
        rw [Nat.zero_add] at hgo
        exact hgo
      · rw [if_neg (show ¬ nI (prt T L p).length ≤ 16 from nI_ge (a := 16) (b := (prt T L p).length) (by omega) (by omega)), if_neg (fun z => c2 z.2)]
        exact ⟨_, rfl⟩
    · rw [if_pos (show nI (prt T L p).length < 1 from nI_lt (b := 1) (by omega) (by decide)), if_neg (fun z => c1 z.1)]
      exact ⟨_, rfl⟩
theorem c_itm (hL : L ≤ 4096) (hl : l ≤ 4200) {f : FL} {g : Nat → Bool → LSt → LRs} {d : Nat} (hf : okCl T L Sd In Nx Am K F N S I X Lt l f (d + 1) g) (hg : okSp T L Sd In Nx Am K F N S I X Lt l g) (lf lp : Int32) {s n p q k6 t0 : Nat} (hk6 : k6 = 6 ∨ k6 = 7) {Pl Ki Me Fi Ne Na Fn Ac Fd Ed : Nat → Int32} {lc sc : Int32} {Cf Cs : Nat → Int32} {cc : Int32} {k sh kc : Nat} {pl : List Nat} {D : List Nat → Option Nat} {fi : List (Nat × Nat × Option Nat)} {G : Nat → Nod} (hI : CI Pl Ki Me Fi Ne Na Fn Ac lc sc Cf Cs cc (k, sh, kc, pl, D, fi, G)) (hs : s + 1 = k) (hG : G s = mkN 12 s 0 0 [] []) (hD : ∀ w d, D w = some d → d < s) (hw : WFs (k, sh, kc, pl, D, fi, G)) (hv : VV T L Sd In Nx Am K F N S I X Lt l n p q) (hc : cb T L p = 123) (h0 : mbr T L p (litN 15) = some t0) (h1 : ts T L t0 = litN (3 + k6)) (h1' : cb T L t0 = 34) (hb : pl.length + (q - p) ≤ 4096) :
    CX lf lp (m_X4_lookAtItems f lf lp T Sd In Nx Am (nI L) Pl Ki Me Fi Ne Na Fn Ac Fd Ed lc sc Cf Cs cc (nI s) (nI p) (nI d) (nI k6) (if k6 = 6 then 16 else 19)) 1 0 (lit T L g s p k6 (k, sh, kc, pl, D, fi, G)) := by
  have hp := hv.base
  have h15 : (litN 15).length = 4 := by decide
  have h3k : (litN (3 + k6)).length = (if k6 = 6 then 5 else 3) := by rcases hk6 with e | e <;> (subst e; decide)
  have hwl : (litN (if k6 = 6 then 16 else 19)).length = (if k6 = 6 then 5 else 6) := by rcases hk6 with e | e <;> (subst e; decide)
  have htl : (litN (if k6 = 6 then 17 else 18)).length = (if k6 = 6 then 24 else 23) := by rcases hk6 with e | e <;> (subst e; decide)
  have hne : litN 15 ≠ litN (if k6 = 6 then 16 else 19) := by rcases hk6 with e | e <;> (subst e; decide)
  rcases mbc hL hl hv hc (w := 15) (by decide) with ⟨e, _⟩ | ⟨v0, kp0, c0, b0, e0, _, x1, x2, x3, x4, x5, x6⟩
  · rw [h0] at e; cases e
  rw [h0] at e0
  cases e0
  obtain ⟨s0, y1, y2, y3, y4, y5, y6⟩ := x1.str h1'
  rw [y2] at h1
  subst h1
  unfold m_X4_lookAtItems
  simp only [lit]
  rcases mbc hL hl hv hc (w := if k6 = 6 then 16 else 19) (by split <;> decide) with ⟨e, em⟩ | ⟨v, kp, c, b, e, em, z1, z2, z3, z4, z5, z6⟩
  · rw [e, em]
    simp only [Option.bind_some, if_true, m_X4_refuse, true_or]
    exact ⟨_, rfl⟩
  rw [e, em]
  have hap := mb2 hv hc x5 z5 x1 z1 (by rw [x6, z6]; exact hne)
  have hzb := z1.base
  have i2 := hI.2.1
  have i3 := hI.2.2.1
  simp only [Option.bind_some, if_neg (nI_m1 (show v < 2 ^ 31 by omega)), stk_eq (show s < 128 by omega)]
  have hbud : pl.length + (if k6 = 6 then 24 else 23) + (b - v) + 1 ≤ 4096 := by
    rcases hk6 with ek | ek
    · simp only [if_pos ek] at hwl h3k z3 ⊢
      omega
    · have e6 : ¬ k6 = 6 := by omega
      simp only [if_neg e6] at hwl h3k z3 ⊢
      omega
  have hy : (if k6 = 6 then 17 else 18) < 75 := by split <;> decide
  obtain ⟨Pl1, w1, w2⟩ := wrL (w := if k6 = 6 then 17 else 18) hy hI.2.2.2.2.1 (by rw [htl]; omega)
  have hln : (pl ++ litN (if k6 = 6 then 17 else 18)).length = pl.length + (if k6 = 6 then 24 else 23) := by rw [List.length_append, htl]
  have hI1 : CI Pl1 (upd Ki s (nI k6)) Me Fi Ne Na Fn Ac (nI (pl ++ litN (if k6 = 6 then 17 else 18)).length) sc Cf Cs cc (k, sh + 1, kc + 1, pl ++ litN (if k6 = 6 then 17 else 18), D, fi, upG G s (mkN k6 s sh 0 [] [kc])) := by
    obtain ⟨i1, i2, i3, i4, i5, i6, i7, i8, i9⟩ := hI
    exact ⟨i1, i2, rfl, by omega, w2, i6.wr _, (i7.set (by omega) hG).wr _, i8, i9⟩
  have hw1 : WFs (k, sh + 1, kc + 1, pl ++ litN (if k6 = 6 then 17 else 18), D, fi, upG G s (mkN k6 s sh 0 [] [kc])) := by
    refine ⟨fun w d hd => ?_, hw.2⟩
    have := hD w d hd
    rw [upG_n (by omega)]
    exact hw.1 w d hd
  have hf1 := hf lf lp Pl1 (upd Ki s (nI k6)) Me Fi Ne Na Fn Ac Fd Ed _ sc Cf Cs cc v false _ _ _ hI1 hw1 z1 (by
    show (pl ++ litN (if k6 = 6 then 17 else 18)).length + (b - v) ≤ 4096
    omega)
  simp only [if_neg (show ¬ false = true by decide)] at hf1
  have main : CX lf lp (m_X4_lookAtItems_54 f T Sd In Nx Am (nI L) lf lp Pl (upd Ki s (nI k6)) Me Fi Ne Na Fn Ac Fd Ed lc sc Cf Cs cc (nI s) (nI d) (nI v) (if k6 = 6 then 17 else 18)) 1 0 (match g v false (k, sh + 1, kc + 1, pl ++ litN (if k6 = 6 then 17 else 18), D, fi, upG G s (mkN k6 s sh 0 [] [kc])) with
      | .inl e => .inl e
      | .inr st' => .inr (wrt [125] (jon s k st'))) := by
    unfold m_X4_lookAtItems_54
    rw [i3, w1]
    simp only [Option.bind_some, nI_1]
    cases hr : g v false (k, sh + 1, kc + 1, pl ++ litN (if k6 = 6 then 17 else 18), D, fi, upG G s (mkN k6 s sh 0 [] [kc])) with
    | inl e =>
      rw [hr] at hf1
      obtain ⟨u, hu⟩ := hf1
      rw [hu]
      obtain ⟨u1, u2, u3, u4, u5, u6, u7, u8, u9, u10, u11, u12, u13, u14, u15⟩ := u
      simp only [Option.bind_some, if_true]
      exact ⟨_, rfl⟩
    | inr st1 =>
      rw [hr] at hf1
      obtain ⟨fp, fl⟩ := hg _ _ _ _ _ _ z1 hw1 hr
      obtain ⟨k1, sh1, kc1, pl1, D1, fi1, G1⟩ := st1
      obtain ⟨Pl2, Ki2, Me2, Fi2, Ne2, Na2, Fn2, Ac2, Fd2, Ed2, lc2, sc2, Cf2, Cs2, cc2, hu, hI2⟩ := hf1
      rw [hu]
      have fl : pl1.length ≤ (pl ++ litN (if k6 = 6 then 17 else 18)).length + (b - v) := fl
      obtain ⟨a1, a2, a3, a4, a5, a6, a7, a8, a9, a10, a11, a12, a13⟩ := fp
      have eGs : G1 s = mkN k6 s sh 0 [] [kc] := by rw [a5 s (by omega), upG_s]
      have i22 := hI2.2.1
      have i23 := hI2.2.2.1
      simp only [Option.bind_some, if_neg (nI_m1 (show k < 2 ^ 31 by omega))]
      have hjo := joi_eq (Fi := Fi2) (Ne := Ne2) (Ac := Ac2) (s := s) (c := k) (ch := n_ch (G1 s)) (by omega) (fun x hx => by rw [eGs] at hx; exact absurd hx List.not_mem_nil)
      have hc0 : (n_ch (G1 s)).length = 0 := by rw [eGs]; rfl
      have hIj := hI2.jon (s := s) (c := k) (by omega) a1 (by rw [eGs]; rfl) (by rw [eGs]; show k6 ≠ 8; omega) (by rw [eGs]; show k6 ≠ 9; omega) a10 (fun x hx => by rw [eGs] at hx; exact absurd hx List.not_mem_nil) (by omega) (fun z => by rw [eGs] at z; have z : k6 = 10 := z; omega)
      rw [if_pos hc0] at hjo
      rw [hjo]
      simp only [Option.bind_some]
      obtain ⟨Pl3, w3, w4⟩ := wbL (v := 125) (by decide) hI2.2.2.2.2.1 (by omega)
      rw [i23, show (125 : Int32) = nI 125 from rfl, w3]
      simp only [Option.bind_some]
      exact ⟨_, _, _, _, _, _, _, _, _, _, _, _, _, _, _, rfl, hIj.wr w4 (by rw [List.length_append, List.length_singleton]; omega)⟩
  by_cases ek : k6 = 6
  · rw [if_pos (show nI k6 = 6 by rw [ek]; rfl)]
    rw [if_pos ek] at main
    simp only [if_pos ek]
    exact main
  · rw [if_neg (show ¬ nI k6 = 6 from fun z => ek ((nI_eq (b := 6) (by omega) (by decide)).mp z))]
    rw [if_neg ek] at main
    simp only [if_neg ek]
    exact main
end CUNI
end
section
-- the class's look at sizes and symbols
theorem lN_clamp : ∀ w, w ≤ 64 → (lN w).toNatClampNeg = w ∧ (lN w).toInt32 = nI w ∧ ¬ lg_cmp (lN w) 0 < 0 ∧ lg_cmp (lN w) 64 ≤ 0 := by decide +kernel
theorem lsz_n {x : Int64} (h : lsz x = none) : lg_cmp x 0 < 0 ∨ ¬ lg_cmp x 64 ≤ 0 := by
  by_cases c : lg_cmp x 0 < 0
  · exact Or.inl c
  · by_cases c2 : lg_cmp x 64 ≤ 0
    · obtain ⟨d, d1, d2⟩ := lgc c (Int32.not_lt.mpr c2)
      unfold lsz at h
      rw [d2, (lN_clamp d d1).1, if_pos ⟨rfl, d1⟩] at h
      cases h
    · exact Or.inr c2
theorem wn_num : ∀ w, w ≤ 64 → (48 + (nI w - (nI w / 10) * 10) = nI (48 + w % 10)) ∧ (48 + nI w / 10 = nI (48 + w / 10)) ∧ ((nI w < 10) = (w < 10)) := by
  have h : ∀ w, w < 65 → (48 + (nI w - (nI w / 10) * 10) = nI (48 + w % 10)) ∧ (48 + nI w / 10 = nI (48 + w / 10)) ∧ (decide (nI w < 10) = decide (w < 10)) := by decide +kernel
  intro w hw
  obtain ⟨a, b, c⟩ := h w (by omega)
  exact ⟨a, b, propext (decide_eq_decide.mp c)⟩
theorem wnL {Pl : Nat → Int32} {pl : List Nat} {w : Nat} (hw : w ≤ 64) (h : PLI Pl pl) (hl : pl.length + (dgs w).length ≤ 4096) : ∃ Pl', m_X6_writeNumber Pl (nI pl.length) (nI w) = some (Pl', nI (pl ++ dgs w).length) ∧ PLI Pl' (pl ++ dgs w) := by
  obtain ⟨n1, n2, n3⟩ := wn_num w hw
  unfold m_X6_writeNumber m_X6_writeNumber_17
  simp only [n1, n2, n3]
  rw [dgs_len] at hl
  unfold dgs
  by_cases c : w < 10
  · rw [if_neg (show ¬ 10 ≤ w by omega)] at hl
    rw [if_pos c, if_neg (show ¬ 10 ≤ w by omega)]
    obtain ⟨Pl1, w1, w2⟩ := wbL (v := 48 + w % 10) (by omega) h (by omega)
    rw [w1]
    exact ⟨_, rfl, w2⟩
  · rw [if_pos (show 10 ≤ w by omega)] at hl
    rw [if_neg c, if_pos (show 10 ≤ w by omega)]
    obtain ⟨Pl1, w1, w2⟩ := wbL (v := 48 + w / 10) (by omega) h (by omega)
    obtain ⟨Pl2, w3, w4⟩ := wbL (v := 48 + w % 10) (by omega) w2 (by rw [List.length_append, List.length_singleton]; omega)
    rw [w1]
    simp only [Option.bind_some]
    rw [w3]
    rw [List.append_assoc] at w4 ⊢
    exact ⟨_, rfl, w4⟩
section CFIX
variable {T : Nat → Int32} {L : Nat} {Sd In Nx Am K F S I X Lt : Nat → Int32} {N : Nat → Int64} {l : Nat}
theorem c_fix (hL : L ≤ 4096) (hl : l ≤ 4200) (lf lp : Int32) {s n p q : Nat} {Pl Ki Me Fi Ne Na Fn Ac : Nat → Int32} {lc sc : Int32} {Cf Cs : Nat → Int32} {cc : Int32} {k sh kc : Nat} {pl : List Nat} {D : List Nat → Option Nat} {fi : List (Nat × Nat × Option Nat)} {G : Nat → Nod} (hI : CI Pl Ki Me Fi Ne Na Fn Ac lc sc Cf Cs cc (k, sh, kc, pl, D, fi, G)) (hs : s < k) (hG : ∃ sg, G s = mkN 8 s sg 0 [] []) (hv : VV T L Sd In Nx Am K F N S I X Lt l n p q) (hc : cb T L p = 123) (hb : ∀ v kp c b, (kp, v) ∈ prt T L p → VV T L Sd In Nx Am K F N S I X Lt l c v b → ts T L kp = litN 23 → p < kp → kp + 7 ≤ v → b < q → pl.length + 9 + (b - v) ≤ 4096) :
    (∃ e, lfx T L s p (k, sh, kc, pl, D, fi, G) = .inl e ∧ ∃ u, m_X4_lookAtFixed lf lp T Sd In Nx Am (nI L) Pl Ac lc (nI s) (nI p) = some (0, (nI e.1, nI e.2, u))) ∨ (∃ st' Pl' Ac' lc', lfx T L s p (k, sh, kc, pl, D, fi, G) = .inr st' ∧ m_X4_lookAtFixed lf lp T Sd In Nx Am (nI L) Pl Ac lc (nI s) (nI p) = some (1, (lf, lp, Pl', Ac', lc')) ∧ CI Pl' Ki Me Fi Ne Na Fn Ac' lc' sc Cf Cs cc st') := by
  have hp := hv.base
  have h23 : (litN 23).length = 4 := by decide
  have h24 : (litN 24).length = 8 := by decide
  obtain ⟨sg, hG⟩ := hG
  unfold m_X4_lookAtFixed
  simp only [lfx]
  rcases mbc hL hl hv hc (w := 23) (by decide) with ⟨e, em⟩ | ⟨v, kp, c, b, e, em, z1, z2, z3, z4, z5, z6⟩
  · rw [e, em]
    simp only [Option.bind_some, if_true, m_X4_refuse, true_or]
    exact Or.inl ⟨_, rfl, _, rfl⟩
  rw [e, em]
  have hzb := z1.base
  simp only [Option.bind_some, if_neg (nI_m1 (show v < 2 ^ 31 by omega)), isn_eq hL (show v < 2 ^ 31 by omega)]
  have bad : ∀ y : Int64, (lg_cmp y 0 < 0 ∨ ¬ lg_cmp y 64 ≤ 0) → m_X4_lookAtFixed_49 T Sd In Nx Am (nI L) lf lp Pl Ac lc (nI s) (nI v) y = some (0, (nI 10, nI v, Pl, Ac, lc)) := by
    intro y hy
    unfold m_X4_lookAtFixed_49 m_X4_lookAtFixed_67
    simp only [m_X4_refuse, Option.bind_some, true_or, if_true]
    by_cases c1 : lg_cmp y 0 < 0
    · rw [if_pos c1]; rfl
    · rw [if_neg c1, if_neg (hy.resolve_left c1)]; rfl
  by_cases cn : cb T L v = 45 ∨ (48 ≤ cb T L v ∧ cb T L v ≤ 57)
  · rw [if_pos cn, if_pos cn, if_neg (show ¬ (1 : Int32) = 0 by decide), z1.nmc hL cn]
    simp only [Option.bind_some]
    cases hz : lsz (snv T L v) with
    | none =>
      rw [bad _ (lsz_n hz)]
      exact Or.inl ⟨_, rfl, _, rfl⟩
    | some w =>
      obtain ⟨w1, w2⟩ := lsz_of hz
      obtain ⟨l1, l2, l3, l4⟩ := lN_clamp w w2
      have hbb := hb v kp c b z5 z1 z6 z2 (by omega) z4
      have hdg : (dgs w).length ≤ b - v := by
        rw [dgs_len]
        by_cases c10 : 10 ≤ w
        · rw [if_pos c10]
          by_cases eb : v + 1 = b
          · obtain ⟨k', k1, k2⟩ := z1.nm1 cn eb
            have := lN_inj _ w2 _ (show k' ≤ 64 by omega) (w1.symm.trans k2)
            omega
          · omega
        · rw [if_neg c10]
          omega
      unfold m_X4_lookAtFixed_49
      rw [w1, if_neg l3, if_pos l4, l2, sta_eq (show s < 128 by have := hI.2.1; omega)]
      obtain ⟨i1, i2, i3, i4, i5, i6, i7, i8, i9⟩ := hI
      obtain ⟨Pl1, x1, x2⟩ := wrL (w := 24) (by decide) i5 (by omega)
      have e1 : (pl ++ litN 24).length = pl.length + 8 := by rw [List.length_append, h24]
      obtain ⟨Pl2, x3, x4⟩ := wnL w2 x2 (by omega)
      have e2 : (pl ++ litN 24 ++ dgs w).length = pl.length + 8 + (dgs w).length := by rw [List.length_append, e1]
      obtain ⟨Pl3, x5, x6⟩ := wbL (v := 125) (by decide) x4 (by omega)
      simp only [Option.bind_some]
      rw [i3, x1]
      simp only [Option.bind_some]
      rw [x3]
      simp only [Option.bind_some]
      rw [show (125 : Int32) = nI 125 from rfl, x5]
      simp only [Option.bind_some]
      have ea : pl ++ litN 24 ++ dgs w ++ [125] = pl ++ (litN 24 ++ (dgs w ++ [125])) := by rw [List.append_assoc, List.append_assoc]
      rw [ea] at x6 ⊢
      refine Or.inr ⟨_, _, _, _, rfl, rfl, i1, i2, rfl, ?_, x6, i6.wr _, (i7.amt hs rfl (by rw [hG]; rfl) (by rw [hG]; rfl) (by rw [hG]; rfl) (by rw [hG]; rfl) w2).wr _, i8, i9⟩
      rw [← ea, List.length_append, e2, List.length_singleton]
      omega
  · rw [if_neg cn, if_neg cn, if_pos rfl, bad (-1) (Or.inl (by decide))]
    exact Or.inl ⟨_, rfl, _, rfl⟩
theorem sy_mem {l : List (List Nat)} {t : List Nat} : (∃ i, i < l.length ∧ l.getD i [] = t) ↔ t ∈ l := by
  constructor
  · rintro ⟨i, hi, e⟩
    rw [← e]
    simp only [List.getD, List.getElem?_eq_getElem hi, Option.getD_some]
    exact List.getElem_mem hi
  · intro h
    obtain ⟨i, hi, e⟩ := List.getElem_of_mem h
    exact ⟨i, hi, by simp only [List.getD, List.getElem?_eq_getElem hi, Option.getD_some]; exact e⟩
theorem hsy_c {Pl Ki Me Fi Ne Na Fn Ac : Nat → Int32} {lc sc : Int32} {Cf Cs : Nat → Int32} {cc : Int32} {k sh kc : Nat} {pl : List Nat} {D : List Nat → Option Nat} {fi : List (Nat × Nat × Option Nat)} {G : Nat → Nod} (hI : CI Pl Ki Me Fi Ne Na Fn Ac lc sc Cf Cs cc (k, sh, kc, pl, D, fi, G)) {s p : Nat} {t : List Nat} (hs : s < k) (h9 : n_kd (G s) = 9) (hm : n_me (G s) = s) (ht : SAID Sd Am p t) : m_X6_hasSymbol Pl Me Fi Ac lc Sd Am (nI s) (nI p) = some (if dec (t ∈ n_sy (G s)) = true then 1 else 0) := by
  obtain ⟨i1, i2, i3, i4, i5, i6, i7, i8, i9⟩ := hI
  obtain ⟨s1, s2, s3, s4⟩ := i7 s hs
  obtain ⟨t1, t2, t3, t4⟩ := s4 hm
  obtain ⟨u1, u2, x, u3, u4⟩ := t4 h9
  rw [hm] at s1
  rw [i3]
  rcases hsy_eq (Pl := Pl) (lc := pl.length) (show s < 128 by omega) (show s < 128 by omega) s1 u1 (by omega) u3 (show SYM Pl pl.length (n_sy (G s)).length x (fun j => (n_sy (G s)).getD j []) from ⟨fun i hi => (u4.1 i hi).pn i5 i4, u4.2⟩) ht with ⟨a, b⟩ | ⟨a, b⟩
  · rw [b, dec_t (sy_mem.mp a), if_pos rfl]
  · rw [b, dec_f (fun z => a (sy_mem.mpr z)), if_neg (by decide)]
theorem asy_c {Pl Ki Me Fi Ne Na Fn Ac : Nat → Int32} {lc sc : Int32} {Cf Cs : Nat → Int32} {cc : Int32} {k sh kc : Nat} {pl : List Nat} {D : List Nat → Option Nat} {fi : List (Nat × Nat × Option Nat)} {G : Nat → Nod} (hI : CI Pl Ki Me Fi Ne Na Fn Ac lc sc Cf Cs cc (k, sh, kc, pl, D, fi, G)) {s p : Nat} {w : List Nat} (hs : s < k) (h9 : n_kd (G s) = 9) (hm : n_me (G s) = s) (hw : SAID Sd Am p w) (hn : isNm w) (hb : ∀ v, v ∈ w → v ≤ 255) (hl : (n_sy (G s)).length < 32) (hse : SE Fi pl s (n_sy (G s))) (hbu : (pl ++ ((if n_sy (G s) = [] then [] else [44]) ++ qt w)).length ≤ 4096) :
    ∃ Pl' Fi' Ac' lc', m_X6_addSymbol Pl Fi Ac lc Sd Am (nI s) (nI p) = some (Pl', Fi', Ac', lc') ∧ CI Pl' Ki Me Fi' Ne Na Fn Ac' lc' sc Cf Cs cc (k, sh, kc + 1, pl ++ ((if n_sy (G s) = [] then [] else [44]) ++ qt w), D, fi, upG G s (syN (G s) w kc)) ∧ SE Fi' (pl ++ ((if n_sy (G s) = [] then [] else [44]) ++ qt w)) s (n_sy (G s) ++ [w]) := by
  obtain ⟨i1, i2, i3, i4, i5, i6, i7, i8, i9⟩ := hI
  obtain ⟨s1, s2, s3, s4⟩ := i7 s hs
  obtain ⟨t1, t2, t3, t4⟩ := s4 hm
  obtain ⟨u1, u2, x, u3, u4⟩ := t4 h9
  have hs128 : s < 128 := by omega
  have hse2 := hse.step u4 u3 rfl hbu
  have hLC := i7.sym (k0 := kc) hs hm h9 hn hl hse rfl
  have hbu2 := hbu
  rw [List.length_append, List.length_append, qt_len] at hbu2
  unfold m_X6_addSymbol
  rw [sto_eq hs128, nI_clamp (by omega), u1, i3]
  by_cases c0 : n_sy (G s) = []
  · have c0' : (n_sy (G s)).length = 0 := by rw [c0]; rfl
    rw [if_pos c0, List.nil_append] at hbu hse2 hLC ⊢
    rw [if_pos c0'] at hse2 hLC
    rw [if_pos c0, List.length_nil] at hbu2
    obtain ⟨Pl1, w1, w2⟩ := wsL hw hb i5 (by omega)
    rw [c0', if_pos (show nI 0 ≤ 0 by decide)]
    unfold m_X6_addSymbol_23
    rw [w1]
    simp only [Option.bind_some, bd_go hs128 (by decide), bd_gc hs128 (by decide), nI_clamp (show s < 2 ^ 31 by omega)]
    rw [u1, c0', if_pos (show nI 0 = 0 from rfl)]
    rw [u1, c0'] at hLC
    exact ⟨_, _, _, _, rfl, ⟨i1, i2, rfl, hbu, w2, i6.wr _, hLC, i8, i9⟩, hse2⟩
  · have c0' : ¬ (n_sy (G s)).length = 0 := fun z => c0 (List.eq_nil_of_length_eq_zero z)
    rw [if_neg c0] at hbu hse2 hLC ⊢
    rw [if_neg c0'] at hse2 hLC
    rw [if_neg c0, List.length_singleton] at hbu2
    rw [if_neg (show ¬ nI (n_sy (G s)).length ≤ 0 from nI_ge (a := 0) (by omega) (by omega))]
    obtain ⟨Pl1, w1, w2⟩ := wbL (v := 44) (by decide) i5 (by omega)
    obtain ⟨Pl2, w3, w4⟩ := wsL hw hb w2 (by rw [List.length_append, List.length_singleton]; omega)
    rw [show (44 : Int32) = nI 44 from rfl, w1]
    simp only [Option.bind_some]
    unfold m_X6_addSymbol_23
    rw [w3]
    simp only [Option.bind_some, bd_go hs128 (by decide), bd_gc hs128 (by decide), nI_clamp (show s < 2 ^ 31 by omega)]
    rw [u1, if_neg (show ¬ nI (n_sy (G s)).length = 0 from fun z => c0' ((nI_eq (b := 0) (by omega) (by decide)).mp z))]
    rw [u1] at hLC
    rw [List.append_assoc] at w4 ⊢
    exact ⟨_, _, _, _, rfl, ⟨i1, i2, rfl, hbu, w4, i6.wr _, hLC, i8, i9⟩, hse2⟩
end CFIX
end
section
-- the class's look at enums
section CENU
variable {T : Nat → Int32} {L : Nat} {Sd In Nx Am K F S I X Lt : Nat → Int32} {N : Nat → Int64} {l : Nat}
/-- what follows the symbols -/
noncomputable def len2 (T : Nat → Int32) (L s p : Nat) : LRs → LRs
  | .inl e => .inl e
  | .inr (sc, sh, kc, pl, D, fi, G) => match mbr T L p (litN 28) with
    | none => .inr (sc, sh, kc, pl ++ litN 27, D, fi, G)
    | some d => if dec (cb T L d = 34 ∧ ts T L d ∈ n_sy (G s)) = true then .inr (sc, sh, kc, pl ++ litN 27, D, fi, G) else .inl (12, d)
theorem len_2 {s p : Nat} {st : LSt} : len T L s p st = match mbr T L p (litN 25) with
  | none => .inl (8, p)
  | some v => if cb T L v = 91 ∧ 1 ≤ (prt T L v).length ∧ (prt T L v).length ≤ 32 then len2 T L s p (lsy T L s (prt T L v) (wrt (litN 26) st)) else .inl (11, v) := by
  unfold len
  cases mbr T L p (litN 25) with
  | none => rfl
  | some v =>
    simp only
    by_cases c : cb T L v = 91 ∧ 1 ≤ (prt T L v).length ∧ (prt T L v).length ≤ 32
    · rw [if_pos c, if_pos c]
      cases lsy T L s (prt T L v) (wrt (litN 26) st) with
      | inl e => rfl
      | inr st' => rfl
    · rw [if_neg c, if_neg c]
/-- the class's answer over the rows that an enum changes -/
def CE (lf lp : Int32) (x : Option (Int32 × Int32 × Int32 × (Nat → Int32) × (Nat → Int32) × (Nat → Int32) × (Nat → Int32) × Int32)) (Ki Me Ne Na Fn : Nat → Int32) (sc : Int32) (Cf Cs : Nat → Int32) (cc : Int32) : LRs → Prop
  | .inl e => ∃ u, x = some (0, (nI e.1, nI e.2, u))
  | .inr st => ∃ Pl Fi Ac Ed lc, x = some (1, (lf, lp, Pl, Fi, Ac, Ed, lc)) ∧ CI Pl Ki Me Fi Ne Na Fn Ac lc sc Cf Cs cc st
theorem c_enu_go (hL : L ≤ 4096) (hl : l ≤ 4200) (lf lp : Int32) {s n p q : Nat} (hv : VV T L Sd In Nx Am K F N S I X Lt l n p q) (hc : cb T L p = 123) {Ki Me Ne Na Fn : Nat → Int32} {sc : Int32} {Cf Cs : Nat → Int32} {cc : Int32} : ∀ (ks : List (Nat × Nat)) (fuel i lo hi : Nat) (hcp hr : Int32) (Pl Fi Ac Ed : Nat → Int32) (lc : Int32) (k sh kc : Nat) (pl : List Nat) (D : List Nat → Option Nat) (fi : List (Nat × Nat × Option Nat)) (G : Nat → Nod), ks.length < fuel → i + ks.length ≤ 32 → CI Pl Ki Me Fi Ne Na Fn Ac lc sc Cf Cs cc (k, sh, kc, pl, D, fi, G) → s < k → n_me (G s) = s → n_kd (G s) = 9 → (n_sy (G s)).length = i → SE Fi pl s (n_sy (G s)) → LCH T L Sd In Nx Am K F N S I X Lt l ks lo hi hcp hr → hi ≤ 4096 → pl.length + (hi - lo) + 2 ≤ 4096 + (if n_sy (G s) = [] ∧ ks ≠ [] then 1 else 0) →
    CE lf lp (m_X4_lookAtEnum_88 T Sd In Nx Am (nI L) Me fuel lf lp Pl Fi Ac Ed lc (nI s) (nI p) (nI (i + ks.length)) hcp (nI i)) Ki Me Ne Na Fn sc Cf Cs cc (len2 T L s p (lsy T L s ks (k, sh, kc, pl, D, fi, G))) := by
  intro ks
  have hp := hv.base
  have h27 : (litN 27).length = 2 := by decide
  induction ks with
  | nil =>
    intro fuel i lo hi hcp hr Pl Fi Ac Ed lc k sh kc pl D fi G hfu hi32 hI hs hm h9 hsy hse hlc hhi hbu
    obtain ⟨fu, rfl⟩ : ∃ z, fuel = z + 1 := ⟨fuel - 1, by omega⟩
    rw [if_neg (fun z => z.2 rfl)] at hbu
    have i3 := hI.2.2.1
    obtain ⟨Pl1, w1, w2⟩ := wrL (w := 27) (by decide) hI.2.2.2.2.1 (by omega)
    have hI1 := hI.wr w2 (by rw [List.length_append, h27]; omega)
    simp only [m_X4_lookAtEnum_88, lsy, len2]
    rw [if_pos (nI_le (by simp) (by omega)), i3, w1]
    simp only [Option.bind_some]
    rcases mbc hL hl hv hc (w := 28) (by decide) with ⟨e, em⟩ | ⟨v, kp, c, b, e, em, z1, z2, z3, z4, z5, z6⟩
    · rw [e, em]
      simp only [Option.bind_some, m_X4_lookAtEnumDefault, if_true, or_true]
      exact ⟨_, _, _, _, _, rfl, hI1⟩
    · rw [e, em]
      have hzb := z1.base
      simp only [Option.bind_some, m_X4_lookAtEnumDefault, if_neg (nI_m1 (show v < 2 ^ 31 by omega)), iss_eq hL (show v < 4096 by omega), m_X4_lookAtEnumDefault_34, m_X4_refuse, true_or, if_true]
      by_cases c34 : cb T L v = 34
      · obtain ⟨s0, y1, y2, y3, y4, y5, y6⟩ := z1.str c34
        rw [if_pos c34, if_neg (show ¬ (1 : Int32) = 0 by decide), hsy_c hI1 hs h9 hm y3, y2]
        simp only [Option.bind_some]
        by_cases hin : s0 ∈ n_sy (G s)
        · obtain ⟨Ed', he⟩ := ste_eq (Ed := Ed) (s := s) (by have := hI.2.1; omega)
          rw [dec_t hin, dec_t ⟨c34, hin⟩, if_pos (show true = true from rfl), if_pos (show true = true from rfl), if_neg (show ¬ (1 : Int32) = 0 by decide), he]
          simp only [Option.bind_some, or_true, if_true]
          exact ⟨_, _, _, _, _, rfl, hI1⟩
        · rw [dec_f hin, dec_f (fun z => hin z.2), if_neg (show ¬ (false = true) by decide), if_neg (show ¬ (false = true) by decide), if_pos (show (0 : Int32) = 0 from rfl)]
          simp only [Option.bind_some, true_or, if_true]
          exact ⟨_, rfl⟩
      · rw [if_neg c34, if_pos (show (0 : Int32) = 0 from rfl), dec_f (fun z => c34 z.1), if_neg (show ¬ (false = true) by decide)]
        simp only [Option.bind_some, true_or, if_true]
        exact ⟨_, rfl⟩
  | cons v t ih =>
    intro fuel i lo hi hcp hr Pl Fi Ac Ed lc k sh kc pl D fi G hfu hi32 hI hs hm h9 hsy hse hlc hhi hbu
    obtain ⟨fu, rfl⟩ : ∃ z, fuel = z + 1 := ⟨fuel - 1, by omega⟩
    rw [List.length_cons] at hfu hi32
    obtain ⟨c, b, c1, c2, c3, c4, c5, c6⟩ := hlc
    have hb := c4.base
    have i2 := hI.2.1
    simp only [m_X4_lookAtEnum_88, lsy]
    rw [if_neg (nI_ge (show i < i + (v :: t).length by rw [List.length_cons]; omega) (by rw [List.length_cons]; omega)), c2]
    by_cases c34 : cb T L v.2 = 34
    rotate_left
    · rw [snm_no hL (by omega) c34, dec_f (fun z => c34 z.1), if_neg (show ¬ (false = true) by decide)]
      simp only [Option.bind_some, if_true, m_X4_lookAtEnum_124, m_X4_refuse, true_or, len2]
      exact ⟨_, rfl⟩
    obtain ⟨s0, y1, y2, y3, y4, y5, y6⟩ := c4.str c34
    rw [y2]
    rcases snm_eq hL c34 y3 with ⟨n1, n2⟩ | ⟨n1, n2⟩
    rotate_left
    · rw [n2, dec_f (fun z => n1 z.2.1), if_neg (show ¬ (false = true) by decide)]
      simp only [Option.bind_some, if_true, m_X4_lookAtEnum_124, m_X4_refuse, true_or, len2]
      exact ⟨_, rfl⟩
    rw [n2]
    simp only [Option.bind_some, if_neg (show ¬ (1 : Int32) = 0 by decide)]
    rw [hsy_c hI hs h9 hm y3]
    simp only [Option.bind_some]
    by_cases hin : s0 ∈ n_sy (G s)
    · rw [dec_t hin, dec_f (fun z => z.2.2 hin), if_pos (show true = true from rfl), if_neg (show ¬ (false = true) by decide), if_neg (show ¬ (1 : Int32) = 0 by decide)]
      simp only [m_X4_lookAtEnum_124, m_X4_refuse, Option.bind_some, true_or, if_true, len2]
      exact ⟨_, rfl⟩
    rw [dec_f hin, dec_t ⟨c34, n1, hin⟩, if_neg (show ¬ (false = true) by decide), if_pos (show true = true from rfl), if_pos (show (0 : Int32) = 0 from rfl)]
    have hlen2 : (pl ++ ((if n_sy (G s) = [] then [] else [44]) ++ qt s0)).length + (if n_sy (G s) = [] then 1 else 0) = pl.length + 1 + (s0.length + 2) := by
      rw [List.length_append, List.length_append, qt_len]
      by_cases e0 : n_sy (G s) = []
      · rw [if_pos e0, if_pos e0, List.length_nil]; omega
      · rw [if_neg e0, if_neg e0, List.length_singleton]; omega
    have hbu1 : pl.length + 1 + (hi - lo) + 1 ≤ 4096 + (if n_sy (G s) = [] then 1 else 0) := by
      by_cases e0 : n_sy (G s) = []
      · rw [if_pos ⟨e0, by simp⟩] at hbu; rw [if_pos e0]; omega
      · rw [if_neg (fun z => e0 z.1)] at hbu; rw [if_neg e0]; omega
    obtain ⟨Pl1, Fi1, Ac1, lc1, a1, a2, a3⟩ := asy_c hI hs h9 hm y3 n1 y6 (by omega) hse (by omega)
    rw [a1]
    simp only [Option.bind_some, m_X7_next]
    rw [ent_eq (n := 4096) (by decide) (show v.2 < 4096 by omega)]
    simp only [Option.bind_some, nI_1]
    have esy : n_sy (upG G s (syN (G s) s0 kc) s) = n_sy (G s) ++ [s0] := by rw [upG_s]; rfl
    have fin := ih fu (i + 1) _ hi (Nx v.2) (X c) Pl1 Fi1 Ac1 Ed lc1 k sh (kc + 1) _ D fi _ (by omega) (by omega) a2 hs (by rw [upG_s]; exact hm) (by rw [upG_s]; exact h9) (by rw [esy, List.length_append, List.length_singleton]; omega) (by rw [esy]; exact a3) c6 hhi (by
      rw [if_neg (show ¬ (n_sy (upG G s (syN (G s) s0 kc) s) = [] ∧ t ≠ []) from fun z => absurd z.1 (by rw [esy]; simp))]
      omega)
    rw [List.length_cons, show i + (t.length + 1) = i + 1 + t.length by omega]
    exact fin
theorem c_enu (hL : L ≤ 4096) (hl : l ≤ 4200) (lf lp : Int32) {s n p q : Nat} {Ed : Nat → Int32} {Pl Ki Me Fi Ne Na Fn Ac : Nat → Int32} {lc sc : Int32} {Cf Cs : Nat → Int32} {cc : Int32} {k sh kc : Nat} {pl : List Nat} {D : List Nat → Option Nat} {fi : List (Nat × Nat × Option Nat)} {G : Nat → Nod} (hI : CI Pl Ki Me Fi Ne Na Fn Ac lc sc Cf Cs cc (k, sh, kc, pl, D, fi, G)) (hs : s < k) (hG : ∃ sg, G s = mkN 9 s sg 0 [] []) (hv : VV T L Sd In Nx Am K F N S I X Lt l n p q) (hc : cb T L p = 123) (hb : ∀ v kp c b, (kp, v) ∈ prt T L p → VV T L Sd In Nx Am K F N S I X Lt l c v b → ts T L kp = litN 25 → p < kp → kp + 10 ≤ v → b < q → pl.length + 12 + (b - v) ≤ 4096) :
    CE lf lp (m_X4_lookAtEnum lf lp T Sd In Nx Am (nI L) Pl Me Fi Ac Ed lc (nI s) (nI p)) Ki Me Ne Na Fn sc Cf Cs cc (len T L s p (k, sh, kc, pl, D, fi, G)) := by
  have hp := hv.base
  have h25 : (litN 25).length = 7 := by decide
  have h26 : (litN 26).length = 12 := by decide
  obtain ⟨sg, hG⟩ := hG
  rw [len_2]
  simp only [wrt]
  unfold m_X4_lookAtEnum
  rcases mbc hL hl hv hc (w := 25) (by decide) with ⟨e, em⟩ | ⟨v, kp, c, b, e, em, z1, z2, z3, z4, z5, z6⟩
  · rw [e, em]
    simp only [Option.bind_some, if_true, m_X4_refuse, true_or]
    exact ⟨_, rfl⟩
  rw [e, em]
  have hzb := z1.base
  simp only [Option.bind_some, if_neg (nI_m1 (show v < 2 ^ 31 by omega)), m_X7_amount, ent_eq (n := 4096) (by decide) (show v < 4096 by omega), isl_eq hL (show v < 4096 by omega), m_X4_lookAtEnum_58, m_X4_refuse, true_or, if_true]
  by_cases c91 : cb T L v = 91
  rotate_left
  · rw [if_neg c91, if_pos rfl, if_neg (fun z => c91 z.1)]
    exact ⟨_, rfl⟩
  obtain ⟨a1, a2, a3, a4⟩ := z1.lst c91
  have htwo := z1.two (Or.inl c91)
  rw [if_pos c91, if_neg (show ¬ (1 : Int32) = 0 by decide), a1]
  by_cases x1 : 1 ≤ (prt T L v).length
  rotate_left
  · rw [if_pos (show nI (prt T L v).length < 1 from nI_lt (b := 1) (by omega) (by decide)), if_neg (fun z => x1 z.2.1)]
    exact ⟨_, rfl⟩
  rw [if_neg (show ¬ nI (prt T L v).length < 1 from Int32.not_lt.mpr (nI_le (a := 1) x1 (by omega)))]
  by_cases x2 : (prt T L v).length ≤ 32
  rotate_left
  · rw [if_neg (show ¬ nI (prt T L v).length ≤ 32 from nI_ge (a := 32) (b := (prt T L v).length) (by omega) (by omega)), if_neg (fun z => x2 z.2.2)]
    exact ⟨_, rfl⟩
  rw [if_pos (show nI (prt T L v).length ≤ 32 from nI_le (b := 32) x2 (by decide)), if_pos ⟨c91, x1, x2⟩]
  have hbb := hb v kp c b z5 z1 z6 z2 (by omega) z4
  have i3 := hI.2.2.1
  obtain ⟨Pl1, w1, w2⟩ := wrL (w := 26) (by decide) hI.2.2.2.2.1 (by omega)
  have hI1 := hI.wr w2 (by rw [List.length_append, h26]; omega)
  rw [i3, w1]
  simp only [Option.bind_some, m_X7_inner]
  rw [ent_eq (n := 4096) (by decide) (show v < 4096 by omega)]
  simp only [Option.bind_some]
  have esy : n_sy (G s) = [] := by rw [hG]; rfl
  have fin := c_enu_go hL hl lf lp hv hc (prt T L v) sr_fuel 0 _ _ _ _ Pl1 Fi Ac Ed _ k sh kc _ D fi G (by unfold sr_fuel; omega) (by omega) hI1 hs (by rw [hG]; rfl) (by rw [hG]; rfl) (by rw [esy]; rfl) (fun x hx => by rw [esy] at hx; exact absurd rfl hx) a4 (by omega) (by
    rw [if_pos ⟨esy, fun z => by rw [z] at x1; simp at x1⟩, List.length_append, h26]
    omega)
  rw [Nat.zero_add, nI_0] at fin
  exact fin
end CENU
end
section
-- the class's look at fields and records
theorem bF {α : Type} {a b : α} : (if false = true then a else b) = b := if_neg (by decide)
theorem bT {α : Type} {a b : α} : (if true = true then a else b) = a := if_pos rfl
theorem I10 {α : Type} {a b : α} : (if (1 : Int32) = 0 then a else b) = b := if_neg (by decide)
theorem I00 {α : Type} {a b : α} : (if (0 : Int32) = 0 then a else b) = a := if_pos rfl
section CREC
variable {T : Nat → Int32} {L : Nat} {Sd In Nx Am K F S I X Lt : Nat → Int32} {N : Nat → Int64} {l : Nat}
/-- a field, before it is joined to the others -/
noncomputable def lfd0 (T : Nat → Int32) (L : Nat) (f : Nat → Bool → LSt → LRs) (s p : Nat) : LSt → LRs
  | (sc, sh, kc, pl, D, fi, G) => if cb T L p = 123 then
      (match mbr T L p (litN 20) with
      | none => .inl (8, p)
      | some n => if cb T L n = 34 then
          (if dec (isNm (ts T L n) ∧ ∀ c, c ∈ n_ch (G s) → n_fn (G c) ≠ ts T L n) = true then
            (match mbr T L p (litN 15) with
            | none => .inl (8, p)
            | some t => match f t false (sc, sh, kc + 1, pl ++ (litN 21 ++ (qt (ts T L n) ++ litN 31)), D, fi, upG G s (klN (G s) kc)) with
              | .inl e => .inl e
              | .inr (sc', sh', kc', pl', D', fi', G') => .inr (sc', sh', kc', pl' ++ [125], D', fi' ++ [(kc, sc, mbr T L p (litN 28))], upG G' sc (fnN (G' sc) (ts T L n))))
          else .inl (9, n))
        else .inl (8, p))
    else .inl (11, p)
def jonR (s c : Nat) : LRs → LRs
  | .inl e => .inl e
  | .inr st => .inr (jon s c st)
theorem lfd_0 {f : Nat → Bool → LSt → LRs} {s p i : Nat} {st : LSt} : lfd T L f s p i st = jonR s st.1 (lfd0 T L f s p (wrt (if i = 0 then [] else [44]) st)) := by
  obtain ⟨sc, sh, kc, pl, D, fi, G⟩ := st
  show lfd T L f s p i (sc, sh, kc, pl, D, fi, G) = jonR s sc (lfd0 T L f s p (sc, sh, kc, pl ++ (if i = 0 then [] else [44]), D, fi, G))
  simp only [lfd, lfd0]
  by_cases c1 : cb T L p = 123
  · rw [if_pos c1, if_pos c1]
    cases mbr T L p (litN 20) with
    | none => rfl
    | some n =>
      simp only
      by_cases c2 : cb T L n = 34
      · rw [if_pos c2, if_pos c2]
        by_cases hd : isNm (ts T L n) ∧ ∀ c, c ∈ n_ch (G s) → n_fn (G c) ≠ ts T L n
        · rw [dec_t hd, bT, bT]
          cases mbr T L p (litN 15) with
          | none => rfl
          | some t =>
            simp only [List.append_assoc]
            cases f t false (sc, sh, kc + 1, pl ++ ((if i = 0 then [] else [44]) ++ (litN 21 ++ (qt (ts T L n) ++ litN 31))), D, fi, upG G s (klN (G s) kc)) with
            | inl e => rfl
            | inr st' => rfl
        · rw [dec_f hd, bF, bF]; rfl
      · rw [if_neg c2, if_neg c2]; rfl
  · rw [if_neg c1, if_neg c1]; rfl
theorem hfd_c {Pl Ki Me Fi Ne Na Fn Ac : Nat → Int32} {lc sc : Int32} {Cf Cs : Nat → Int32} {cc : Int32} {k sh kc : Nat} {pl : List Nat} {D : List Nat → Option Nat} {fi : List (Nat × Nat × Option Nat)} {G : Nat → Nod} (hI : CI Pl Ki Me Fi Ne Na Fn Ac lc sc Cf Cs cc (k, sh, kc, pl, D, fi, G)) {s p : Nat} {t : List Nat} (hs : s < k) (h9 : n_kd (G s) = 10) (hm : n_me (G s) = s) (ht : SAID Sd Am p t) : m_X6_hasField Pl Me Fi Ne Fn Ac lc Sd Am (nI s) (nI p) = some (if dec (∀ c, c ∈ n_ch (G s) → n_fn (G c) ≠ t) = true then 0 else 1) := by
  obtain ⟨i1, i2, i3, i4, i5, i6, i7, i8, i9⟩ := hI
  obtain ⟨s1, s2, s3, s4⟩ := i7 s hs
  obtain ⟨t1, t2, t3, t4⟩ := s4 hm
  obtain ⟨u1, u2, u3, u4⟩ := t2 (by omega) (by omega)
  rw [hm] at s1
  rw [i3]
  rcases hfd_eq (Pl := Pl) (lc := pl.length) (show s < 128 by omega) s1 u2 (by omega) (u1.keep2 (hi' := 128) (fun j hj => by have : (n_ch (G s)).getD j 0 < k := (u1.1 j hj).1; omega) (fun _ _ => rfl)) (nm := fun j => n_fn (G ((n_ch (G s)).getD j 0))) (fun j hj => by
    obtain ⟨a, x1, x2⟩ := (u4 _ (ch_mem hj)).2.2 h9
    exact ⟨a, x1, x2.pn i5 i4⟩) ht with ⟨⟨i, j1, j2⟩, b⟩ | ⟨a, b⟩
  · rw [b, dec_f (fun z => z _ (ch_mem j1) j2), bF]
  · rw [b, dec_t (fun c hc e => by
      obtain ⟨j, hj, ej⟩ := mem_ch hc
      exact a ⟨j, hj, by show n_fn (G ((n_ch (G s)).getD j 0)) = t; rw [ej]; exact e⟩), bT]
theorem add_eq {Cf Cs : Nat → Int32} {n : Nat} {a b : Int32} (hn : n < 128) : m_X11_add Cf Cs (nI n) a b = some (upd Cf n a, upd Cs n b, nI (n + 1)) := by
  unfold m_X11_add m_X8_enter
  rw [if_neg (show ¬ (128 : Int32) ≤ nI n from nI_ge (b := 128) hn (by decide))]
  simp only [if_neg (nI_pos (show n < 2 ^ 31 by omega)), if_neg (show ¬ Int32.ofNat 128 ≤ nI n from nI_ge (b := 128) hn (by decide)), bd_go hn (by decide), bd_gc hn (by decide), nI_clamp (show n < 2 ^ 31 by omega), Option.bind_some, nI_1]
theorem dul_n {fi : List (Nat × Nat × Option Nat)} {a b : Nat} : dul (fi ++ [(a, b, none)]) = dul fi := by
  unfold dul
  rw [List.filterMap_append]
  simp
theorem dul_s {fi : List (Nat × Nat × Option Nat)} {a b v : Nat} : dul (fi ++ [(a, b, some v)]) = dul fi ++ [(b, v)] := by
  unfold dul
  rw [List.filterMap_append]
  simp
theorem DUI.add {Cf Cs : Nat → Int32} {fi : List (Nat × Nat × Option Nat)} {a b v : Nat} (h : DUI Cf Cs fi) : DUI (upd Cf (dul fi).length (nI b)) (upd Cs (dul fi).length (nI v)) (fi ++ [(a, b, some v)]) := by
  intro j hj
  rw [dul_s] at hj ⊢
  rw [List.length_append, List.length_singleton] at hj
  by_cases e : j = (dul fi).length
  · rw [e, pk_us, pk_us]
    simp [List.getD]
  · rw [pk_un e, pk_un e]
    have := h j (by omega)
    simp only [List.getD, List.getElem?_append_left (show j < (dul fi).length by omega)]
    exact this
/-- the answer for a field: with its name -/
def CXF (lf lp : Int32) (x : Option (Int32 × TL)) (k : Nat) : LRs → Prop
  | .inl e => ∃ u, x = some (-1, (nI e.1, (nI e.2, u)))
  | .inr st => ∃ Pl Ki Me Fi Ne Na Fn Ac Fd Ed lc sc Cf Cs cc, x = some (nI k, (lf, lp, Pl, Ki, Me, Fi, Ne, Na, Fn, Ac, Fd, Ed, lc, sc, Cf, Cs, cc)) ∧ CI Pl Ki Me Fi Ne Na Fn Ac lc sc Cf Cs cc st ∧ ∃ a, Fn k = nI a ∧ PNL st.2.2.2.1 a (n_fn (st.2.2.2.2.2.2 k))
theorem lfd0_p (hL : L ≤ 4096) (hl : l ≤ 4200) {g : Nat → Bool → LSt → LRs} (hg : okSp T L Sd In Nx Am K F N S I X Lt l g) {s n p q k sh kc : Nat} {pl : List Nat} {D : List Nat → Option Nat} {fi : List (Nat × Nat × Option Nat)} {G : Nat → Nod} {st' : LSt} (hw : WFs (k, sh, kc, pl, D, fi, G)) (hv : VV T L Sd In Nx Am K F N S I X Lt l n p q) (h : lfd0 T L g s p (k, sh, kc, pl, D, fi, G) = .inr st') : k < st'.1 ∧ (∀ i, i < k → st'.2.2.2.2.2.2 i = upG G s (klN (G s) kc) i) ∧ n_pa (st'.2.2.2.2.2.2 k) = 999 ∧ KD1 st'.2.2.2.2.2.2 k := by
  simp only [lfd0] at h
  by_cases c1 : cb T L p = 123
  rotate_left
  · rw [if_neg c1] at h; cases h
  rw [if_pos c1] at h
  cases e0 : mbr T L p (litN 20) with
  | none => rw [e0] at h; cases h
  | some n0 =>
  rw [e0] at h
  simp only at h
  by_cases c2 : cb T L n0 = 34
  rotate_left
  · rw [if_neg c2] at h; cases h
  rw [if_pos c2] at h
  cases hd : dec (isNm (ts T L n0) ∧ ∀ c, c ∈ n_ch (G s) → n_fn (G c) ≠ ts T L n0) with
  | false => rw [hd] at h; cases h
  | true =>
  rw [hd, bT] at h
  rcases mbc hL hl hv c1 (w := 15) (by decide) with ⟨e, _⟩ | ⟨v, kp, c, b, e, _, z1, z2, z3, z4, z5, z6⟩
  · rw [e] at h; cases h
  rw [e] at h
  simp only at h
  have hw1 : WFs (k, sh, kc + 1, pl ++ (litN 21 ++ (qt (ts T L n0) ++ litN 31)), D, fi, upG G s (klN (G s) kc)) := ⟨DOK.up (x := klN (G s) kc) hw.1 rfl rfl, hw.2⟩
  cases hr : g v false (k, sh, kc + 1, pl ++ (litN 21 ++ (qt (ts T L n0) ++ litN 31)), D, fi, upG G s (klN (G s) kc)) with
  | inl e => rw [hr] at h; cases h
  | inr st1 =>
    rw [hr] at h
    obtain ⟨fp, _⟩ := hg _ _ _ _ _ _ z1 hw1 hr
    obtain ⟨k1, sh1, kc1, pl1, D1, fi1, G1⟩ := st1
    have e := Sum.inr.inj h
    rw [← e]
    obtain ⟨a1, a2, a3, a4, a5, a6, a7, a8, a9, a10, a11, a12, a13⟩ := fp
    have eg : ∀ {β : Type} (f : Nod → β), (∀ x, f (fnN x (ts T L n0)) = f x) → ∀ i, f (upG G1 k (fnN (G1 k) (ts T L n0)) i) = f (G1 i) := fun f h1 i => by
      by_cases q : i = k
      · rw [q, upG_s]; exact h1 _
      · rw [upG_n q]
    refine ⟨a1, fun i hi => ?_, ?_, KD1.cg ⟨a12, a11.2⟩ (eg _ (fun _ => rfl)) (eg _ (fun _ => rfl))⟩
    · show upG G1 k (fnN (G1 k) (ts T L n0)) i = _
      rw [upG_n (by omega)]
      exact a5 i hi
    · exact (eg n_pa (fun _ => rfl) k).trans a10
theorem c_fld (hL : L ≤ 4096) (hl : l ≤ 4200) {f : FL} {g : Nat → Bool → LSt → LRs} {d : Nat} (hf : okCl T L Sd In Nx Am K F N S I X Lt l f (d + 1) g) (hg : okSp T L Sd In Nx Am K F N S I X Lt l g) (lf lp : Int32) {s n p q : Nat} {Fd Ed : Nat → Int32} {Pl Ki Me Fi Ne Na Fn Ac : Nat → Int32} {lc sc : Int32} {Cf Cs : Nat → Int32} {cc : Int32} {k sh kc : Nat} {pl : List Nat} {D : List Nat → Option Nat} {fi : List (Nat × Nat × Option Nat)} {G : Nat → Nod} (hI : CI Pl Ki Me Fi Ne Na Fn Ac lc sc Cf Cs cc (k, sh, kc, pl, D, fi, G)) (hs : s < k) (h10 : n_kd (G s) = 10) (hm : n_me (G s) = s) (hw : WFs (k, sh, kc, pl, D, fi, G)) (hv : VV T L Sd In Nx Am K F N S I X Lt l n p q) (hb : pl.length + (q - p) ≤ 4096) :
    CXF lf lp (m_X4_lookAtField f lf lp T Sd In Nx Am (nI L) Pl Ki Me Fi Ne Na Fn Ac Fd Ed lc sc Cf Cs cc (nI s) (nI p) (nI d)) k (lfd0 T L g s p (k, sh, kc, pl, D, fi, G)) := by
  have hp := hv.base
  have h20 : (litN 20).length = 4 := by decide
  have h15 : (litN 15).length = 4 := by decide
  have h21 : (litN 21).length = 8 := by decide
  have h31 : (litN 31).length = 8 := by decide
  unfold m_X4_lookAtField m_X4_isGoodField
  simp only [lfd0, iso_eq hL (show p < 4096 by omega), Option.bind_some, m_X4_refuse, true_or, if_true, m_X4_isGoodField_76]
  by_cases hc : cb T L p = 123
  rotate_left
  · simp only [if_neg hc, if_true, Option.bind_some]
    exact ⟨_, rfl⟩
  rw [if_pos hc, if_pos hc, I10]
  rcases mbc hL hl hv hc (w := 20) (by decide) with ⟨e, em⟩ | ⟨v0, kp0, c0, b0, e0, em0, x1, x2, x3, x4, x5, x6⟩
  · rw [e, em]
    simp only [Option.bind_some, iss_m1, if_true]
    exact ⟨_, rfl⟩
  rw [e0, em0]
  have hxb := x1.base
  simp only [Option.bind_some, iss_eq hL (show v0 < 4096 by omega)]
  by_cases c34 : cb T L v0 = 34
  rotate_left
  · simp only [if_neg c34, if_true, Option.bind_some]
    exact ⟨_, rfl⟩
  rw [if_pos c34, if_pos c34, I10]
  obtain ⟨s0, y1, y2, y3, y4, y5, y6⟩ := x1.str c34
  rw [y2]
  rcases snm_eq hL c34 y3 with ⟨n1, n2⟩ | ⟨n1, n2⟩
  rotate_left
  · rw [n2, dec_f (fun z => n1 z.1), bF]
    simp only [Option.bind_some, if_true]
    exact ⟨_, rfl⟩
  rw [n2]
  simp only [Option.bind_some, if_neg (show ¬ (1 : Int32) = 0 by decide)]
  rw [hfd_c hI hs h10 hm y3]
  simp only [Option.bind_some]
  by_cases hno : ∀ c, c ∈ n_ch (G s) → n_fn (G c) ≠ s0
  rotate_left
  · rw [dec_f hno, dec_f (fun z => hno z.2), bF, bF, I10]
    simp only [Option.bind_some, if_true]
    exact ⟨_, rfl⟩
  rw [dec_t hno, dec_t ⟨n1, hno⟩, bT, bT, I00]
  rcases mbc hL hl hv hc (w := 15) (by decide) with ⟨e, em⟩ | ⟨v, kp, c, b, e, em, z1, z2, z3, z4, z5, z6⟩
  · rw [e, em]
    simp only [Option.bind_some, if_true]
    exact ⟨_, rfl⟩
  rw [e, em]
  have hap := mb2 hv hc x5 z5 x1 z1 (by rw [x6, z6]; decide)
  have hzb := z1.base
  have i2 := hI.2.1
  have i3 := hI.2.2.1
  have i5 := hI.2.2.2.2.1
  simp only [Option.bind_some, if_neg (nI_m1 (show v < 2 ^ 31 by omega)), if_neg (show ¬ (1 : Int32) = 0 by decide)]
  obtain ⟨Pl1, w1, w2⟩ := wrL (w := 21) (by decide) i5 (by omega)
  have el1 : (pl ++ litN 21).length = pl.length + 8 := by rw [List.length_append, h21]
  obtain ⟨Pl2, w3, w4⟩ := wsL y3 y6 w2 (by omega)
  have el2 : (pl ++ litN 21 ++ qt s0).length = pl.length + 8 + (s0.length + 2) := by rw [List.length_append, el1, qt_len]
  obtain ⟨Pl3, w5, w6⟩ := wrL (w := 31) (by decide) w4 (by omega)
  have ea : pl ++ litN 21 ++ qt s0 ++ litN 31 = pl ++ (litN 21 ++ (qt s0 ++ litN 31)) := by rw [List.append_assoc, List.append_assoc]
  have el3 : (pl ++ (litN 21 ++ (qt s0 ++ litN 31))).length = pl.length + 18 + s0.length + 0 + 0 := by
    rw [← ea, List.length_append, el2, h31]
    omega
  rw [ea] at w5 w6
  rw [i3, w1]
  simp only [Option.bind_some]
  rw [w3]
  simp only [Option.bind_some]
  rw [w5]
  simp only [Option.bind_some, nI_1]
  have hI1 : CI Pl3 Ki Me Fi Ne Na Fn Ac (nI (pl ++ (litN 21 ++ (qt s0 ++ litN 31))).length) sc Cf Cs cc (k, sh, kc + 1, pl ++ (litN 21 ++ (qt s0 ++ litN 31)), D, fi, upG G s (klN (G s) kc)) := (hI.wr w6 (by omega)).kid
  have hw1 : WFs (k, sh, kc + 1, pl ++ (litN 21 ++ (qt s0 ++ litN 31)), D, fi, upG G s (klN (G s) kc)) := ⟨DOK.up (x := klN (G s) kc) hw.1 rfl rfl, hw.2⟩
  have hf1 := hf lf lp Pl3 Ki Me Fi Ne Na Fn Ac Fd Ed _ sc Cf Cs cc v false _ _ _ hI1 hw1 z1 (by
    show (pl ++ (litN 21 ++ (qt s0 ++ litN 31))).length + (b - v) ≤ 4096
    omega)
  rw [bF] at hf1
  cases hr : g v false (k, sh, kc + 1, pl ++ (litN 21 ++ (qt s0 ++ litN 31)), D, fi, upG G s (klN (G s) kc)) with
  | inl e =>
    rw [hr] at hf1
    obtain ⟨u, hu⟩ := hf1
    rw [hu]
    obtain ⟨u1, u2, u3, u4, u5, u6, u7, u8, u9, u10, u11, u12, u13, u14, u15⟩ := u
    simp only [Option.bind_some, if_true]
    exact ⟨_, rfl⟩
  | inr st1 =>
    rw [hr] at hf1
    obtain ⟨fp, fl⟩ := hg _ _ _ _ _ _ z1 hw1 hr
    obtain ⟨k1, sh1, kc1, pl1, D1, fi1, G1⟩ := st1
    obtain ⟨Pl4, Ki2, Me2, Fi2, Ne2, Na2, Fn2, Ac2, Fd2, Ed2, lc2, sc2, Cf2, Cs2, cc2, hu, hI2⟩ := hf1
    rw [hu]
    have fl : pl1.length ≤ (pl ++ (litN 21 ++ (qt s0 ++ litN 31))).length + (b - v) := fl
    obtain ⟨a1, a2, a3, ⟨tt, a4⟩, a5, a6, a7, a8, a9, a10, a11, a12, a13⟩ := fp
    have i22 := hI2.2.1
    have i23 := hI2.2.2.1
    simp only [Option.bind_some, if_neg (nI_m1 (show k < 2 ^ 31 by omega))]
    obtain ⟨Pl5, w7, w8⟩ := wbL (v := 125) (by decide) hI2.2.2.2.2.1 (by omega)
    have hI3 := hI2.wr w8 (by rw [List.length_append, List.length_singleton]; omega)
    rw [i23, show (125 : Int32) = nI 125 from rfl, w7]
    simp only [Option.bind_some]
    have hPN : PNL (pl1 ++ [125]) (pl.length + 8 + 1) s0 := by
      rw [a4]
      refine PNL.app (PNL.app ?_)
      have := PNL.new (pl := pl) (a := litN 21) (b := litN 31) n1
      rw [h21] at this
      exact this
    have hdl : (dul fi1).length < 128 := by
      have := hw.2
      omega
    have fin : ∀ (Fd' Cf' Cs' : Nat → Int32) (cc' : Int32) (o : Option Nat), cc' = nI (dul (fi1 ++ [(kc, k, o)])).length → DUI Cf' Cs' (fi1 ++ [(kc, k, o)]) → CI Pl5 Ki2 Me2 Fi2 Ne2 Na2 (upd Fn2 k (nI (pl.length + 8 + 1))) Ac2 (nI (pl1 ++ [125]).length) sc2 Cf' Cs' cc' (k1, sh1, kc1, pl1 ++ [125], D1, fi1 ++ [(kc, k, o)], upG G1 k (fnN (G1 k) s0)) ∧ ∃ a, upd Fn2 k (nI (pl.length + 8 + 1)) k = nI a ∧ PNL (pl1 ++ [125]) a (n_fn (upG G1 k (fnN (G1 k) s0) k)) := by
      intro Fd' Cf' Cs' cc' o h1 h2
      obtain ⟨j1, j2, j3, j4, j5, j6, j7, j8, j9⟩ := hI3
      exact ⟨⟨j1, j2, rfl, j4, j5, j6, j7.fld a1 a10 j2, h1, h2⟩, pl.length + 8 + 1, pk_us, by rw [upG_s]; exact hPN⟩
    have hcc := hI2.2.2.2.2.2.2.2.1
    have hDU := hI2.2.2.2.2.2.2.2.2
    rw [el1]
    have hfd := fun y => stf_eq (Fn := Fn2) (Fd := Fd2) (s := k) (v := nI (pl.length + 8 + 1)) (w := y) (by omega)
    rcases mbc hL hl hv hc (w := 28) (by decide) with ⟨e, em⟩ | ⟨dv, kp2, c2, b2, e, em, q1, q2, q3, q4, q5, q6⟩
    · obtain ⟨Fd', hF⟩ := hfd 0
      rw [e, em]
      simp only [Option.bind_some, if_true, m_X4_lookAtField_120]
      rw [hF]
      simp only [Option.bind_some, if_true]
      obtain ⟨g1, g2⟩ := fin Fd' Cf2 Cs2 cc2 none (by rw [dul_n]; exact hcc) (fun j hj => by rw [dul_n] at hj ⊢; exact hDU j hj)
      exact ⟨_, _, _, _, _, _, _, _, _, _, _, _, _, _, _, rfl, g1, g2⟩
    · obtain ⟨Fd', hF⟩ := hfd 1
      have hqb := q1.base
      rw [e, em]
      simp only [Option.bind_some, if_neg (nI_m1 (show dv < 2 ^ 31 by omega)), m_X4_lookAtField_120]
      rw [hF]
      simp only [Option.bind_some, if_neg (nI_m1 (show dv < 2 ^ 31 by omega))]
      rw [hcc, add_eq hdl]
      simp only [Option.bind_some]
      obtain ⟨g1, g2⟩ := fin Fd' _ _ (nI ((dul fi1).length + 1)) (some dv) (by rw [dul_s, List.length_append, List.length_singleton]) hDU.add
      exact ⟨_, _, _, _, _, _, _, _, _, _, _, _, _, _, _, rfl, g1, g2⟩
end CREC
end
section
-- the class's look at records, objects, values
section COBJ
variable {T : Nat → Int32} {L : Nat} {Sd In Nx Am K F S I X Lt : Nat → Int32} {N : Nat → Int64} {l : Nat}
theorem c_rec_go (hL : L ≤ 4096) (hl : l ≤ 4200) {f : FL} {g : Nat → Bool → LSt → LRs} {d : Nat} (hf : okCl T L Sd In Nx Am K F N S I X Lt l f (d + 1) g) (hg : okSp T L Sd In Nx Am K F N S I X Lt l g) (lf lp : Int32) {s : Nat} : ∀ (ks : List (Nat × Nat)) (fuel i lo hi : Nat) (hc hr : Int32) (Pl Ki Me Fi Ne Na Fn Ac Fd Ed : Nat → Int32) (lc sc : Int32) (Cf Cs : Nat → Int32) (cc : Int32) (k sh kc : Nat) (pl : List Nat) (D : List Nat → Option Nat) (fi : List (Nat × Nat × Option Nat)) (G : Nat → Nod), ks.length < fuel → i + ks.length ≤ 32 → CI Pl Ki Me Fi Ne Na Fn Ac lc sc Cf Cs cc (k, sh, kc, pl, D, fi, G) → WFs (k, sh, kc, pl, D, fi, G) → s < k → n_me (G s) = s → n_kd (G s) = 10 → (n_ch (G s)).length = i → LCH T L Sd In Nx Am K F N S I X Lt l ks lo hi hc hr → hi ≤ 4096 → (ks ≠ [] → pl.length + (hi - lo) + 2 ≤ 4096 + (if i = 0 then 1 else 0)) → (ks = [] → pl.length + 2 ≤ 4096) →
    CX lf lp (m_X4_lookAtRecord_91 f T Sd In Nx Am (nI L) fuel lf lp Pl Ki Me Fi Ne Na Fn Ac Fd Ed lc sc Cf Cs cc (nI s) (nI d) (nI (i + ks.length)) hc (if (n_ch (G s)).length = 0 then -1 else nI ((n_ch (G s)).getD ((n_ch (G s)).length - 1) 0)) (nI i)) 1 0 (lfs T L g s ks i (k, sh, kc, pl, D, fi, G)) := by
  intro ks
  have h27 : (litN 27).length = 2 := by decide
  induction ks with
  | nil =>
    intro fuel i lo hi hc hr Pl Ki Me Fi Ne Na Fn Ac Fd Ed lc sc Cf Cs cc k sh kc pl D fi G hfu hi16 hI hw hs hm hk hch hlc hhi hbu hbn
    obtain ⟨fu, rfl⟩ : ∃ z, fuel = z + 1 := ⟨fuel - 1, by omega⟩
    have i3 := hI.2.2.1
    have := hbn rfl
    obtain ⟨Pl', w1, w2⟩ := wrL (w := 27) (by decide) hI.2.2.2.2.1 (by omega)
    simp only [m_X4_lookAtRecord_91, lfs, wrt]
    rw [if_pos (nI_le (by simp) (by omega)), i3, w1]
    exact ⟨_, _, _, _, _, _, _, _, _, _, _, _, _, _, _, rfl, hI.wr w2 (by rw [List.length_append, h27]; omega)⟩
  | cons v t ih =>
    intro fuel i lo hi hc hr Pl Ki Me Fi Ne Na Fn Ac Fd Ed lc sc Cf Cs cc k sh kc pl D fi G hfu hi16 hI hw hs hm hk hch hlc hhi hbu hbn
    obtain ⟨fu, rfl⟩ : ∃ z, fuel = z + 1 := ⟨fuel - 1, by omega⟩
    rw [List.length_cons] at hfu hi16
    obtain ⟨c, b, c1, c2, c3, c4, c5, c6⟩ := hlc
    have hb := c4.base
    have i2 := hI.2.1
    have i3 := hI.2.2.1
    have hbu := hbu (by simp)
    have step : ∀ (Pl1 : Nat → Int32) (pl0 : List Nat), pl0 = pl ++ (if i = 0 then [] else [44]) → CI Pl1 Ki Me Fi Ne Na Fn Ac (nI pl0.length) sc Cf Cs cc (k, sh, kc, pl0, D, fi, G) → CX lf lp (m_X4_lookAtRecord_112 f T Sd In Nx Am (nI L) (m_X4_lookAtRecord_91 f T Sd In Nx Am (nI L) fu) lf lp Pl1 Ki Me Fi Ne Na Fn Ac Fd Ed (nI pl0.length) sc Cf Cs cc (nI s) (nI d) (nI (i + (v :: t).length)) hc (if (n_ch (G s)).length = 0 then -1 else nI ((n_ch (G s)).getD ((n_ch (G s)).length - 1) 0)) (nI i)) 1 0 (lfs T L g s (v :: t) i (k, sh, kc, pl, D, fi, G)) := by
      intro Pl1 pl0 hpl0 hI1
      have hl0 : pl0.length + (if i = 0 then 1 else 0) = pl.length + 1 := by
        rw [hpl0, List.length_append]
        by_cases e0 : i = 0
        · rw [if_pos e0, if_pos e0]; rfl
        · rw [if_neg e0, if_neg e0]; rfl
      have hw1 : WFs (k, sh, kc, pl0, D, fi, G) := hw
      have hf1 := c_fld hL hl hf hg lf lp (Fd := Fd) (Ed := Ed) hI1 hs hk hm hw1 c4 (by omega)
      simp only [m_X4_lookAtRecord_112, lfs, lfd_0]
      rw [c2]
      have e0 : wrt (if i = 0 then [] else [44]) (k, sh, kc, pl, D, fi, G) = (k, sh, kc, pl0, D, fi, G) := by rw [hpl0]; rfl
      rw [e0]
      cases hr1 : lfd0 T L g s v.2 (k, sh, kc, pl0, D, fi, G) with
      | inl e =>
        rw [hr1] at hf1
        obtain ⟨u, hu⟩ := hf1
        rw [hu]
        obtain ⟨u1, u2, u3, u4, u5, u6, u7, u8, u9, u10, u11, u12, u13, u14, u15⟩ := u
        simp only [Option.bind_some, if_true, jonR]
        exact ⟨_, rfl⟩
      | inr st1 =>
        rw [hr1] at hf1
        obtain ⟨p1, p2, p3, p4⟩ := lfd0_p hL hl hg hw1 c4 hr1
        have hfq := lfd_p hL hl hg hs hw c4 (st' := jon s k st1) (i := i) (by rw [lfd_0, e0, hr1]; rfl)
        obtain ⟨k1, sh1, kc1, pl1, D1, fi1, G1⟩ := st1
        obtain ⟨Pl2, Ki2, Me2, Fi2, Ne2, Na2, Fn2, Ac2, Fd2, Ed2, lc2, sc2, Cf2, Cs2, cc2, hu, hI2, hFn⟩ := hf1
        rw [hu]
        have i22 := hI2.2.1
        have p2 : ∀ i, i < k → G1 i = upG G s (klN (G s) kc) i := p2
        have eGs : G1 s = klN (G s) kc := by rw [p2 s hs, upG_s]
        have ech : n_ch (G1 s) = n_ch (G s) := by rw [eGs]; rfl
        have hms : n_me (G1 s) = s := by rw [eGs]; exact hm
        have hks : n_kd (G1 s) = 10 := by rw [eGs]; exact hk
        have hlt : ∀ x, x ∈ n_ch (G1 s) → x < k := fun x hx => by
          rw [ech] at hx
          exact (hI.lt hs hm (by omega) (by omega) hx).2.1
        simp only [Option.bind_some, if_neg (nI_m1 (show k < 2 ^ 31 by omega))]
        rw [← ech, joi_eq (show s < 128 by omega) (fun x hx => by have := hlt x hx; omega)]
        simp only [Option.bind_some, m_X7_next]
        rw [ent_eq (n := 4096) (by decide) (show v.2 < 4096 by omega)]
        simp only [Option.bind_some, nI_1, jonR]
        have hlen : (n_ch (G1 s)).length = i := by rw [ech]; exact hch
        have hIj := hI2.jon (s := s) (c := k) hs p1 hms (by omega) (by omega) p3 hlt (by omega) (fun _ => hFn)
        obtain ⟨j1, j2⟩ := jon_kd (s := s) (c := k) (G := G1)
        have ecs : n_ch (upG (upG G1 s (chN (G1 s) k)) k (paN (G1 k) s) s) = n_ch (G1 s) ++ [k] := by
          rw [upG_n (show s ≠ k by omega), upG_s]
          rfl
        have hlast : (if (n_ch (G1 s) ++ [k]).length = 0 then (-1 : Int32) else nI ((n_ch (G1 s) ++ [k]).getD ((n_ch (G1 s) ++ [k]).length - 1) 0)) = nI k := by
          rw [List.length_append, List.length_singleton, if_neg (by omega), Nat.add_sub_cancel, show (n_ch (G1 s) ++ [k]).getD (n_ch (G1 s)).length 0 = k from (congrFun snc_app.symm _).trans snc_s]
        have hpl1 : pl1.length ≤ pl.length + (b - v.2) + (if i = 0 then 0 else 1) := hfq.2
        have hpl2 : (if i = 0 then 0 else 1) + (if i = 0 then 1 else 0) = 1 := by
          by_cases e0 : i = 0
          · rw [if_pos e0, if_pos e0]
          · rw [if_neg e0, if_neg e0]
        have fin := ih fu (i + 1) _ hi (Nx v.2) (X c) Pl2 Ki2 Me2 _ _ Na2 Fn2 _ Fd2 Ed2 lc2 sc2 Cf2 Cs2 cc2 k1 sh1 kc1 pl1 D1 fi1 _ (by omega) (by omega) hIj (hfq.1.wf hw) (by have : k < k1 := p1; omega) ((j2 s).trans hms) ((j1 s).trans hks) (by rw [ecs, List.length_append, List.length_singleton]; omega) c6 hhi (fun _ => by
          rw [if_neg (show ¬ i + 1 = 0 by omega)]
          omega) (fun _ => by omega)
        rw [ecs, hlast] at fin
        rw [List.length_cons, show i + (t.length + 1) = i + 1 + t.length by omega]
        exact fin
    simp only [m_X4_lookAtRecord_91]
    rw [if_neg (nI_ge (show i < i + (v :: t).length by rw [List.length_cons]; omega) (by rw [List.length_cons]; omega))]
    by_cases e0 : i = 0
    · rw [if_pos (show nI i ≤ 0 by rw [e0]; decide), i3]
      refine step Pl pl (by rw [if_pos e0, List.append_nil]) ?_
      rw [i3] at hI
      exact hI
    · rw [if_neg (show ¬ nI i ≤ 0 from nI_ge (a := 0) (by omega) (by omega))]
      rw [if_neg e0] at hbu
      obtain ⟨Pl1, w1, w2⟩ := wbL (v := 44) (by decide) hI.2.2.2.2.1 (by omega)
      rw [i3, show (44 : Int32) = nI 44 from rfl, w1]
      simp only [Option.bind_some]
      exact step Pl1 _ (by rw [if_neg e0]) (hI.wr w2 (by rw [List.length_append, List.length_singleton]; omega))
theorem c_rec (hL : L ≤ 4096) (hl : l ≤ 4200) {f : FL} {g : Nat → Bool → LSt → LRs} {d : Nat} (hf : okCl T L Sd In Nx Am K F N S I X Lt l f (d + 1) g) (hg : okSp T L Sd In Nx Am K F N S I X Lt l g) (lf lp : Int32) {s n p q : Nat} {Fd Ed : Nat → Int32} {Pl Ki Me Fi Ne Na Fn Ac : Nat → Int32} {lc sc : Int32} {Cf Cs : Nat → Int32} {cc : Int32} {k sh kc : Nat} {pl : List Nat} {D : List Nat → Option Nat} {fi : List (Nat × Nat × Option Nat)} {G : Nat → Nod} (hI : CI Pl Ki Me Fi Ne Na Fn Ac lc sc Cf Cs cc (k, sh, kc, pl, D, fi, G)) (hw : WFs (k, sh, kc, pl, D, fi, G)) (hs : s < k) (hG : ∃ sg, G s = mkN 10 s sg 0 [] []) (hv : VV T L Sd In Nx Am K F N S I X Lt l n p q) (hc : cb T L p = 123) (hb : ∀ v kp c b, (kp, v) ∈ prt T L p → VV T L Sd In Nx Am K F N S I X Lt l c v b → ts T L kp = litN 29 → p < kp → kp + 9 ≤ v → b < q → pl.length + 11 + (b - v) ≤ 4096) :
    CX lf lp (m_X4_lookAtRecord f lf lp T Sd In Nx Am (nI L) Pl Ki Me Fi Ne Na Fn Ac Fd Ed lc sc Cf Cs cc (nI s) (nI p) (nI d)) 1 0 (lrc T L g s p (k, sh, kc, pl, D, fi, G)) := by
  have hp := hv.base
  have h29 : (litN 29).length = 6 := by decide
  have h30 : (litN 30).length = 11 := by decide
  obtain ⟨sg, hG⟩ := hG
  simp only [lrc, wrt]
  unfold m_X4_lookAtRecord
  rcases mbc hL hl hv hc (w := 29) (by decide) with ⟨e, em⟩ | ⟨v, kp, c, b, e, em, z1, z2, z3, z4, z5, z6⟩
  · rw [e, em]
    simp only [Option.bind_some, if_true, m_X4_refuse, true_or]
    exact ⟨_, rfl⟩
  rw [e, em]
  have hzb := z1.base
  simp only [Option.bind_some, if_neg (nI_m1 (show v < 2 ^ 31 by omega)), m_X7_amount, ent_eq (n := 4096) (by decide) (show v < 4096 by omega), isl_eq hL (show v < 4096 by omega), m_X4_lookAtRecord_56, m_X4_refuse, true_or, if_true]
  by_cases c91 : cb T L v = 91
  rotate_left
  · rw [if_neg c91, I00, if_neg (fun z => c91 z.1)]
    exact ⟨_, rfl⟩
  obtain ⟨a1, a2, a3, a4⟩ := z1.lst c91
  have htwo := z1.two (Or.inl c91)
  rw [if_pos c91, I10, a1]
  by_cases x2 : (prt T L v).length ≤ 32
  rotate_left
  · rw [if_neg (show ¬ nI (prt T L v).length ≤ 32 from nI_ge (a := 32) (b := (prt T L v).length) (by omega) (by omega)), if_neg (fun z => x2 z.2)]
    exact ⟨_, rfl⟩
  rw [if_pos (show nI (prt T L v).length ≤ 32 from nI_le (b := 32) x2 (by decide)), if_pos ⟨c91, x2⟩]
  have hbb := hb v kp c b z5 z1 z6 z2 (by omega) z4
  have i3 := hI.2.2.1
  obtain ⟨Pl1, w1, w2⟩ := wrL (w := 30) (by decide) hI.2.2.2.2.1 (by omega)
  have hI1 := hI.wr w2 (by rw [List.length_append, h30]; omega)
  rw [i3, w1]
  simp only [Option.bind_some, m_X7_inner]
  rw [ent_eq (n := 4096) (by decide) (show v < 4096 by omega)]
  simp only [Option.bind_some]
  have ech : n_ch (G s) = [] := by rw [hG]; rfl
  have fin := c_rec_go hL hl hf hg lf lp (s := s) (prt T L v) sr_fuel 0 _ _ _ _ Pl1 Ki Me Fi Ne Na Fn Ac Fd Ed _ sc Cf Cs cc k sh kc _ D fi G (by unfold sr_fuel; omega) (by omega) hI1 hw hs (by rw [hG]; rfl) (by rw [hG]; rfl) (by rw [ech]; rfl) a4 (by omega) (fun _ => by
    rw [if_pos rfl, List.length_append, h30]
    omega) (fun _ => by rw [List.length_append, h30]; omega)
  rw [Nat.zero_add, nI_0, ech] at fin
  exact fin
end COBJ
end
section
-- the class's look at definitions, objects, values
section CLOOK
variable {T : Nat → Int32} {L : Nat} {Sd In Nx Am K F S I X Lt : Nat → Int32} {N : Nat → Int64} {l : Nat}
/-- the state behind a definition's name and type -/
def dfS (w : List Nat) (s kk k sh kc : Nat) (pl : List Nat) (D : List Nat → Option Nat) (fi : List (Nat × Nat × Option Nat)) (G : Nat → Nod) : LSt := (k, sh + 1, kc, pl ++ (litN 21 ++ (qt w ++ (litN 22 ++ (litN (3 + kk) ++ [34])))), (fun u => if u = w then some s else D u), fi, upG G s (mkN kk s sh 0 [] []))
theorem c_def (hL : L ≤ 4096) (hl : l ≤ 4200) (lf lp : Int32) {g : Nat → Bool → LSt → LRs} {s n p q kk : Nat} (hkk : kk = 8 ∨ kk = 9 ∨ kk = 10) {Pl Ki Me Fi Ne Na Fn Ac : Nat → Int32} {lc sc : Int32} {Cf Cs : Nat → Int32} {cc : Int32} {k sh kc : Nat} {pl : List Nat} {D : List Nat → Option Nat} {fi : List (Nat × Nat × Option Nat)} {G : Nat → Nod} (hI : CI Pl Ki Me Fi Ne Na Fn Ac lc sc Cf Cs cc (k, sh, kc, pl, D, fi, G)) (hs : s + 1 = k) (hG : G s = mkN 12 s 0 0 [] []) (hD : ∀ w d, D w = some d → d < s) (hv : VV T L Sd In Nx Am K F N S I X Lt l n p q) (hc : cb T L p = 123) (hb : ∀ v kp c b, (kp, v) ∈ prt T L p → VV T L Sd In Nx Am K F N S I X Lt l c v b → ts T L kp = litN 20 → p < kp → kp + 7 ≤ v → b < q → pl.length + 18 + (litN (3 + kk)).length + (b - v) ≤ 4096) :
    (∃ e, ldf T L g s p kk (k, sh, kc, pl, D, fi, G) = .inl e ∧ ∃ u, m_X4_define lf lp T Sd In Nx Am (nI L) Pl Ki Na lc sc (nI s) (nI p) (nI kk) = some (0, (nI e.1, nI e.2, u))) ∨ (∃ v kp c b Pl' Ki' Na' lc', mbr T L p (litN 20) = some v ∧ (kp, v) ∈ prt T L p ∧ VV T L Sd In Nx Am K F N S I X Lt l c v b ∧ ts T L kp = litN 20 ∧ p < kp ∧ kp + 7 ≤ v ∧ b < q ∧ v + (ts T L v).length + 2 ≤ b ∧ D (ts T L v) = none ∧ isNm (ts T L v) ∧ kw (ts T L v) = -1 ∧ cb T L v = 34 ∧ m_X4_define lf lp T Sd In Nx Am (nI L) Pl Ki Na lc sc (nI s) (nI p) (nI kk) = some (1, (lf, lp, Pl', Ki', Na', lc')) ∧ CI Pl' Ki' Me Fi Ne Na' Fn Ac lc' sc Cf Cs cc (dfS (ts T L v) s kk k sh kc pl D fi G)) := by
  have hp := hv.base
  have h20 : (litN 20).length = 4 := by decide
  have h21 : (litN 21).length = 8 := by decide
  have h22 : (litN 22).length = 9 := by decide
  unfold m_X4_define
  simp only [ldf, m_X4_define_74, m_X4_refuse, Option.bind_some, true_or, if_true]
  rcases mbc hL hl hv hc (w := 20) (by decide) with ⟨e, em⟩ | ⟨v, kp, c, b, e, em, z1, z2, z3, z4, z5, z6⟩
  · rw [e, em]
    simp only [Option.bind_some, iss_m1, if_true]
    exact Or.inl ⟨_, rfl, _, rfl⟩
  rw [e, em]
  have hzb := z1.base
  simp only [Option.bind_some, iss_eq hL (show v < 4096 by omega)]
  by_cases c34 : cb T L v = 34
  rotate_left
  · rw [if_neg c34, if_neg c34, I00]
    exact Or.inl ⟨_, rfl, _, rfl⟩
  rw [if_pos c34, if_pos c34, I10]
  obtain ⟨s0, y1, y2, y3, y4, y5, y6⟩ := z1.str c34
  rw [y2]
  obtain ⟨i1, i2, i3, i4, i5, i6, i7, i8, i9⟩ := hI
  subst i1
  subst i3
  have hdf := dfn_c (Sd := Sd) (Am := Am) i2 i5 i4 i6 y3
  rcases snm_eq hL c34 y3 with ⟨n1, n2⟩ | ⟨n1, n2⟩
  rotate_left
  · rw [n2, dec_f (fun z => n1 z.1), bF]
    simp only [Option.bind_some, if_true]
    exact Or.inl ⟨_, rfl, _, rfl⟩
  rw [n2, ksaid_eq hL c34 y3, hdf]
  simp only [Option.bind_some, if_neg (show ¬ (1 : Int32) = 0 by decide)]
  by_cases ck : kw s0 = -1
  rotate_left
  · rw [if_neg ck, dec_f (fun z => ck z.2.1), bF]
    exact Or.inl ⟨_, rfl, _, rfl⟩
  rw [if_pos ck]
  cases hd : D s0 with
  | some d0 =>
    have := hD s0 d0 hd
    simp only
    rw [if_neg (nI_m1 (show d0 < 2 ^ 31 by omega)), dec_f (fun z => by have := z.2.2; cases this), bF]
    exact Or.inl ⟨_, rfl, _, rfl⟩
  | none =>
    dsimp only
    rw [if_pos (show (-1 : Int32) = -1 from rfl), dec_t (show isNm s0 ∧ kw s0 = -1 ∧ (none : Option Nat) = none from ⟨n1, ck, rfl⟩), bT]
    have hbb := hb v kp c b z5 z1 z6 z2 (by omega) z4
    rw [stk_eq (show s < 128 by omega)]
    obtain ⟨Pl1, w1, w2⟩ := wrL (w := 21) (by decide) i5 (by omega)
    have el1 : (pl ++ litN 21).length = pl.length + 8 := by rw [List.length_append, h21]
    obtain ⟨Pl2, w3, w4⟩ := wsL y3 y6 w2 (by omega)
    have el2 : (pl ++ litN 21 ++ qt s0).length = pl.length + 8 + (s0.length + 2) := by rw [List.length_append, el1, qt_len]
    obtain ⟨Pl3, w5, w6⟩ := wrL (w := 22) (by decide) w4 (by omega)
    have el3 : (pl ++ litN 21 ++ qt s0 ++ litN 22).length = pl.length + 8 + (s0.length + 2) + 9 := by rw [List.length_append, el2, h22]
    obtain ⟨Pl4, w7, w8⟩ := wrL (w := 3 + kk) (by omega) w6 (by omega)
    have el4 : (pl ++ litN 21 ++ qt s0 ++ litN 22 ++ litN (3 + kk)).length = pl.length + 8 + (s0.length + 2) + 9 + (litN (3 + kk)).length := by rw [List.length_append, el3]
    obtain ⟨Pl5, w9, w10⟩ := wbL (v := 34) (by decide) w8 (by omega)
    have el5 : (pl ++ litN 21 ++ qt s0 ++ litN 22 ++ litN (3 + kk) ++ [34]).length = pl.length + 8 + (s0.length + 2) + 9 + (litN (3 + kk)).length + 1 := by rw [List.length_append, el4]; rfl
    have ea : pl ++ litN 21 ++ qt s0 ++ litN 22 ++ litN (3 + kk) ++ [34] = pl ++ (litN 21 ++ (qt s0 ++ (litN 22 ++ (litN (3 + kk) ++ [34])))) := by
      simp only [List.append_assoc]
    simp only [Option.bind_some]
    rw [w1]
    simp only [Option.bind_some]
    rw [w3]
    simp only [Option.bind_some]
    rw [stn_eq (show s < 128 by omega)]
    simp only [Option.bind_some]
    rw [w5]
    simp only [Option.bind_some]
    rw [wrd_k kk (by omega)]
    simp only [Option.bind_some]
    rw [w7]
    simp only [Option.bind_some]
    rw [show (34 : Int32) = nI 34 from rfl, w9]
    simp only [Option.bind_some]
    rw [ea] at w10 el5
    refine Or.inr ⟨v, kp, c, b, Pl5, upd Ki s (nI kk), upd Na s (nI ((pl ++ litN 21).length + 1)), _, rfl, z5, z1, z6, z2, by omega, z4, by rw [y2]; exact y5, by rw [y2]; exact hd, by rw [y2]; exact n1, by rw [y2]; exact ck, c34, rfl, ?_⟩
    rw [y2, ea]
    have hPN : PNL (pl ++ (litN 21 ++ (qt s0 ++ (litN 22 ++ (litN (3 + kk) ++ [34]))))) ((pl ++ litN 21).length + 1) s0 := by
      rw [el1]
      have := PNL.new (pl := pl) (a := litN 21) (b := litN 22 ++ (litN (3 + kk) ++ [34])) n1
      rw [h21] at this
      exact this
    refine ⟨rfl, i2, rfl, by omega, w10, ⟨fun i hi => ?_, fun w i hi => ?_⟩, (i7.set (by omega) hG).wr _, i8, i9⟩
    · by_cases ei : i = s
      · subst ei
        refine Or.inr ⟨s0, (pl ++ litN 21).length + 1, if_pos rfl, pk_us, hPN⟩
      · rw [pk_un ei]
        rcases i6.1 i hi with q | ⟨w, a, q1, q2, q3⟩
        · exact Or.inl q
        · have : w ≠ s0 := fun z => by rw [z, hd] at q1; cases q1
          exact Or.inr ⟨w, a, by show (if w = s0 then some s else D w) = some i; rw [if_neg this]; exact q1, q2, q3.app⟩
    · have hi : (if w = s0 then some s else D w) = some i := hi
      by_cases ew : w = s0
      · rw [if_pos ew] at hi
        have := Option.some.inj hi
        subst this
        exact ⟨by omega, _, pk_us, by rw [ew]; exact hPN⟩
      · rw [if_neg ew] at hi
        obtain ⟨q1, a, q2, q3⟩ := i6.2 w i hi
        have := hD w i hi
        exact ⟨q1, a, by rw [pk_un (by omega)]; exact q2, q3.app⟩
theorem c_obj (hL : L ≤ 4096) (hl : l ≤ 4200) {f : FL} {g : Nat → Bool → LSt → LRs} {d : Nat} (hf : okCl T L Sd In Nx Am K F N S I X Lt l f (d + 1) g) (hg : okSp T L Sd In Nx Am K F N S I X Lt l g) (lf lp : Int32) {s n p q : Nat} {Fd Ed : Nat → Int32} {Pl Ki Me Fi Ne Na Fn Ac : Nat → Int32} {lc sc : Int32} {Cf Cs : Nat → Int32} {cc : Int32} {k sh kc : Nat} {pl : List Nat} {D : List Nat → Option Nat} {fi : List (Nat × Nat × Option Nat)} {G : Nat → Nod} (hI : CI Pl Ki Me Fi Ne Na Fn Ac lc sc Cf Cs cc (k, sh, kc, pl, D, fi, G)) (hs : s + 1 = k) (hG : G s = mkN 12 s 0 0 [] []) (hD : ∀ w d, D w = some d → d < s) (hw : WFs (k, sh, kc, pl, D, fi, G)) (hv : VV T L Sd In Nx Am K F N S I X Lt l n p q) (hc : cb T L p = 123) (hb : pl.length + (q - p) ≤ 4096) :
    CX lf lp (m_X4_lookAtObject f lf lp T Sd In Nx Am (nI L) Pl Ki Me Fi Ne Na Fn Ac Fd Ed lc sc Cf Cs cc (nI s) (nI p) (nI d)) 1 0 (lob T L g s p (k, sh, kc, pl, D, fi, G)) := by
  have hp := hv.base
  have h15 : (litN 15).length = 4 := by decide
  unfold m_X4_lookAtObject
  simp only [lob, m_X4_refuse, Option.bind_some, true_or, if_true]
  rcases mbc hL hl hv hc (w := 15) (by decide) with ⟨e, em⟩ | ⟨v, kp, c, b, e, em, z1, z2, z3, z4, z5, z6⟩
  · rw [e, em]
    simp only [Option.bind_some, iss_m1, if_true]
    exact ⟨_, rfl⟩
  rw [e, em]
  have hzb := z1.base
  simp only [Option.bind_some, iss_eq hL (show v < 4096 by omega)]
  by_cases c34 : cb T L v = 34
  rotate_left
  · rw [if_neg c34, if_neg c34, I00]
    exact ⟨_, rfl⟩
  rw [if_pos c34, if_pos c34, I10]
  obtain ⟨s0, y1, y2, y3, y4, y5, y6⟩ := z1.str c34
  rw [ksaid_eq hL c34 y3, y2]
  simp only [Option.bind_some]
  have wrap : ∀ (x : Option (Int32 × TL)) (r : LRs), CX lf lp x 1 0 r → CX lf lp (x.bind fun (r23, l_fault_23, l_faultPlace_23, s_plain_23, s_kinds_23, s_meant_23, s_firsts_23, s_nexts_23, s_names_23, s_fieldNames_23, s_amounts_23, s_fieldDefaults_23, s_enumDefaults_23, s_letterCount_23, s_slotCount_23, c_firsts_23, c_seconds_23, c_count_23) => (if r23 = 0 ∨ r23 = 1 then (some (r23, (l_fault_23, l_faultPlace_23, s_plain_23, s_kinds_23, s_meant_23, s_firsts_23, s_nexts_23, s_names_23, s_fieldNames_23, s_amounts_23, s_fieldDefaults_23, s_enumDefaults_23, s_letterCount_23, s_slotCount_23, c_firsts_23, c_seconds_23, c_count_23))) else none)) 1 0 r := by
    intro x r h
    cases r with
    | inl e =>
      obtain ⟨u, hu⟩ := h
      rw [hu]
      obtain ⟨u1, u2, u3, u4, u5, u6, u7, u8, u9, u10, u11, u12, u13, u14, u15⟩ := u
      simp only [Option.bind_some, true_or, if_true]
      exact ⟨_, rfl⟩
    | inr st =>
      obtain ⟨Pl, Ki, Me, Fi, Ne, Na, Fn, Ac, Fd, Ed, lc, sc, Cf, Cs, cc, hu, hI⟩ := h
      rw [hu]
      simp only [Option.bind_some, or_true, if_true]
      exact ⟨_, _, _, _, _, _, _, _, _, _, _, _, _, _, _, rfl, hI⟩
  have word : (kw s0 = -1 ∨ ∃ k6, k6 ≤ 5 ∧ kw s0 = nI k6) → CX lf lp ((m_X4_lookAtWord lf lp T Sd Am (nI L) Pl Ki Me Na lc sc (nI s) (nI v)).bind fun (r19, l_fault_19, l_faultPlace_19, s_plain_19, s_kinds_19, s_meant_19, s_letterCount_19) => (if r19 = 0 ∨ r19 = 1 then (some (r19, (l_fault_19, l_faultPlace_19, s_plain_19, s_kinds_19, s_meant_19, Fi, Ne, Na, Fn, Ac, Fd, Ed, s_letterCount_19, sc, Cf, Cs, cc))) else none)) 1 0 (lwd T L s v (k, sh, kc, pl, D, fi, G)) := by
    intro _
    rcases law_c hL lf lp hI hs hG hD z1 c34 (by omega) with ⟨e, e1, u, hu⟩ | ⟨st', Pl', Ki', Me', lc', e1, hu, hI'⟩
    · rw [e1, hu]
      obtain ⟨u1, u2, u3, u4⟩ := u
      simp only [Option.bind_some, true_or, if_true]
      exact ⟨_, rfl⟩
    · rw [e1, hu]
      simp only [Option.bind_some, or_true, if_true]
      exact ⟨_, _, _, _, _, _, _, _, _, _, _, _, _, _, _, rfl, hI'⟩
  have named : ∀ kk, (kk = 8 ∨ kk = 9 ∨ kk = 10) → kw s0 = nI kk → CX lf lp ((m_X4_define lf lp T Sd In Nx Am (nI L) Pl Ki Na lc sc (nI s) (nI p) (nI kk)).bind fun (r9, l_fault_9, l_faultPlace_9, s_plain_9, s_kinds_9, s_names_9, s_letterCount_9) => (if r9 = 0 then (some (0, (l_fault_9, l_faultPlace_9, s_plain_9, s_kinds_9, Me, Fi, Ne, s_names_9, Fn, Ac, Fd, Ed, s_letterCount_9, sc, Cf, Cs, cc))) else (if nI kk = 8 then ((m_X4_lookAtFixed l_fault_9 l_faultPlace_9 T Sd In Nx Am (nI L) s_plain_9 Ac s_letterCount_9 (nI s) (nI p)).bind fun (r17, l_fault_17, l_faultPlace_17, s_plain_17, s_amounts_17, s_letterCount_17) => (if r17 = 0 ∨ r17 = 1 then (some (r17, (l_fault_17, l_faultPlace_17, s_plain_17, s_kinds_9, Me, Fi, Ne, s_names_9, Fn, s_amounts_17, Fd, Ed, s_letterCount_17, sc, Cf, Cs, cc))) else none)) else (if nI kk = 9 then ((m_X4_lookAtEnum l_fault_9 l_faultPlace_9 T Sd In Nx Am (nI L) s_plain_9 Me Fi Ac Ed s_letterCount_9 (nI s) (nI p)).bind fun (r15, l_fault_15, l_faultPlace_15, s_plain_15, s_firsts_15, s_amounts_15, s_enumDefaults_15, s_letterCount_15) => (if r15 = 0 ∨ r15 = 1 then (some (r15, (l_fault_15, l_faultPlace_15, s_plain_15, s_kinds_9, Me, s_firsts_15, Ne, s_names_9, Fn, s_amounts_15, Fd, s_enumDefaults_15, s_letterCount_15, sc, Cf, Cs, cc))) else none)) else ((m_X4_lookAtRecord f l_fault_9 l_faultPlace_9 T Sd In Nx Am (nI L) s_plain_9 s_kinds_9 Me Fi Ne s_names_9 Fn Ac Fd Ed s_letterCount_9 sc Cf Cs cc (nI s) (nI p) (nI d)).bind fun (r13, l_fault_13, l_faultPlace_13, s_plain_13, s_kinds_13, s_meant_13, s_firsts_13, s_nexts_13, s_names_13, s_fieldNames_13, s_amounts_13, s_fieldDefaults_13, s_enumDefaults_13, s_letterCount_13, s_slotCount_13, c_firsts_13, c_seconds_13, c_count_13) => (if r13 = 0 ∨ r13 = 1 then (some (r13, (l_fault_13, l_faultPlace_13, s_plain_13, s_kinds_13, s_meant_13, s_firsts_13, s_nexts_13, s_names_13, s_fieldNames_13, s_amounts_13, s_fieldDefaults_13, s_enumDefaults_13, s_letterCount_13, s_slotCount_13, c_firsts_13, c_seconds_13, c_count_13))) else none)))))) 1 0 (ldf T L g s p kk (k, sh, kc, pl, D, fi, G)) := by
    intro kk hkk ekk
    have hs0 : s0 = litN (3 + kk) := kw_6 s0 (by omega) ekk
    have hlk : (litN (3 + kk)).length = s0.length := by rw [hs0]
    rcases c_def hL hl lf lp (g := g) hkk hI hs hG hD hv hc (fun v' kp' c' b' x1 x2 x3 x4 x5 x6 => by
      have ha := mb2 hv hc z5 x1 z1 x2 (by rw [z6, x3]; decide)
      have := x2.base
      omega) with ⟨e, e1, u, hu⟩ | ⟨v', kp', c', b', Pl', Ki', Na', lc', x0, x1, x2, x3, x4, x5, x6, x7, x8, x9, x10, x11, hu, hI'⟩
    · rw [e1, hu]
      obtain ⟨u1, u2, u3, u4⟩ := u
      simp only [Option.bind_some, if_true]
      exact ⟨_, rfl⟩
    · have ha := mb2 hv hc z5 x1 z1 x2 (by rw [z6, x3]; decide)
      have hxb := x2.base
      have eld : ldf T L g s p kk (k, sh, kc, pl, D, fi, G) = (if kk = 8 then lfx T L s p (dfS (ts T L v') s kk k sh kc pl D fi G) else if kk = 9 then len T L s p (dfS (ts T L v') s kk k sh kc pl D fi G) else lrc T L g s p (dfS (ts T L v') s kk k sh kc pl D fi G)) := by
        simp only [ldf]
        rw [x0]
        simp only
        rw [if_pos x11, dec_t ⟨x9, x10, x8⟩, bT]
        rfl
      rw [eld, hu]
      simp only [Option.bind_some, if_neg (show ¬ (1 : Int32) = 0 by decide)]
      have hlen : (pl ++ (litN 21 ++ (qt (ts T L v') ++ (litN 22 ++ (litN (3 + kk) ++ [34]))))).length = pl.length + 20 + (ts T L v').length + (litN (3 + kk)).length := by
        simp only [List.length_append, qt_len, List.length_singleton, show (litN 21).length = 8 by decide, show (litN 22).length = 9 by decide]
        omega
      have hw1 : WFs (dfS (ts T L v') s kk k sh kc pl D fi G) := by
        refine ⟨fun w d0 hdd => ?_, hw.2⟩
        have hdd : (if w = ts T L v' then some s else D w) = some d0 := hdd
        by_cases ew : w = ts T L v'
        · rw [if_pos ew] at hdd
          have e := Option.some.inj hdd
          subst e
          rw [upG_s]
          exact ⟨by omega, rfl, show 8 ≤ kk by omega, show kk ≤ 10 by omega⟩
        · rw [if_neg ew] at hdd
          have := hD w d0 hdd
          rw [upG_n (by omega)]
          exact hw.1 w d0 hdd
      by_cases k8 : kk = 8
      · subst k8
        rw [if_pos rfl, if_pos (show nI 8 = 8 from rfl)]
        rcases c_fix hL hl lf lp hI' (by omega) ⟨sh, upG_s⟩ hv hc (fun v2 kp2 c2 b2 w1 w2 w3 w4 w5 w6 => by
          have ha1 := mb2 hv hc z5 w1 z1 w2 (by rw [z6, w3]; decide)
          have ha2 := mb2 hv hc x1 w1 x2 w2 (by rw [x3, w3]; decide)
          have := w2.base
          have h11 : (litN (3 + 8)).length = 5 := by decide
          omega) with ⟨e, e1, u, hu2⟩ | ⟨st', Pl2, Ac2, lc2, e1, hu2, hI2⟩
        · have e1 : lfx T L s p (dfS (ts T L v') s 8 k sh kc pl D fi G) = Sum.inl e := e1
          rw [e1, hu2]
          obtain ⟨u1, u2, u3⟩ := u
          simp only [Option.bind_some, true_or, if_true]
          exact ⟨_, rfl⟩
        · have e1 : lfx T L s p (dfS (ts T L v') s 8 k sh kc pl D fi G) = Sum.inr st' := e1
          rw [e1, hu2]
          simp only [Option.bind_some, or_true, if_true]
          exact ⟨_, _, _, _, _, _, _, _, _, _, _, _, _, _, _, rfl, hI2⟩
      rw [if_neg k8, if_neg (show ¬ nI kk = 8 from fun z => k8 ((nI_eq (b := 8) (by omega) (by decide)).mp z))]
      by_cases k9 : kk = 9
      · subst k9
        rw [if_pos rfl, if_pos (show nI 9 = 9 from rfl)]
        have hen := c_enu hL hl lf lp (Ed := Ed) hI' (by omega) ⟨sh, upG_s⟩ hv hc (fun v2 kp2 c2 b2 w1 w2 w3 w4 w5 w6 => by
          have ha1 := mb2 hv hc z5 w1 z1 w2 (by rw [z6, w3]; decide)
          have ha2 := mb2 hv hc x1 w1 x2 w2 (by rw [x3, w3]; decide)
          have := w2.base
          have h11 : (litN (3 + 9)).length = 4 := by decide
          omega)
        have hen : CE lf lp (m_X4_lookAtEnum lf lp T Sd In Nx Am (nI L) Pl' Me Fi Ac Ed lc' (nI s) (nI p)) Ki' Me Ne Na' Fn sc Cf Cs cc (len T L s p (dfS (ts T L v') s 9 k sh kc pl D fi G)) := hen
        cases hr : len T L s p (dfS (ts T L v') s 9 k sh kc pl D fi G) with
        | inl e =>
          rw [hr] at hen
          obtain ⟨u, hu2⟩ := hen
          rw [hu2]
          obtain ⟨u1, u2, u3, u4, u5⟩ := u
          simp only [Option.bind_some, true_or, if_true]
          exact ⟨_, rfl⟩
        | inr st' =>
          rw [hr] at hen
          obtain ⟨Pl2, Fi2, Ac2, Ed2, lc2, hu2, hI2⟩ := hen
          rw [hu2]
          simp only [Option.bind_some, or_true, if_true]
          exact ⟨_, _, _, _, _, _, _, _, _, _, _, _, _, _, _, rfl, hI2⟩
      rw [if_neg k9, if_neg (show ¬ nI kk = 9 from fun z => k9 ((nI_eq (b := 9) (by omega) (by decide)).mp z))]
      have k10 : kk = 10 := by omega
      subst k10
      refine wrap _ _ ?_
      exact c_rec hL hl hf hg lf lp hI' hw1 (by omega) ⟨sh, upG_s⟩ hv hc (fun v2 kp2 c2 b2 w1 w2 w3 w4 w5 w6 => by
        have ha1 := mb2 hv hc z5 w1 z1 w2 (by rw [z6, w3]; decide)
        have ha2 := mb2 hv hc x1 w1 x2 w2 (by rw [x3, w3]; decide)
        have := w2.base
        have h11 : (litN (3 + 10)).length = 6 := by decide
        omega)
  have e0 : mbr T L p (litN 15) = some v := e
  rcases kw_any s0 with ek | ⟨kk, k1, k2, k3⟩
  · rw [ek, if_neg (show ¬ (-1 : Int32) = 6 by decide), if_neg (show ¬ (-1 : Int32) = 7 by decide), if_neg (show ¬ ((-1 : Int32) = 6 ∨ (-1 : Int32) = 7) by decide), if_neg (show ¬ ((-1 : Int32) = 8 ∨ (-1 : Int32) = 9 ∨ (-1 : Int32) = 10) by decide), show m_X3_isNamed (-1) = some 0 by decide]
    simp only [Option.bind_some, if_true]
    exact word (Or.inl ek)
  · rw [k2]
    have nk : ∀ j, j < 100 → ((nI kk = nI j) = (kk = j)) := fun j hj => propext (nI_eq (by omega) (by omega))
    have n6 : (nI kk = (6 : Int32)) = (kk = 6) := nk 6 (by decide)
    have n7 : (nI kk = (7 : Int32)) = (kk = 7) := nk 7 (by decide)
    have n8 : (nI kk = (8 : Int32)) = (kk = 8) := nk 8 (by decide)
    have n9 : (nI kk = (9 : Int32)) = (kk = 9) := nk 9 (by decide)
    have n10 : (nI kk = (10 : Int32)) = (kk = 10) := nk 10 (by decide)
    rw [nI_clamp (show kk < 2 ^ 31 by omega)]
    by_cases c6 : kk = 6
    · subst c6
      rw [if_pos (show nI 6 = 6 from rfl), if_pos (show nI 6 = 6 ∨ nI 6 = 7 from Or.inl rfl)]
      refine wrap _ _ ?_
      have := c_itm hL hl hf hg lf lp (k6 := 6) (Fd := Fd) (Ed := Ed) (Or.inl rfl) hI hs hG hD hw hv hc e0 (y2.trans k3) c34 hb
      exact this
    rw [if_neg (show ¬ nI kk = 6 by rw [n6]; exact c6)]
    by_cases c7 : kk = 7
    · subst c7
      rw [if_pos (show nI 7 = 7 from rfl), if_pos (show nI 7 = 6 ∨ nI 7 = 7 from Or.inr rfl)]
      refine wrap _ _ ?_
      have := c_itm hL hl hf hg lf lp (k6 := 7) (Fd := Fd) (Ed := Ed) (Or.inr rfl) hI hs hG hD hw hv hc e0 (y2.trans k3) c34 hb
      exact this
    rw [if_neg (show ¬ nI kk = 7 by rw [n7]; exact c7), if_neg (show ¬ (nI kk = 6 ∨ nI kk = 7) by rw [n6, n7]; omega), nam_k (show kk < 2 ^ 31 by omega)]
    simp only [Option.bind_some]
    by_cases c8 : 8 ≤ kk ∧ kk ≤ 10
    · rw [if_pos c8, I10, if_pos (show nI kk = 8 ∨ nI kk = 9 ∨ nI kk = 10 by rw [n8, n9, n10]; omega)]
      exact named kk (by omega) k2
    · rw [if_neg c8, I00, if_neg (show ¬ (nI kk = 8 ∨ nI kk = 9 ∨ nI kk = 10) by rw [n8, n9, n10]; omega)]
      exact word (Or.inr ⟨kk, by omega, k2⟩)
theorem c_look (hL : L ≤ 4096) (hl : l ≤ 4200) : ∀ (j M d : Nat), j + d = 16 → j < M → okCl T L Sd In Nx Am K F N S I X Lt l (m_X4_lookAt M) d (look T L j) := by
  intro j
  induction j with
  | zero =>
    intro M d hd hM lf lp Pl Ki Me Fi Ne Na Fn Ac Fd Ed lc sc Cf Cs cc p br st n q hI hw hv hb
    obtain ⟨D, rfl⟩ : ∃ z, M = z + 1 := ⟨M - 1, by omega⟩
    obtain ⟨k, sh, kc, pl, Df, fi, G⟩ := st
    have i1 := hI.1
    have i2 := hI.2.1
    have ed : d = 16 := by omega
    subst ed
    simp only [m_X4_lookAt, look, m_X4_refuse, m_X6_open, Option.bind_some, if_true]
    rw [i1]
    by_cases c : 128 ≤ k
    · rw [if_pos c, if_neg (show ¬ nI k < 128 from Int32.not_lt.mpr (nI_le (a := 128) c (by omega)))]
      simp only [Option.bind_some, if_true]
      exact ⟨_, rfl⟩
    · rw [if_neg c, if_pos (show nI k < 128 from nI_lt (b := 128) (by omega) (by decide))]
      simp only [bd_go (show k < 128 by omega) (by decide), bd_gc (show k < 128 by omega) (by decide), Option.bind_some, nI_clamp (show k < 2 ^ 31 by omega), nI_1, if_neg (nI_m1 (show k < 2 ^ 31 by omega))]
      rw [if_neg (show ¬ nI 16 < 16 by decide)]
      exact ⟨_, rfl⟩
  | succ j ih =>
    intro M d hd hM lf lp Pl Ki Me Fi Ne Na Fn Ac Fd Ed lc sc Cf Cs cc p br st n q hI hw hv hb
    obtain ⟨M, rfl⟩ : ∃ z, M = z + 1 := ⟨M - 1, by omega⟩
    obtain ⟨k, sh, kc, pl, D, fi, G⟩ := st
    obtain ⟨i1, i2, i3, i4, i5, i6, i7, i8, i9⟩ := hI
    have hp := hv.base
    have hf := ih M (d + 1) (by omega) (by omega)
    have hg := look_p (T := T) (Sd := Sd) (In := In) (Nx := Nx) (Am := Am) (K := K) (F := F) (N := N) (S := S) (I := I) (X := X) (Lt := Lt) hL hl j
    simp only [m_X4_lookAt, look, m_X4_refuse, m_X6_open, Option.bind_some, if_true]
    rw [i1]
    by_cases c : 128 ≤ k
    · rw [if_pos c, if_neg (show ¬ nI k < 128 from Int32.not_lt.mpr (nI_le (a := 128) c (by omega)))]
      simp only [Option.bind_some, if_true]
      exact ⟨_, rfl⟩
    rw [if_neg c, if_pos (show nI k < 128 from nI_lt (b := 128) (by omega) (by decide))]
    simp only [bd_go (show k < 128 by omega) (by decide), bd_gc (show k < 128 by omega) (by decide), Option.bind_some, nI_clamp (show k < 2 ^ 31 by omega), nI_1, if_neg (nI_m1 (show k < 2 ^ 31 by omega))]
    rw [if_pos (show nI d < 16 from nI_lt (b := 16) (by omega) (by decide))]
    have hI1 : CI Pl (upd Ki k (-1)) (upd Me k (nI k)) (upd Fi k (-1)) (upd Ne k (-1)) (upd Na k (-1)) (upd Fn k (-1)) (upd Ac k 0) lc (nI (k + 1)) Cf Cs cc (k + 1, sh, kc, pl, D, fi, upG G k (mkN 12 k 0 0 [] [])) := ⟨rfl, by omega, i3, i4, i5, i6.opn, i7.opn, i8, i9⟩
    have hD : ∀ w d0, D w = some d0 → d0 < k := fun w d0 h => (hw.1 w d0 h).1
    have hw1 : WFs (k + 1, sh, kc, pl, D, fi, upG G k (mkN 12 k 0 0 [] [])) := by
      refine ⟨fun w d0 hdd => ?_, by have := hw.2; omega⟩
      obtain ⟨a, b⟩ := hw.1 w d0 hdd
      rw [upG_n (by omega)]
      exact ⟨by omega, b⟩
    have hb : pl.length + (q - p) ≤ 4096 := hb
    simp only [iss_eq hL (show p < 4096 by omega), isl_eq hL (show p < 4096 by omega), iso_eq hL (show p < 4096 by omega), Option.bind_some]
    have wrap : ∀ (x : Option (Int32 × TL)) (r : LRs), CX lf lp x 1 0 r → CX lf lp (x.bind fun (r12, l_fault_12, l_faultPlace_12, s_plain_12, s_kinds_12, s_meant_12, s_firsts_12, s_nexts_12, s_names_12, s_fieldNames_12, s_amounts_12, s_fieldDefaults_12, s_enumDefaults_12, s_letterCount_12, s_slotCount_12, c_firsts_12, c_seconds_12, c_count_12) => (if r12 = 0 then (some ((-1), (l_fault_12, l_faultPlace_12, s_plain_12, s_kinds_12, s_meant_12, s_firsts_12, s_nexts_12, s_names_12, s_fieldNames_12, s_amounts_12, s_fieldDefaults_12, s_enumDefaults_12, s_letterCount_12, s_slotCount_12, c_firsts_12, c_seconds_12, c_count_12))) else (some (nI k, (l_fault_12, l_faultPlace_12, s_plain_12, s_kinds_12, s_meant_12, s_firsts_12, s_nexts_12, s_names_12, s_fieldNames_12, s_amounts_12, s_fieldDefaults_12, s_enumDefaults_12, s_letterCount_12, s_slotCount_12, c_firsts_12, c_seconds_12, c_count_12))))) (nI k) (-1) r := by
      intro x r h
      cases r with
      | inl e =>
        obtain ⟨u, hu⟩ := h
        rw [hu]
        obtain ⟨u1, u2, u3, u4, u5, u6, u7, u8, u9, u10, u11, u12, u13, u14, u15⟩ := u
        simp only [Option.bind_some, if_true]
        exact ⟨_, rfl⟩
      | inr st =>
        obtain ⟨Pl, Ki, Me, Fi, Ne, Na, Fn, Ac, Fd, Ed, lc, sc, Cf, Cs, cc, hu, hI⟩ := h
        rw [hu]
        simp only [Option.bind_some, if_neg (show ¬ (1 : Int32) = 0 by decide)]
        exact ⟨_, _, _, _, _, _, _, _, _, _, _, _, _, _, _, rfl, hI⟩
    by_cases c1 : cb T L p = 34
    · rw [if_pos c1, if_pos c1, I10]
      rcases law_c hL lf lp hI1 rfl upG_s hD hv c1 hb with ⟨e, e1, u, hu⟩ | ⟨st', Pl', Ki', Me', lc', e1, hu, hI'⟩
      · rw [e1, hu]
        obtain ⟨u1, u2, u3, u4⟩ := u
        simp only [Option.bind_some, if_true]
        exact ⟨_, rfl⟩
      · rw [e1, hu]
        simp only [Option.bind_some, if_neg (show ¬ (1 : Int32) = 0 by decide)]
        exact ⟨_, _, _, _, _, _, _, _, _, _, _, _, _, _, _, rfl, hI'⟩
    rw [if_neg c1, if_neg c1, I00]
    by_cases c2 : cb T L p = 91
    · rw [if_pos c2, if_pos c2, I10]
      refine wrap _ _ ?_
      have := c_uni hL hf hg lf lp (br := br) (Fd := upd Fd k (vp_nar .boolean 0)) (Ed := upd Ed k (vp_nar .boolean 0)) hI1 rfl upG_s hD hw1 hv c2 hb
      have e2 : upG (upG G k (mkN 12 k 0 0 [] [])) k (mkN 11 k sh 0 [] []) = upG G k (mkN 11 k sh 0 [] []) := funext (fun i => by
        by_cases q : i = k
        · rw [q, upG_s, upG_s]
        · rw [upG_n q, upG_n q, upG_n q])
      rw [e2] at this
      exact this
    rw [if_neg c2, if_neg c2, I00]
    by_cases c3 : cb T L p = 123
    · rw [if_pos c3, if_pos c3, I10]
      refine wrap _ _ ?_
      exact c_obj hL hl hf hg lf lp hI1 rfl upG_s hD hw1 hv c3 hb
    · rw [if_neg c3, if_neg c3, I00]
      exact ⟨_, rfl⟩
end CLOOK
end
section
-- the reference's rows and the told nodes
def srt (k : Nat) : Nat := if k = 11 then 8 else if k = 8 then 9 else if k = 9 then 10 else if k = 10 then 11 else k
theorem srt_i : ∀ k, k ≤ 11 → ∀ j, j ≤ 11 → srt k = srt j → k = j := by decide
theorem srt_6 : ∀ k, k ≤ 11 → (srt k = 6 ↔ k = 6) ∧ (srt k = 7 ↔ k = 7) ∧ (6 ≤ srt k ↔ 6 ≤ k) ∧ srt k ≤ 11 := by decide
def LOR (N : Nat → Int64) (S Lt : Nat → Int32) (l : Nat) (So Wi Kd kS kN kX : Nat → Int32) (sh kc k : Nat) (G : Nat → Nod) (i : Nat) : Prop :=
  n_me (G i) < k ∧ (∀ a, a ∈ n_kl (G i) → a < kc) ∧ (n_me (G i) ≠ i → n_sg (G i) = n_sg (G (n_me (G i)))) ∧ (n_me (G i) = i → (n_kd (G i) ≤ 5 → n_sg (G i) = n_kd (G i)) ∧ (∀ c, c ∈ n_ch (G i) → c < k ∧ n_pa (G c) = i) ∧ (6 ≤ n_kd (G i) → n_kd (G i) ≤ 11 → 6 ≤ n_sg (G i) ∧ n_sg (G i) < sh ∧ So (n_sg (G i)) = nI (srt (n_kd (G i))) ∧ ICH kX (Kd (n_sg (G i))) (n_kl (G i)).length (fun j => (n_kl (G i)).getD j 0) kc ∧ (n_ch (G i)).length ≤ (n_kl (G i)).length ∧ (∀ j, j < (n_ch (G i)).length → kS ((n_kl (G i)).getD j 0) = nI (n_sg (G ((n_ch (G i)).getD j 0))) ∧ (n_kd (G i) = 10 → RNm N S Lt l (kN ((n_kl (G i)).getD j 0)) (n_fn (G ((n_ch (G i)).getD j 0))))) ∧ (n_kd (G i) = 8 → Wi (n_sg (G i)) = nI (n_wd (G i))) ∧ (n_kd (G i) = 9 → (n_sy (G i)).length = (n_kl (G i)).length ∧ ∀ j, j < (n_kl (G i)).length → RNm N S Lt l (kN ((n_kl (G i)).getD j 0)) ((n_sy (G i)).getD j []))))
def RLs (N : Nat → Int64) (S Lt : Nat → Int32) (l : Nat) (So Wi Kd kS kN kX : Nat → Int32) (sh kc k : Nat) (G : Nat → Nod) : Prop := ∀ i, i < k → LOR N S Lt l So Wi Kd kS kN kX sh kc k G i
/-- two slots have two shapes, and kids of their own -/
def SGI (G : Nat → Nod) (k : Nat) : Prop := (∀ i j, i < k → j < k → n_me (G i) = i → n_me (G j) = j → 6 ≤ n_kd (G i) → n_kd (G i) ≤ 11 → 6 ≤ n_kd (G j) → n_kd (G j) ≤ 11 → n_sg (G i) = n_sg (G j) → i = j) ∧ (∀ i j a, i < k → j < k → a ∈ n_kl (G i) → a ∈ n_kl (G j) → i = j)
section LORS
variable {N : Nat → Int64} {S Lt : Nat → Int32} {l : Nat} {So Wi Kd kS kN kX So' Wi' Kd' kS' kN' kX' : Nat → Int32} {sh kc k sh' kc' k' i : Nat} {G G' : Nat → Nod}
theorem LOR.cg (h : LOR N S Lt l So Wi Kd kS kN kX sh kc k G i) (hkd : n_kd (G' i) = n_kd (G i)) (hme : n_me (G' i) = n_me (G i)) (hsg : n_sg (G' i) = n_sg (G i)) (hch : n_ch (G' i) = n_ch (G i)) (hwd : n_wd (G' i) = n_wd (G i)) (hsy : n_sy (G' i) = n_sy (G i)) (hkl : n_kl (G' i) = n_kl (G i)) (hmm : n_me (G i) ≠ i → n_sg (G' (n_me (G i))) = n_sg (G (n_me (G i)))) (hr : n_me (G i) = i → 6 ≤ n_kd (G i) → n_kd (G i) ≤ 11 → n_sg (G i) < sh → So' (n_sg (G i)) = So (n_sg (G i)) ∧ Wi' (n_sg (G i)) = Wi (n_sg (G i)) ∧ Kd' (n_sg (G i)) = Kd (n_sg (G i))) (hk : ∀ a, a ∈ n_kl (G i) → a < kc → kX' a = kX a ∧ kS' a = kS a ∧ kN' a = kN a) (hc : ∀ c, c ∈ n_ch (G i) → n_pa (G c) = i → c < k → n_sg (G' c) = n_sg (G c) ∧ n_fn (G' c) = n_fn (G c) ∧ n_pa (G' c) = n_pa (G c)) (h1 : sh ≤ sh') (h2 : kc ≤ kc') (h3 : k ≤ k') : LOR N S Lt l So' Wi' Kd' kS' kN' kX' sh' kc' k' G' i := by
  obtain ⟨a0, a1, a2, a3⟩ := h
  refine ⟨by rw [hme]; omega, fun a ha => by rw [hkl] at ha; have := a1 a ha; omega, fun z => ?_, fun z => ?_⟩
  · rw [hme] at z
    rw [hsg, hme, hmm z]
    exact a2 z
  · rw [hme] at z
    obtain ⟨b1, b2, b3⟩ := a3 z
    refine ⟨fun q => by rw [hkd] at q ⊢; rw [hsg]; exact b1 q, fun c hc' => ?_, fun q1 q2 => ?_⟩
    · rw [hch] at hc'
      obtain ⟨x1, x2⟩ := b2 c hc'
      exact ⟨by omega, by rw [(hc c hc' x2 x1).2.2]; exact x2⟩
    · rw [hkd] at q1 q2
      obtain ⟨c1, c2, c3, c4, c5, c6, c7, c8⟩ := b3 q1 q2
      obtain ⟨r1, r2, r3⟩ := hr z q1 q2 c2
      have hm : ∀ j, j < (n_kl (G i)).length → (n_kl (G i)).getD j 0 < kc ∧ kX' ((n_kl (G i)).getD j 0) = kX ((n_kl (G i)).getD j 0) ∧ kS' ((n_kl (G i)).getD j 0) = kS ((n_kl (G i)).getD j 0) ∧ kN' ((n_kl (G i)).getD j 0) = kN ((n_kl (G i)).getD j 0) := fun j hj => ⟨a1 _ (ch_mem hj), hk _ (ch_mem hj) (a1 _ (ch_mem hj))⟩
      rw [hkd, hsg, hkl, hch, hwd, hsy, r1, r2, r3]
      refine ⟨c1, by omega, c3, c4.keep2 (fun j hj => by have := (hm j hj).1; omega) (fun j hj => (hm j hj).2.1), c5, fun j hj => ?_, c7, fun q => ⟨(c8 q).1, fun j hj => by rw [(hm j hj).2.2.2]; exact (c8 q).2 j hj⟩⟩
      obtain ⟨d1, d2⟩ := c6 j hj
      have hcm := ch_mem hj
      obtain ⟨x1, x2⟩ := b2 _ hcm
      obtain ⟨y1, y2, y3⟩ := hc _ hcm x2 x1
      rw [(hm j (by omega)).2.2.1, (hm j (by omega)).2.2.2, y1, y2]
      exact ⟨d1, d2⟩
/-- nodes alike in what the reference's rows say -/
theorem RLs.nd (h : RLs N S Lt l So Wi Kd kS kN kX sh kc k G) (hg : ∀ i, i < k → n_kd (G' i) = n_kd (G i) ∧ n_me (G' i) = n_me (G i) ∧ n_sg (G' i) = n_sg (G i) ∧ n_ch (G' i) = n_ch (G i) ∧ n_wd (G' i) = n_wd (G i) ∧ n_sy (G' i) = n_sy (G i) ∧ n_kl (G' i) = n_kl (G i) ∧ n_pa (G' i) = n_pa (G i) ∧ n_fn (G' i) = n_fn (G i)) : RLs N S Lt l So Wi Kd kS kN kX sh kc k G' := fun i hi => by
  obtain ⟨e1, e2, e3, e4, e5, e6, e7, e8, e9⟩ := hg i hi
  exact (h i hi).cg e1 e2 e3 e4 e5 e6 e7 (fun _ => (hg _ (h i hi).1).2.2.1) (fun _ _ _ _ => ⟨rfl, rfl, rfl⟩) (fun _ _ _ => ⟨rfl, rfl, rfl⟩) (fun c _ _ hc => ⟨(hg c hc).2.2.1, (hg c hc).2.2.2.2.2.2.2.2, (hg c hc).2.2.2.2.2.2.2.1⟩) (Nat.le_refl _) (Nat.le_refl _) (Nat.le_refl _)
theorem RLs.opn (h : RLs N S Lt l So Wi Kd kS kN kX sh kc k G) : RLs N S Lt l So Wi Kd kS kN kX sh kc (k + 1) (upG G k (mkN 12 k 0 0 [] [])) := by
  intro i hi
  by_cases e : i = k
  · subst e
    refine ⟨by rw [upG_s]; show i < i + 1; omega, fun a ha => by rw [upG_s] at ha; exact absurd ha List.not_mem_nil, fun z => by rw [upG_s] at z; exact absurd rfl z, fun _ => ?_⟩
    rw [upG_s]
    exact ⟨fun q => absurd q (show ¬ 12 ≤ 5 by decide), fun c hc => absurd hc List.not_mem_nil, fun _ q => absurd q (show ¬ 12 ≤ 11 by decide)⟩
  · have hm := (h i (by omega)).1
    exact (h i (by omega)).cg (by rw [upG_n e]) (by rw [upG_n e]) (by rw [upG_n e]) (by rw [upG_n e]) (by rw [upG_n e]) (by rw [upG_n e]) (by rw [upG_n e]) (fun _ => by rw [upG_n (by omega)]) (fun _ _ _ _ => ⟨rfl, rfl, rfl⟩) (fun _ _ _ => ⟨rfl, rfl, rfl⟩) (fun c _ _ hc => by rw [upG_n (by omega)]; exact ⟨rfl, rfl, rfl⟩) (Nat.le_refl _) (Nat.le_refl _) (by omega)
/-- another node for an open slot that nothing speaks of -/
theorem LOR.oth {s : Nat} {x : Nod} (h : LOR N S Lt l So Wi Kd kS kN kX sh kc k G i) (ei : i ≠ s) (hpa : n_pa x = n_pa (G s)) (hfn : n_fn x = n_fn (G s)) (hsg : n_sg x = n_sg (G s) ∨ (n_pa (G s) = 999 ∧ i < 999 ∧ n_me (G i) ≠ s)) (hr : n_me (G i) = i → 6 ≤ n_kd (G i) → n_kd (G i) ≤ 11 → n_sg (G i) < sh → So' (n_sg (G i)) = So (n_sg (G i)) ∧ Wi' (n_sg (G i)) = Wi (n_sg (G i)) ∧ Kd' (n_sg (G i)) = Kd (n_sg (G i))) (hk : ∀ a, a ∈ n_kl (G i) → a < kc → kX' a = kX a ∧ kS' a = kS a ∧ kN' a = kN a) (h1 : sh ≤ sh') (h2 : kc ≤ kc') : LOR N S Lt l So' Wi' Kd' kS' kN' kX' sh' kc' k (upG G s x) i := by
  refine h.cg (by rw [upG_n ei]) (by rw [upG_n ei]) (by rw [upG_n ei]) (by rw [upG_n ei]) (by rw [upG_n ei]) (by rw [upG_n ei]) (by rw [upG_n ei]) (fun z => ?_) hr hk (fun c _ hp hc => ?_) h1 h2 (Nat.le_refl _)
  · by_cases q : n_me (G i) = s
    · rw [q, upG_s]
      rcases hsg with w | ⟨_, _, w⟩
      · exact w
      · exact absurd q w
    · rw [upG_n q]
  · by_cases q : c = s
    · rw [q] at hp
      rw [q, upG_s]
      rcases hsg with w | ⟨w1, w2, _⟩
      · exact ⟨w, hfn, hpa⟩
      · omega
    · rw [upG_n q]
      exact ⟨rfl, rfl, rfl⟩
theorem RLs.six (h : RLs N S Lt l So Wi Kd kS kN kX sh kc k G) {s x : Nat} (hk : k ≤ 128) (hs : s < k) (hG : G s = mkN 12 s 0 0 [] []) (hx : x ≤ 5) (hm : ∀ i, i < k → n_me (G i) = s → i = s) : RLs N S Lt l So Wi Kd kS kN kX sh kc k (upG G s (mkN x s x 0 [] [])) := by
  intro i hi
  by_cases e : i = s
  · subst e
    refine ⟨by rw [upG_s]; exact hi, fun a ha => by rw [upG_s] at ha; exact absurd ha List.not_mem_nil, fun z => by rw [upG_s] at z; exact absurd rfl z, fun _ => ?_⟩
    rw [upG_s]
    exact ⟨fun _ => rfl, fun c hc => absurd hc List.not_mem_nil, fun q _ => absurd q (show ¬ 6 ≤ x by omega)⟩
  · exact (h i hi).oth e (by rw [hG]; rfl) (by rw [hG]; rfl) (Or.inr ⟨by rw [hG]; rfl, by omega, fun z => e (hm i hi z)⟩) (fun _ _ _ _ => ⟨rfl, rfl, rfl⟩) (fun _ _ _ => ⟨rfl, rfl, rfl⟩) (Nat.le_refl _) (Nat.le_refl _)
theorem RLs.mea (h : RLs N S Lt l So Wi Kd kS kN kX sh kc k G) {s d : Nat} (hk : k ≤ 128) (hs : s < k) (hd : d < s) (hG : G s = mkN 12 s 0 0 [] []) (hm : ∀ i, i < k → n_me (G i) = s → i = s) : RLs N S Lt l So Wi Kd kS kN kX sh kc k (upG G s (mkN 12 d (n_sg (G d)) 0 [] [])) := by
  intro i hi
  by_cases e : i = s
  · subst e
    refine ⟨by rw [upG_s]; show d < k; omega, fun a ha => by rw [upG_s] at ha; exact absurd ha List.not_mem_nil, fun z => ?_, fun z => ?_⟩
    · rw [upG_s]
      show n_sg (G d) = n_sg (upG G i _ d)
      rw [upG_n (by omega)]
    · rw [upG_s] at z
      have z : d = i := z
      omega
  · exact (h i hi).oth e (by rw [hG]; rfl) (by rw [hG]; rfl) (Or.inr ⟨by rw [hG]; rfl, by omega, fun z => e (hm i hi z)⟩) (fun _ _ _ _ => ⟨rfl, rfl, rfl⟩) (fun _ _ _ => ⟨rfl, rfl, rfl⟩) (Nat.le_refl _) (Nat.le_refl _)
/-- a new shape for a new slot -/
theorem RLs.shp (h : RLs N S Lt l So Wi Kd kS kN kX sh kc k G) {s x : Nat} (hk : k ≤ 128) (hs : s < k) (h6 : 6 ≤ sh) (hG : G s = mkN 12 s 0 0 [] []) (hx6 : 6 ≤ x) (hx : x ≤ 11) (hm : ∀ i, i < k → n_me (G i) = s → i = s) : RLs N S Lt l (upd So sh (nI (srt x))) (upd Wi sh 0) (upd Kd sh (-1)) kS kN kX (sh + 1) kc k (upG G s (mkN x s sh 0 [] [])) := by
  intro i hi
  by_cases e : i = s
  · subst e
    refine ⟨by rw [upG_s]; exact hi, fun a ha => by rw [upG_s] at ha; exact absurd ha List.not_mem_nil, fun z => by rw [upG_s] at z; exact absurd rfl z, fun _ => ?_⟩
    rw [upG_s]
    refine ⟨fun q => absurd q (show ¬ x ≤ 5 by omega), fun c hc => absurd hc List.not_mem_nil, fun _ _ => ⟨h6, show sh < sh + 1 by omega, pk_us, ?_, Nat.le_refl _, fun j hj => absurd hj (Nat.not_lt_zero _), fun _ => pk_us, fun _ => ⟨rfl, fun j hj => absurd hj (Nat.not_lt_zero _)⟩⟩⟩
    show ICH kX (upd Kd sh (-1) sh) 0 _ kc
    rw [pk_us]
    exact ICH.nil
  · refine (h i hi).oth e (by rw [hG]; rfl) (by rw [hG]; rfl) (Or.inr ⟨by rw [hG]; rfl, by omega, fun z => e (hm i hi z)⟩) (fun _ _ _ q => ?_) (fun _ _ _ => ⟨rfl, rfl, rfl⟩) (by omega) (Nat.le_refl _)
    rw [pk_un (by omega), pk_un (by omega), pk_un (by omega)]
    exact ⟨rfl, rfl, rfl⟩
/-- a kid behind the others -/
theorem RLs.kid (h : RLs N S Lt l So Wi Kd kS kN kX sh kc k G) (hu : SGI G k) {s : Nat} {vS vN : Int32} {x : Nod} (hs : s < k) (hm : n_me (G s) = s) (h6 : 6 ≤ n_kd (G s)) (h11 : n_kd (G s) ≤ 11) (x1 : n_kd x = n_kd (G s)) (x2 : n_me x = n_me (G s)) (x3 : n_sg x = n_sg (G s)) (x4 : n_ch x = n_ch (G s)) (x5 : n_wd x = n_wd (G s)) (x6 : n_kl x = n_kl (G s) ++ [kc]) (x7 : n_pa x = n_pa (G s)) (x8 : n_fn x = n_fn (G s)) (hsy : n_kd (G s) = 9 → ∃ w, n_sy x = n_sy (G s) ++ [w] ∧ RNm N S Lt l vN w) (h9 : n_kd (G s) ≠ 9 → n_sy x = n_sy (G s)) :
    RLs N S Lt l So Wi (if (n_kl (G s)).length = 0 then upd Kd (n_sg (G s)) (nI kc) else Kd) (upd kS kc vS) (upd kN kc vN) (if (n_kl (G s)).length = 0 then upd kX kc (-1) else upd (upd kX kc (-1)) ((n_kl (G s)).getD ((n_kl (G s)).length - 1) 0) (nI kc)) sh (kc + 1) k (upG G s x) := by
  obtain ⟨s0, s1, s2, s3⟩ := h s hs
  obtain ⟨t1, t2, t3⟩ := s3 hm
  obtain ⟨c1, c2, c3, c4, c5, c6, c7, c8⟩ := t3 h6 h11
  have hlast : (n_kl (G s)).length ≠ 0 → (n_kl (G s)).getD ((n_kl (G s)).length - 1) 0 ∈ n_kl (G s) := fun q => ch_mem (by omega)
  have hX : ∀ j, j ≠ kc → ¬ ((n_kl (G s)).length ≠ 0 ∧ j = (n_kl (G s)).getD ((n_kl (G s)).length - 1) 0) → (if (n_kl (G s)).length = 0 then upd kX kc (-1) else upd (upd kX kc (-1)) ((n_kl (G s)).getD ((n_kl (G s)).length - 1) 0) (nI kc)) j = kX j := fun j h1 h2 => by
    by_cases q : (n_kl (G s)).length = 0
    · rw [if_pos q]; exact pk_un h1
    · rw [if_neg q, pk_un (fun z => h2 ⟨q, z⟩)]; exact pk_un h1
  intro i hi
  by_cases ei : i = s
  · subst ei
    refine ⟨by rw [upG_s, x2]; exact s0, fun a ha => ?_, fun z => by rw [upG_s, x2] at z; exact absurd hm z, fun _ => ?_⟩
    · rw [upG_s, x6] at ha
      rcases List.mem_append.mp ha with q | q
      · have := s1 a q; omega
      · rw [List.mem_singleton.mp q]; omega
    · rw [upG_s, x1, x3, x4, x5, x6]
      have ep : ∀ c, n_pa (upG G i x c) = n_pa (G c) := fun c => by
        by_cases q : c = i
        · rw [q, upG_s]; exact x7
        · rw [upG_n q]
      have es : ∀ c, n_sg (upG G i x c) = n_sg (G c) := fun c => by
        by_cases q : c = i
        · rw [q, upG_s]; exact x3
        · rw [upG_n q]
      have ef : ∀ c, n_fn (upG G i x c) = n_fn (G c) := fun c => by
        by_cases q : c = i
        · rw [q, upG_s]; exact x8
        · rw [upG_n q]
      refine ⟨t1, fun c hc => by rw [ep]; exact t2 c hc, fun _ _ => ⟨c1, c2, c3, ?_, by rw [List.length_append]; omega, fun j hj => ?_, c7, fun q => ?_⟩⟩
      · rw [List.length_append, List.length_singleton, ← snc_app]
        refine ICH.push (X := kX) (h := Kd (n_sg (G i))) (hi := kc) (n := kc) c4 (Nat.le_refl _) (by omega) (fun j hj => ?_) ?_ ?_
        · by_cases q : (n_kl (G i)).length = 0
          · rw [if_pos q, if_pos q]; exact pk_un (by omega)
          · rw [if_neg q, if_neg q]
            by_cases q2 : j = (n_kl (G i)).getD ((n_kl (G i)).length - 1) 0
            · rw [q2, pk_us]; exact pk_us.symm
            · rw [pk_un q2, pk_un (by omega)]; exact (pk_un q2).symm
        · by_cases q : (n_kl (G i)).length = 0
          · rw [if_pos q, pk_us]
          · have := s1 _ (hlast q)
            rw [if_neg q, pk_un (by omega), pk_us]
        · by_cases q : (n_kl (G i)).length = 0
          · rw [if_pos q, if_pos q, pk_us]
          · rw [if_neg q, if_neg q]
      · obtain ⟨d1, d2⟩ := c6 j hj
        have hjl : j < (n_kl (G i)).length := by omega
        have := s1 _ (ch_mem hjl)
        rw [getD_l hjl, pk_un (by omega), pk_un (by omega), es, ef]
        exact ⟨d1, d2⟩
      · obtain ⟨w, w1, w2⟩ := hsy q
        obtain ⟨d1, d2⟩ := c8 q
        rw [w1, List.length_append, List.length_append, d1]
        refine ⟨rfl, fun j hj => ?_⟩
        rw [List.length_singleton] at hj
        by_cases ej : j = (n_kl (G i)).length
        · have e1 : (n_kl (G i) ++ [kc]).getD j 0 = kc := by rw [ej]; exact (congrFun snc_app.symm _).trans snc_s
          have e2 : (n_sy (G i) ++ [w]).getD j [] = w := by rw [ej, ← d1]; simp [List.getD]
          rw [e1, e2, pk_us]
          exact w2
        · have hjl : j < (n_kl (G i)).length := by omega
          have := s1 _ (ch_mem hjl)
          have e2 : (n_sy (G i) ++ [w]).getD j [] = (n_sy (G i)).getD j [] := by simp [List.getD, List.getElem?_append_left (show j < (n_sy (G i)).length by omega)]
          rw [getD_l hjl, e2, pk_un (by omega)]
          exact d2 j hjl
  · refine (h i hi).oth ei x7 x8 (Or.inl x3) (fun q1 q2 q3 q4 => ⟨rfl, rfl, ?_⟩) (fun a ha hac => ?_) (Nat.le_refl _) (by omega)
    · by_cases q : (n_kl (G s)).length = 0
      · rw [if_pos q]
        exact pk_un (fun z => ei (hu.1 i s hi hs q1 hm q2 q3 h6 h11 z))
      · rw [if_neg q]
    · refine ⟨hX a (by omega) (fun q => ei (hu.2 i s a hi hs ha (by rw [q.2]; exact hlast q.1))), pk_un (by omega), pk_un (by omega)⟩
theorem RLs.jon (h : RLs N S Lt l So Wi Kd kS kN kX sh kc k G) (hu : SGI G k) {s c : Nat} (hk : k ≤ 128) (hs : s < k) (hc : c < k) (hsc : s ≠ c) (hm : n_me (G s) = s) (h6 : 6 ≤ n_kd (G s)) (h11 : n_kd (G s) ≤ 11) (hp : n_pa (G c) = 999) (hl : (n_ch (G s)).length < (n_kl (G s)).length) (hf : n_kd (G s) = 10 → RNm N S Lt l (kN ((n_kl (G s)).getD (n_ch (G s)).length 0)) (n_fn (G c))) :
    RLs N S Lt l So Wi Kd (upd kS ((n_kl (G s)).getD (n_ch (G s)).length 0) (nI (n_sg (G c)))) kN kX sh kc k (upG (upG G s (chN (G s) c)) c (paN (G c) s)) := by
  obtain ⟨s0, s1, s2, s3⟩ := h s hs
  obtain ⟨t1, t2, t3⟩ := s3 hm
  obtain ⟨c1, c2, c3, c4, c5, c6, c7, c8⟩ := t3 h6 h11
  have e : ∀ {β : Type} (g : Nod → β), (∀ x, g (chN x c) = g x) → (∀ x, g (paN x s) = g x) → ∀ i, g (upG (upG G s (chN (G s) c)) c (paN (G c) s) i) = g (G i) := fun g h1 h2 i => by
    by_cases q : i = c
    · rw [q, upG_s]; exact h2 _
    · rw [upG_n q]
      by_cases q2 : i = s
      · rw [q2, upG_s]; exact h1 _
      · rw [upG_n q2]
  have epa : ∀ i, i ≠ c → n_pa (upG (upG G s (chN (G s) c)) c (paN (G c) s) i) = n_pa (G i) := fun i q => by
    rw [upG_n q]
    by_cases q2 : i = s
    · rw [q2, upG_s]; rfl
    · rw [upG_n q2]
  have epc : n_pa (upG (upG G s (chN (G s) c)) c (paN (G c) s) c) = s := by rw [upG_s]; rfl
  have ech : ∀ i, i ≠ s → n_ch (upG (upG G s (chN (G s) c)) c (paN (G c) s) i) = n_ch (G i) := fun i q => by
    by_cases q2 : i = c
    · rw [q2, upG_s]; rfl
    · rw [upG_n q2, upG_n q]
  have ecs : n_ch (upG (upG G s (chN (G s) c)) c (paN (G c) s) s) = n_ch (G s) ++ [c] := by rw [upG_n hsc, upG_s]; rfl
  have es := e n_sg (fun _ => rfl) (fun _ => rfl)
  have ef := e n_fn (fun _ => rfl) (fun _ => rfl)
  intro i hi
  by_cases ei : i = s
  · subst ei
    refine ⟨by rw [e n_me (fun _ => rfl) (fun _ => rfl)]; exact s0, fun a ha => by rw [e n_kl (fun _ => rfl) (fun _ => rfl)] at ha; exact s1 a ha, fun z => by rw [e n_me (fun _ => rfl) (fun _ => rfl)] at z; exact absurd hm z, fun _ => ?_⟩
    rw [e n_kd (fun _ => rfl) (fun _ => rfl), e n_wd (fun _ => rfl) (fun _ => rfl), e n_sy (fun _ => rfl) (fun _ => rfl), e n_kl (fun _ => rfl) (fun _ => rfl), es, ecs]
    refine ⟨t1, fun c' hc' => ?_, fun _ _ => ⟨c1, c2, c3, c4, by rw [List.length_append, List.length_singleton]; omega, fun j hj => ?_, c7, c8⟩⟩
    · rcases List.mem_append.mp hc' with q | q
      · obtain ⟨v1, v2⟩ := t2 c' q
        rw [epa c' (fun z => by rw [z, hp] at v2; omega)]
        exact ⟨v1, v2⟩
      · have q := List.mem_singleton.mp q
        subst q
        exact ⟨hc, epc⟩
    · rw [List.length_append, List.length_singleton] at hj
      by_cases ej : j = (n_ch (G i)).length
      · have e1 : (n_ch (G i) ++ [c]).getD j 0 = c := by rw [ej]; exact (congrFun snc_app.symm _).trans snc_s
        rw [e1, es, ef, ej, pk_us]
        exact ⟨rfl, hf⟩
      · have hj2 : j < (n_ch (G i)).length := by omega
        obtain ⟨d1, d2⟩ := c6 j hj2
        have hne : (n_kl (G i)).getD j 0 ≠ (n_kl (G i)).getD (n_ch (G i)).length 0 := by
          have := c4.2.1 j (n_ch (G i)).length hj2 hl
          simp only at this
          omega
        rw [getD_l hj2, es, ef, pk_un hne]
        exact ⟨d1, d2⟩
  · refine (h i hi).cg (e _ (fun _ => rfl) (fun _ => rfl) i) (e _ (fun _ => rfl) (fun _ => rfl) i) (es i) (ech i ei) (e _ (fun _ => rfl) (fun _ => rfl) i) (e _ (fun _ => rfl) (fun _ => rfl) i) (e _ (fun _ => rfl) (fun _ => rfl) i) (fun _ => es _) (fun _ _ _ _ => ⟨rfl, rfl, rfl⟩) (fun a ha _ => ⟨rfl, pk_un (fun z => ?_), rfl⟩) (fun c' hc' hp' h1 => ⟨es c', ef c', epa c' (fun q => by rw [q, hp] at hp'; omega)⟩) (Nat.le_refl _) (Nat.le_refl _) (Nat.le_refl _)
    exact ei (hu.2 i s a hi hs ha (by rw [z]; exact ch_mem hl))
theorem RLs.fld (h : RLs N S Lt l So Wi Kd kS kN kX sh kc k G) {c : Nat} {w : List Nat} (hk : k ≤ 128) (h9 : n_pa (G c) = 999) : RLs N S Lt l So Wi Kd kS kN kX sh kc k (upG G c (fnN (G c) w)) := by
  have e : ∀ {β : Type} (g : Nod → β), g (fnN (G c) w) = g (G c) → ∀ i, g (upG G c (fnN (G c) w) i) = g (G i) := fun g hg i => by
    by_cases q : i = c
    · rw [q, upG_s]; exact hg
    · rw [upG_n q]
  refine fun i hi => (h i hi).cg (e _ rfl i) (e _ rfl i) (e _ rfl i) (e _ rfl i) (e _ rfl i) (e _ rfl i) (e _ rfl i) (fun _ => e _ rfl _) (fun _ _ _ _ => ⟨rfl, rfl, rfl⟩) (fun _ _ _ => ⟨rfl, rfl, rfl⟩) (fun c' _ hp h1 => ?_) (Nat.le_refl _) (Nat.le_refl _) (Nat.le_refl _)
  have hne : c' ≠ c := fun q => by rw [q, h9] at hp; omega
  rw [upG_n hne]
  exact ⟨rfl, rfl, rfl⟩
theorem RLs.wid (h : RLs N S Lt l So Wi Kd kS kN kX sh kc k G) (hu : SGI G k) {s w : Nat} (hs : s < k) (hm : n_me (G s) = s) (h8 : n_kd (G s) = 8) (hc : n_ch (G s) = []) (hl : n_kl (G s) = []) (hpa : n_pa (G s) = 999) (hfn : n_fn (G s) = []) : RLs N S Lt l So (upd Wi (n_sg (G s)) (nI w)) Kd kS kN kX sh kc k (upG G s (mkN 8 s (n_sg (G s)) w [] [])) := by
  obtain ⟨s0, s1, s2, s3⟩ := h s hs
  obtain ⟨t1, t2, t3⟩ := s3 hm
  obtain ⟨c1, c2, c3, c4, c5, c6, c7, c8⟩ := t3 (by omega) (by omega)
  intro i hi
  by_cases e : i = s
  · subst e
    refine ⟨by rw [upG_s]; exact hi, fun a ha => by rw [upG_s] at ha; exact absurd ha List.not_mem_nil, fun z => by rw [upG_s] at z; exact absurd rfl z, fun _ => ?_⟩
    rw [upG_s]
    rw [h8] at c3
    rw [hl] at c4
    exact ⟨fun q => absurd q (show ¬ 8 ≤ 5 by decide), fun c hc => absurd hc List.not_mem_nil, fun _ _ => ⟨c1, c2, c3, c4, Nat.le_refl _, fun j hj => absurd hj (Nat.not_lt_zero _), fun _ => pk_us, fun q => absurd q (show ¬ 8 = 9 by decide)⟩⟩
  · refine (h i hi).oth e hpa.symm hfn.symm (Or.inl rfl) (fun q1 q2 q3 q4 => ⟨rfl, ?_, rfl⟩) (fun _ _ _ => ⟨rfl, rfl, rfl⟩) (Nat.le_refl _) (Nat.le_refl _)
    exact pk_un (fun z => e (hu.1 i s hi hs q1 hm q2 q3 (by omega) (by omega) z))
end LORS
end
section
-- the reference's single steps
theorem trN {U V W' U' : Type} {k : V → U → Option (Except U' W')} {g : U → U'} : mr_try (none : Option (Except U (V × U))) k g = none := rfl
theorem trE {U V W' U' : Type} {k : V → U → Option (Except U' W')} {g : U → U'} {u : U} : mr_try (some (.error u) : Option (Except U (V × U))) k g = some (.error (g u)) := rfl
theorem trO {U V W' U' : Type} {k : V → U → Option (Except U' W')} {g : U → U'} {v : V} {u : U} : mr_try (some (.ok (v, u)) : Option (Except U (V × U))) k g = k v u := rfl
theorem nd0 {f p c w : Int32} : m_X9_need f p 0 c w = some (.error (c, w)) := rfl
theorem nd1 {f p c w : Int32} : m_X9_need f p 1 c w = some (.ok ((), (f, p))) := rfl
theorem SGI.cg {G G' : Nat → Nod} {k : Nat} (h : SGI G k) (hg : ∀ i, i < k → n_kd (G' i) = n_kd (G i) ∧ n_me (G' i) = n_me (G i) ∧ n_sg (G' i) = n_sg (G i) ∧ n_kl (G' i) = n_kl (G i)) : SGI G' k := by
  refine ⟨fun i j hi hj => ?_, fun i j a hi hj => ?_⟩
  · obtain ⟨a1, a2, a3, _⟩ := hg i hi
    obtain ⟨b1, b2, b3, _⟩ := hg j hj
    rw [a1, a2, a3, b1, b2, b3]
    exact h.1 i j hi hj
  · rw [(hg i hi).2.2.2, (hg j hj).2.2.2]
    exact h.2 i j a hi hj
/-- one node anew -/
theorem SGI.one {G : Nat → Nod} {k s : Nat} {x : Nod} (h : SGI G k) (hk : ∀ i a, i < k → i ≠ s → a ∈ n_kl x → a ∉ n_kl (G i)) (hs : 6 ≤ n_kd x → n_kd x ≤ 11 → ∀ i, i < k → i ≠ s → n_me (G i) = i → 6 ≤ n_kd (G i) → n_kd (G i) ≤ 11 → n_sg (G i) ≠ n_sg x) : SGI (upG G s x) k := by
  refine ⟨fun i j hi hj => ?_, fun i j a hi hj => ?_⟩
  · by_cases ei : i = s
    · by_cases ej : j = s
      · intros; omega
      · rw [ei, upG_s, upG_n ej]
        intro _ q2 q3 q4 q5 q6 q7
        exact absurd q7.symm (hs q3 q4 j hj ej q2 q5 q6)
    · by_cases ej : j = s
      · rw [ej, upG_s, upG_n ei]
        intro q1 _ q3 q4 q5 q6 q7
        exact absurd q7 (hs q5 q6 i hi ei q1 q3 q4)
      · rw [upG_n ei, upG_n ej]
        exact h.1 i j hi hj
  · by_cases ei : i = s
    · by_cases ej : j = s
      · intros; omega
      · rw [ei, upG_s, upG_n ej]
        intro q1 q2
        exact absurd q2 (hk j a hj ej q1)
    · by_cases ej : j = s
      · rw [ej, upG_s, upG_n ei]
        intro q1 q2
        exact absurd q1 (hk i a hi ei q2)
      · rw [upG_n ei, upG_n ej]
        exact h.2 i j a hi hj
theorem SGI.opn {G : Nat → Nod} {k : Nat} (h : SGI G k) : SGI (upG G k (mkN 12 k 0 0 [] [])) (k + 1) := by
  refine ⟨fun i j hi hj => ?_, fun i j a hi hj => ?_⟩
  · by_cases ei : i = k
    · rw [ei, upG_s]
      intro _ _ _ q
      exact absurd q (show ¬ 12 ≤ 11 by decide)
    · by_cases ej : j = k
      · rw [ej, upG_s]
        intro _ _ _ _ _ q
        exact absurd q (show ¬ 12 ≤ 11 by decide)
      · rw [upG_n ei, upG_n ej]
        exact h.1 i j (by omega) (by omega)
  · by_cases ei : i = k
    · rw [ei, upG_s]
      intro q
      exact absurd q List.not_mem_nil
    · by_cases ej : j = k
      · rw [ej, upG_s]
        intro _ q
        exact absurd q List.not_mem_nil
      · rw [upG_n ei, upG_n ej]
        exact h.2 i j a (by omega) (by omega)
section RSTEP
variable {N : Nat → Int64} {S Lt : Nat → Int32} {l : Nat}
theorem rnm_one (hl : l ≤ 4200) {x : Int32} {s t : List Nat} (h1 : RNm N S Lt l x s) (h2 : RNm N S Lt l x t) : s = t := by
  obtain ⟨m, m1, m2, m3, m4⟩ := h1
  obtain ⟨n, n1, n2, n3, n4⟩ := h2
  have e2 : m = n := (nI_eq (by omega) (by omega)).mp (m1.symm.trans n1)
  subst e2
  have a := same_r m2 m2 hl hl n3 n3 n4 n4
  have b := same_r m2 m2 hl hl m3 n3 m4 n4
  rw [if_pos rfl] at a
  rw [a] at b
  by_cases e3 : s = t
  · exact e3
  · rw [if_neg e3] at b
    exact absurd (Option.some.inj b) (by decide)
def RN1 (N : Nat → Int64) (S Lt : Nat → Int32) (l : Nat) (Nm : Nat → Int32) (sh : Nat) (D : List Nat → Option Nat) (G : Nat → Nod) : Prop := (∀ t, 6 ≤ t → t < sh → Nm t = -1 ∨ ∃ w i, D w = some i ∧ n_sg (G i) = t ∧ RNm N S Lt l (Nm t) w) ∧ (∀ w i, D w = some i → 6 ≤ n_sg (G i) ∧ n_sg (G i) < sh ∧ RNm N S Lt l (Nm (n_sg (G i))) w)
theorem RN1.cg {Nm : Nat → Int32} {sh : Nat} {D : List Nat → Option Nat} {G G' : Nat → Nod} (h : RN1 N S Lt l Nm sh D G) (hg : ∀ w i, D w = some i → n_sg (G' i) = n_sg (G i)) : RN1 N S Lt l Nm sh D G' := by
  refine ⟨fun t t1 t2 => (h.1 t t1 t2).imp id ?_, fun w i q => by rw [hg w i q]; exact h.2 w i q⟩
  rintro ⟨w, i, q1, q2, q3⟩
  exact ⟨w, i, q1, by rw [hg w i q1]; exact q2, q3⟩
theorem RN1.shp {Nm : Nat → Int32} {sh : Nat} {D : List Nat → Option Nat} {G : Nat → Nod} (h : RN1 N S Lt l Nm sh D G) : RN1 N S Lt l (upd Nm sh (-1)) (sh + 1) D G := by
  refine ⟨fun t t1 t2 => ?_, fun w i q => ?_⟩
  · by_cases e : t = sh
    · exact Or.inl (by rw [e, pk_us])
    · rw [pk_un e]
      exact h.1 t t1 (by omega)
  · obtain ⟨a, b, c⟩ := h.2 w i q
    exact ⟨a, by omega, by rw [pk_un (by omega)]; exact c⟩
/-- a new name at the newest shape -/
theorem RN1.nam {Nm : Nat → Int32} {sh s : Nat} {D : List Nat → Option Nat} {G G' : Nat → Nod} {v : Int32} {w : List Nat} (h : RN1 N S Lt l Nm sh D G) (h6 : 6 ≤ sh) (hD : D w = none) (hg : ∀ u i, D u = some i → G' i = G i) (hs : n_sg (G' s) = sh) (hv : RNm N S Lt l v w) : RN1 N S Lt l (upd (upd Nm sh (-1)) sh v) (sh + 1) (fun u => if u = w then some s else D u) G' := by
  refine ⟨fun t t1 t2 => ?_, fun u i q => ?_⟩
  · by_cases e : t = sh
    · exact Or.inr ⟨w, s, if_pos rfl, by rw [hs, e], by rw [e, pk_us]; exact hv⟩
    · rw [pk_un e, pk_un e]
      refine (h.1 t t1 (by omega)).imp id ?_
      rintro ⟨u, i, q1, q2, q3⟩
      have hne : u ≠ w := fun z => by rw [z, hD] at q1; cases q1
      exact ⟨u, i, by show (if u = w then some s else D u) = some i; rw [if_neg hne]; exact q1, by rw [hg u i q1]; exact q2, q3⟩
  · have q : (if u = w then some s else D u) = some i := q
    by_cases e : u = w
    · rw [if_pos e] at q
      have e1 := Option.some.inj q
      rw [← e1, hs, e, pk_us]
      exact ⟨h6, by omega, hv⟩
    · rw [if_neg e] at q
      obtain ⟨a, b, c⟩ := h.2 u i q
      rw [hg u i q, pk_un (by omega), pk_un (by omega)]
      exact ⟨a, by omega, c⟩
theorem dfn_r (hl : l ≤ 4200) {Nm : Nat → Int32} {sh n : Nat} {D : List Nat → Option Nat} {G : Nat → Nod} {u : List Nat} (h : RN1 N S Lt l Nm sh D G) (h6 : 6 ≤ sh) (hsh : sh ≤ 140) (hn : n < 4200) (hu : RSt N S Lt l n u) (hb : ∀ v, v ∈ u → v ≤ 255) : m_X9_defined N S Lt (nI sh) Nm (nI n) = some (match D u with | none => -1 | some d => nI (n_sg (G d))) := by
  have hu' : RNm N S Lt l (nI n) u := ⟨n, rfl, hn, hu, hb⟩
  rcases dfr_eq hl h6 hsh (fun t t1 t2 => (h.1 t t1 t2).imp id (fun ⟨w, i, _, _, q⟩ => ⟨w, q⟩)) hu' hn with ⟨t, t1, t2, t3, t4⟩ | ⟨t1, t2⟩
  · rw [t4]
    rcases h.1 t t1 t2 with e | ⟨w, i, q1, q2, q3⟩
    · obtain ⟨m, m1, m2, _⟩ := t3
      rw [e] at m1
      exact absurd m1.symm (nI_m1 (by omega))
    · have := rnm_one hl q3 t3
      subst this
      rw [q1, ← q2]
  · rw [t2]
    cases hD : D u with
    | none => rfl
    | some d =>
      obtain ⟨a, b, c⟩ := h.2 u d hD
      exact absurd c (t1 _ a b)
theorem shp_eq {sh : Nat} {So Nm Wi Kd Ma Fa : Nat → Int32} {x : Int32} (h : sh < 140) : m_X9_shape (nI sh) So Nm Wi Kd Ma Fa x = some (nI sh, (nI (sh + 1), upd So sh x, upd Nm sh (-1), upd Wi sh 0, upd Kd sh (-1), upd Ma sh 0, upd Fa sh (-1))) := by
  unfold m_X9_shape
  simp only [bd_go h (by decide), bd_gc h (by decide), nI_clamp (show sh < 2 ^ 31 by omega), nI_1]
  rw [show nI (sh + 1) - 1 = nI sh by rw [show (1 : Int32) = nI 1 from rfl, pk_sub (by omega)]; rfl]
theorem adk_eq {kc x : Nat} {Kd Ma kS kN kD kX : Nat → Int32} {kl : List Nat} (h : kc < 2200) (hx : x < 140) (hl : ∀ a, a ∈ kl → a < 2200) : ∃ Ma', m_X9_addKid Kd Ma (nI kc) kS kN kD kX (nI x) (if kl.length = 0 then -1 else nI (kl.getD (kl.length - 1) 0)) = some (nI kc, ((if kl.length = 0 then upd Kd x (nI kc) else Kd), Ma', nI (kc + 1), upd kS kc (-1), upd kN kc (-1), upd kD kc (-1), (if kl.length = 0 then upd kX kc (-1) else upd (upd kX kc (-1)) (kl.getD (kl.length - 1) 0) (nI kc)))) := by
  unfold m_X9_addKid
  simp only [bd_go h (by decide), bd_gc h (by decide), nI_clamp (show kc < 2 ^ 31 by omega), nI_1, bd_go hx (by decide), bd_gc hx (by decide), nI_clamp (show x < 2 ^ 31 by omega)]
  by_cases q : kl.length = 0
  · simp only [if_pos q, if_neg (show ¬ (0 : Int32) ≤ -1 by decide)]
    exact ⟨_, rfl⟩
  · have hlt := hl _ (ch_mem (l := kl) (j := kl.length - 1) (by omega))
    simp only [if_neg q, if_pos (nI_pos' (show kl.getD (kl.length - 1) 0 < 2 ^ 31 by omega)), bd_go hlt (by decide), bd_gc hlt (by decide), nI_clamp (show kl.getD (kl.length - 1) 0 < 2 ^ 31 by omega)]
    exact ⟨_, rfl⟩
theorem adk_no {kc : Nat} {Kd Ma kS kN kD kX : Nat → Int32} {a b : Int32} (h : ¬ kc < 2200) (hk : kc < 2 ^ 31) : m_X9_addKid Kd Ma (nI kc) kS kN kD kX a b = none := by
  unfold m_X9_addKid
  rw [if_pos (Or.inr (by rw [nI_clamp hk]; omega))]
theorem alk_r {So Wi Kd kS kN kX : Nat → Int32} {sh kc k : Nat} {G : Nat → Nod} (h : RLs N S Lt l So Wi Kd kS kN kX sh kc k G) (hu : SGI G k) (h6 : ∀ t, t < 6 → So t = nI t) (hsh : sh ≤ 140) (h66 : 6 ≤ sh) {b c : Nat} (hb : b < k) (hc : c < k) (kb : KD1 G b) (kc' : KD1 G c) (kb10 : n_kd (G (n_me (G b))) ≤ 10) : m_X9_alike So (nI (n_sg (G b))) (nI (n_sg (G c))) = some (if alk G b c = true then 1 else 0) := by
  have nrm : ∀ x, x < k → KD1 G x → n_sg (G x) = n_sg (G (n_me (G x))) ∧ n_me (G x) < k ∧ n_sg (G x) < sh ∧ So (n_sg (G x)) = nI (srt (n_kd (G (n_me (G x))))) ∧ (n_kd (G (n_me (G x))) ≤ 5 → n_sg (G x) = n_kd (G (n_me (G x)))) ∧ (6 ≤ n_kd (G (n_me (G x))) → 6 ≤ n_sg (G x)) := by
    intro x hx kx
    have e1 : n_sg (G x) = n_sg (G (n_me (G x))) := by
      by_cases q : n_me (G x) = x
      · rw [q]
      · exact (h x hx).2.2.1 q
    have hm := (h x hx).1
    obtain ⟨t1, t2, t3⟩ := (h _ hm).2.2.2 kx.2
    by_cases q : n_kd (G (n_me (G x))) ≤ 5
    · have e2 := t1 q
      have hs : srt (n_kd (G (n_me (G x)))) = n_kd (G (n_me (G x))) := by unfold srt; rw [if_neg (by omega), if_neg (by omega), if_neg (by omega), if_neg (by omega)]
      rw [e1, e2]
      refine ⟨rfl, hm, by omega, ?_, fun _ => rfl, fun z => by omega⟩
      rw [hs, h6 _ (by omega)]
    · obtain ⟨c1, c2, c3, _⟩ := t3 (by omega) kx.1
      rw [e1]
      exact ⟨rfl, hm, c2, c3, fun z => absurd z q, fun _ => c1⟩
  obtain ⟨b1, b2, b3, b4, b5, b6⟩ := nrm b hb kb
  obtain ⟨c1, c2, c3, c4, c5, c6⟩ := nrm c hc kc'
  have kb1 := kb.1
  have kc1 := kc'.1
  have hsb := srt_6 _ kb1
  have hsc := srt_6 _ kc1
  unfold m_X9_alike
  simp only [bd_go (show n_sg (G b) < 140 by omega) (by decide), bd_gc (show n_sg (G b) < 140 by omega) (by decide), bd_go (show n_sg (G c) < 140 by omega) (by decide), bd_gc (show n_sg (G c) < 140 by omega) (by decide), nI_clamp (show n_sg (G b) < 2 ^ 31 by omega), nI_clamp (show n_sg (G c) < 2 ^ 31 by omega), b4, c4]
  by_cases e : n_sg (G b) = n_sg (G c)
  · rw [if_pos (by rw [e]), if_pos (alk_i.mpr ?_)]
    by_cases q : n_kd (G (n_me (G b))) ≤ 5
    · have := b5 q
      have q2 : n_kd (G (n_me (G c))) ≤ 5 := by
        by_cases z : n_kd (G (n_me (G c))) ≤ 5
        · exact z
        · have := c6 (by omega); omega
      have := c5 q2
      exact ⟨by omega, Or.inl (by omega)⟩
    · have q2 : ¬ n_kd (G (n_me (G c))) ≤ 5 := fun z => by
        have := c5 z
        have := b6 (by omega)
        omega
      have e2 := hu.1 (n_me (G b)) (n_me (G c)) b2 c2 kb.2 kc'.2 (by omega) kb1 (by omega) kc1 (by rw [← b1, ← c1]; exact e)
      rw [e2]
      exact ⟨rfl, Or.inr rfl⟩
  · rw [if_neg (fun z => e ((nI_eq (by omega) (by omega)).mp z))]
    by_cases e2 : srt (n_kd (G (n_me (G b)))) = srt (n_kd (G (n_me (G c))))
    · have e3 := srt_i _ kb1 _ kc1 e2
      rw [if_pos (by rw [e2])]
      by_cases q6 : n_kd (G (n_me (G b))) = 6
      · rw [if_pos (show nI (srt (n_kd (G (n_me (G b))))) = 6 by rw [hsb.1.mpr q6]; rfl), if_pos (alk_i.mpr ⟨e3, Or.inl (by omega)⟩)]
      · rw [if_neg (show ¬ nI (srt (n_kd (G (n_me (G b))))) = 6 from fun z => q6 (hsb.1.mp ((nI_eq (b := 6) (by omega) (by decide)).mp z)))]
        by_cases q7 : n_kd (G (n_me (G b))) = 7
        · rw [if_pos (show nI (srt (n_kd (G (n_me (G b))))) = 7 by rw [hsb.2.1.mpr q7]; rfl), if_pos (alk_i.mpr ⟨e3, Or.inl (by omega)⟩)]
        · rw [if_neg (show ¬ nI (srt (n_kd (G (n_me (G b))))) = 7 from fun z => q7 (hsb.2.1.mp ((nI_eq (b := 7) (by omega) (by decide)).mp z))), if_neg (fun z => ?_)]
          obtain ⟨_, z2⟩ := alk_i.mp z
          rcases z2 with z2 | z2
          · by_cases q5 : n_kd (G (n_me (G b))) ≤ 5
            · have := b5 q5
              have := c5 (by omega)
              omega
            · omega
          · exact e (by rw [b1, c1, z2])
    · rw [if_neg (fun z => e2 ((nI_eq (by omega) (by omega)).mp z)), if_neg (fun z => e2 (by rw [(alk_i.mp z).1]))]
end RSTEP
end
section
-- the reference's look at unions and items
def FIN (T : Nat → Int32) (L : Nat) (Sd In Nx Am K F : Nat → Int32) (N : Nat → Int64) (S I X Lt : Nat → Int32) (l : Nat) (Fi kD : Nat → Int32) (kc k : Nat) (G : Nat → Nod) (fi : List (Nat × Nat × Option Nat)) : Prop := ∀ j, j < fi.length → Fi j = nI (fi.getD j (0, 0, none)).1 ∧ (fi.getD j (0, 0, none)).1 < kc ∧ (∃ s i, s < k ∧ n_me (G s) = s ∧ n_kd (G s) = 10 ∧ i < (n_ch (G s)).length ∧ i < (n_kl (G s)).length ∧ (n_kl (G s)).getD i 0 = (fi.getD j (0, 0, none)).1 ∧ (n_ch (G s)).getD i 0 = (fi.getD j (0, 0, none)).2.1) ∧ (match (fi.getD j (0, 0, none)).2.2 with | none => kD (fi.getD j (0, 0, none)).1 = -1 | some p => ∃ n q, kD (fi.getD j (0, 0, none)).1 = nI n ∧ VV T L Sd In Nx Am K F N S I X Lt l n p q)
def RI (T : Nat → Int32) (L : Nat) (Sd In Nx Am K F : Nat → Int32) (N : Nat → Int64) (S I X Lt : Nat → Int32) (l : Nat) (So Nm Wi Kd : Nat → Int32) (shI lkI kcI : Int32) (kS kN kD kX : Nat → Int32) (dnI : Int32) (Fi : Nat → Int32) : LSt → Prop
  | (k, sh, kc, _, D, fi, G) => shI = nI sh ∧ 6 ≤ sh ∧ sh ≤ 6 + k ∧ lkI = nI k ∧ k ≤ 128 ∧ kcI = nI kc ∧ kc ≤ 2200 ∧ dnI = nI fi.length ∧ fi.length ≤ 2200 ∧ (∀ t, t < 6 → So t = nI t) ∧ RN1 N S Lt l Nm sh D G ∧ RLs N S Lt l So Wi Kd kS kN kX sh kc k G ∧ SGI G k ∧ FIN T L Sd In Nx Am K F N S I X Lt l Fi kD kc k G fi
def RX (x : Option (Except TS (Int32 × TS))) (P : Int32 → TS → LSt → Prop) : LRs → Prop
  | .inl e => x = none ∨ ∃ u, x = some (.error (nI e.1, (nI e.2, u)))
  | .inr st => x = none ∨ ∃ v u, x = some (.ok (v, u)) ∧ P v u st
def PO (T : Nat → Int32) (L : Nat) (Sd In Nx Am K F : Nat → Int32) (N : Nat → Int64) (S I X Lt : Nat → Int32) (l : Nat) (s kc0 : Nat) (kN0 kD0 : Nat → Int32) (v : Int32) : TS → LSt → Prop
  | (_, _, sh, lk, So, Nm, Wi, Kd, _, _, kc, kS, kN, kD, kX, dn, Fi), st => RI T L Sd In Nx Am K F N S I X Lt l So Nm Wi Kd sh lk kc kS kN kD kX dn Fi st ∧ v = nI (n_sg (st.2.2.2.2.2.2 s)) ∧ ∀ a, a < kc0 → kN a = kN0 a ∧ kD a = kD0 a
def okRe (T : Nat → Int32) (L : Nat) (Sd In Nx Am K F : Nat → Int32) (N : Nat → Int64) (S I X Lt : Nat → Int32) (l : Nat) (f : FS) (d : Nat) (g : Nat → Bool → LSt → LRs) : Prop := ∀ (fl pp : Int32) (So Nm Wi Kd Ma Fa kS kN kD kX Fi : Nat → Int32) (shI lkI kcI dnI : Int32) (p : Nat) (br : Bool) (st : LSt) (n q : Nat), RI T L Sd In Nx Am K F N S I X Lt l So Nm Wi Kd shI lkI kcI kS kN kD kX dnI Fi st → WFs st → VV T L Sd In Nx Am K F N S I X Lt l n p q → RX (f fl pp K F N S I X Lt shI lkI So Nm Wi Kd Ma Fa kcI kS kN kD kX dnI Fi (nI n) (nI d) (if br = true then 1 else 0)) (PO T L Sd In Nx Am K F N S I X Lt l st.1 st.2.2.1 kN kD) (g p br st)
theorem RX.no {P : Int32 → TS → LSt → Prop} {r : LRs} : RX none P r := by
  cases r with
  | inl e => exact Or.inl rfl
  | inr st => exact Or.inl rfl
section RFIN
variable {T : Nat → Int32} {L : Nat} {Sd In Nx Am K F S I X Lt : Nat → Int32} {N : Nat → Int64} {l : Nat}
theorem FIN.cg {Fi kD Fi' kD' : Nat → Int32} {kc k kc' k' : Nat} {G G' : Nat → Nod} {fi : List (Nat × Nat × Option Nat)} (h : FIN T L Sd In Nx Am K F N S I X Lt l Fi kD kc k G fi) (h1 : ∀ j, j < fi.length → Fi' j = Fi j) (h2 : ∀ a, a < kc → kD' a = kD a) (h3 : kc ≤ kc') (h4 : k ≤ k') (hg : ∀ s, s < k → n_ch (G s) ≠ [] → n_me (G' s) = n_me (G s) ∧ n_kd (G' s) = n_kd (G s) ∧ (∃ t, n_ch (G' s) = n_ch (G s) ++ t) ∧ (∃ t, n_kl (G' s) = n_kl (G s) ++ t)) : FIN T L Sd In Nx Am K F N S I X Lt l Fi' kD' kc' k' G' fi := by
  intro j hj
  obtain ⟨a1, a2, ⟨s, i, b1, b2, b3, b4, b5, b6, b7⟩, a4⟩ := h j hj
  obtain ⟨g1, g2, ⟨t, g3⟩, ⟨u, g4⟩⟩ := hg s b1 (fun z => by rw [z] at b4; exact absurd b4 (Nat.not_lt_zero _))
  refine ⟨by rw [h1 j hj]; exact a1, by omega, ⟨s, i, by omega, by rw [g1]; exact b2, by rw [g2]; exact b3, by rw [g3, List.length_append]; omega, by rw [g4, List.length_append]; omega, by rw [g4, getD_l b5]; exact b6, by rw [g3, getD_l b4]; exact b7⟩, ?_⟩
  rw [h2 _ a2]
  exact a4
theorem same_ch (x : Nod) : (∃ t, n_ch x = n_ch x ++ t) ∧ (∃ t, n_kl x = n_kl x ++ t) := ⟨⟨[], (List.append_nil _).symm⟩, ⟨[], (List.append_nil _).symm⟩⟩
/-- an open slot gets another node, which has no inner slots yet -/
theorem FIN.fr {Fi kD : Nat → Int32} {kc k s : Nat} {G : Nat → Nod} {x : Nod} {fi : List (Nat × Nat × Option Nat)} (h : FIN T L Sd In Nx Am K F N S I X Lt l Fi kD kc k G fi) (hc : n_ch (G s) = []) : FIN T L Sd In Nx Am K F N S I X Lt l Fi kD kc k (upG G s x) fi := h.cg (fun _ _ => rfl) (fun _ _ => rfl) (Nat.le_refl _) (Nat.le_refl _) (fun s' _ hq => by
  by_cases e : s' = s
  · rw [e, hc] at hq
    exact absurd rfl hq
  · rw [upG_n e]
    exact ⟨rfl, rfl, same_ch _⟩)
theorem RI.kid {So Nm Wi Kd kS kN kD kX Fi : Nat → Int32} {k sh kc : Nat} {pl : List Nat} {D : List Nat → Option Nat} {fi : List (Nat × Nat × Option Nat)} {G : Nat → Nod} (h : RI T L Sd In Nx Am K F N S I X Lt l So Nm Wi Kd (nI sh) (nI k) (nI kc) kS kN kD kX (nI fi.length) Fi (k, sh, kc, pl, D, fi, G)) {s : Nat} {vS vN vD : Int32} {x : Nod} (hs : s < k) (hkc : kc < 2200) (hm : n_me (G s) = s) (h6 : 6 ≤ n_kd (G s)) (h11 : n_kd (G s) ≤ 11) (x1 : n_kd x = n_kd (G s)) (x2 : n_me x = n_me (G s)) (x3 : n_sg x = n_sg (G s)) (x4 : n_ch x = n_ch (G s)) (x5 : n_wd x = n_wd (G s)) (x6 : n_kl x = n_kl (G s) ++ [kc]) (x7 : n_pa x = n_pa (G s)) (x8 : n_fn x = n_fn (G s)) (hsy : n_kd (G s) = 9 → ∃ w, n_sy x = n_sy (G s) ++ [w] ∧ RNm N S Lt l vN w) (h9 : n_kd (G s) ≠ 9 → n_sy x = n_sy (G s)) :
    RI T L Sd In Nx Am K F N S I X Lt l So Nm Wi (if (n_kl (G s)).length = 0 then upd Kd (n_sg (G s)) (nI kc) else Kd) (nI sh) (nI k) (nI (kc + 1)) (upd kS kc vS) (upd kN kc vN) (upd kD kc vD) (if (n_kl (G s)).length = 0 then upd kX kc (-1) else upd (upd kX kc (-1)) ((n_kl (G s)).getD ((n_kl (G s)).length - 1) 0) (nI kc)) (nI fi.length) Fi (k, sh, kc + 1, pl, D, fi, upG G s x) := by
  obtain ⟨i1, i2, i3, i4, i5, i6, i7, i8, i9, i10, i11, i12, i13, i14⟩ := h
  refine ⟨rfl, i2, i3, rfl, i5, rfl, by omega, rfl, i9, i10, i11.cg (fun w i _ => ?_), i12.kid i13 hs hm h6 h11 x1 x2 x3 x4 x5 x6 x7 x8 hsy h9, ?_, i14.cg (fun _ _ => rfl) (fun a ha => pk_un (by omega)) (by omega) (Nat.le_refl _) (fun s' _ _ => ?_)⟩
  · by_cases q : i = s
    · rw [q, upG_s]; exact x3
    · rw [upG_n q]
  · refine SGI.one i13 (fun i a hi ei ha hc => ?_) (fun q1 q2 i hi ei q3 q4 q5 q6 => ?_)
    · rw [x6] at ha
      rcases List.mem_append.mp ha with q | q
      · exact ei (i13.2 i s a hi hs hc q)
      · rw [List.mem_singleton.mp q] at hc
        have := (i12 i hi).2.1 kc hc
        omega
    · rw [x3] at q6
      exact ei (i13.1 i s hi hs q3 hm q4 q5 h6 h11 q6)
  · by_cases q : s' = s
    · rw [q, upG_s]
      exact ⟨x2, x1, ⟨[], by rw [x4, List.append_nil]⟩, ⟨[kc], x6⟩⟩
    · rw [upG_n q]
      exact ⟨rfl, rfl, same_ch _⟩
theorem RI.jon {So Nm Wi Kd kS kN kD kX Fi : Nat → Int32} {k sh kc : Nat} {pl : List Nat} {D : List Nat → Option Nat} {fi : List (Nat × Nat × Option Nat)} {G : Nat → Nod} (h : RI T L Sd In Nx Am K F N S I X Lt l So Nm Wi Kd (nI sh) (nI k) (nI kc) kS kN kD kX (nI fi.length) Fi (k, sh, kc, pl, D, fi, G)) {s c : Nat} (hs : s < k) (hc : c < k) (hsc : s ≠ c) (hm : n_me (G s) = s) (h6 : 6 ≤ n_kd (G s)) (h11 : n_kd (G s) ≤ 11) (hp : n_pa (G c) = 999) (hl : (n_ch (G s)).length < (n_kl (G s)).length) (hf : n_kd (G s) = 10 → RNm N S Lt l (kN ((n_kl (G s)).getD (n_ch (G s)).length 0)) (n_fn (G c))) :
    RI T L Sd In Nx Am K F N S I X Lt l So Nm Wi Kd (nI sh) (nI k) (nI kc) (upd kS ((n_kl (G s)).getD (n_ch (G s)).length 0) (nI (n_sg (G c)))) kN kD kX (nI fi.length) Fi (jon s c (k, sh, kc, pl, D, fi, G)) := by
  obtain ⟨i1, i2, i3, i4, i5, i6, i7, i8, i9, i10, i11, i12, i13, i14⟩ := h
  have e : ∀ {β : Type} (g : Nod → β), (∀ x, g (chN x c) = g x) → (∀ x, g (paN x s) = g x) → ∀ i, g (upG (upG G s (chN (G s) c)) c (paN (G c) s) i) = g (G i) := fun g h1 h2 i => by
    by_cases q : i = c
    · rw [q, upG_s]; exact h2 _
    · rw [upG_n q]
      by_cases q2 : i = s
      · rw [q2, upG_s]; exact h1 _
      · rw [upG_n q2]
  have ek := e n_kd (fun _ => rfl) (fun _ => rfl)
  have em := e n_me (fun _ => rfl) (fun _ => rfl)
  have es := e n_sg (fun _ => rfl) (fun _ => rfl)
  have el := e n_kl (fun _ => rfl) (fun _ => rfl)
  refine ⟨rfl, i2, i3, rfl, i5, rfl, i7, rfl, i9, i10, i11.cg (fun _ i _ => es i), i12.jon i13 i5 hs hc hsc hm h6 h11 hp hl hf, i13.cg (fun i _ => ⟨ek i, em i, es i, el i⟩), i14.cg (fun _ _ => rfl) (fun _ _ => rfl) (Nat.le_refl _) (Nat.le_refl _) (fun s' _ _ => ⟨em s', ek s', ?_, ⟨[], by rw [el, List.append_nil]⟩⟩)⟩
  by_cases q : s' = c
  · rw [q, upG_s]; exact (same_ch _).1
  · rw [upG_n q]
    by_cases q2 : s' = s
    · rw [q2, upG_s]; exact ⟨[c], rfl⟩
    · rw [upG_n q2]; exact (same_ch _).1
end RFIN
section RUNI
variable {T : Nat → Int32} {L : Nat} {Sd In Nx Am K F S I X Lt : Nat → Int32} {N : Nat → Int64} {l : Nat}
theorem r_uni_in {f : FS} {k75 : KU} {fl pp : Int32} {So Nm Wi Kd Ma Fa kS kN kD kX Fi : Nat → Int32} {k sh kc : Nat} {pl : List Nat} {D : List Nat → Option Nat} {fi : List (Nat × Nat × Option Nat)} {G : Nat → Nod} (hI : RI T L Sd In Nx Am K F N S I X Lt l So Nm Wi Kd (nI sh) (nI k) (nI kc) kS kN kD kX (nI fi.length) Fi (k, sh, kc, pl, D, fi, G)) {s c d n p q : Nat} {x5 : Int32} (hs : s < k) (hc : c < k) (hm : n_me (G s) = s) (hk : n_kd (G s) = 11) (hlen : (n_ch (G s)).length = (n_kl (G s)).length) (h16 : (n_kl (G s)).length ≤ 16) (hkd : ∀ x, x ∈ n_ch (G s) → KD1 G x ∧ n_kd (G (n_me (G x))) ≤ 10) (hkc : KD1 G c) (hv : VV T L Sd In Nx Am K F N S I X Lt l n p q) :
    (hlk s c (k, sh, kc, pl, D, fi, G) = true ∧ ∃ u, m_X9_union_101 f K F N S I X Lt k75 sr_fuel fl pp (nI sh) (nI k) So Nm Wi Kd Ma Fa (nI kc) kS kN kD kX (nI fi.length) Fi (nI d) (nI (n_sg (G s))) x5 (nI n) (nI (n_sg (G c))) (Kd (n_sg (G s))) = some (.error (6, nI p, u))) ∨ (hlk s c (k, sh, kc, pl, D, fi, G) = false ∧ m_X9_union_101 f K F N S I X Lt k75 sr_fuel fl pp (nI sh) (nI k) So Nm Wi Kd Ma Fa (nI kc) kS kN kD kX (nI fi.length) Fi (nI d) (nI (n_sg (G s))) x5 (nI n) (nI (n_sg (G c))) (Kd (n_sg (G s))) = m_X9_union_101 f K F N S I X Lt k75 1 fl pp (nI sh) (nI k) So Nm Wi Kd Ma Fa (nI kc) kS kN kD kX (nI fi.length) Fi (nI d) (nI (n_sg (G s))) x5 (nI n) (nI (n_sg (G c))) (-1)) := by
  obtain ⟨i1, i2, i3, i4, i5, i6, i7, i8, i9, i10, i11, i12, i13, i14⟩ := hI
  obtain ⟨s0, s1, s2, s3⟩ := i12 s hs
  obtain ⟨t1, t2, t3⟩ := s3 hm
  obtain ⟨c1, c2, c3, c4, c5, c6, c7, c8⟩ := t3 (by omega) (by omega)
  have hb := hv.base
  obtain ⟨R, hR⟩ : ∃ R, ∀ fu, m_X9_union_101 f K F N S I X Lt k75 (fu + 1) fl pp (nI sh) (nI k) So Nm Wi Kd Ma Fa (nI kc) kS kN kD kX (nI fi.length) Fi (nI d) (nI (n_sg (G s))) x5 (nI n) (nI (n_sg (G c))) (-1) = R := ⟨m_X9_union_101 f K F N S I X Lt k75 1 fl pp (nI sh) (nI k) So Nm Wi Kd Ma Fa (nI kc) kS kN kD kX (nI fi.length) Fi (nI d) (nI (n_sg (G s))) x5 (nI n) (nI (n_sg (G c))) (-1), fun fu => by simp only [m_X9_union_101, if_pos (show (-1 : Int32) < 0 by decide)]⟩
  have go : ∀ (fuel j : Nat), j ≤ (n_kl (G s)).length → (n_kl (G s)).length - j < fuel → ((n_ch (G s)).take j).any (fun b => alk G b c) = false →
      ((n_ch (G s)).any (fun b => alk G b c) = true ∧ ∃ u, m_X9_union_101 f K F N S I X Lt k75 fuel fl pp (nI sh) (nI k) So Nm Wi Kd Ma Fa (nI kc) kS kN kD kX (nI fi.length) Fi (nI d) (nI (n_sg (G s))) x5 (nI n) (nI (n_sg (G c))) (if j = (n_kl (G s)).length then -1 else nI ((n_kl (G s)).getD j 0)) = some (.error (6, nI p, u))) ∨ ((n_ch (G s)).any (fun b => alk G b c) = false ∧ m_X9_union_101 f K F N S I X Lt k75 fuel fl pp (nI sh) (nI k) So Nm Wi Kd Ma Fa (nI kc) kS kN kD kX (nI fi.length) Fi (nI d) (nI (n_sg (G s))) x5 (nI n) (nI (n_sg (G c))) (if j = (n_kl (G s)).length then -1 else nI ((n_kl (G s)).getD j 0)) = R) := by
    intro fuel
    induction fuel with
    | zero => intro j _ hf; exact absurd hf (Nat.not_lt_zero _)
    | succ fuel ih =>
      intro j hj hf ha
      by_cases e : j = (n_kl (G s)).length
      · rw [if_pos e]
        rw [e, ← hlen, List.take_length] at ha
        exact Or.inr ⟨ha, hR fuel⟩
      · have hjk : j < (n_kl (G s)).length := by omega
        have hjl : j < (n_ch (G s)).length := by omega
        obtain ⟨d1, d2⟩ := c4.1 j hjk
        have d1 : (n_kl (G s)).getD j 0 < kc := d1
        obtain ⟨e1, _⟩ := c6 j hjl
        have hmem := ch_mem hjl
        obtain ⟨x1, x2⟩ := t2 _ hmem
        rw [if_neg e]
        simp only [m_X9_union_101, if_neg (nI_pos (show (n_kl (G s)).getD j 0 < 2 ^ 31 by omega)), bd_go (show (n_kl (G s)).getD j 0 < 2200 by omega) (by decide), bd_gc (show (n_kl (G s)).getD j 0 < 2200 by omega) (by decide), nI_clamp (show (n_kl (G s)).getD j 0 < 2 ^ 31 by omega), e1, alk_r i12 i13 i10 (by omega) i2 x1 hc (hkd _ hmem).1 hkc (hkd _ hmem).2, Option.bind_some, m_X9_union_128, bd_go (show n < 4200 by omega) (by decide), bd_gc (show n < 4200 by omega) (by decide), nI_clamp (show n < 2 ^ 31 by omega)]
        by_cases q : alk G ((n_ch (G s)).getD j 0) c = true
        · rw [if_pos q, I10, nd0, trE, hb.2.2.2]
          exact Or.inl ⟨List.any_eq_true.mpr ⟨_, hmem, q⟩, _, rfl⟩
        · rw [if_neg q, I00, nd1, trO, d2]
          refine ih (j + 1) (by omega) (by omega) ?_
          rw [List.take_succ_eq_append_getElem hjl, List.any_append, ha]
          rw [ls_get hjl] at q
          simp [q]
  have := go sr_fuel 0 (by omega) (by unfold sr_fuel; omega) rfl
  rw [← c4.ptr] at this
  exact this.imp id (fun z => ⟨z.1, z.2.trans (hR 0).symm⟩)
end RUNI
end
section
-- the reference's unions and items
section RUNI2
variable {T : Nat → Int32} {L : Nat} {Sd In Nx Am K F S I X Lt : Nat → Int32} {N : Nat → Int64} {l : Nat}
theorem RI.sg {So Nm Wi Kd kS kN kD kX Fi : Nat → Int32} {k sh kc : Nat} {pl : List Nat} {D : List Nat → Option Nat} {fi : List (Nat × Nat × Option Nat)} {G : Nat → Nod} {a b c d' : Int32} (h : RI T L Sd In Nx Am K F N S I X Lt l So Nm Wi Kd a b c kS kN kD kX d' Fi (k, sh, kc, pl, D, fi, G)) {s : Nat} (hs : s < k) (hm : n_me (G s) = s) (h6 : 6 ≤ n_kd (G s)) (h11 : n_kd (G s) ≤ 11) : n_sg (G s) < 140 ∧ (∀ a, a ∈ n_kl (G s) → a < 2200) ∧ (∀ x, x ∈ n_ch (G s) → x < k ∧ n_me (G x) < k ∧ n_pa (G x) = s) ∧ n_sg (G s) < sh ∧ (n_ch (G s)).length ≤ (n_kl (G s)).length := by
  obtain ⟨i1, i2, i3, i4, i5, i6, i7, i8, i9, i10, i11, i12, i13, i14⟩ := h
  obtain ⟨s0, s1, s2, s3⟩ := i12 s hs
  obtain ⟨t1, t2, t3⟩ := s3 hm
  obtain ⟨c1, c2, c3, c4, c5, c6, c7, c8⟩ := t3 h6 h11
  exact ⟨by omega, fun a ha => by have := s1 a ha; omega, fun x hx => ⟨(t2 x hx).1, (i12 x (t2 x hx).1).1, (t2 x hx).2⟩, c2, c5⟩
theorem adk0 {kc x : Nat} {Kd Ma kS kN kD kX : Nat → Int32} (h : kc < 2200) (hx : x < 140) : ∃ Ma', m_X9_addKid Kd Ma (nI kc) kS kN kD kX (nI x) (-1) = some (nI kc, (upd Kd x (nI kc), Ma', nI (kc + 1), upd kS kc (-1), upd kN kc (-1), upd kD kc (-1), upd kX kc (-1))) := by
  obtain ⟨Ma', h1⟩ := adk_eq (Kd := Kd) (Ma := Ma) (kS := kS) (kN := kN) (kD := kD) (kX := kX) (kl := []) h hx (fun a ha => absurd ha List.not_mem_nil)
  exact ⟨Ma', h1⟩
theorem klN_sg {s kc : Nat} {G : Nat → Nod} : (∀ i, n_sg (upG G s (klN (G s) kc) i) = n_sg (G i)) := fun i => by
  by_cases q : i = s
  · rw [q, upG_s]; rfl
  · rw [upG_n q]
theorem r_uni_go {f : FS} {g : Nat → Bool → LSt → LRs} {d : Nat} (hf : okRe T L Sd In Nx Am K F N S I X Lt l f (d + 1) g) (hg : okSp T L Sd In Nx Am K F N S I X Lt l g) {s kc0 : Nat} {kN0 kD0 : Nat → Int32} : ∀ (ks : List (Nat × Nat)) (fuel i lo hi : Nat) (hc hr : Int32) (fl pp : Int32) (So Nm Wi Kd Ma Fa kS kN kD kX Fi : Nat → Int32) (k sh kc : Nat) (pl : List Nat) (D : List Nat → Option Nat) (fi : List (Nat × Nat × Option Nat)) (G : Nat → Nod), ks.length < fuel → i + ks.length ≤ 16 → RI T L Sd In Nx Am K F N S I X Lt l So Nm Wi Kd (nI sh) (nI k) (nI kc) kS kN kD kX (nI fi.length) Fi (k, sh, kc, pl, D, fi, G) → WFs (k, sh, kc, pl, D, fi, G) → s < k → n_me (G s) = s → n_kd (G s) = 11 → (n_ch (G s)).length = i → (n_kl (G s)).length = i → (∀ x, x ∈ n_ch (G s) → KD1 G x ∧ n_kd (G (n_me (G x))) ≤ 10) → LCH T L Sd In Nx Am K F N S I X Lt l ks lo hi hc hr → kc0 ≤ kc → (∀ a, a < kc0 → kN a = kN0 a ∧ kD a = kD0 a) →
    RX (m_X9_union_75 f K F N S I X Lt fuel fl pp (nI sh) (nI k) So Nm Wi Kd Ma Fa (nI kc) kS kN kD kX (nI fi.length) Fi (nI d) (nI (n_sg (G s))) (if (n_kl (G s)).length = 0 then -1 else nI ((n_kl (G s)).getD ((n_kl (G s)).length - 1) 0)) hr) (PO T L Sd In Nx Am K F N S I X Lt l s kc0 kN0 kD0) (lun g s ks i (k, sh, kc, pl, D, fi, G)) := by
  intro ks
  induction ks with
  | nil =>
    intro fuel i lo hi hc hr fl pp So Nm Wi Kd Ma Fa kS kN kD kX Fi k sh kc pl D fi G hfu hi16 hI hw hs hm hk hch hkl hkd hlc hk0 hfr
    obtain ⟨fu, rfl⟩ : ∃ z, fuel = z + 1 := ⟨fuel - 1, by omega⟩
    simp only [m_X9_union_75, lun, wrt]
    rw [hlc.2.2, if_pos (show (-1 : Int32) < 0 by decide)]
    exact Or.inr ⟨_, _, rfl, hI, rfl, hfr⟩
  | cons v t ih =>
    intro fuel i lo hi hc hr fl pp So Nm Wi Kd Ma Fa kS kN kD kX Fi k sh kc pl D fi G hfu hi16 hI hw hs hm hk hch hkl hkd hlc hk0 hfr
    obtain ⟨fu, rfl⟩ : ∃ z, fuel = z + 1 := ⟨fuel - 1, by omega⟩
    rw [List.length_cons] at hfu hi16
    obtain ⟨c, b, c1, c2, c3, c4, c5, c6⟩ := hlc
    have hb := c4.base
    have hw1 : WFs (k, sh, kc, pl ++ [if i = 0 then 91 else 44], D, fi, G) := hw
    have hI1 : RI T L Sd In Nx Am K F N S I X Lt l So Nm Wi Kd (nI sh) (nI k) (nI kc) kS kN kD kX (nI fi.length) Fi (k, sh, kc, pl ++ [if i = 0 then 91 else 44], D, fi, G) := hI
    have hf1 := hf fl pp So Nm Wi Kd Ma Fa kS kN kD kX Fi _ _ _ _ v.2 true _ _ _ hI1 hw1 c4
    rw [bT] at hf1
    simp only [m_X9_union_75, lun, wrt, nI_1]
    rw [c3, if_neg (nI_pos (show c < 2 ^ 31 by omega))]
    cases hv : g v.2 true (k, sh, kc, pl ++ [if i = 0 then 91 else 44], D, fi, G) with
    | inl e =>
      rw [hv] at hf1
      rcases hf1 with hu | ⟨u, hu⟩
      · rw [hu, trN]; exact RX.no
      · rw [hu, trE]
        obtain ⟨u1, u2, u3, u4, u5, u6, u7, u8, u9, u10, u11, u12, u13, u14, u15⟩ := u
        exact Or.inr ⟨_, rfl⟩
    | inr st1 =>
      rw [hv] at hf1
      obtain ⟨fp, _⟩ := hg _ _ _ _ _ _ c4 hw1 hv
      rcases hf1 with hu | ⟨vv, u, hu, hP⟩
      · rw [hu, trN]; exact RX.no
      rw [hu, trO]
      obtain ⟨k1, sh1, kc1, pl1, D1, fi1, G1⟩ := st1
      obtain ⟨fl1, pp1, shI, lkI, So1, Nm1, Wi1, Kd1, Ma1, Fa1, kcI, kS1, kN1, kD1, kX1, dnI, Fi1⟩ := u
      obtain ⟨hI2, ev, hfr1⟩ := hP
      obtain ⟨a1, a2, a3, a4, a5, a6, a7, a8, a9, a10, a11, a12, a13⟩ := fp
      obtain ⟨j1, j2, j3, j4, j5, j6, j7, j8, j9, j10, j11, j12, j13, j14⟩ := hI2
      subst j1
      subst j4
      subst j6
      subst j8
      have hI2 : RI T L Sd In Nx Am K F N S I X Lt l So1 Nm1 Wi1 Kd1 (nI sh1) (nI k1) (nI kc1) kS1 kN1 kD1 kX1 (nI fi1.length) Fi1 (k1, sh1, kc1, pl1, D1, fi1, G1) := ⟨rfl, j2, j3, rfl, j5, rfl, j7, rfl, j9, j10, j11, j12, j13, j14⟩
      have ev : vv = nI (n_sg (G1 k)) := ev
      have hfr1 : ∀ a, a < kc → kN1 a = kN a ∧ kD1 a = kD a := hfr1
      have eGs : G1 s = G s := a5 s hs
      have hms : n_me (G1 s) = s := by rw [eGs]; exact hm
      have hks : n_kd (G1 s) = 11 := by rw [eGs]; exact hk
      have hchs : (n_ch (G1 s)).length = i := by rw [eGs]; exact hch
      have hkls : (n_kl (G1 s)).length = i := by rw [eGs]; exact hkl
      obtain ⟨g1, g2, g3, g4, _⟩ := hI2.sg (s := s) (by omega) hms (by omega) (by omega)
      have hkd1 : ∀ x, x ∈ n_ch (G1 s) → KD1 G1 x ∧ n_kd (G1 (n_me (G1 x))) ≤ 10 := fun x hx => by
        rw [eGs] at hx
        obtain ⟨_, _, q3, _⟩ := hI.sg hs hm (by omega) (by omega)
        obtain ⟨z1, z2, z3⟩ := q3 x hx
        obtain ⟨z4, z5⟩ := hkd x hx
        exact ⟨z4.low a5 z1 z2, by rw [a5 x z1, a5 _ z2]; exact z5⟩
      rw [ev, ← eGs]
      simp only [bd_go g1 (by decide), bd_gc g1 (by decide), nI_clamp (show n_sg (G1 s) < 2 ^ 31 by omega)]
      rcases r_uni_in (f := f) (k75 := m_X9_union_75 f K F N S I X Lt fu) (fl := fl1) (pp := pp1) (Ma := Ma1) (Fa := Fa1) hI2 (s := s) (c := k) (d := d) (x5 := if (n_kl (G1 s)).length = 0 then -1 else nI ((n_kl (G1 s)).getD ((n_kl (G1 s)).length - 1) 0)) (by omega) a1 hms hks (by omega) (by omega) hkd1 ⟨a12, a11.2⟩ c4 with ⟨q, u, hq⟩ | ⟨q, hq⟩
      · rw [hq, if_pos q]
        exact Or.inr ⟨_, rfl⟩
      · rw [hq, if_neg (show ¬ hlk s k (k1, sh1, kc1, pl1, D1, fi1, G1) = true by rw [q]; decide)]
        simp only [m_X9_union_101, if_pos (show (-1 : Int32) < 0 by decide)]
        by_cases hkc : kc1 < 2200
        rotate_left
        · rw [adk_no hkc (by omega)]
          exact RX.no
        obtain ⟨Ma2, hadk⟩ := adk_eq (Kd := Kd1) (Ma := Ma1) (kS := kS1) (kN := kN1) (kD := kD1) (kX := kX1) hkc g1 g2
        rw [hadk]
        simp only [Option.bind_some, bd_go hkc (by decide), bd_gc hkc (by decide), nI_clamp (show kc1 < 2 ^ 31 by omega), bd_go (show c < 4200 by omega) (by decide), bd_gc (show c < 4200 by omega) (by decide), nI_clamp (show c < 2 ^ 31 by omega)]
        have hIk := hI2.kid (s := s) (x := klN (G1 s) kc1) (vS := -1) (vN := -1) (vD := -1) (by omega) hkc hms (by omega) (by omega) rfl rfl rfl rfl rfl rfl rfl rfl (fun z => by omega) (fun _ => rfl)
        obtain ⟨e1, e2, e3, e4, e5⟩ := klN_kd (s := s) (kc := kc1) (G := G1)
        have esg := klN_sg (s := s) (kc := kc1) (G := G1)
        have ekl : n_kl (upG G1 s (klN (G1 s) kc1) s) = n_kl (G1 s) ++ [kc1] := by rw [upG_s]; rfl
        have egd : (n_kl (upG G1 s (klN (G1 s) kc1) s)).getD (n_ch (upG G1 s (klN (G1 s) kc1) s)).length 0 = kc1 := by
          rw [ekl, e3, hchs, ← hkls]
          exact (congrFun snc_app.symm _).trans snc_s
        have hIj := hIk.jon (s := s) (c := k) (by omega) a1 (by omega) ((e2 s).trans hms) (by rw [e1]; omega) (by rw [e1]; omega) ((e4 k).trans a10) (by rw [ekl, e3, List.length_append, List.length_singleton]; omega) (fun z => by rw [e1] at z; omega)
        rw [egd, esg] at hIj
        have q1 : FQ s (k, sh, kc, pl, D, fi, G) (k1, sh1, kc1, pl1, D1, fi1, G1) := by
          have := (FPs.q (br := true) (a := (k, sh, kc, pl ++ [if i = 0 then 91 else 44], D, fi, G)) (b := (k1, sh1, kc1, pl1, D1, fi1, G1)) ⟨a1, a2, a3, a4, a5, a6, a7, a8, a9, a10, a11, a12, a13⟩ hs)
          exact ((FQ.refl hw).wrt _).trans this
        have q2 := (q1.kid).jon (c := k) hs (Nat.le_refl _)
        have hw2 := q2.wf hw
        obtain ⟨y1, y2⟩ := jon_kd (s := s) (c := k) (G := upG G1 s (klN (G1 s) kc1))
        have ecs : n_ch (upG (upG (upG G1 s (klN (G1 s) kc1)) s (chN (upG G1 s (klN (G1 s) kc1) s) k)) k (paN (upG G1 s (klN (G1 s) kc1) k) s) s) = n_ch (G1 s) ++ [k] := by
          rw [upG_n (show s ≠ k by omega), upG_s]
          show n_ch (upG G1 s (klN (G1 s) kc1) s) ++ [k] = _
          rw [e3]
        have eks : n_kl (upG (upG (upG G1 s (klN (G1 s) kc1)) s (chN (upG G1 s (klN (G1 s) kc1) s) k)) k (paN (upG G1 s (klN (G1 s) kc1) k) s) s) = n_kl (G1 s) ++ [kc1] := by
          rw [upG_n (show s ≠ k by omega), upG_s]
          exact ekl
        have ess : n_sg (upG (upG (upG G1 s (klN (G1 s) kc1)) s (chN (upG G1 s (klN (G1 s) kc1) s) k)) k (paN (upG G1 s (klN (G1 s) kc1) k) s) s) = n_sg (G1 s) := by
          rw [upG_n (show s ≠ k by omega), upG_s]
          exact esg s
        have hlast : (if (n_kl (G1 s) ++ [kc1]).length = 0 then (-1 : Int32) else nI ((n_kl (G1 s) ++ [kc1]).getD ((n_kl (G1 s) ++ [kc1]).length - 1) 0)) = nI kc1 := by
          rw [List.length_append, List.length_singleton, if_neg (by omega), Nat.add_sub_cancel, show (n_kl (G1 s) ++ [kc1]).getD (n_kl (G1 s)).length 0 = kc1 from (congrFun snc_app.symm _).trans snc_s]
        have fin := ih fu (i + 1) _ hi (Nx v.2) (X c) fl1 pp1 So1 Nm1 Wi1 _ Ma2 Fa1 _ _ _ _ Fi1 k1 sh1 (kc1 + 1) pl1 D1 fi1 _ (by omega) (by omega) hIj hw2 (by omega) ((y2 s).trans ((e2 s).trans hms)) ((y1 s).trans ((e1 s).trans hks)) (by rw [ecs, List.length_append, List.length_singleton]; omega) (by rw [eks, List.length_append, List.length_singleton]; omega) (fun x hx => by
          rw [ecs] at hx
          have key : KD1 G1 x ∧ n_kd (G1 (n_me (G1 x))) ≤ 10 := by
            rcases List.mem_append.mp hx with z | z
            · exact hkd1 x z
            · rw [List.mem_singleton.mp z]
              exact ⟨⟨a12, a11.2⟩, a13 rfl⟩
          refine ⟨KD1.cg (KD1.cg key.1 e1 e2) y1 y2, ?_⟩
          rw [y2, e2, y1, e1]
          exact key.2) c6 (by omega) (fun a ha => by
          rw [pk_un (by omega), pk_un (by omega), (hfr1 a (by omega)).1, (hfr1 a (by omega)).2]
          exact hfr a ha)
        rw [eks, hlast, ess] at fin
        exact fin
theorem RI.shp {So Nm Wi Kd kS kN kD kX Fi : Nat → Int32} {k sh kc : Nat} {pl : List Nat} {D : List Nat → Option Nat} {fi : List (Nat × Nat × Option Nat)} {G : Nat → Nod} (h : RI T L Sd In Nx Am K F N S I X Lt l So Nm Wi Kd (nI sh) (nI k) (nI kc) kS kN kD kX (nI fi.length) Fi (k, sh, kc, pl, D, fi, G)) {s x : Nat} {pl' : List Nat} (hs : s + 1 = k) (hsh : sh < 6 + k) (hG : G s = mkN 12 s 0 0 [] []) (hD : ∀ w d, D w = some d → d < s) (hx6 : 6 ≤ x) (hx : x ≤ 11) (hm : ∀ i, i < k → n_me (G i) = s → i = s) : RI T L Sd In Nx Am K F N S I X Lt l (upd So sh (nI (srt x))) (upd Nm sh (-1)) (upd Wi sh 0) (upd Kd sh (-1)) (nI (sh + 1)) (nI k) (nI kc) kS kN kD kX (nI fi.length) Fi (k, sh + 1, kc, pl', D, fi, upG G s (mkN x s sh 0 [] [])) := by
  obtain ⟨i1, i2, i3, i4, i5, i6, i7, i8, i9, i10, i11, i12, i13, i14⟩ := h
  refine ⟨rfl, by omega, by omega, rfl, i5, rfl, i7, rfl, i9, fun t ht => by rw [pk_un (by omega)]; exact i10 t ht, (i11.shp).cg (fun w i q => ?_), i12.shp i5 (by omega) i2 hG hx6 hx hm, SGI.one i13 (fun i a _ _ ha => absurd ha List.not_mem_nil) (fun _ _ i hi ei q1 q2 q3 q4 => ?_), i14.fr (by rw [hG]; rfl)⟩
  · have := hD w i q
    rw [upG_n (by omega)]
  · have := (((i12 i hi).2.2.2 q1).2.2 q2 q3).2.1
    have q4 : n_sg (G i) = sh := q4
    omega
theorem r_uni (hL : L ≤ 4096) {f : FS} {g : Nat → Bool → LSt → LRs} {d : Nat} (hf : okRe T L Sd In Nx Am K F N S I X Lt l f (d + 1) g) (hg : okSp T L Sd In Nx Am K F N S I X Lt l g) (fl pp : Int32) {s n p q : Nat} {br : Bool} {So Nm Wi Kd Ma Fa kS kN kD kX Fi : Nat → Int32} {k sh kc : Nat} {pl : List Nat} {D : List Nat → Option Nat} {fi : List (Nat × Nat × Option Nat)} {G : Nat → Nod} (hI : RI T L Sd In Nx Am K F N S I X Lt l So Nm Wi Kd (nI sh) (nI k) (nI kc) kS kN kD kX (nI fi.length) Fi (k, sh, kc, pl, D, fi, G)) (hs : s + 1 = k) (hsh : sh < 6 + k) (hG : G s = mkN 12 s 0 0 [] []) (hD : ∀ w d, D w = some d → d < s) (hm : ∀ i, i < k → n_me (G i) = s → i = s) (hw : WFs (k, sh, kc, pl, D, fi, G)) (hv : VV T L Sd In Nx Am K F N S I X Lt l n p q) (hc : cb T L p = 91) :
    RX (m_X9_union f fl pp K F N S I X Lt (nI sh) (nI k) So Nm Wi Kd Ma Fa (nI kc) kS kN kD kX (nI fi.length) Fi (nI n) (nI d) (if br = true then 1 else 0)) (PO T L Sd In Nx Am K F N S I X Lt l s kc kN kD) (if br = true then .inl (4, p) else if 1 ≤ (prt T L p).length ∧ (prt T L p).length ≤ 16 then lun g s (prt T L p) 0 (k, sh + 1, kc, pl, D, fi, upG G s (mkN 11 s sh 0 [] [])) else .inl (5, p)) := by
  have hb := hv.base
  obtain ⟨a1, a2, a3, a4⟩ := hv.lst hc
  have i5 := hI.2.2.2.2.1
  unfold m_X9_union
  simp only [m_X9_union_10, m_X9_union_45, m_X9_union_46, bd_go (show n < 4200 by omega) (by decide), bd_gc (show n < 4200 by omega) (by decide), nI_clamp (show n < 2 ^ 31 by omega), a2, hb.2.2.2]
  by_cases e : br = true
  · rw [if_pos e, if_pos e, I10, nd0, trE]
    exact Or.inr ⟨_, rfl⟩
  rw [if_neg e, if_neg e, I00, nd1, trO]
  by_cases c1 : 1 ≤ (prt T L p).length
  rotate_left
  · rw [if_pos (show nI (prt T L p).length ≤ 0 by rw [show (prt T L p).length = 0 by omega]; decide), nd0, trE, if_neg (fun z => c1 z.1)]
    exact Or.inr ⟨_, rfl⟩
  rw [if_neg (show ¬ nI (prt T L p).length ≤ 0 from nI_ge (a := 0) (by omega) (by omega))]
  by_cases c2 : (prt T L p).length ≤ 16
  rotate_left
  · rw [if_pos (show (17 : Int32) ≤ nI (prt T L p).length from nI_le (a := 17) (by omega) (by omega)), nd0, trE, if_neg (fun z => c2 z.2)]
    exact Or.inr ⟨_, rfl⟩
  rw [if_neg (show ¬ (17 : Int32) ≤ nI (prt T L p).length from nI_ge (b := 17) (by omega) (by decide)), nd1, trO, if_pos ⟨c1, c2⟩, shp_eq (show sh < 140 by omega)]
  simp only [Option.bind_some]
  have hI1 := hI.shp (pl' := pl) (x := 11) hs hsh hG hD (by decide) (by decide) hm
  have hw1 : WFs (k, sh + 1, kc, pl, D, fi, upG G s (mkN 11 s sh 0 [] [])) := by
    refine ⟨fun w d hd => ?_, hw.2⟩
    have := hD w d hd
    rw [upG_n (by omega)]
    exact hw.1 w d hd
  have hgo := r_uni_go hf hg (s := s) (kc0 := kc) (kN0 := kN) (kD0 := kD) (prt T L p) sr_fuel 0 _ _ _ _ fl pp _ _ _ _ (upd Ma sh 0) (upd Fa sh (-1)) kS kN kD kX Fi k (sh + 1) kc pl D fi _ (by unfold sr_fuel; omega) (by omega) hI1 hw1 (by omega) (by rw [upG_s]; rfl) (by rw [upG_s]; rfl) (by rw [upG_s]; rfl) (by rw [upG_s]; rfl) (fun x hx => by rw [upG_s] at hx; exact absurd hx List.not_mem_nil) a4 (Nat.le_refl _) (fun _ _ => ⟨rfl, rfl⟩)
  rw [upG_s] at hgo
  exact hgo
theorem r_itm {f : FS} {g : Nat → Bool → LSt → LRs} {d : Nat} (hf : okRe T L Sd In Nx Am K F N S I X Lt l f (d + 1) g) (hg : okSp T L Sd In Nx Am K F N S I X Lt l g) (fl pp : Int32) {s n p q c v b x6 : Nat} (hk6 : x6 = 6 ∨ x6 = 7) {So Nm Wi Kd Ma Fa kS kN kD kX Fi : Nat → Int32} {k sh kc : Nat} {pl : List Nat} {D : List Nat → Option Nat} {fi : List (Nat × Nat × Option Nat)} {G : Nat → Nod} (hI : RI T L Sd In Nx Am K F N S I X Lt l So Nm Wi Kd (nI sh) (nI k) (nI kc) kS kN kD kX (nI fi.length) Fi (k, sh, kc, pl, D, fi, G)) (hs : s + 1 = k) (hsh : sh < 6 + k) (hG : G s = mkN 12 s 0 0 [] []) (hD : ∀ w d, D w = some d → d < s) (hm : ∀ i, i < k → n_me (G i) = s → i = s) (hw : WFs (k, sh, kc, pl, D, fi, G)) (hz : VV T L Sd In Nx Am K F N S I X Lt l c v b) :
    RX (m_X9_schemaOf_305 f K F N S I X Lt fl pp (nI sh) (nI k) So Nm Wi Kd Ma Fa (nI kc) kS kN kD kX (nI fi.length) Fi (nI d) (nI c) (nI x6)) (PO T L Sd In Nx Am K F N S I X Lt l s kc kN kD) (match g v false (k, sh + 1, kc + 1, pl ++ litN (if x6 = 6 then 17 else 18), D, fi, upG G s (mkN x6 s sh 0 [] [kc])) with
      | .inl e => .inl e
      | .inr st' => .inr (wrt [125] (jon s k st'))) := by
  have i5 := hI.2.2.2.2.1
  have i7 := hI.2.2.2.2.2.2.1
  unfold m_X9_schemaOf_305
  rw [shp_eq (show sh < 140 by omega)]
  simp only [Option.bind_some]
  by_cases hkc : kc < 2200
  rotate_left
  · rw [adk_no hkc (by omega)]
    exact RX.no
  have hI1 := hI.shp (pl' := pl ++ litN (if x6 = 6 then 17 else 18)) (x := x6) hs hsh hG hD (by omega) (by omega) hm
  have es : srt x6 = x6 := by rcases hk6 with e | e <;> (subst e; decide)
  rw [es] at hI1
  obtain ⟨Ma2, hadk⟩ := adk0 (x := sh) (Kd := upd Kd sh (-1)) (Ma := upd Ma sh 0) (kS := kS) (kN := kN) (kD := kD) (kX := kX) hkc (by omega)
  rw [hadk]
  simp only [Option.bind_some, nI_1]
  have hIk := hI1.kid (s := s) (x := mkN x6 s sh 0 [] [kc]) (vS := -1) (vN := -1) (vD := -1) (by omega) hkc (by rw [upG_s]; rfl) (by rw [upG_s]; show 6 ≤ x6; omega) (by rw [upG_s]; show x6 ≤ 11; omega) (by rw [upG_s]; rfl) (by rw [upG_s]; rfl) (by rw [upG_s]; rfl) (by rw [upG_s]; rfl) (by rw [upG_s]; rfl) (by rw [upG_s]; rfl) (by rw [upG_s]; rfl) (by rw [upG_s]; rfl) (fun z => by rw [upG_s] at z; have z : x6 = 9 := z; omega) (fun _ => by rw [upG_s]; rfl)
  rw [upG_s] at hIk
  have e2 : upG (upG G s (mkN x6 s sh 0 [] [])) s (mkN x6 s sh 0 [] [kc]) = upG G s (mkN x6 s sh 0 [] [kc]) := funext (fun i => by
    by_cases q : i = s
    · rw [q, upG_s, upG_s]
    · rw [upG_n q, upG_n q, upG_n q])
  rw [e2] at hIk
  have hw1 : WFs (k, sh + 1, kc + 1, pl ++ litN (if x6 = 6 then 17 else 18), D, fi, upG G s (mkN x6 s sh 0 [] [kc])) := by
    refine ⟨fun w d hd => ?_, hw.2⟩
    have := hD w d hd
    rw [upG_n (by omega)]
    exact hw.1 w d hd
  have hf1 := hf fl pp _ _ _ _ Ma2 (upd Fa sh (-1)) _ _ _ _ Fi _ _ _ _ v false _ _ _ hIk hw1 hz
  rw [bF] at hf1
  cases hr : g v false (k, sh + 1, kc + 1, pl ++ litN (if x6 = 6 then 17 else 18), D, fi, upG G s (mkN x6 s sh 0 [] [kc])) with
  | inl e =>
    rw [hr] at hf1
    rcases hf1 with hu | ⟨u, hu⟩
    · have hu : f fl pp K F N S I X Lt (nI (sh + 1)) (nI k) (upd So sh (nI x6)) (upd Nm sh (-1)) (upd Wi sh 0) (upd (upd Kd sh (-1)) sh (nI kc)) Ma2 (upd Fa sh (-1)) (nI (kc + 1)) (upd kS kc (-1)) (upd kN kc (-1)) (upd kD kc (-1)) (upd kX kc (-1)) (nI fi.length) Fi (nI c) (nI (d + 1)) 0 = none := hu
      rw [hu, trN]; exact RX.no
    · have hu : f fl pp K F N S I X Lt (nI (sh + 1)) (nI k) (upd So sh (nI x6)) (upd Nm sh (-1)) (upd Wi sh 0) (upd (upd Kd sh (-1)) sh (nI kc)) Ma2 (upd Fa sh (-1)) (nI (kc + 1)) (upd kS kc (-1)) (upd kN kc (-1)) (upd kD kc (-1)) (upd kX kc (-1)) (nI fi.length) Fi (nI c) (nI (d + 1)) 0 = _ := hu
      rw [hu, trE]
      obtain ⟨u1, u2, u3, u4, u5, u6, u7, u8, u9, u10, u11, u12, u13, u14, u15⟩ := u
      exact Or.inr ⟨_, rfl⟩
  | inr st1 =>
    rw [hr] at hf1
    obtain ⟨fp, _⟩ := hg _ _ _ _ _ _ hz hw1 hr
    rcases hf1 with hu | ⟨vv, u, hu, hP⟩
    · have hu : f fl pp K F N S I X Lt (nI (sh + 1)) (nI k) (upd So sh (nI x6)) (upd Nm sh (-1)) (upd Wi sh 0) (upd (upd Kd sh (-1)) sh (nI kc)) Ma2 (upd Fa sh (-1)) (nI (kc + 1)) (upd kS kc (-1)) (upd kN kc (-1)) (upd kD kc (-1)) (upd kX kc (-1)) (nI fi.length) Fi (nI c) (nI (d + 1)) 0 = none := hu
      rw [hu, trN]; exact RX.no
    have hu : f fl pp K F N S I X Lt (nI (sh + 1)) (nI k) (upd So sh (nI x6)) (upd Nm sh (-1)) (upd Wi sh 0) (upd (upd Kd sh (-1)) sh (nI kc)) Ma2 (upd Fa sh (-1)) (nI (kc + 1)) (upd kS kc (-1)) (upd kN kc (-1)) (upd kD kc (-1)) (upd kX kc (-1)) (nI fi.length) Fi (nI c) (nI (d + 1)) 0 = _ := hu
    rw [hu, trO]
    obtain ⟨k1, sh1, kc1, pl1, D1, fi1, G1⟩ := st1
    obtain ⟨fl1, pp1, shI, lkI, So1, Nm1, Wi1, Kd1, Ma1, Fa1, kcI, kS1, kN1, kD1, kX1, dnI, Fi1⟩ := u
    obtain ⟨hI2, ev, hfr1⟩ := hP
    obtain ⟨a1, a2, a3, a4, a5, a6, a7, a8, a9, a10, a11, a12, a13⟩ := fp
    obtain ⟨j1, j2, j3, j4, j5, j6, j7, j8, j9, j10, j11, j12, j13, j14⟩ := hI2
    subst j1
    subst j4
    subst j6
    subst j8
    have hI2 : RI T L Sd In Nx Am K F N S I X Lt l So1 Nm1 Wi1 Kd1 (nI sh1) (nI k1) (nI kc1) kS1 kN1 kD1 kX1 (nI fi1.length) Fi1 (k1, sh1, kc1, pl1, D1, fi1, G1) := ⟨rfl, j2, j3, rfl, j5, rfl, j7, rfl, j9, j10, j11, j12, j13, j14⟩
    have ev : vv = nI (n_sg (G1 k)) := ev
    have hfr1 : ∀ a, a < kc + 1 → kN1 a = upd kN kc (-1) a ∧ kD1 a = upd kD kc (-1) a := hfr1
    have eGs : G1 s = mkN x6 s sh 0 [] [kc] := by rw [a5 s (by omega), upG_s]
    have ekl : n_kl (G1 s) = [kc] := by rw [eGs]; rfl
    have ech : n_ch (G1 s) = [] := by rw [eGs]; rfl
    have egd : (n_kl (G1 s)).getD (n_ch (G1 s)).length 0 = kc := by rw [ekl, ech]; rfl
    have hIj := hI2.jon (s := s) (c := k) (by omega) a1 (by omega) (by rw [eGs]; rfl) (by rw [eGs]; show 6 ≤ x6; omega) (by rw [eGs]; show x6 ≤ 11; omega) a10 (by rw [ekl, ech]; show 0 < 1; omega) (fun z => by rw [eGs] at z; have z : x6 = 10 := z; omega)
    rw [egd] at hIj
    simp only [bd_go hkc (by decide), bd_gc hkc (by decide), nI_clamp (show kc < 2 ^ 31 by omega)]
    refine Or.inr ⟨_, _, rfl, ?_, ?_, fun a ha => ?_⟩
    · rw [ev]
      exact hIj
    · show nI sh = nI (n_sg (upG (upG G1 s (chN (G1 s) k)) k (paN (G1 k) s) s))
      rw [upG_n (by omega), upG_s, eGs]
      rfl
    · rw [(hfr1 a (by omega)).1, (hfr1 a (by omega)).2, pk_un (by omega), pk_un (by omega)]
      exact ⟨rfl, rfl⟩
end RUNI2
end
section
-- the reference's symbols
theorem lit_r : litN 48 = litN 15 ∧ litN 51 = litN 16 ∧ litN 52 = litN 19 ∧ litN 56 = litN 20 ∧ litN 57 = litN 23 ∧ litN 58 = litN 25 ∧ litN 59 = litN 28 ∧ litN 60 = litN 29 ∧ litN 49 = litN 9 ∧ litN 50 = litN 10 ∧ litN 53 = litN 11 ∧ litN 54 = litN 12 ∧ litN 55 = litN 13 := by decide +kernel
def RXY (x : Option (Except TY (Unit × TY))) (P : TY → LSt → Prop) : LRs → Prop
  | .inl e => x = none ∨ ∃ u, x = some (.error (nI e.1, (nI e.2, u)))
  | .inr st => x = none ∨ ∃ u, x = some (.ok ((), u)) ∧ P u st
theorem RXY.no {P : TY → LSt → Prop} {r : LRs} : RXY none P r := by
  cases r with
  | inl e => exact Or.inl rfl
  | inr st => exact Or.inl rfl
def PY (T : Nat → Int32) (L : Nat) (Sd In Nx Am K F : Nat → Int32) (N : Nat → Int64) (S I X Lt : Nat → Int32) (l : Nat) (So Nm Wi : Nat → Int32) (shI lkI dnI : Int32) (Fi : Nat → Int32) (kc0 : Nat) (kN0 kD0 : Nat → Int32) : TY → LSt → Prop
  | (_, _, Kd, _, _, kc, kS, kN, kD, kX), st => RI T L Sd In Nx Am K F N S I X Lt l So Nm Wi Kd shI lkI kc kS kN kD kX dnI Fi st ∧ ∀ a, a < kc0 → kN a = kN0 a ∧ kD a = kD0 a
section RSYM
variable {T : Nat → Int32} {L : Nat} {Sd In Nx Am K F S I X Lt : Nat → Int32} {N : Nat → Int64} {l : Nat}
theorem VV.kk {n p q : Nat} (h : VV T L Sd In Nx Am K F N S I X Lt l n p q) : (K n = 2 ↔ cb T L p = 34) ∧ (K n = 1 ↔ cb T L p = 91) ∧ (K n = 0 ↔ cb T L p = 123) ∧ (K n = 3 ↔ (cb T L p = 45 ∨ (48 ≤ cb T L p ∧ cb T L p ≤ 57))) := by
  have hk := h.kn
  unfold kdn at hk
  by_cases c1 : cb T L p = 34
  · rw [if_pos c1] at hk
    rw [hk]
    exact ⟨⟨fun _ => c1, fun _ => rfl⟩, ⟨fun z => absurd z (by decide), fun z => by omega⟩, ⟨fun z => absurd z (by decide), fun z => by omega⟩, ⟨fun z => absurd z (by decide), fun z => by omega⟩⟩
  rw [if_neg c1] at hk
  by_cases c2 : cb T L p = 91
  · rw [if_pos c2] at hk
    rw [hk]
    exact ⟨⟨fun z => absurd z (by decide), fun z => by omega⟩, ⟨fun _ => c2, fun _ => rfl⟩, ⟨fun z => absurd z (by decide), fun z => by omega⟩, ⟨fun z => absurd z (by decide), fun z => by omega⟩⟩
  rw [if_neg c2] at hk
  by_cases c3 : cb T L p = 123
  · rw [if_pos c3] at hk
    rw [hk]
    exact ⟨⟨fun z => absurd z (by decide), fun z => by omega⟩, ⟨fun z => absurd z (by decide), fun z => by omega⟩, ⟨fun _ => c3, fun _ => rfl⟩, ⟨fun z => absurd z (by decide), fun z => by omega⟩⟩
  rw [if_neg c3] at hk
  by_cases c4 : cb T L p = 45 ∨ (48 ≤ cb T L p ∧ cb T L p ≤ 57)
  · rw [if_pos c4] at hk
    rw [hk]
    exact ⟨⟨fun z => absurd z (by decide), fun z => absurd z c1⟩, ⟨fun z => absurd z (by decide), fun z => absurd z c2⟩, ⟨fun z => absurd z (by decide), fun z => absurd z c3⟩, ⟨fun _ => c4, fun _ => rfl⟩⟩
  rw [if_neg c4] at hk
  have key : K n = 4 ∨ K n = 5 ∨ K n = 6 := by
    by_cases c5 : cb T L p = 116
    · rw [if_pos c5] at hk; exact Or.inl hk
    rw [if_neg c5] at hk
    by_cases c6 : cb T L p = 102
    · rw [if_pos c6] at hk; exact Or.inr (Or.inl hk)
    · rw [if_neg c6] at hk; exact Or.inr (Or.inr hk)
  refine ⟨⟨fun z => ?_, fun z => absurd z c1⟩, ⟨fun z => ?_, fun z => absurd z c2⟩, ⟨fun z => ?_, fun z => absurd z c3⟩, ⟨fun z => ?_, fun z => absurd z c4⟩⟩
  all_goals (rw [z] at key; exact absurd key (by decide))
theorem inm_no {n : Nat} (hn : n < 4200) (hk : ¬ K n = 2) : m_X9_isName K N S Lt (nI n) = some 0 := by
  obtain ⟨f1, hf1⟩ : ∃ f, sr_fuel = f + 1 := ⟨sr_fuel - 1, by unfold sr_fuel; omega⟩
  have hz : m_X9_isName_38 K N S Lt sr_fuel (nI n) 0 0 = some 0 := by rw [hf1]; exact nm0 hn
  simp only [m_X9_isName, bd_go hn (by decide), bd_gc hn (by decide), nI_clamp (show n < 2 ^ 31 by omega), if_neg hk, hz]
theorem r_sym_in (hl : l ≤ 4200) {k88 : Int32 → Int32 → (Nat → Int32) → (Nat → Int32) → (Nat → Int32) → Int32 → (Nat → Int32) → (Nat → Int32) → (Nat → Int32) → (Nat → Int32) → Int32 → Int32 → Int32 → Int32 → Option (Except TY (Unit × TY))} {fl pp : Int32} {So Nm Wi Kd Ma Fa kS kN kD kX Fi : Nat → Int32} {k sh kc : Nat} {pl : List Nat} {D : List Nat → Option Nat} {fi : List (Nat × Nat × Option Nat)} {G : Nat → Nod} (hI : RI T L Sd In Nx Am K F N S I X Lt l So Nm Wi Kd (nI sh) (nI k) (nI kc) kS kN kD kX (nI fi.length) Fi (k, sh, kc, pl, D, fi, G)) {s n p q : Nat} {x2 x4 : Int32} {w : List Nat} (hs : s < k) (hm : n_me (G s) = s) (hk : n_kd (G s) = 9) (h32 : (n_kl (G s)).length ≤ 32) (hv : VV T L Sd In Nx Am K F N S I X Lt l n p q) (hw : RSt N S Lt l n w) (hwb : ∀ v, v ∈ w → v ≤ 255) :
    (w ∈ n_sy (G s) ∧ ∃ u, m_X9_symbols_120 K F N S I X Lt k88 sr_fuel fl pp Kd Ma Fa (nI kc) kS kN kD kX (nI (n_sg (G s))) x2 x4 (nI n) (Kd (n_sg (G s))) = some (.error (11, nI p, u))) ∨ (w ∉ n_sy (G s) ∧ m_X9_symbols_120 K F N S I X Lt k88 sr_fuel fl pp Kd Ma Fa (nI kc) kS kN kD kX (nI (n_sg (G s))) x2 x4 (nI n) (Kd (n_sg (G s))) = m_X9_symbols_120 K F N S I X Lt k88 1 fl pp Kd Ma Fa (nI kc) kS kN kD kX (nI (n_sg (G s))) x2 x4 (nI n) (-1)) := by
  obtain ⟨i1, i2, i3, i4, i5, i6, i7, i8, i9, i10, i11, i12, i13, i14⟩ := hI
  obtain ⟨s0, s1, s2, s3⟩ := i12 s hs
  obtain ⟨t1, t2, t3⟩ := s3 hm
  obtain ⟨c1, c2, c3, c4, c5, c6, c7, c8⟩ := t3 (by omega) (by omega)
  obtain ⟨c9, c10⟩ := c8 hk
  have hb := hv.base
  obtain ⟨R, hR⟩ : ∃ R, ∀ fu, m_X9_symbols_120 K F N S I X Lt k88 (fu + 1) fl pp Kd Ma Fa (nI kc) kS kN kD kX (nI (n_sg (G s))) x2 x4 (nI n) (-1) = R := ⟨m_X9_symbols_120 K F N S I X Lt k88 1 fl pp Kd Ma Fa (nI kc) kS kN kD kX (nI (n_sg (G s))) x2 x4 (nI n) (-1), fun fu => by simp only [m_X9_symbols_120, if_pos (show (-1 : Int32) < 0 by decide)]⟩
  have go : ∀ (fuel j : Nat), j ≤ (n_kl (G s)).length → (n_kl (G s)).length - j < fuel → (∀ i, i < j → (n_sy (G s)).getD i [] ≠ w) →
      (w ∈ n_sy (G s) ∧ ∃ u, m_X9_symbols_120 K F N S I X Lt k88 fuel fl pp Kd Ma Fa (nI kc) kS kN kD kX (nI (n_sg (G s))) x2 x4 (nI n) (if j = (n_kl (G s)).length then -1 else nI ((n_kl (G s)).getD j 0)) = some (.error (11, nI p, u))) ∨ (w ∉ n_sy (G s) ∧ m_X9_symbols_120 K F N S I X Lt k88 fuel fl pp Kd Ma Fa (nI kc) kS kN kD kX (nI (n_sg (G s))) x2 x4 (nI n) (if j = (n_kl (G s)).length then -1 else nI ((n_kl (G s)).getD j 0)) = R) := by
    intro fuel
    induction fuel with
    | zero => intro j _ hf; exact absurd hf (Nat.not_lt_zero _)
    | succ fuel ih =>
      intro j hj hf ha
      by_cases e : j = (n_kl (G s)).length
      · rw [if_pos e]
        refine Or.inr ⟨fun z => ?_, hR fuel⟩
        obtain ⟨i, hi, ei⟩ := sy_mem.mpr z
        exact ha i (by omega) ei
      · have hjk : j < (n_kl (G s)).length := by omega
        obtain ⟨d1, d2⟩ := c4.1 j hjk
        have d1 : (n_kl (G s)).getD j 0 < kc := d1
        obtain ⟨m, m1, m2, m3, m4⟩ := c10 j hjk
        rw [if_neg e]
        simp only [m_X9_symbols_120, if_neg (nI_pos (show (n_kl (G s)).getD j 0 < 2 ^ 31 by omega)), bd_go (show (n_kl (G s)).getD j 0 < 2200 by omega) (by decide), bd_gc (show (n_kl (G s)).getD j 0 < 2200 by omega) (by decide), nI_clamp (show (n_kl (G s)).getD j 0 < 2 ^ 31 by omega), m1, same_r m2 hb.2.2.1 hl hl m3 hw m4 hwb, Option.bind_some, m_X9_symbols_148, bd_go (show n < 4200 by omega) (by decide), bd_gc (show n < 4200 by omega) (by decide), nI_clamp (show n < 2 ^ 31 by omega)]
        by_cases q : (n_sy (G s)).getD j [] = w
        · rw [if_pos q, I10, nd0, trE, hb.2.2.2]
          exact Or.inl ⟨sy_mem.mp ⟨j, by omega, q⟩, _, rfl⟩
        · rw [if_neg q, I00, nd1, trO, d2]
          refine ih (j + 1) (by omega) (by omega) (fun i hi => ?_)
          by_cases ei : i = j
          · rw [ei]; exact q
          · exact ha i (by omega)
  have := go sr_fuel 0 (by omega) (by unfold sr_fuel; omega) (fun i hi => absurd hi (Nat.not_lt_zero _))
  rw [← c4.ptr] at this
  exact this.imp id (fun z => ⟨z.1, z.2.trans (hR 0).symm⟩)
theorem r_sym_go (hL : L ≤ 4096) (hl : l ≤ 4200) {s n p q kc0 : Nat} (hv : VV T L Sd In Nx Am K F N S I X Lt l n p q) (hc : cb T L p = 123) {kN0 kD0 So Nm Wi Fi : Nat → Int32} : ∀ (ks : List (Nat × Nat)) (fuel i lo hi : Nat) (hcp hr : Int32) (fl pp : Int32) (Kd Ma Fa kS kN kD kX : Nat → Int32) (k sh kc : Nat) (pl : List Nat) (D : List Nat → Option Nat) (fi : List (Nat × Nat × Option Nat)) (G : Nat → Nod), ks.length < fuel → i + ks.length ≤ 32 → RI T L Sd In Nx Am K F N S I X Lt l So Nm Wi Kd (nI sh) (nI k) (nI kc) kS kN kD kX (nI fi.length) Fi (k, sh, kc, pl, D, fi, G) → s < k → n_me (G s) = s → n_kd (G s) = 9 → (n_kl (G s)).length = i → LCH T L Sd In Nx Am K F N S I X Lt l ks lo hi hcp hr → kc0 ≤ kc → (∀ a, a < kc0 → kN a = kN0 a ∧ kD a = kD0 a) →
    RXY (m_X9_symbols_88 K F N S I X Lt fuel fl pp Kd Ma Fa (nI kc) kS kN kD kX (nI (n_sg (G s))) (nI n) (if (n_kl (G s)).length = 0 then -1 else nI ((n_kl (G s)).getD ((n_kl (G s)).length - 1) 0)) hr) (PY T L Sd In Nx Am K F N S I X Lt l So Nm Wi (nI sh) (nI k) (nI fi.length) Fi kc0 kN0 kD0) (len2 T L s p (lsy T L s ks (k, sh, kc, pl, D, fi, G))) := by
  intro ks
  have hb := hv.base
  induction ks with
  | nil =>
    intro fuel i lo hi hcp hr fl pp Kd Ma Fa kS kN kD kX k sh kc pl D fi G hfu hi32 hI hs hm hk hkl hlc hk0 hfr
    obtain ⟨fu, rfl⟩ : ∃ z, fuel = z + 1 := ⟨fuel - 1, by omega⟩
    have hI1 : RI T L Sd In Nx Am K F N S I X Lt l So Nm Wi Kd (nI sh) (nI k) (nI kc) kS kN kD kX (nI fi.length) Fi (k, sh, kc, pl ++ litN 27, D, fi, G) := hI
    obtain ⟨g1, g2, g3, g4, _⟩ := hI.sg hs hm (by omega) (by omega)
    simp only [m_X9_symbols_88, lsy, len2]
    rw [hlc.2.2, if_pos (show (-1 : Int32) < 0 by decide)]
    have em := mbr_r hl hv hc (w := 59) (by decide) hL
    rw [lit_r.2.2.2.2.2.2.1] at em
    rcases em with ⟨e, em⟩ | ⟨v, c, b, e, em, z1⟩
    · rw [e, em]
      simp only [Option.bind_some, if_pos (show (-1 : Int32) < 0 by decide)]
      exact Or.inr ⟨_, rfl, hI1, hfr⟩
    · rw [e, em]
      have hzb := z1.base
      have hkk := z1.kk.1
      simp only [Option.bind_some, if_neg (nI_pos (show c < 2 ^ 31 by omega)), bd_go (show c < 4200 by omega) (by decide), bd_gc (show c < 4200 by omega) (by decide), nI_clamp (show c < 2 ^ 31 by omega), m_X9_symbols_244, m_X9_symbols_245, hzb.2.2.2]
      by_cases c34 : cb T L v = 34
      rotate_left
      · rw [if_neg (fun z => c34 (hkk.mp z)), nd0, trE, dec_f (fun z => c34 z.1), bF]
        exact Or.inr ⟨_, rfl⟩
      obtain ⟨s0, y1, y2, y3, y4, y5, y6⟩ := z1.str c34
      rw [if_pos (hkk.mpr c34), y2]
      obtain ⟨i1, i2, i3, i4, i5, i6, i7, i8, i9, i10, i11, i12, i13, i14⟩ := hI
      obtain ⟨s0', s1, s2, s3⟩ := i12 s hs
      obtain ⟨t1, t2, t3⟩ := s3 hm
      obtain ⟨c1, c2, c3, c4, c5, c6, c7, c8⟩ := t3 (by omega) (by omega)
      obtain ⟨c9, c10⟩ := c8 hk
      rcases rsy_eq (N := N) (S := S) (Lt := Lt) hl g1 i7 c4 c10 (u := s0) (n := c) ⟨c, rfl, hzb.2.2.1, y4, y6⟩ hzb.2.2.1 (by omega) with ⟨⟨j, j1, j2⟩, j', j3, j4⟩ | ⟨j1, j2⟩
      · have hin : s0 ∈ n_sy (G s) := sy_mem.mp ⟨j, by omega, j2⟩
        rw [j4]
        simp only [Option.bind_some]
        rw [if_neg (nI_pos (show j' < 2 ^ 31 by omega)), nd1, trO, dec_t ⟨c34, hin⟩, bT]
        simp only [bd_go g1 (by decide), bd_gc g1 (by decide)]
        exact Or.inr ⟨_, rfl, hI1, hfr⟩
      · have hin : s0 ∉ n_sy (G s) := fun z => by
          obtain ⟨i', h1, h2⟩ := sy_mem.mpr z
          exact j1 ⟨i', by omega, h2⟩
        rw [j2]
        simp only [Option.bind_some]
        rw [if_pos (show (-1 : Int32) < 0 by decide), nd0, trE, dec_f (fun z => hin z.2), bF]
        exact Or.inr ⟨_, rfl⟩
  | cons v t ih =>
    intro fuel i lo hi hcp hr fl pp Kd Ma Fa kS kN kD kX k sh kc pl D fi G hfu hi32 hI hs hm hk hkl hlc hk0 hfr
    obtain ⟨fu, rfl⟩ : ∃ z, fuel = z + 1 := ⟨fuel - 1, by omega⟩
    rw [List.length_cons] at hfu hi32
    obtain ⟨c, b, c1, c2, c3, c4, c5, c6⟩ := hlc
    have hcb := c4.base
    have hkk := c4.kk.1
    obtain ⟨g1, g2, g3, g4, _⟩ := hI.sg hs hm (by omega) (by omega)
    simp only [m_X9_symbols_88, lsy]
    rw [c3, if_neg (nI_pos (show c < 2 ^ 31 by omega))]
    simp only [bd_go (show c < 4200 by omega) (by decide), bd_gc (show c < 4200 by omega) (by decide), nI_clamp (show c < 2 ^ 31 by omega), hcb.2.2.2]
    by_cases c34 : cb T L v.2 = 34
    rotate_left
    · rw [inm_no hcb.2.2.1 (fun z => c34 (hkk.mp z)), dec_f (fun z => c34 z.1), bF]
      simp only [Option.bind_some, len2]
      rw [nd0, trE]
      exact Or.inr ⟨_, rfl⟩
    obtain ⟨s0, y1, y2, y3, y4, y5, y6⟩ := c4.str c34
    rw [y2]
    rcases inm_eq hl hcb.2.2.1 (hkk.mpr c34) y4 y6 with ⟨n1, n2⟩ | ⟨n1, n2⟩
    rotate_left
    · rw [n2, dec_f (fun z => n1 z.2.1), bF]
      simp only [Option.bind_some, len2]
      rw [nd0, trE]
      exact Or.inr ⟨_, rfl⟩
    rw [n2]
    simp only [Option.bind_some]
    rw [nd1, trO]
    simp only [bd_go g1 (by decide), bd_gc g1 (by decide), nI_clamp (show n_sg (G s) < 2 ^ 31 by omega)]
    rcases r_sym_in hl (k88 := m_X9_symbols_88 K F N S I X Lt fu) (fl := fl) (pp := pp) (Ma := Ma) (Fa := Fa) hI (s := s) (x2 := nI n) (x4 := if (n_kl (G s)).length = 0 then -1 else nI ((n_kl (G s)).getD ((n_kl (G s)).length - 1) 0)) hs hm hk (by omega) c4 y4 y6 with ⟨hin, u, hq⟩ | ⟨hin, hq⟩
    · rw [hq, dec_f (fun z => z.2.2 hin), bF]
      exact Or.inr ⟨_, rfl⟩
    rw [hq, dec_t ⟨c34, n1, hin⟩, bT]
    simp only [m_X9_symbols_120, if_pos (show (-1 : Int32) < 0 by decide)]
    have i7 := hI.2.2.2.2.2.2.1
    by_cases hkc : kc < 2200
    rotate_left
    · rw [adk_no hkc (by omega)]
      exact RXY.no
    obtain ⟨Ma2, hadk⟩ := adk_eq (Kd := Kd) (Ma := Ma) (kS := kS) (kN := kN) (kD := kD) (kX := kX) hkc g1 g2
    rw [hadk]
    simp only [Option.bind_some, bd_go hkc (by decide), bd_gc hkc (by decide), nI_clamp (show kc < 2 ^ 31 by omega), bd_go (show c < 4200 by omega) (by decide), bd_gc (show c < 4200 by omega) (by decide), nI_clamp (show c < 2 ^ 31 by omega)]
    have hIk := hI.kid (s := s) (x := syN (G s) s0 kc) (vS := -1) (vN := nI c) (vD := -1) hs hkc hm (by omega) (by omega) rfl rfl rfl rfl rfl rfl rfl rfl (fun _ => ⟨s0, rfl, c, rfl, hcb.2.2.1, y4, y6⟩) (fun z => absurd hk z)
    have ekl : n_kl (upG G s (syN (G s) s0 kc) s) = n_kl (G s) ++ [kc] := by rw [upG_s]; rfl
    have esg : n_sg (upG G s (syN (G s) s0 kc) s) = n_sg (G s) := by rw [upG_s]; rfl
    have hlast : (if (n_kl (G s) ++ [kc]).length = 0 then (-1 : Int32) else nI ((n_kl (G s) ++ [kc]).getD ((n_kl (G s) ++ [kc]).length - 1) 0)) = nI kc := by
      rw [List.length_append, List.length_singleton, if_neg (by omega), Nat.add_sub_cancel, show (n_kl (G s) ++ [kc]).getD (n_kl (G s)).length 0 = kc from (congrFun snc_app.symm _).trans snc_s]
    have eup : upd (upd kN kc (-1)) kc (nI c) = upd kN kc (nI c) := by
      funext j
      by_cases q : j = kc
      · rw [q, pk_us, pk_us]
      · rw [pk_un q, pk_un q, pk_un q]
    rw [eup]
    have fin := ih fu (i + 1) _ hi (Nx v.2) (X c) fl pp _ Ma2 Fa _ _ _ _ k sh (kc + 1) (pl ++ ((if n_sy (G s) = [] then [] else [44]) ++ qt s0)) D fi _ (by omega) (by omega) hIk hs (by rw [upG_s]; exact hm) (by rw [upG_s]; exact hk) (by rw [ekl, List.length_append, List.length_singleton]; omega) c6 (by omega) (fun a ha => by
      rw [pk_un (by omega), pk_un (by omega)]
      exact hfr a ha)
    rw [ekl, hlast, esg] at fin
    exact fin
theorem r_sym (hL : L ≤ 4096) (hl : l ≤ 4200) {fl pp : Int32} {s n p q : Nat} {So Nm Wi Kd Ma Fa kS kN kD kX Fi : Nat → Int32} {k sh kc : Nat} {pl : List Nat} {D : List Nat → Option Nat} {fi : List (Nat × Nat × Option Nat)} {G : Nat → Nod} (hI : RI T L Sd In Nx Am K F N S I X Lt l So Nm Wi Kd (nI sh) (nI k) (nI kc) kS kN kD kX (nI fi.length) Fi (k, sh, kc, pl, D, fi, G)) (hs : s < k) (hG : ∃ sg, G s = mkN 9 s sg 0 [] []) (hv : VV T L Sd In Nx Am K F N S I X Lt l n p q) (hc : cb T L p = 123) :
    RXY (m_X9_symbols fl pp K F N S I X Lt Kd Ma Fa (nI kc) kS kN kD kX (nI (n_sg (G s))) (nI n)) (PY T L Sd In Nx Am K F N S I X Lt l So Nm Wi (nI sh) (nI k) (nI fi.length) Fi kc kN kD) (len T L s p (k, sh, kc, pl, D, fi, G)) := by
  have hb := hv.base
  obtain ⟨sg, hG⟩ := hG
  have ekl : n_kl (G s) = [] := by rw [hG]; rfl
  rw [len_2]
  simp only [wrt]
  unfold m_X9_symbols
  have em := mbr_r hl hv hc (w := 58) (by decide) hL
  rw [lit_r.2.2.2.2.2.1] at em
  simp only [m_X9_symbols_19, m_X9_symbols_65, m_X9_symbols_66, bd_go (show n < 4200 by omega) (by decide), bd_gc (show n < 4200 by omega) (by decide), nI_clamp (show n < 2 ^ 31 by omega), hb.2.2.2]
  rcases em with ⟨e, em⟩ | ⟨v, c, b, e, em, z1⟩
  · rw [e, em]
    simp only [Option.bind_some, if_pos (show (-1 : Int32) < 0 by decide)]
    rw [nd0, trE]
    exact Or.inr ⟨_, rfl⟩
  rw [e, em]
  have hzb := z1.base
  have hkk := z1.kk.2.1
  simp only [Option.bind_some, if_neg (nI_pos (show c < 2 ^ 31 by omega))]
  rw [nd1, trO]
  simp only [bd_go (show c < 4200 by omega) (by decide), bd_gc (show c < 4200 by omega) (by decide), nI_clamp (show c < 2 ^ 31 by omega), hzb.2.2.2]
  by_cases c91 : cb T L v = 91
  rotate_left
  · rw [if_neg (fun z => c91 (hkk.mp z)), nd0, trE, if_neg (fun z => c91 z.1)]
    exact Or.inr ⟨_, rfl⟩
  obtain ⟨a1, a2, a3, a4⟩ := z1.lst c91
  rw [if_pos (hkk.mpr c91), a2]
  by_cases x1 : 1 ≤ (prt T L v).length
  rotate_left
  · rw [if_pos (show nI (prt T L v).length ≤ 0 by rw [show (prt T L v).length = 0 by omega]; decide), nd0, trE, if_neg (fun z => x1 z.2.1)]
    exact Or.inr ⟨_, rfl⟩
  rw [if_neg (show ¬ nI (prt T L v).length ≤ 0 from nI_ge (a := 0) (by omega) (by omega))]
  by_cases x2 : (prt T L v).length ≤ 32
  rotate_left
  · rw [if_pos (show (33 : Int32) ≤ nI (prt T L v).length from nI_le (a := 33) (by omega) (by omega)), nd0, trE, if_neg (fun z => x2 z.2.2)]
    exact Or.inr ⟨_, rfl⟩
  rw [if_neg (show ¬ (33 : Int32) ≤ nI (prt T L v).length from nI_ge (b := 33) (by omega) (by decide)), nd1, trO, if_pos ⟨c91, x1, x2⟩]
  have fin := r_sym_go hL hl (s := s) (kc0 := kc) (kN0 := kN) (kD0 := kD) hv hc (prt T L v) sr_fuel 0 _ _ _ _ fl pp Kd Ma Fa kS kN kD kX k sh kc (pl ++ litN 26) D fi G (by unfold sr_fuel; omega) (by omega) hI hs (by rw [hG]; rfl) (by rw [hG]; rfl) (by rw [ekl]; rfl) a4 (Nat.le_refl _) (fun _ _ => ⟨rfl, rfl⟩)
  rw [ekl] at fin
  exact fin
end RSYM
end
section
-- the reference's fields
def RXU (x : Option (Except TS (Unit × TS))) (P : TS → LSt → Prop) : LRs → Prop
  | .inl e => x = none ∨ ∃ u, x = some (.error (nI e.1, (nI e.2, u)))
  | .inr st => x = none ∨ ∃ u, x = some (.ok ((), u)) ∧ P u st
theorem RXU.no {P : TS → LSt → Prop} {r : LRs} : RXU none P r := by
  cases r with
  | inl e => exact Or.inl rfl
  | inr st => exact Or.inl rfl
def PU (T : Nat → Int32) (L : Nat) (Sd In Nx Am K F : Nat → Int32) (N : Nat → Int64) (S I X Lt : Nat → Int32) (l : Nat) (kc0 : Nat) (kN0 kD0 : Nat → Int32) : TS → LSt → Prop
  | (_, _, sh, lk, So, Nm, Wi, Kd, _, _, kc, kS, kN, kD, kX, dn, Fi), st => RI T L Sd In Nx Am K F N S I X Lt l So Nm Wi Kd sh lk kc kS kN kD kX dn Fi st ∧ ∀ a, a < kc0 → kN a = kN0 a ∧ kD a = kD0 a
section RFLD
variable {T : Nat → Int32} {L : Nat} {Sd In Nx Am K F S I X Lt : Nat → Int32} {N : Nat → Int64} {l : Nat}
abbrev KFf : Type := Int32 → Int32 → Int32 → Int32 → (Nat → Int32) → (Nat → Int32) → (Nat → Int32) → (Nat → Int32) → (Nat → Int32) → (Nat → Int32) → Int32 → (Nat → Int32) → (Nat → Int32) → (Nat → Int32) → (Nat → Int32) → Int32 → (Nat → Int32) → Int32 → Int32 → Int32 → Int32 → Option (Except TS (Unit × TS))
theorem r_fld_in (hl : l ≤ 4200) {f : FS} {k85 : KFf} {fl pp : Int32} {So Nm Wi Kd Ma Fa kS kN kD kX Fi : Nat → Int32} {k sh kc : Nat} {pl : List Nat} {D : List Nat → Option Nat} {fi : List (Nat × Nat × Option Nat)} {G : Nat → Nod} (hI : RI T L Sd In Nx Am K F N S I X Lt l So Nm Wi Kd (nI sh) (nI k) (nI kc) kS kN kD kX (nI fi.length) Fi (k, sh, kc, pl, D, fi, G)) {s nn : Nat} {x3 x5 x6 b0 : Int32} {w : List Nat} (hs : s < k) (hm : n_me (G s) = s) (hk : n_kd (G s) = 10) (hlen : (n_ch (G s)).length = (n_kl (G s)).length) (h32 : (n_kl (G s)).length ≤ 32) (hnn : nn < 4200) (hw : RSt N S Lt l nn w) (hwb : ∀ v, v ∈ w → v ≤ 255) (hb0 : b0 = 0 ∨ b0 = 1) :
    m_X9_fields_178 f K F N S I X Lt k85 sr_fuel fl pp (nI sh) (nI k) So Nm Wi Kd Ma Fa (nI kc) kS kN kD kX (nI fi.length) Fi (nI (n_sg (G s))) x3 x5 x6 (nI nn) b0 (Kd (n_sg (G s))) = m_X9_fields_178 f K F N S I X Lt k85 1 fl pp (nI sh) (nI k) So Nm Wi Kd Ma Fa (nI kc) kS kN kD kX (nI fi.length) Fi (nI (n_sg (G s))) x3 x5 x6 (nI nn) (if dec (b0 = 1 ∧ ∀ c, c ∈ n_ch (G s) → n_fn (G c) ≠ w) = true then 1 else 0) (-1) := by
  obtain ⟨i1, i2, i3, i4, i5, i6, i7, i8, i9, i10, i11, i12, i13, i14⟩ := hI
  obtain ⟨s0, s1, s2, s3⟩ := i12 s hs
  obtain ⟨t1, t2, t3⟩ := s3 hm
  obtain ⟨c1, c2, c3, c4, c5, c6, c7, c8⟩ := t3 (by omega) (by omega)
  obtain ⟨R, hR⟩ : ∃ R : Int32 → Option (Except TS (Unit × TS)), ∀ fu b, m_X9_fields_178 f K F N S I X Lt k85 (fu + 1) fl pp (nI sh) (nI k) So Nm Wi Kd Ma Fa (nI kc) kS kN kD kX (nI fi.length) Fi (nI (n_sg (G s))) x3 x5 x6 (nI nn) b (-1) = R b := ⟨fun b => m_X9_fields_178 f K F N S I X Lt k85 1 fl pp (nI sh) (nI k) So Nm Wi Kd Ma Fa (nI kc) kS kN kD kX (nI fi.length) Fi (nI (n_sg (G s))) x3 x5 x6 (nI nn) b (-1), fun fu b => by simp only [m_X9_fields_178, if_pos (show (-1 : Int32) < 0 by decide)]⟩
  have go : ∀ (fuel j : Nat) (b : Int32), j ≤ (n_kl (G s)).length → (n_kl (G s)).length - j < fuel → (b = 0 ∨ b = 1) → (b = 1 ↔ (b0 = 1 ∧ ∀ i, i < j → n_fn (G ((n_ch (G s)).getD i 0)) ≠ w)) →
      m_X9_fields_178 f K F N S I X Lt k85 fuel fl pp (nI sh) (nI k) So Nm Wi Kd Ma Fa (nI kc) kS kN kD kX (nI fi.length) Fi (nI (n_sg (G s))) x3 x5 x6 (nI nn) b (if j = (n_kl (G s)).length then -1 else nI ((n_kl (G s)).getD j 0)) = R (if dec (b0 = 1 ∧ ∀ c, c ∈ n_ch (G s) → n_fn (G c) ≠ w) = true then 1 else 0) := by
    intro fuel
    induction fuel with
    | zero => intro j b _ hf; exact absurd hf (Nat.not_lt_zero _)
    | succ fuel ih =>
      intro j b hj hf hb ha
      by_cases e : j = (n_kl (G s)).length
      · rw [if_pos e, hR fuel]
        congr 1
        by_cases q : b0 = 1 ∧ ∀ c, c ∈ n_ch (G s) → n_fn (G c) ≠ w
        · rw [dec_t q, bT]
          exact ha.mpr ⟨q.1, fun i hi => q.2 _ (ch_mem (by omega))⟩
        · rw [dec_f q, bF]
          rcases hb with z | z
          · exact z
          · obtain ⟨z1, z2⟩ := ha.mp z
            exact absurd ⟨z1, fun c hc => by
              obtain ⟨i, hi, ei⟩ := mem_ch hc
              rw [← ei]
              exact z2 i (by omega)⟩ q
      · have hjk : j < (n_kl (G s)).length := by omega
        obtain ⟨d1, d2⟩ := c4.1 j hjk
        have d1 : (n_kl (G s)).getD j 0 < kc := d1
        obtain ⟨m, m1, m2, m3, m4⟩ := (c6 j (by omega)).2 hk
        rw [if_neg e]
        simp only [m_X9_fields_178, m_X9_fields_209, m_X9_fields_210, if_neg (nI_pos (show (n_kl (G s)).getD j 0 < 2 ^ 31 by omega)), bd_go (show (n_kl (G s)).getD j 0 < 2200 by omega) (by decide), bd_gc (show (n_kl (G s)).getD j 0 < 2200 by omega) (by decide), nI_clamp (show (n_kl (G s)).getD j 0 < 2 ^ 31 by omega), m1, same_r m2 hnn hl hl m3 hw m4 hwb, Option.bind_some, d2]
        have stop : ∀ b', (b' = 0 ∨ b' = 1) → (b' = 1 ↔ (b0 = 1 ∧ ∀ i, i < j + 1 → n_fn (G ((n_ch (G s)).getD i 0)) ≠ w)) → m_X9_fields_178 f K F N S I X Lt k85 fuel fl pp (nI sh) (nI k) So Nm Wi Kd Ma Fa (nI kc) kS kN kD kX (nI fi.length) Fi (nI (n_sg (G s))) x3 x5 x6 (nI nn) b' (if j + 1 = (n_kl (G s)).length then -1 else nI ((n_kl (G s)).getD (j + 1) 0)) = R (if dec (b0 = 1 ∧ ∀ c, c ∈ n_ch (G s) → n_fn (G c) ≠ w) = true then 1 else 0) := fun b' h1 h2 => ih (j + 1) b' (by omega) (by omega) h1 h2
        rcases hb with z | z
        · rw [if_pos z]
          refine stop 0 (Or.inl rfl) ⟨fun q => absurd q (by decide), fun q => ?_⟩
          have := ha.mpr ⟨q.1, fun i hi => q.2 i (by omega)⟩
          rw [z] at this
          exact absurd this (by decide)
        · rw [if_neg (show ¬ b = 0 by rw [z]; decide)]
          obtain ⟨z1, z2⟩ := ha.mp z
          by_cases q : n_fn (G ((n_ch (G s)).getD j 0)) = w
          · rw [if_pos q, I10]
            exact stop 0 (Or.inl rfl) ⟨fun q' => absurd q' (by decide), fun q' => absurd q (q'.2 j (by omega))⟩
          · rw [if_neg q, I00]
            refine stop 1 (Or.inr rfl) ⟨fun _ => ⟨z1, fun i hi => ?_⟩, fun _ => rfl⟩
            by_cases ei : i = j
            · rw [ei]; exact q
            · exact z2 i (by omega)
  have := go sr_fuel 0 b0 (by omega) (by unfold sr_fuel; omega) hb0 ⟨fun z => ⟨z, fun i hi => absurd hi (Nat.not_lt_zero _)⟩, fun z => z.1⟩
  rw [← c4.ptr] at this
  exact this.trans (hR 0 _).symm
theorem ri_fldj {So Nm Wi Kd kS kN kD kX Fi : Nat → Int32} {k sh kc : Nat} {pl : List Nat} {D : List Nat → Option Nat} {fi : List (Nat × Nat × Option Nat)} {G : Nat → Nod} (h : RI T L Sd In Nx Am K F N S I X Lt l So Nm Wi Kd (nI sh) (nI k) (nI kc) kS kN kD kX (nI fi.length) Fi (k, sh, kc, pl, D, fi, G)) {s c a : Nat} {w pl' : List Nat} {o : Option Nat} (hs : s < k) (hc : c < k) (hsc : s ≠ c) (hm : n_me (G s) = s) (h10 : n_kd (G s) = 10) (hp : n_pa (G c) = 999) (hl : (n_ch (G s)).length + 1 = (n_kl (G s)).length) (hfi : fi.length < 2200) (ha : (n_kl (G s)).getD (n_ch (G s)).length 0 = a) (hac : a < kc) (hn : RNm N S Lt l (kN a) w) (ho : match o with | none => kD a = -1 | some p => ∃ n q, kD a = nI n ∧ VV T L Sd In Nx Am K F N S I X Lt l n p q) :
    RI T L Sd In Nx Am K F N S I X Lt l So Nm Wi Kd (nI sh) (nI k) (nI kc) (upd kS a (nI (n_sg (G c)))) kN kD kX (nI (fi ++ [(a, c, o)]).length) (upd Fi fi.length (nI a)) (jon s c (k, sh, kc, pl', D, fi ++ [(a, c, o)], upG G c (fnN (G c) w))) := by
  obtain ⟨i1, i2, i3, i4, i5, i6, i7, i8, i9, i10, i11, i12, i13, i14⟩ := h
  have ef : ∀ {β : Type} (g : Nod → β), g (fnN (G c) w) = g (G c) → ∀ i, g (upG G c (fnN (G c) w) i) = g (G i) := fun g hg i => by
    by_cases q : i = c
    · rw [q, upG_s]; exact hg
    · rw [upG_n q]
  have hIf : RI T L Sd In Nx Am K F N S I X Lt l So Nm Wi Kd (nI sh) (nI k) (nI kc) kS kN kD kX (nI fi.length) Fi (k, sh, kc, pl', D, fi, upG G c (fnN (G c) w)) := ⟨rfl, i2, i3, rfl, i5, rfl, i7, rfl, i9, i10, i11.cg (fun _ i _ => ef n_sg rfl i), i12.fld i5 hp, i13.cg (fun i _ => ⟨ef _ rfl i, ef _ rfl i, ef _ rfl i, ef _ rfl i⟩), i14.cg (fun _ _ => rfl) (fun _ _ => rfl) (Nat.le_refl _) (Nat.le_refl _) (fun s' _ _ => ⟨ef _ rfl s', ef _ rfl s', ⟨[], by rw [ef n_ch rfl s', List.append_nil]⟩, ⟨[], by rw [ef n_kl rfl s', List.append_nil]⟩⟩)⟩
  have hIj := hIf.jon (s := s) (c := c) hs hc hsc ((ef n_me rfl s).trans hm) (by rw [ef n_kd rfl s]; omega) (by rw [ef n_kd rfl s]; omega) ((ef n_pa rfl c).trans hp) (by rw [ef n_ch rfl s, ef n_kl rfl s]; omega) (fun _ => by rw [ef n_ch rfl s, ef n_kl rfl s, ha, upG_s]; exact hn)
  rw [ef n_ch rfl s, ef n_kl rfl s, ha, ef n_sg rfl c] at hIj
  obtain ⟨j1, j2, j3, j4, j5, j6, j7, j8, j9, j10, j11, j12, j13, j14⟩ := hIj
  have hlen : (fi ++ [(a, c, o)]).length = fi.length + 1 := by rw [List.length_append]; rfl
  refine ⟨rfl, j2, j3, rfl, j5, rfl, j7, rfl, by rw [hlen]; omega, j10, j11, j12, j13, fun j hj => ?_⟩
  rw [hlen] at hj
  by_cases ej : j = fi.length
  · have eg : (fi ++ [(a, c, o)]).getD j (0, 0, none) = (a, c, o) := by rw [ej]; simp [List.getD]
    rw [eg, ej, pk_us]
    refine ⟨rfl, hac, ⟨s, (n_ch (G s)).length, hs, ?_, ?_, ?_, ?_, ?_, ?_⟩, ho⟩
    · rw [upG_n hsc, upG_s]; exact (ef n_me rfl s).trans hm
    · rw [upG_n hsc, upG_s]; exact (ef n_kd rfl s).trans h10
    · rw [upG_n hsc, upG_s]
      show (n_ch (G s)).length < (n_ch (upG G c (fnN (G c) w) s) ++ [c]).length
      rw [ef n_ch rfl s, List.length_append, List.length_singleton]; omega
    · rw [upG_n hsc, upG_s]
      show (n_ch (G s)).length < (n_kl (upG G c (fnN (G c) w) s)).length
      rw [ef n_kl rfl s]; omega
    · rw [upG_n hsc, upG_s]
      show (n_kl (upG G c (fnN (G c) w) s)).getD (n_ch (G s)).length 0 = a
      rw [ef n_kl rfl s]; exact ha
    · rw [upG_n hsc, upG_s]
      show (n_ch (upG G c (fnN (G c) w) s) ++ [c]).getD (n_ch (G s)).length 0 = c
      rw [ef n_ch rfl s]
      exact (congrFun snc_app.symm _).trans snc_s
  · have hj2 : j < fi.length := by omega
    have eg : (fi ++ [(a, c, o)]).getD j (0, 0, none) = fi.getD j (0, 0, none) := by simp [List.getD, List.getElem?_append_left hj2]
    rw [eg, pk_un ej]
    exact j14 j hj2
end RFLD
end
section
-- the reference's records
section RREC
variable {T : Nat → Int32} {L : Nat} {Sd In Nx Am K F S I X Lt : Nat → Int32} {N : Nat → Int64} {l : Nat}
theorem r_rec_go (hL : L ≤ 4096) (hl : l ≤ 4200) {f : FS} {g : Nat → Bool → LSt → LRs} {d : Nat} (hf : okRe T L Sd In Nx Am K F N S I X Lt l f (d + 1) g) (hg : okSp T L Sd In Nx Am K F N S I X Lt l g) {s kc0 : Nat} {kN0 kD0 : Nat → Int32} : ∀ (ks : List (Nat × Nat)) (fuel i lo hi : Nat) (hc hr : Int32) (fl pp : Int32) (So Nm Wi Kd Ma Fa kS kN kD kX Fi : Nat → Int32) (k sh kc : Nat) (pl : List Nat) (D : List Nat → Option Nat) (fi : List (Nat × Nat × Option Nat)) (G : Nat → Nod), ks.length < fuel → i + ks.length ≤ 32 → RI T L Sd In Nx Am K F N S I X Lt l So Nm Wi Kd (nI sh) (nI k) (nI kc) kS kN kD kX (nI fi.length) Fi (k, sh, kc, pl, D, fi, G) → WFs (k, sh, kc, pl, D, fi, G) → s < k → n_me (G s) = s → n_kd (G s) = 10 → (n_ch (G s)).length = i → (n_kl (G s)).length = i → LCH T L Sd In Nx Am K F N S I X Lt l ks lo hi hc hr → kc0 ≤ kc → (∀ a, a < kc0 → kN a = kN0 a ∧ kD a = kD0 a) →
    RXU (m_X9_fields_85 f K F N S I X Lt fuel fl pp (nI sh) (nI k) So Nm Wi Kd Ma Fa (nI kc) kS kN kD kX (nI fi.length) Fi (nI (n_sg (G s))) (nI d) (if (n_kl (G s)).length = 0 then -1 else nI ((n_kl (G s)).getD ((n_kl (G s)).length - 1) 0)) hr) (PU T L Sd In Nx Am K F N S I X Lt l kc0 kN0 kD0) (lfs T L g s ks i (k, sh, kc, pl, D, fi, G)) := by
  intro ks
  induction ks with
  | nil =>
    intro fuel i lo hi hc hr fl pp So Nm Wi Kd Ma Fa kS kN kD kX Fi k sh kc pl D fi G hfu hi16 hI hw hs hm hk hch hkl hlc hk0 hfr
    obtain ⟨fu, rfl⟩ : ∃ z, fuel = z + 1 := ⟨fuel - 1, by omega⟩
    simp only [m_X9_fields_85, lfs, wrt]
    rw [hlc.2.2, if_pos (show (-1 : Int32) < 0 by decide)]
    exact Or.inr ⟨_, rfl, hI, hfr⟩
  | cons v t ih =>
    intro fuel i lo hi hc hr fl pp So Nm Wi Kd Ma Fa kS kN kD kX Fi k sh kc pl D fi G hfu hi16 hI hw hs hm hk hch hkl hlc hk0 hfr
    obtain ⟨fu, rfl⟩ : ∃ z, fuel = z + 1 := ⟨fuel - 1, by omega⟩
    rw [List.length_cons] at hfu hi16
    obtain ⟨c, b, c1, c2, c3, c4, c5, c6⟩ := hlc
    have hb := c4.base
    have hkc0 := c4.kk.2.2.1
    obtain ⟨g1, g2, g3, g4, _⟩ := hI.sg hs hm (by omega) (by omega)
    have i5 := hI.2.2.2.2.1
    have i7 := hI.2.2.2.2.2.2.1
    have i9 := hI.2.2.2.2.2.2.2.2.1
    simp only [m_X9_fields_85, lfs, lfd]
    rw [c3, if_neg (nI_pos (show c < 2 ^ 31 by omega))]
    simp only [bd_go (show c < 4200 by omega) (by decide), bd_gc (show c < 4200 by omega) (by decide), nI_clamp (show c < 2 ^ 31 by omega), m_X9_fields_106, m_X9_fields_149, m_X9_fields_150, hb.2.2.2]
    by_cases c123 : cb T L v.2 = 123
    rotate_left
    · rw [if_neg (fun z => c123 (hkc0.mp z)), if_neg c123, nd0, trE]
      exact Or.inr ⟨_, rfl⟩
    rw [if_pos (hkc0.mpr c123), if_pos c123, nd1, trO]
    have em := mbr_r hl c4 c123 (w := 56) (by decide) hL
    rw [lit_r.2.2.2.1] at em
    rcases em with ⟨e, em⟩ | ⟨nv, nn, nb, e, em, x1⟩
    · rw [e, em]
      simp only [Option.bind_some, if_pos (show (-1 : Int32) < 0 by decide)]
      rw [nd0, trE]
      exact Or.inr ⟨_, rfl⟩
    rw [e, em]
    have hxb := x1.base
    have hkn := x1.kk.1
    simp only [Option.bind_some, if_neg (nI_pos (show nn < 2 ^ 31 by omega)), bd_go (show nn < 4200 by omega) (by decide), bd_gc (show nn < 4200 by omega) (by decide), nI_clamp (show nn < 2 ^ 31 by omega)]
    by_cases c34 : cb T L nv = 34
    rotate_left
    · rw [if_neg (fun z => c34 (hkn.mp z)), if_neg c34, nd0, trE]
      exact Or.inr ⟨_, rfl⟩
    rw [if_pos (hkn.mpr c34), if_pos c34, nd1, trO]
    obtain ⟨s0, y1, y2, y3, y4, y5, y6⟩ := x1.str c34
    rw [y2]
    have hnm : ∃ b0 : Int32, (b0 = 0 ∨ b0 = 1) ∧ (b0 = 1 ↔ isNm s0) ∧ m_X9_isName K N S Lt (nI nn) = some b0 := by
      rcases inm_eq hl hxb.2.2.1 (hkn.mpr c34) y4 y6 with ⟨n1, n2⟩ | ⟨n1, n2⟩
      · exact ⟨1, Or.inr rfl, ⟨fun _ => n1, fun _ => rfl⟩, n2⟩
      · exact ⟨0, Or.inl rfl, ⟨fun z => absurd z (by decide), fun z => absurd z n1⟩, n2⟩
    obtain ⟨b0, hb0, hb1, hb2⟩ := hnm
    rw [hb2]
    simp only [Option.bind_some, bd_go g1 (by decide), bd_gc g1 (by decide), nI_clamp (show n_sg (G s) < 2 ^ 31 by omega)]
    rw [r_fld_in hl (f := f) (k85 := m_X9_fields_85 f K F N S I X Lt fu) (fl := fl) (pp := pp) (Ma := Ma) (Fa := Fa) hI (s := s) hs hm hk (by omega) (by omega) hxb.2.2.1 y4 y6 hb0]
    simp only [m_X9_fields_178, if_pos (show (-1 : Int32) < 0 by decide), bd_go (show nn < 4200 by omega) (by decide), bd_gc (show nn < 4200 by omega) (by decide), nI_clamp (show nn < 2 ^ 31 by omega), hxb.2.2.2]
    by_cases hno : isNm s0 ∧ ∀ c, c ∈ n_ch (G s) → n_fn (G c) ≠ s0
    rotate_left
    · rw [dec_f (fun z => hno ⟨hb1.mp z.1, z.2⟩), dec_f hno, bF, bF, nd0, trE]
      exact Or.inr ⟨_, rfl⟩
    rw [dec_t (show b0 = 1 ∧ _ from ⟨hb1.mpr hno.1, hno.2⟩), dec_t hno, bT, bT, nd1, trO]
    have em2 := mbr_r hl c4 c123 (w := 48) (by decide) hL
    rw [lit_r.1] at em2
    simp only [m_X9_fields_260, bd_go (show c < 4200 by omega) (by decide), bd_gc (show c < 4200 by omega) (by decide), nI_clamp (show c < 2 ^ 31 by omega), hb.2.2.2]
    rcases em2 with ⟨e2, em2⟩ | ⟨tv, tn, tb, e2, em2, z1⟩
    · rw [e2, em2]
      simp only [Option.bind_some, if_pos (show (-1 : Int32) < 0 by decide)]
      rw [nd0, trE]
      exact Or.inr ⟨_, rfl⟩
    rw [e2, em2]
    have hzb := z1.base
    simp only [Option.bind_some, if_neg (nI_pos (show tn < 2 ^ 31 by omega))]
    rw [nd1, trO]
    by_cases hkc : kc < 2200
    rotate_left
    · simp only [adk_no hkc (show kc < 2 ^ 31 by omega), Option.bind_none]
      exact RXU.no
    obtain ⟨Ma2, hadk⟩ := adk_eq (Kd := Kd) (Ma := Ma) (kS := kS) (kN := kN) (kD := kD) (kX := kX) hkc g1 g2
    simp only [hadk, Option.bind_some, bd_go hkc (by decide), bd_gc hkc (by decide), nI_clamp (show kc < 2 ^ 31 by omega), nI_1]
    have em3 := mbr_r hl c4 c123 (w := 59) (by decide) hL
    rw [lit_r.2.2.2.2.2.2.1] at em3
    have hdv : ∃ r25 : Int32, m_X9_member K N S I X Lt (nI c) 59 = some r25 ∧ (match mbr T L v.2 (litN 28) with | none => r25 = -1 | some p => ∃ n q, r25 = nI n ∧ VV T L Sd In Nx Am K F N S I X Lt l n p q) := by
      rcases em3 with ⟨e3, em3⟩ | ⟨dv, dn, db, e3, em3, w1⟩
      · exact ⟨_, em3, by rw [e3]⟩
      · exact ⟨_, em3, by rw [e3]; exact ⟨dn, db, rfl, w1⟩⟩
    obtain ⟨r25, hr25, ho⟩ := hdv
    rw [hr25]
    simp only [Option.bind_some]
    have eup : ∀ (fN : Nat → Int32) (z : Int32), upd (upd fN kc (-1)) kc z = upd fN kc z := fun fN z => by
      funext j
      by_cases q : j = kc
      · rw [q, pk_us, pk_us]
      · rw [pk_un q, pk_un q, pk_un q]
    rw [eup, eup]
    have hIk := hI.kid (s := s) (x := klN (G s) kc) (vS := -1) (vN := nI nn) (vD := r25) hs hkc hm (by omega) (by omega) rfl rfl rfl rfl rfl rfl rfl rfl (fun z => by omega) (fun _ => rfl)
    have hIk : RI T L Sd In Nx Am K F N S I X Lt l So Nm Wi (if (n_kl (G s)).length = 0 then upd Kd (n_sg (G s)) (nI kc) else Kd) (nI sh) (nI k) (nI (kc + 1)) (upd kS kc (-1)) (upd kN kc (nI nn)) (upd kD kc r25) (if (n_kl (G s)).length = 0 then upd kX kc (-1) else upd (upd kX kc (-1)) ((n_kl (G s)).getD ((n_kl (G s)).length - 1) 0) (nI kc)) (nI fi.length) Fi (k, sh, kc + 1, pl ++ ((if i = 0 then [] else [44]) ++ (litN 21 ++ (qt s0 ++ litN 31))), D, fi, upG G s (klN (G s) kc)) := hIk
    have hw1 : WFs (k, sh, kc + 1, pl ++ ((if i = 0 then [] else [44]) ++ (litN 21 ++ (qt s0 ++ litN 31))), D, fi, upG G s (klN (G s) kc)) := ⟨DOK.up (x := klN (G s) kc) hw.1 rfl rfl, hw.2⟩
    have hf1 := hf fl pp So Nm Wi _ Ma2 Fa _ _ _ _ Fi _ _ _ _ tv false _ _ _ hIk hw1 z1
    rw [bF] at hf1
    have hfq := fun st' (q : lfd T L g s v.2 i (k, sh, kc, pl, D, fi, G) = .inr st') => lfd_p hL hl hg hs hw c4 q
    simp only [lfd, if_pos c123, e, if_pos c34, y2, dec_t hno, bT, e2] at hfq
    cases hr : g tv false (k, sh, kc + 1, pl ++ ((if i = 0 then [] else [44]) ++ (litN 21 ++ (qt s0 ++ litN 31))), D, fi, upG G s (klN (G s) kc)) with
    | inl e =>
      rw [hr] at hf1
      rcases hf1 with hu | ⟨u, hu⟩
      · rw [hu, trN]; exact RXU.no
      · rw [hu, trE]
        obtain ⟨u1, u2, u3, u4, u5, u6, u7, u8, u9, u10, u11, u12, u13, u14, u15⟩ := u
        exact Or.inr ⟨_, rfl⟩
    | inr st1 =>
      rw [hr] at hf1 hfq
      obtain ⟨fp, _⟩ := hg _ _ _ _ _ _ z1 hw1 hr
      rcases hf1 with hu | ⟨vv, u, hu, hP⟩
      · rw [hu, trN]; exact RXU.no
      rw [hu, trO]
      obtain ⟨k1, sh1, kc1, pl1, D1, fi1, G1⟩ := st1
      obtain ⟨fl1, pp1, shI, lkI, So1, Nm1, Wi1, Kd1, Ma1, Fa1, kcI, kS1, kN1, kD1, kX1, dnI, Fi1⟩ := u
      obtain ⟨hI2, ev, hfr1⟩ := hP
      obtain ⟨a1, a2, a3, a4, a5, a6, a7, a8, a9, a10, a11, a12, a13⟩ := fp
      obtain ⟨j1, j2, j3, j4, j5, j6, j7, j8, j9, j10, j11, j12, j13, j14⟩ := hI2
      subst j1
      subst j4
      subst j6
      subst j8
      have hI2 : RI T L Sd In Nx Am K F N S I X Lt l So1 Nm1 Wi1 Kd1 (nI sh1) (nI k1) (nI kc1) kS1 kN1 kD1 kX1 (nI fi1.length) Fi1 (k1, sh1, kc1, pl1, D1, fi1, G1) := ⟨rfl, j2, j3, rfl, j5, rfl, j7, rfl, j9, j10, j11, j12, j13, j14⟩
      have ev : vv = nI (n_sg (G1 k)) := ev
      have hfr1 : ∀ a, a < kc + 1 → kN1 a = upd kN kc (nI nn) a ∧ kD1 a = upd kD kc r25 a := hfr1
      have hq := (hfq _ rfl).1
      have eGs : G1 s = klN (G s) kc := by rw [a5 s hs, upG_s]
      have ekl : n_kl (G1 s) = n_kl (G s) ++ [kc] := by rw [eGs]; rfl
      have ech : n_ch (G1 s) = n_ch (G s) := by rw [eGs]; rfl
      have hms : n_me (G1 s) = s := by rw [eGs]; exact hm
      have hks : n_kd (G1 s) = 10 := by rw [eGs]; exact hk
      have esg : n_sg (G1 s) = n_sg (G s) := by rw [eGs]; rfl
      have egd : (n_kl (G1 s)).getD (n_ch (G1 s)).length 0 = kc := by
        rw [ekl, ech, hch, ← hkl]
        exact (congrFun snc_app.symm _).trans snc_s
      by_cases hdn : fi1.length < 2200
      rotate_left
      · simp only [bd_go hkc (by decide), bd_gc hkc (by decide), nI_clamp (show kc < 2 ^ 31 by omega)]
        rw [if_pos (show nI fi1.length < (0 : Int32) ∨ 2200 ≤ (nI fi1.length).toNatClampNeg from Or.inr (by rw [nI_clamp (by omega)]; omega))]
        exact RXU.no
      simp only [bd_go hkc (by decide), bd_gc hkc (by decide), nI_clamp (show kc < 2 ^ 31 by omega), bd_go hdn (by decide), bd_gc hdn (by decide), nI_clamp (show fi1.length < 2 ^ 31 by omega), bd_go (show c < 4200 by omega) (by decide), bd_gc (show c < 4200 by omega) (by decide), nI_clamp (show c < 2 ^ 31 by omega), nI_1]
      have kNk := (hfr1 kc (by omega)).1
      have kDk := (hfr1 kc (by omega)).2
      rw [pk_us] at kNk kDk
      have hIj := ri_fldj (pl' := pl1 ++ [125]) (w := s0) (o := mbr T L v.2 (litN 28)) hI2 (s := s) (c := k) (a := kc) (by omega) a1 (by omega) hms hks a10 (by rw [ech, ekl, List.length_append, List.length_singleton]; omega) hdn egd (by omega) ⟨nn, kNk, hxb.2.2.1, y4, y6⟩ (by rw [kDk]; exact ho)
      have ecs : n_ch (upG (upG (upG G1 k (fnN (G1 k) s0)) s (chN (upG G1 k (fnN (G1 k) s0) s) k)) k (paN (upG G1 k (fnN (G1 k) s0) k) s) s) = n_ch (G s) ++ [k] := by
        rw [upG_n (show s ≠ k by omega), upG_s, upG_n (show s ≠ k by omega)]
        show n_ch (G1 s) ++ [k] = _
        rw [ech]
      have ess : ∀ {β : Type} (h : Nod → β), (∀ x, h (chN x k) = h x) → h (upG (upG (upG G1 k (fnN (G1 k) s0)) s (chN (upG G1 k (fnN (G1 k) s0) s) k)) k (paN (upG G1 k (fnN (G1 k) s0) k) s) s) = h (G1 s) := fun h hh => by
        rw [upG_n (show s ≠ k by omega), upG_s, upG_n (show s ≠ k by omega)]
        exact hh _
      have hlast : (if (n_kl (G s) ++ [kc]).length = 0 then (-1 : Int32) else nI ((n_kl (G s) ++ [kc]).getD ((n_kl (G s) ++ [kc]).length - 1) 0)) = nI kc := by
        rw [List.length_append, List.length_singleton, if_neg (by omega), Nat.add_sub_cancel, show (n_kl (G s) ++ [kc]).getD (n_kl (G s)).length 0 = kc from (congrFun snc_app.symm _).trans snc_s]
      have hlen2 : (fi1 ++ [(kc, k, mbr T L v.2 (litN 28))]).length = fi1.length + 1 := by rw [List.length_append]; rfl
      have fin := ih fu (i + 1) _ hi (Nx v.2) (X c) fl1 pp1 So1 Nm1 Wi1 Kd1 Ma1 Fa1 _ kN1 kD1 kX1 _ k1 sh1 kc1 (pl1 ++ [125]) D1 (fi1 ++ [(kc, k, mbr T L v.2 (litN 28))]) _ (by omega) (by omega) hIj (hq.wf hw) (by omega) ((ess n_me (fun _ => rfl)).trans hms) ((ess n_kd (fun _ => rfl)).trans hks) (by rw [ecs, List.length_append, List.length_singleton]; omega) (by rw [ess n_kl (fun _ => rfl), ekl, List.length_append, List.length_singleton]; omega) c6 (by omega) (fun a ha => by
        rw [(hfr1 a (by omega)).1, (hfr1 a (by omega)).2, pk_un (by omega), pk_un (by omega)]
        exact hfr a ha)
      rw [show n_kl (upG (upG (upG G1 k (fnN (G1 k) s0)) s (chN (upG G1 k (fnN (G1 k) s0) s) k)) k (paN (upG G1 k (fnN (G1 k) s0) k) s) s) = n_kl (G1 s) from ess n_kl (fun _ => rfl), show n_sg (upG (upG (upG G1 k (fnN (G1 k) s0)) s (chN (upG G1 k (fnN (G1 k) s0) s) k)) k (paN (upG G1 k (fnN (G1 k) s0) k) s) s) = n_sg (G1 s) from ess n_sg (fun _ => rfl), ekl, hlast, esg, hlen2] at fin
      rw [ev]
      exact fin
theorem r_rec (hL : L ≤ 4096) (hl : l ≤ 4200) {f : FS} {g : Nat → Bool → LSt → LRs} {d : Nat} (hf : okRe T L Sd In Nx Am K F N S I X Lt l f (d + 1) g) (hg : okSp T L Sd In Nx Am K F N S I X Lt l g) {fl pp : Int32} {s n p q : Nat} {So Nm Wi Kd Ma Fa kS kN kD kX Fi : Nat → Int32} {k sh kc : Nat} {pl : List Nat} {D : List Nat → Option Nat} {fi : List (Nat × Nat × Option Nat)} {G : Nat → Nod} (hI : RI T L Sd In Nx Am K F N S I X Lt l So Nm Wi Kd (nI sh) (nI k) (nI kc) kS kN kD kX (nI fi.length) Fi (k, sh, kc, pl, D, fi, G)) (hw : WFs (k, sh, kc, pl, D, fi, G)) (hs : s < k) (hG : ∃ sg, G s = mkN 10 s sg 0 [] []) (hv : VV T L Sd In Nx Am K F N S I X Lt l n p q) (hc : cb T L p = 123) :
    RXU (m_X9_fields f fl pp K F N S I X Lt (nI sh) (nI k) So Nm Wi Kd Ma Fa (nI kc) kS kN kD kX (nI fi.length) Fi (nI (n_sg (G s))) (nI n) (nI d)) (PU T L Sd In Nx Am K F N S I X Lt l kc kN kD) (lrc T L g s p (k, sh, kc, pl, D, fi, G)) := by
  have hb := hv.base
  obtain ⟨sg, hG⟩ := hG
  have ekl : n_kl (G s) = [] := by rw [hG]; rfl
  simp only [lrc, wrt]
  unfold m_X9_fields
  have em := mbr_r hl hv hc (w := 60) (by decide) hL
  rw [lit_r.2.2.2.2.2.2.2.1] at em
  simp only [m_X9_fields_21, m_X9_fields_60, m_X9_fields_61, bd_go (show n < 4200 by omega) (by decide), bd_gc (show n < 4200 by omega) (by decide), nI_clamp (show n < 2 ^ 31 by omega), hb.2.2.2]
  rcases em with ⟨e, em⟩ | ⟨v, c, b, e, em, z1⟩
  · rw [e, em]
    simp only [Option.bind_some, if_pos (show (-1 : Int32) < 0 by decide)]
    rw [nd0, trE]
    exact Or.inr ⟨_, rfl⟩
  rw [e, em]
  have hzb := z1.base
  have hkk := z1.kk.2.1
  simp only [Option.bind_some, if_neg (nI_pos (show c < 2 ^ 31 by omega))]
  rw [nd1, trO]
  simp only [bd_go (show c < 4200 by omega) (by decide), bd_gc (show c < 4200 by omega) (by decide), nI_clamp (show c < 2 ^ 31 by omega), hzb.2.2.2]
  by_cases c91 : cb T L v = 91
  rotate_left
  · rw [if_neg (fun z => c91 (hkk.mp z)), nd0, trE, if_neg (fun z => c91 z.1)]
    exact Or.inr ⟨_, rfl⟩
  obtain ⟨a1, a2, a3, a4⟩ := z1.lst c91
  rw [if_pos (hkk.mpr c91), a2]
  by_cases x2 : (prt T L v).length ≤ 32
  rotate_left
  · rw [if_pos (show (33 : Int32) ≤ nI (prt T L v).length from nI_le (a := 33) (by omega) (by omega)), nd0, trE, if_neg (fun z => x2 z.2)]
    exact Or.inr ⟨_, rfl⟩
  rw [if_neg (show ¬ (33 : Int32) ≤ nI (prt T L v).length from nI_ge (b := 33) (by omega) (by decide)), nd1, trO, if_pos ⟨c91, x2⟩]
  have fin := r_rec_go hL hl hf hg (s := s) (kc0 := kc) (kN0 := kN) (kD0 := kD) (prt T L v) sr_fuel 0 _ _ _ _ fl pp So Nm Wi Kd Ma Fa kS kN kD kX Fi k sh kc (pl ++ litN 30) D fi G (by unfold sr_fuel; omega) (by omega) hI hw hs (by rw [hG]; rfl) (by rw [hG]; rfl) (by rw [hG]; rfl) (by rw [ekl]; rfl) a4 (Nat.le_refl _) (fun _ _ => ⟨rfl, rfl⟩)
  rw [ekl] at fin
  exact fin
end RREC
end
section
-- the reference's definitions, objects, values
section RLOOK
variable {T : Nat → Int32} {L : Nat} {Sd In Nx Am K F S I X Lt : Nat → Int32} {N : Nat → Int64} {l : Nat}
theorem ri_nam {So Nm Wi Kd kS kN kD kX Fi : Nat → Int32} {k sh kc : Nat} {pl : List Nat} {D : List Nat → Option Nat} {fi : List (Nat × Nat × Option Nat)} {G : Nat → Nod} (h : RI T L Sd In Nx Am K F N S I X Lt l So Nm Wi Kd (nI sh) (nI k) (nI kc) kS kN kD kX (nI fi.length) Fi (k, sh, kc, pl, D, fi, G)) {s x : Nat} {v : Int32} {w : List Nat} (hs : s + 1 = k) (hsh : sh < 6 + k) (hG : G s = mkN 12 s 0 0 [] []) (hD : ∀ w d, D w = some d → d < s) (hx6 : 6 ≤ x) (hx : x ≤ 11) (hm : ∀ i, i < k → n_me (G i) = s → i = s) (hn : D w = none) (hv : RNm N S Lt l v w) : RI T L Sd In Nx Am K F N S I X Lt l (upd So sh (nI (srt x))) (upd (upd Nm sh (-1)) sh v) (upd Wi sh 0) (upd Kd sh (-1)) (nI (sh + 1)) (nI k) (nI kc) kS kN kD kX (nI fi.length) Fi (dfS w s x k sh kc pl D fi G) := by
  have h1 := h.shp (pl' := pl ++ (litN 21 ++ (qt w ++ (litN 22 ++ (litN (3 + x) ++ [34]))))) (x := x) hs hsh hG hD hx6 hx hm
  obtain ⟨i1, i2, i3, i4, i5, i6, i7, i8, i9, i10, i11, i12, i13, i14⟩ := h1
  exact ⟨i1, i2, i3, i4, i5, i6, i7, i8, i9, i10, h.2.2.2.2.2.2.2.2.2.2.1.nam h.2.1 hn (fun u i q => by have := hD u i q; rw [upG_n (by omega)]) (by rw [upG_s]; rfl) hv, i12, i13, i14⟩
theorem r_fix (hL : L ≤ 4096) (hl : l ≤ 4200) {f : FS} {fl pp : Int32} {s n p q : Nat} {So Nm Wi Kd Ma Fa kS kN kD kX Fi : Nat → Int32} {k sh kc : Nat} {pl : List Nat} {D : List Nat → Option Nat} {fi : List (Nat × Nat × Option Nat)} {G : Nat → Nod} (hI : RI T L Sd In Nx Am K F N S I X Lt l So Nm Wi Kd (nI sh) (nI k) (nI kc) kS kN kD kX (nI fi.length) Fi (k, sh, kc, pl, D, fi, G)) (hs : s < k) (hG : ∃ sg, G s = mkN 8 s sg 0 [] []) (hv : VV T L Sd In Nx Am K F N S I X Lt l n p q) (hc : cb T L p = 123) :
    RX ((m_X9_member K N S I X Lt (nI n) 57).bind fun r16 => (if r16 < 0 then m_X9_named_225 f K F N S I X Lt fl pp (nI sh) (nI k) So Nm Wi Kd Ma Fa (nI kc) kS kN kD kX (nI fi.length) Fi (nI n) (nI (n_sg (G s))) r16 0 else m_X9_named_225 f K F N S I X Lt fl pp (nI sh) (nI k) So Nm Wi Kd Ma Fa (nI kc) kS kN kD kX (nI fi.length) Fi (nI n) (nI (n_sg (G s))) r16 1)) (PO T L Sd In Nx Am K F N S I X Lt l s kc kN kD) (lfx T L s p (k, sh, kc, pl, D, fi, G)) := by
  have hb := hv.base
  obtain ⟨sg, hG⟩ := hG
  have hm : n_me (G s) = s := by rw [hG]; rfl
  have hk : n_kd (G s) = 8 := by rw [hG]; rfl
  obtain ⟨g1, g2, g3, g4, _⟩ := hI.sg hs hm (by omega) (by omega)
  simp only [lfx]
  have em := mbr_r hl hv hc (w := 57) (by decide) hL
  rw [lit_r.2.2.2.2.1] at em
  simp only [m_X9_named_225, m_X9_named_278, m_X9_named_279, bd_go (show n < 4200 by omega) (by decide), bd_gc (show n < 4200 by omega) (by decide), nI_clamp (show n < 2 ^ 31 by omega), hb.2.2.2]
  rcases em with ⟨e, em⟩ | ⟨v, c, b, e, em, z1⟩
  · rw [e, em]
    simp only [Option.bind_some, if_pos (show (-1 : Int32) < 0 by decide)]
    rw [nd0, trE]
    exact Or.inr ⟨_, rfl⟩
  rw [e, em]
  have hzb := z1.base
  have hkk := z1.kk.2.2.2
  simp only [Option.bind_some, if_neg (nI_pos (show c < 2 ^ 31 by omega))]
  rw [nd1, trO]
  simp only [bd_go (show c < 4200 by omega) (by decide), bd_gc (show c < 4200 by omega) (by decide), nI_clamp (show c < 2 ^ 31 by omega), hzb.2.2.2]
  by_cases cn : cb T L v = 45 ∨ (48 ≤ cb T L v ∧ cb T L v ≤ 57)
  rotate_left
  · rw [if_neg (fun z => cn (hkk.mp z)), if_neg cn, nd0, trE]
    exact Or.inr ⟨_, rfl⟩
  rw [if_pos (hkk.mpr cn), if_pos cn, (z1.num cn).1]
  cases hz : lsz (snv T L v) with
  | none =>
    rcases lsz_n hz with q | q
    · rw [if_pos q, nd0, trE]
      exact Or.inr ⟨_, rfl⟩
    · by_cases q2 : lg_cmp (snv T L v) 0 < 0
      · rw [if_pos q2, nd0, trE]
        exact Or.inr ⟨_, rfl⟩
      · rw [if_neg q2, if_pos (Int32.not_le.mp q), nd0, trE]
        exact Or.inr ⟨_, rfl⟩
  | some w =>
    obtain ⟨w1, w2⟩ := lsz_of hz
    obtain ⟨l1, l2, l3, l4⟩ := lN_clamp w w2
    rw [w1, if_neg l3, if_neg (Int32.not_lt.mpr l4), nd1, trO, l2]
    simp only [bd_go g1 (by decide), bd_gc g1 (by decide), nI_clamp (show n_sg (G s) < 2 ^ 31 by omega)]
    obtain ⟨i1, i2, i3, i4, i5, i6, i7, i8, i9, i10, i11, i12, i13, i14⟩ := hI
    have e1 : ∀ {β : Type} (h : Nod → β), h (mkN 8 s (n_sg (G s)) w [] []) = h (G s) → ∀ i, h (upG G s (mkN 8 s (n_sg (G s)) w [] []) i) = h (G i) := fun h hh i => by
      by_cases q : i = s
      · rw [q, upG_s]; exact hh
      · rw [upG_n q]
    have es : n_sg (mkN 8 s (n_sg (G s)) w [] []) = n_sg (G s) := rfl
    refine Or.inr ⟨_, _, rfl, ⟨rfl, i2, i3, rfl, i5, rfl, i7, rfl, i9, i10, i11.cg (fun _ i _ => e1 n_sg es i), i12.wid i13 hs hm hk (by rw [hG]; rfl) (by rw [hG]; rfl) (by rw [hG]; rfl) (by rw [hG]; rfl), i13.cg (fun i _ => ⟨e1 n_kd hk.symm i, e1 n_me hm.symm i, e1 n_sg es i, e1 n_kl (by rw [hG]; rfl) i⟩), i14.fr (by rw [hG]; rfl)⟩, ?_, fun _ _ => ⟨rfl, rfl⟩⟩
    show nI (n_sg (G s)) = nI (n_sg (upG G s (mkN 8 s (n_sg (G s)) w [] []) s))
    rw [upG_s]
    rfl
theorem r_nam (hL : L ≤ 4096) (hl : l ≤ 4200) {f : FS} {g : Nat → Bool → LSt → LRs} {d : Nat} (hf : okRe T L Sd In Nx Am K F N S I X Lt l f (d + 1) g) (hg : okSp T L Sd In Nx Am K F N S I X Lt l g) {fl pp : Int32} {s n p q tn tv tb kk : Nat} (hkk : kk = 8 ∨ kk = 9 ∨ kk = 10) {So Nm Wi Kd Ma Fa kS kN kD kX Fi : Nat → Int32} {k sh kc : Nat} {pl : List Nat} {D : List Nat → Option Nat} {fi : List (Nat × Nat × Option Nat)} {G : Nat → Nod} (hI : RI T L Sd In Nx Am K F N S I X Lt l So Nm Wi Kd (nI sh) (nI k) (nI kc) kS kN kD kX (nI fi.length) Fi (k, sh, kc, pl, D, fi, G)) (hs : s + 1 = k) (hsh : sh < 6 + k) (hG : G s = mkN 12 s 0 0 [] []) (hD : ∀ w d, D w = some d → d < s) (hm : ∀ i, i < k → n_me (G i) = s → i = s) (hw : WFs (k, sh, kc, pl, D, fi, G)) (hv : VV T L Sd In Nx Am K F N S I X Lt l n p q) (hc : cb T L p = 123) (ht : VV T L Sd In Nx Am K F N S I X Lt l tn tv tb) (ht34 : cb T L tv = 34) (hts : ts T L tv = litN (3 + kk)) :
    RX (m_X9_named f fl pp K F N S I X Lt (nI sh) (nI k) So Nm Wi Kd Ma Fa (nI kc) kS kN kD kX (nI fi.length) Fi (nI n) (nI tn) (nI d)) (PO T L Sd In Nx Am K F N S I X Lt l s kc kN kD) (ldf T L g s p kk (k, sh, kc, pl, D, fi, G)) := by
  have hb := hv.base
  have htb := ht.base
  obtain ⟨st0, p1, p2, p3, p4, p5, p6⟩ := ht.str ht34
  rw [p2] at hts
  subst hts
  have htk := ht.kk.1.mpr ht34
  have i2 := hI.2.1
  have i3 := hI.2.2.1
  have i5 := hI.2.2.2.2.1
  have i11 := hI.2.2.2.2.2.2.2.2.2.2.1
  unfold m_X9_named
  have em := mbr_r hl hv hc (w := 56) (by decide) hL
  rw [lit_r.2.2.2.1] at em
  simp only [ldf, m_X9_named_30, m_X9_named_31, m_X9_named_128, m_X9_named_129, bd_go (show n < 4200 by omega) (by decide), bd_gc (show n < 4200 by omega) (by decide), nI_clamp (show n < 2 ^ 31 by omega), hb.2.2.2]
  rcases em with ⟨e, em⟩ | ⟨v, c, b, e, em, z1⟩
  · rw [e, em]
    simp only [Option.bind_some, if_pos (show (-1 : Int32) < 0 by decide)]
    rw [nd0, trE]
    exact Or.inr ⟨_, rfl⟩
  rw [e, em]
  have hzb := z1.base
  have hzk := z1.kk.1
  simp only [Option.bind_some, if_neg (nI_pos (show c < 2 ^ 31 by omega)), bd_go (show c < 4200 by omega) (by decide), bd_gc (show c < 4200 by omega) (by decide), nI_clamp (show c < 2 ^ 31 by omega), hzb.2.2.2]
  by_cases c34 : cb T L v = 34
  rotate_left
  · rw [if_neg (fun z => c34 (hzk.mp z)), if_neg c34, nd0, trE]
    exact Or.inr ⟨_, rfl⟩
  have hzk2 := hzk.mpr c34
  rw [if_pos hzk2, if_pos c34, nd1, trO]
  obtain ⟨s0, y1, y2, y3, y4, y5, y6⟩ := z1.str c34
  rw [y2]
  have isq : ∀ {w : Nat}, w < 75 → m_X9_is K N S Lt (nI c) w = some (if s0 = litN w then 1 else 0) := fun hw => isr_eq hl hzb.2.2.1 hzk2 y4 y6 hw
  have ist : ∀ {w : Nat}, w < 75 → m_X9_is K N S Lt (nI tn) w = some (if litN (3 + kk) = litN w then 1 else 0) := fun hw => isr_eq hl htb.2.2.1 htk p4 p6 hw
  have bad : ∀ r : LRs, r = .inl (9, v) → RX (mr_try (m_X9_need fl pp 0 9 (nI v)) (fun r6 (x : Int32 × Int32) => ((m_X9_is K N S Lt (nI tn) 53).bind fun r7 => (if r7 = 0 then ((m_X9_is K N S Lt (nI tn) 54).bind fun r31 => (if r31 = 0 then m_X9_named_179 f K F N S I X Lt x.1 x.2 (nI sh) (nI k) So Nm Wi Kd Ma Fa (nI kc) kS kN kD kX (nI fi.length) Fi (nI n) (nI d) (nI c) 11 else m_X9_named_179 f K F N S I X Lt x.1 x.2 (nI sh) (nI k) So Nm Wi Kd Ma Fa (nI kc) kS kN kD kX (nI fi.length) Fi (nI n) (nI d) (nI c) 10)) else m_X9_named_179 f K F N S I X Lt x.1 x.2 (nI sh) (nI k) So Nm Wi Kd Ma Fa (nI kc) kS kN kD kX (nI fi.length) Fi (nI n) (nI d) (nI c) 9))) (fun x : Int32 × Int32 => (x.1, x.2, nI sh, nI k, So, Nm, Wi, Kd, Ma, Fa, nI kc, kS, kN, kD, kX, nI fi.length, Fi))) (PO T L Sd In Nx Am K F N S I X Lt l s kc kN kD) r := by
    intro r hr
    rw [hr, nd0, trE]
    exact Or.inr ⟨_, rfl⟩
  rcases inm_eq hl hzb.2.2.1 hzk2 y4 y6 with ⟨n1, n2⟩ | ⟨n1, n2⟩
  rotate_left
  · rw [n2]
    simp only [Option.bind_some, if_true]
    exact bad _ (by rw [dec_f (fun z => n1 z.1), bF])
  rw [n2, word_eq hl hzb.2.2.1 hzk2 y4 y6, dfn_r hl i11 i2 (by omega) hzb.2.2.1 y4 y6]
  simp only [Option.bind_some, if_neg (show ¬ (1 : Int32) = 0 by decide)]
  have kl := kw_lit
  rcases kw6_of s0 with ⟨k6, k1, k2, k3⟩ | ⟨k1, k2⟩
  · rw [k3, if_pos (nI_pos' (show k6 < 2 ^ 31 by omega))]
    exact bad _ (by rw [dec_f (fun z => by have := z.2.1; rw [k2] at this; exact nI_m1 (show k6 < 2 ^ 31 by omega) this), bF])
  rw [k1, if_neg (show ¬ (0 : Int32) ≤ -1 by decide), isq (w := 49) (by decide), isq (w := 50) (by decide), isq (w := 53) (by decide), isq (w := 54) (by decide), isq (w := 55) (by decide)]
  simp only [Option.bind_some, lit_r.2.2.2.2.2.2.2.2.1, lit_r.2.2.2.2.2.2.2.2.2.1, lit_r.2.2.2.2.2.2.2.2.2.2.1, lit_r.2.2.2.2.2.2.2.2.2.2.2.1, lit_r.2.2.2.2.2.2.2.2.2.2.2.2]
  have nope : ∀ j, s0 = litN j → kw (litN j) ≠ -1 → dec (isNm s0 ∧ kw s0 = -1 ∧ D s0 = none) = false := fun j h1 h2 => dec_f (fun z => h2 (by rw [← h1]; exact z.2.1))
  by_cases e9 : s0 = litN 9
  · rw [if_pos e9, I10]
    exact bad _ (by rw [nope 9 e9 (by rw [kl.2.2.2.2.2.2.1]; decide), bF])
  rw [if_neg e9, I00]
  by_cases e10 : s0 = litN 10
  · rw [if_pos e10, I10]
    exact bad _ (by rw [nope 10 e10 (by rw [kl.2.2.2.2.2.2.2.1]; decide), bF])
  rw [if_neg e10, I00]
  by_cases e11 : s0 = litN 11
  · rw [if_pos e11, I10]
    exact bad _ (by rw [nope 11 e11 (by rw [kl.2.2.2.2.2.2.2.2.1]; decide), bF])
  rw [if_neg e11, I00]
  by_cases e12 : s0 = litN 12
  · rw [if_pos e12, I10]
    exact bad _ (by rw [nope 12 e12 (by rw [kl.2.2.2.2.2.2.2.2.2.1]; decide), bF])
  rw [if_neg e12, I00]
  by_cases e13 : s0 = litN 13
  · rw [if_pos e13, I10]
    exact bad _ (by rw [nope 13 e13 (by rw [kl.2.2.2.2.2.2.2.2.2.2]; decide), bF])
  rw [if_neg e13, I00]
  have ck : kw s0 = -1 := by
    rcases k2 with z | ⟨k', a1, a2, a3, a4⟩
    · exact z
    · have : k' = 6 ∨ k' = 7 ∨ k' = 8 ∨ k' = 9 ∨ k' = 10 := by omega
      rcases this with z | z | z | z | z <;> (subst z; first | exact absurd a4 e9 | exact absurd a4 e10 | exact absurd a4 e11 | exact absurd a4 e12 | exact absurd a4 e13)
  cases hd : D s0 with
  | some d0 =>
    have hsg := (i11.2 s0 d0 hd).2.1
    dsimp only
    rw [if_pos (nI_pos' (show n_sg (G d0) < 2 ^ 31 by omega))]
    exact bad _ (by rw [dec_f (fun z => by have := z.2.2; cases this), bF])
  | none =>
    dsimp only
    rw [if_neg (show ¬ (0 : Int32) ≤ -1 by decide), nd1, trO, dec_t (show isNm s0 ∧ kw s0 = -1 ∧ (none : Option Nat) = none from ⟨n1, ck, rfl⟩), bT, ist (w := 53) (by decide), ist (w := 54) (by decide)]
    simp only [Option.bind_some, lit_r.2.2.2.2.2.2.2.2.2.2.1, lit_r.2.2.2.2.2.2.2.2.2.2.2.1]
    have hI1 := ri_nam (v := nI c) (w := s0) hI (x := kk) hs hsh hG hD (by omega) (by omega) hm hd ⟨c, rfl, hzb.2.2.1, y4, y6⟩
    have hw1 : WFs (dfS s0 s kk k sh kc pl D fi G) := by
      refine ⟨fun w d0 hdd => ?_, hw.2⟩
      have hdd : (if w = s0 then some s else D w) = some d0 := hdd
      by_cases ew : w = s0
      · rw [if_pos ew] at hdd
        have e := Option.some.inj hdd
        subst e
        rw [upG_s]
        exact ⟨by omega, rfl, show 8 ≤ kk by omega, show kk ≤ 10 by omega⟩
      · rw [if_neg ew] at hdd
        have := hD w d0 hdd
        rw [upG_n (by omega)]
        exact hw.1 w d0 hdd
    have h140 : sh < 140 := by omega
    have esg : n_sg (upG G s (mkN kk s sh 0 [] []) s) = sh := by rw [upG_s]; rfl
    have n179 : ∀ y0, y0 = nI (srt kk) → RX (m_X9_named_179 f K F N S I X Lt fl pp (nI sh) (nI k) So Nm Wi Kd Ma Fa (nI kc) kS kN kD kX (nI fi.length) Fi (nI n) (nI d) (nI c) y0) (PO T L Sd In Nx Am K F N S I X Lt l s kc kN kD) (if kk = 8 then lfx T L s p (dfS s0 s kk k sh kc pl D fi G) else if kk = 9 then len T L s p (dfS s0 s kk k sh kc pl D fi G) else lrc T L g s p (dfS s0 s kk k sh kc pl D fi G)) := by
      intro y0 hy0
      subst hy0
      unfold m_X9_named_179
      rw [shp_eq h140]
      simp only [Option.bind_some, bd_go h140 (by decide), bd_gc h140 (by decide), nI_clamp (show sh < 2 ^ 31 by omega), pk_us]
      by_cases k8 : kk = 8
      · subst k8
        rw [if_pos (show nI (srt 8) = 9 by decide), if_pos rfl]
        have := r_fix hL hl (f := f) (fl := fl) (pp := pp) (Ma := upd Ma sh 0) (Fa := upd Fa sh (-1)) hI1 (s := s) (by omega) ⟨sh, upG_s⟩ hv hc
        rw [esg] at this
        exact this
      by_cases k9 : kk = 9
      · subst k9
        rw [if_neg (show ¬ nI (srt 9) = 9 by decide), if_pos (show nI (srt 9) = 10 by decide), if_neg (by decide), if_pos rfl]
        have hsy := r_sym hL hl (fl := fl) (pp := pp) (Ma := upd Ma sh 0) (Fa := upd Fa sh (-1)) hI1 (s := s) (by omega) ⟨sh, upG_s⟩ hv hc
        rw [esg] at hsy
        have hsy : RXY (m_X9_symbols fl pp K F N S I X Lt (upd Kd sh (-1)) (upd Ma sh 0) (upd Fa sh (-1)) (nI kc) kS kN kD kX (nI sh) (nI n)) _ (len T L s p (dfS s0 s 9 k sh kc pl D fi G)) := hsy
        cases hr : len T L s p (dfS s0 s 9 k sh kc pl D fi G) with
        | inl e =>
          rw [hr] at hsy
          rcases hsy with hu | ⟨u, hu⟩
          · rw [hu, trN]; exact RX.no
          · rw [hu, trE]
            obtain ⟨u1, u2, u3, u4, u5, u6, u7, u8⟩ := u
            exact Or.inr ⟨_, rfl⟩
        | inr st' =>
          have hpu := (len_p hL hl (show s < k by omega) (by rw [upG_s]; rfl) hw1 hv hc hr).1
          rw [hr] at hsy
          rcases hsy with hu | ⟨u, hu, hP⟩
          · rw [hu, trN]; exact RX.no
          · rw [hu, trO]
            obtain ⟨u1, u2, u3, u4, u5, u6, u7, u8, u9, u10⟩ := u
            obtain ⟨k1, sh1, kc1, pl1, D1, fi1, G1⟩ := st'
            have e12 : n_sg (G1 s) = n_sg (upG G s (mkN 9 s sh 0 [] []) s) := hpu.2.2.2.2.2.2.2.2.2.2.2.1
            rw [esg] at e12
            exact Or.inr ⟨_, _, rfl, hP.1, by show nI sh = nI (n_sg (G1 s)); rw [e12], hP.2⟩
      have k10 : kk = 10 := by omega
      subst k10
      rw [if_neg (show ¬ nI (srt 10) = 9 by decide), if_neg (show ¬ nI (srt 10) = 10 by decide), if_neg (by decide), if_neg (by decide)]
      have hrc := r_rec hL hl hf hg (fl := fl) (pp := pp) (Ma := upd Ma sh 0) (Fa := upd Fa sh (-1)) hI1 hw1 (s := s) (by omega) ⟨sh, upG_s⟩ hv hc
      rw [esg] at hrc
      have hrc : RXU (m_X9_fields f fl pp K F N S I X Lt (nI (sh + 1)) (nI k) (upd So sh (nI (srt 10))) (upd (upd Nm sh (-1)) sh (nI c)) (upd Wi sh 0) (upd Kd sh (-1)) (upd Ma sh 0) (upd Fa sh (-1)) (nI kc) kS kN kD kX (nI fi.length) Fi (nI sh) (nI n) (nI d)) _ (lrc T L g s p (dfS s0 s 10 k sh kc pl D fi G)) := hrc
      cases hr : lrc T L g s p (dfS s0 s 10 k sh kc pl D fi G) with
      | inl e =>
        rw [hr] at hrc
        rcases hrc with hu | ⟨u, hu⟩
        · rw [hu, trN]; exact RX.no
        · rw [hu, trE]
          obtain ⟨u1, u2, u3, u4, u5, u6, u7, u8, u9, u10, u11, u12, u13, u14, u15⟩ := u
          exact Or.inr ⟨_, rfl⟩
      | inr st' =>
        have hpu := (lrc_p hL hl hg (show s < k by omega) hw1 hv hc hr).1
        rw [hr] at hrc
        rcases hrc with hu | ⟨u, hu, hP⟩
        · rw [hu, trN]; exact RX.no
        · rw [hu, trO]
          obtain ⟨u1, u2, u3, u4, u5, u6, u7, u8, u9, u10, u11, u12, u13, u14, u15, u16, u17⟩ := u
          obtain ⟨k1, sh1, kc1, pl1, D1, fi1, G1⟩ := st'
          have e12 : n_sg (G1 s) = n_sg (upG G s (mkN 10 s sh 0 [] []) s) := hpu.2.2.2.2.2.2.2.2.2.2.2.1
          rw [esg] at e12
          exact Or.inr ⟨_, _, rfl, hP.1, by show nI sh = nI (n_sg (G1 s)); rw [e12], hP.2⟩
    have efin : (if kk = 8 then lfx T L s p (k, sh + 1, kc, pl ++ (litN 21 ++ (qt s0 ++ (litN 22 ++ (litN (3 + kk) ++ [34])))), (fun u => if u = s0 then some s else D u), fi, upG G s (mkN kk s sh 0 [] [])) else if kk = 9 then len T L s p (k, sh + 1, kc, pl ++ (litN 21 ++ (qt s0 ++ (litN 22 ++ (litN (3 + kk) ++ [34])))), (fun u => if u = s0 then some s else D u), fi, upG G s (mkN kk s sh 0 [] [])) else lrc T L g s p (k, sh + 1, kc, pl ++ (litN 21 ++ (qt s0 ++ (litN 22 ++ (litN (3 + kk) ++ [34])))), (fun u => if u = s0 then some s else D u), fi, upG G s (mkN kk s sh 0 [] []))) = (if kk = 8 then lfx T L s p (dfS s0 s kk k sh kc pl D fi G) else if kk = 9 then len T L s p (dfS s0 s kk k sh kc pl D fi G) else lrc T L g s p (dfS s0 s kk k sh kc pl D fi G)) := rfl
    rw [efin]
    by_cases k8 : kk = 8
    · rw [if_pos (show litN (3 + kk) = litN 11 by rw [k8]), I10]
      exact n179 9 (by rw [k8]; rfl)
    rw [if_neg (show ¬ litN (3 + kk) = litN 11 by have : kk = 9 ∨ kk = 10 := by omega
                                                  rcases this with z | z <;> (subst z; decide)), I00]
    by_cases k9 : kk = 9
    · rw [if_pos (show litN (3 + kk) = litN 12 by rw [k9]), I10]
      exact n179 10 (by rw [k9]; rfl)
    have k10 : kk = 10 := by omega
    rw [if_neg (show ¬ litN (3 + kk) = litN 12 by subst k10; decide), I00]
    exact n179 11 (by rw [k10]; rfl)
end RLOOK
end
section
-- the reference's look at values
section RLOOK2
variable {T : Nat → Int32} {L : Nat} {Sd In Nx Am K F S I X Lt : Nat → Int32} {N : Nat → Int64} {l : Nat}
theorem r_wrd (hl : l ≤ 4200) {fl pp : Int32} {s n p q : Nat} {So Nm Wi Kd Ma Fa kS kN kD kX Fi : Nat → Int32} {k sh kc : Nat} {pl : List Nat} {D : List Nat → Option Nat} {fi : List (Nat × Nat × Option Nat)} {G : Nat → Nod} (hI : RI T L Sd In Nx Am K F N S I X Lt l So Nm Wi Kd (nI sh) (nI k) (nI kc) kS kN kD kX (nI fi.length) Fi (k, sh, kc, pl, D, fi, G)) (hs : s + 1 = k) (hG : G s = mkN 12 s 0 0 [] []) (hD : ∀ w d, D w = some d → d < s) (hm : ∀ i, i < k → n_me (G i) = s → i = s) (hv : VV T L Sd In Nx Am K F N S I X Lt l n p q) (hc : cb T L p = 34) :
    (∃ e, lwd T L s p (k, sh, kc, pl, D, fi, G) = .inl (3, p) ∧ kw6 (ts T L p) = -1 ∧ m_X9_word K N S Lt (nI n) = some (-1) ∧ m_X9_defined N S Lt (nI sh) Nm (nI n) = some (-1) ∧ e = 0) ∨ (∃ st' x, lwd T L s p (k, sh, kc, pl, D, fi, G) = .inr st' ∧ x < 140 ∧ (m_X9_word K N S Lt (nI n) = some (nI x) ∨ (m_X9_word K N S Lt (nI n) = some (-1) ∧ m_X9_defined N S Lt (nI sh) Nm (nI n) = some (nI x))) ∧ ∀ fl pp : Int32, PO T L Sd In Nx Am K F N S I X Lt l s kc kN kD (nI x) (fl, pp, nI sh, nI k, So, Nm, Wi, Kd, Ma, Fa, nI kc, kS, kN, kD, kX, nI fi.length, Fi) st') := by
  have hb := hv.base
  obtain ⟨s0, y1, y2, y3, y4, y5, y6⟩ := hv.str hc
  obtain ⟨i1, i2, i3, i4, i5, i6, i7, i8, i9, i10, i11, i12, i13, i14⟩ := hI
  simp only [lwd, y2, word_eq hl hb.2.2.1 (hv.kk.1.mpr hc) y4 y6, dfn_r hl i11 i2 (show sh ≤ 140 by omega) hb.2.2.1 y4 y6]
  have fin : ∀ y : Nod, n_ch (G s) = [] → n_kl y = [] → ¬ (6 ≤ n_kd y ∧ n_kd y ≤ 11) → RLs N S Lt l So Wi Kd kS kN kX sh kc k (upG G s y) → ∀ fl pp : Int32, PO T L Sd In Nx Am K F N S I X Lt l s kc kN kD (nI (n_sg y)) (fl, pp, nI sh, nI k, So, Nm, Wi, Kd, Ma, Fa, nI kc, kS, kN, kD, kX, nI fi.length, Fi) (k, sh, kc, pl ++ qt s0, D, fi, upG G s y) := by
    intro y h1 h2 h3 h4 fl pp
    refine ⟨⟨rfl, i2, i3, rfl, i5, rfl, i7, rfl, i9, i10, i11.cg (fun w i q => ?_), h4, SGI.one i13 (fun i a _ _ ha => by rw [h2] at ha; exact absurd ha List.not_mem_nil) (fun q1 q2 => absurd ⟨q1, q2⟩ h3), i14.fr h1⟩, ?_, fun _ _ => ⟨rfl, rfl⟩⟩
    · have := hD w i q
      rw [upG_n (by omega)]
    · show nI (n_sg y) = nI (n_sg (upG G s y s))
      rw [upG_s]
  rcases kw6_of s0 with ⟨k6, k1, k2, k3⟩ | ⟨k1, k2⟩
  · rw [if_neg (show ¬ kw6 s0 = -1 by rw [k3]; exact nI_m1 (by omega)), k3, nI_clamp (by omega)]
    refine Or.inr ⟨_, k6, rfl, by omega, Or.inl rfl, ?_⟩
    exact fin _ (by rw [hG]; rfl) rfl (show ¬ (6 ≤ k6 ∧ k6 ≤ 11) by omega) (i12.six i5 (by omega) hG k1 hm)
  · rw [if_pos k1, k1]
    cases hd : D s0 with
    | none => exact Or.inl ⟨0, rfl, rfl, rfl, rfl, rfl⟩
    | some d =>
      have hds := hD s0 d hd
      have hsg := i11.2 s0 d hd
      refine Or.inr ⟨_, n_sg (G d), rfl, by omega, Or.inr ⟨rfl, rfl⟩, ?_⟩
      exact fin _ (by rw [hG]; rfl) rfl (show ¬ (6 ≤ 12 ∧ 12 ≤ 11) by decide) (i12.mea i5 (by omega) hds hG hm)
theorem r_obj (hL : L ≤ 4096) (hl : l ≤ 4200) {f : FS} {g : Nat → Bool → LSt → LRs} {d : Nat} (hf : okRe T L Sd In Nx Am K F N S I X Lt l f (d + 1) g) (hg : okSp T L Sd In Nx Am K F N S I X Lt l g) {fl pp : Int32} {s n p q : Nat} {So Nm Wi Kd Ma Fa kS kN kD kX Fi : Nat → Int32} {k sh kc : Nat} {pl : List Nat} {D : List Nat → Option Nat} {fi : List (Nat × Nat × Option Nat)} {G : Nat → Nod} (hI : RI T L Sd In Nx Am K F N S I X Lt l So Nm Wi Kd (nI sh) (nI k) (nI kc) kS kN kD kX (nI fi.length) Fi (k, sh, kc, pl, D, fi, G)) (hs : s + 1 = k) (hsh : sh < 6 + k) (hG : G s = mkN 12 s 0 0 [] []) (hD : ∀ w d, D w = some d → d < s) (hm : ∀ i, i < k → n_me (G i) = s → i = s) (hw : WFs (k, sh, kc, pl, D, fi, G)) (hv : VV T L Sd In Nx Am K F N S I X Lt l n p q) (hc : cb T L p = 123) :
    RX (m_X9_schemaOf_151 f K F N S I X Lt fl pp (nI sh) (nI k) So Nm Wi Kd Ma Fa (nI kc) kS kN kD kX (nI fi.length) Fi (nI n) (nI d) 1) (PO T L Sd In Nx Am K F N S I X Lt l s kc kN kD) (lob T L g s p (k, sh, kc, pl, D, fi, G)) := by
  have hb := hv.base
  have i5 := hI.2.2.2.2.1
  unfold m_X9_schemaOf_151
  have em := mbr_r hl hv hc (w := 48) (by decide) hL
  rw [lit_r.1] at em
  simp only [lob, bd_go (show n < 4200 by omega) (by decide), bd_gc (show n < 4200 by omega) (by decide), nI_clamp (show n < 2 ^ 31 by omega), hb.2.2.2, m_X9_schemaOf_191]
  rw [nd1, trO]
  have bad : ∀ x4 : Int32, RX (m_X9_schemaOf_192 f K F N S I X Lt fl pp (nI sh) (nI k) So Nm Wi Kd Ma Fa (nI kc) kS kN kD kX (nI fi.length) Fi (nI n) (nI d) x4 0) (PO T L Sd In Nx Am K F N S I X Lt l s kc kN kD) (.inl (7, p)) := by
    intro x4
    unfold m_X9_schemaOf_192
    rw [bd_go (show n < 4200 by omega) (by decide), nI_clamp (show n < 2 ^ 31 by omega), hb.2.2.2, nd0, trE]
    exact Or.inr ⟨_, rfl⟩
  rcases em with ⟨e, em⟩ | ⟨v, c, b, e, em, z1⟩
  · rw [e, em]
    simp only [Option.bind_some, if_pos (show (-1 : Int32) < 0 by decide)]
    exact bad _
  rw [e, em]
  have hzb := z1.base
  have hzk := z1.kk.1
  simp only [Option.bind_some, if_neg (nI_pos (show c < 2 ^ 31 by omega)), bd_go (show c < 4200 by omega) (by decide), bd_gc (show c < 4200 by omega) (by decide), nI_clamp (show c < 2 ^ 31 by omega)]
  by_cases c34 : cb T L v = 34
  rotate_left
  · rw [if_neg (fun z => c34 (hzk.mp z)), if_neg c34]
    exact bad _
  have hzk2 := hzk.mpr c34
  rw [if_pos hzk2, if_pos c34]
  obtain ⟨s0, y1, y2, y3, y4, y5, y6⟩ := z1.str c34
  have isq : ∀ {w : Nat}, w < 75 → m_X9_is K N S Lt (nI c) w = some (if s0 = litN w then 1 else 0) := fun hw => isr_eq hl hzb.2.2.1 hzk2 y4 y6 hw
  unfold m_X9_schemaOf_192
  rw [bd_go (show n < 4200 by omega) (by decide), nI_clamp (show n < 2 ^ 31 by omega), hb.2.2.2, nd1, trO]
  have hwd := r_wrd hl (fl := fl) (pp := pp) (Ma := Ma) (Fa := Fa) hI hs hG hD hm z1 c34
  have hwq := word_eq hl hzb.2.2.1 hzk2 y4 y6
  have kl := kw_lit
  have kq : ∀ k', k' ≤ 10 → ∀ j, j ≤ 10 → kw s0 = nI k' → ((kw s0 = nI j) ↔ k' = j) := fun k' h1 j h2 h3 => by rw [h3]; exact nI_eq (by omega) (by omega)
  rw [y2]
  rcases kw6_of s0 with ⟨k6, k1, k2, k3⟩ | ⟨k1, k2⟩
  · have h67 : ¬ (kw s0 = 6 ∨ kw s0 = 7) := fun z => by
      rcases z with z | z
      · have := (kq k6 (by omega) 6 (by decide) k2).mp z; omega
      · have := (kq k6 (by omega) 7 (by decide) k2).mp z; omega
    have h810 : ¬ (kw s0 = 8 ∨ kw s0 = 9 ∨ kw s0 = 10) := fun z => by
      rcases z with z | z | z
      · have := (kq k6 (by omega) 8 (by decide) k2).mp z; omega
      · have := (kq k6 (by omega) 9 (by decide) k2).mp z; omega
      · have := (kq k6 (by omega) 10 (by decide) k2).mp z; omega
    rw [if_neg h67, if_neg h810]
    rcases hwd with ⟨e', w1, w2, w3, w4, _⟩ | ⟨st', x, w1, w2, w3, w4⟩
    · rw [y2, k3] at w2
      exact absurd w2 (nI_m1 (by omega))
    · rw [w1]
      have hx : m_X9_word K N S Lt (nI c) = some (nI x) := by
        rcases w3 with z | z
        · exact z
        · have := z.1
          rw [hwq, k3] at this
          exact absurd (Option.some.inj this) (nI_m1 (by omega))
      rw [hx]
      simp only [Option.bind_some]
      rw [if_neg (nI_pos (show x < 2 ^ 31 by omega))]
      exact Or.inr ⟨_, _, rfl, w4 _ _⟩
  rw [hwq, k1, isq (w := 49) (by decide), isq (w := 50) (by decide), isq (w := 53) (by decide), isq (w := 54) (by decide), isq (w := 55) (by decide)]
  simp only [Option.bind_some, if_pos (show (-1 : Int32) < 0 by decide), lit_r.2.2.2.2.2.2.2.2.1, lit_r.2.2.2.2.2.2.2.2.2.1, lit_r.2.2.2.2.2.2.2.2.2.2.1, lit_r.2.2.2.2.2.2.2.2.2.2.2.1, lit_r.2.2.2.2.2.2.2.2.2.2.2.2]
  have grp : ∀ k', (k' = 6 ∨ k' = 7) → s0 = litN (3 + k') → RX (m_X9_schemaOf_241 f K F N S I X Lt fl pp (nI sh) (nI k) So Nm Wi Kd Ma Fa (nI kc) kS kN kD kX (nI fi.length) Fi (nI n) (nI d) (nI c)) (PO T L Sd In Nx Am K F N S I X Lt l s kc kN kD) (lit T L g s p k' (k, sh, kc, pl, D, fi, G)) := by
    intro k' hk' es
    have em2 := mbr_r hl hv hc (w := if k' = 6 then 51 else 52) (by split <;> decide) hL
    have el : litN (if k' = 6 then 51 else 52) = litN (if k' = 6 then 16 else 19) := by rcases hk' with z | z <;> (subst z; decide +kernel)
    rw [el] at em2
    have i281 : ∀ (x5 : Int32), (x5 = 0 ↔ k' = 7) → RX (m_X9_schemaOf_265 f K F N S I X Lt fl pp (nI sh) (nI k) So Nm Wi Kd Ma Fa (nI kc) kS kN kD kX (nI fi.length) Fi (nI n) (nI d) x5 (if k' = 6 then 51 else 52) (nI n)) (PO T L Sd In Nx Am K F N S I X Lt l s kc kN kD) (lit T L g s p k' (k, sh, kc, pl, D, fi, G)) := by
      intro x5 hx5
      simp only [m_X9_schemaOf_265, m_X9_schemaOf_281, lit, bd_go (show n < 4200 by omega) (by decide), bd_gc (show n < 4200 by omega) (by decide), nI_clamp (show n < 2 ^ 31 by omega), hb.2.2.2]
      rcases em2 with ⟨e2, em2⟩ | ⟨v2, c2, b2, e2, em2, q1⟩
      · rw [e2, em2]
        simp only [Option.bind_some, if_pos (show (-1 : Int32) < 0 by decide)]
        rw [nd0, trE]
        exact Or.inr ⟨_, rfl⟩
      · rw [e2, em2]
        have hqb := q1.base
        simp only [Option.bind_some, if_neg (nI_pos (show c2 < 2 ^ 31 by omega))]
        rw [nd1, trO]
        have hit := r_itm hf hg fl pp (n := n) (p := p) (q := q) (Ma := Ma) (Fa := Fa) hk' hI hs hsh hG hD hm hw q1
        by_cases k7 : k' = 7
        · rw [if_pos (hx5.mpr k7)]
          subst k7
          exact hit
        · have k66 : k' = 6 := by omega
          rw [if_neg (fun z => k7 (hx5.mp z))]
          subst k66
          exact hit
    unfold m_X9_schemaOf_241
    rw [isq (w := 49) (by decide), lit_r.2.2.2.2.2.2.2.2.1]
    simp only [Option.bind_some]
    by_cases k66 : k' = 6
    · rw [if_pos (show s0 = litN 9 by rw [es, k66]), I10]
      have := i281 1 ⟨fun z => absurd z (by decide), fun z => by omega⟩
      rw [if_pos k66] at this
      exact this
    · have k7 : k' = 7 := by omega
      have hne : ¬ s0 = litN 9 := by rw [es, k7]; decide
      rw [if_neg hne, I00]
      have := i281 0 ⟨fun _ => k7, fun _ => rfl⟩
      rw [if_neg k66] at this
      exact this
  have nmd : ∀ k', (k' = 8 ∨ k' = 9 ∨ k' = 10) → s0 = litN (3 + k') → RX (m_X9_schemaOf_372 f K F N S I X Lt fl pp (nI sh) (nI k) So Nm Wi Kd Ma Fa (nI kc) kS kN kD kX (nI fi.length) Fi (nI n) (nI d) (nI c)) (PO T L Sd In Nx Am K F N S I X Lt l s kc kN kD) (ldf T L g s p k' (k, sh, kc, pl, D, fi, G)) := by
    intro k' hk' es
    have hn := r_nam hL hl hf hg (fl := fl) (pp := pp) (Ma := Ma) (Fa := Fa) hk' hI hs hsh hG hD hm hw hv hc z1 c34 (by rw [y2]; exact es)
    unfold m_X9_schemaOf_372
    cases hr : ldf T L g s p k' (k, sh, kc, pl, D, fi, G) with
    | inl e =>
      rw [hr] at hn
      rcases hn with hu | ⟨u, hu⟩
      · rw [hu, trN]; exact RX.no
      · rw [hu, trE]
        obtain ⟨u1, u2, u3, u4, u5, u6, u7, u8, u9, u10, u11, u12, u13, u14, u15⟩ := u
        exact Or.inr ⟨_, rfl⟩
    | inr st' =>
      rw [hr] at hn
      rcases hn with hu | ⟨v', u, hu, hP⟩
      · rw [hu, trN]; exact RX.no
      · rw [hu, trO]
        obtain ⟨u1, u2, u3, u4, u5, u6, u7, u8, u9, u10, u11, u12, u13, u14, u15, u16, u17⟩ := u
        exact Or.inr ⟨_, _, rfl, hP⟩
  by_cases e9 : s0 = litN 9
  · have hk : kw s0 = nI 6 := by rw [e9]; exact kl.2.2.2.2.2.2.1
    rw [if_pos e9, I10, if_pos (show kw s0 = 6 ∨ kw s0 = 7 from Or.inl hk), hk, nI_clamp (by decide)]
    exact grp 6 (Or.inl rfl) e9
  rw [if_neg e9, I00]
  by_cases e10 : s0 = litN 10
  · have hk : kw s0 = nI 7 := by rw [e10]; exact kl.2.2.2.2.2.2.2.1
    rw [if_pos e10, I10, if_pos (show kw s0 = 6 ∨ kw s0 = 7 from Or.inr hk), hk, nI_clamp (by decide)]
    exact grp 7 (Or.inr rfl) e10
  rw [if_neg e10, I00]
  have h67 : ¬ (kw s0 = 6 ∨ kw s0 = 7) := fun z => by
    rcases z with z | z
    · exact e9 (kw_6 s0 (k := 6) (by decide) z)
    · exact e10 (kw_6 s0 (k := 7) (by decide) z)
  rw [if_neg h67]
  by_cases e11 : s0 = litN 11
  · have hk : kw s0 = nI 8 := by rw [e11]; exact kl.2.2.2.2.2.2.2.2.1
    rw [if_pos e11, I10, if_pos (show kw s0 = 8 ∨ kw s0 = 9 ∨ kw s0 = 10 from Or.inl hk), hk, nI_clamp (by decide)]
    exact nmd 8 (Or.inl rfl) e11
  rw [if_neg e11, I00]
  by_cases e12 : s0 = litN 12
  · have hk : kw s0 = nI 9 := by rw [e12]; exact kl.2.2.2.2.2.2.2.2.2.1
    rw [if_pos e12, I10, if_pos (show kw s0 = 8 ∨ kw s0 = 9 ∨ kw s0 = 10 from Or.inr (Or.inl hk)), hk, nI_clamp (by decide)]
    exact nmd 9 (Or.inr (Or.inl rfl)) e12
  rw [if_neg e12, I00]
  by_cases e13 : s0 = litN 13
  · have hk : kw s0 = nI 10 := by rw [e13]; exact kl.2.2.2.2.2.2.2.2.2.2
    rw [if_pos e13, I10, if_pos (show kw s0 = 8 ∨ kw s0 = 9 ∨ kw s0 = 10 from Or.inr (Or.inr hk)), hk, nI_clamp (by decide)]
    exact nmd 10 (Or.inr (Or.inr rfl)) e13
  rw [if_neg e13, I00]
  have h810 : ¬ (kw s0 = 8 ∨ kw s0 = 9 ∨ kw s0 = 10) := fun z => by
    rcases z with z | z | z
    · exact e11 (kw_6 s0 (k := 8) (by decide) z)
    · exact e12 (kw_6 s0 (k := 9) (by decide) z)
    · exact e13 (kw_6 s0 (k := 10) (by decide) z)
  rw [if_neg h810]
  rcases hwd with ⟨e', w1, w2, w3, w4, _⟩ | ⟨st', x, w1, w2, w3, w4⟩
  · rw [w1, w4]
    simp only [Option.bind_some, if_pos (show (-1 : Int32) < 0 by decide), m_X9_schemaOf_400, bd_go (show c < 4200 by omega) (by decide), bd_gc (show c < 4200 by omega) (by decide), nI_clamp (show c < 2 ^ 31 by omega), hzb.2.2.2]
    rw [nd0, trE]
    exact Or.inr ⟨_, rfl⟩
  · have hx : m_X9_defined N S Lt (nI sh) Nm (nI c) = some (nI x) := by
      rcases w3 with z | z
      · rw [hwq, k1] at z
        exact absurd (Option.some.inj z).symm (nI_m1 (by omega))
      · exact z.2
    rw [w1, hx]
    simp only [Option.bind_some, if_neg (nI_pos (show x < 2 ^ 31 by omega)), m_X9_schemaOf_400, bd_go (show c < 4200 by omega) (by decide), bd_gc (show c < 4200 by omega) (by decide)]
    rw [nd1, trO]
    exact Or.inr ⟨_, _, rfl, w4 _ _⟩
theorem r_look (hL : L ≤ 4096) (hl : l ≤ 4200) : ∀ (j M d : Nat), j + d = 16 → j < M → okRe T L Sd In Nx Am K F N S I X Lt l (m_X9_schemaOf M) d (look T L j) := by
  intro j
  induction j with
  | zero =>
    intro M d hd hM fl pp So Nm Wi Kd Ma Fa kS kN kD kX Fi shI lkI kcI dnI p br st n q hI hw hv
    obtain ⟨M, rfl⟩ : ∃ z, M = z + 1 := ⟨M - 1, by omega⟩
    obtain ⟨k, sh, kc, pl, D, fi, G⟩ := st
    have hb := hv.base
    have i4 := hI.2.2.2.1
    have i5 := hI.2.2.2.2.1
    have ed : d = 16 := by omega
    subst ed
    rw [i4]
    simp only [m_X9_schemaOf, m_X9_schemaOf_16, m_X9_schemaOf_49, look, bd_go (show n < 4200 by omega) (by decide), bd_gc (show n < 4200 by omega) (by decide), nI_clamp (show n < 2 ^ 31 by omega), hb.2.2.2]
    by_cases c : 128 ≤ k
    · rw [if_pos c, if_pos (show (128 : Int32) ≤ nI k from nI_le (a := 128) c (by omega)), nd0, trE]
      exact Or.inr ⟨_, rfl⟩
    · rw [if_neg c, if_neg (show ¬ (128 : Int32) ≤ nI k from nI_ge (b := 128) (by omega) (by decide)), nd1, trO, if_pos (show (16 : Int32) ≤ nI 16 by decide), nd0, trE]
      exact Or.inr ⟨_, rfl⟩
  | succ j ih =>
    intro M d hd hM fl pp So Nm Wi Kd Ma Fa kS kN kD kX Fi shI lkI kcI dnI p br st n q hI hw hv
    obtain ⟨M, rfl⟩ : ∃ z, M = z + 1 := ⟨M - 1, by omega⟩
    obtain ⟨k, sh, kc, pl, D, fi, G⟩ := st
    obtain ⟨i1, i2, i3, i4, i5, i6, i7, i8, i9, i10, i11, i12, i13, i14⟩ := hI
    subst i1
    subst i4
    subst i6
    subst i8
    have hb := hv.base
    have hf := ih M (d + 1) (by omega) (by omega)
    have hg := look_p (T := T) (Sd := Sd) (In := In) (Nx := Nx) (Am := Am) (K := K) (F := F) (N := N) (S := S) (I := I) (X := X) (Lt := Lt) hL hl j
    simp only [m_X9_schemaOf, m_X9_schemaOf_16, m_X9_schemaOf_49, look, bd_go (show n < 4200 by omega) (by decide), bd_gc (show n < 4200 by omega) (by decide), nI_clamp (show n < 2 ^ 31 by omega), hb.2.2.2, nI_1]
    by_cases c : 128 ≤ k
    · rw [if_pos c, if_pos (show (128 : Int32) ≤ nI k from nI_le (a := 128) c (by omega)), nd0, trE]
      exact Or.inr ⟨_, rfl⟩
    rw [if_neg c, if_neg (show ¬ (128 : Int32) ≤ nI k from nI_ge (b := 128) (by omega) (by decide)), nd1, trO, if_neg (show ¬ (16 : Int32) ≤ nI d from nI_ge (b := 16) (by omega) (by decide)), nd1, trO]
    have hD : ∀ w d0, D w = some d0 → d0 < k := fun w d0 h => (hw.1 w d0 h).1
    have hI1 : RI T L Sd In Nx Am K F N S I X Lt l So Nm Wi Kd (nI sh) (nI (k + 1)) (nI kc) kS kN kD kX (nI fi.length) Fi (k + 1, sh, kc, pl, D, fi, upG G k (mkN 12 k 0 0 [] [])) := by
      refine ⟨rfl, i2, by omega, rfl, by omega, rfl, i7, rfl, i9, i10, i11.cg (fun w i q => ?_), i12.opn, i13.opn, i14.cg (fun _ _ => rfl) (fun _ _ => rfl) (Nat.le_refl _) (by omega) (fun s' hs' _ => ?_)⟩
      · have := hD w i q
        rw [upG_n (by omega)]
      · rw [upG_n (by omega)]
        exact ⟨rfl, rfl, same_ch _⟩
    have hm : ∀ i, i < k + 1 → n_me (upG G k (mkN 12 k 0 0 [] []) i) = k → i = k := fun i hi hq => by
      by_cases e : i = k
      · exact e
      · rw [upG_n e] at hq
        have := (i12 i (by omega)).1
        omega
    have hw1 : WFs (k + 1, sh, kc, pl, D, fi, upG G k (mkN 12 k 0 0 [] [])) := by
      refine ⟨fun w d0 hdd => ?_, by have := hw.2; omega⟩
      obtain ⟨a, b⟩ := hw.1 w d0 hdd
      rw [upG_n (by omega)]
      exact ⟨by omega, b⟩
    obtain ⟨kk2, kk1, kk0, kk3⟩ := hv.kk
    by_cases c1 : cb T L p = 34
    · rw [if_pos (kk2.mpr c1), if_pos c1]
      rcases r_wrd hl (fl := fl) (pp := pp) (Ma := Ma) (Fa := Fa) hI1 rfl upG_s hD hm hv c1 with ⟨e', w1, w2, w3, w4, _⟩ | ⟨st', x, w1, w2, w3, w4⟩
      · rw [w1, w3, w4]
        simp only [Option.bind_some, if_pos (show (-1 : Int32) < 0 by decide), m_X9_schemaOf_92, m_X9_schemaOf_105, bd_go (show n < 4200 by omega) (by decide), bd_gc (show n < 4200 by omega) (by decide), nI_clamp (show n < 2 ^ 31 by omega), hb.2.2.2]
        rw [nd0, trE]
        exact Or.inr ⟨_, rfl⟩
      · rw [w1]
        have fin : ∀ fl pp : Int32, RX (m_X9_schemaOf_92 (m_X9_schemaOf M) K F N S I X Lt fl pp (nI sh) (nI (k + 1)) So Nm Wi Kd Ma Fa (nI kc) kS kN kD kX (nI fi.length) Fi (nI n) (nI x)) (PO T L Sd In Nx Am K F N S I X Lt l k kc kN kD) (.inr st') := fun fl pp => by
          simp only [m_X9_schemaOf_92, m_X9_schemaOf_105, if_neg (nI_pos (show x < 2 ^ 31 by omega)), bd_go (show n < 4200 by omega) (by decide), bd_gc (show n < 4200 by omega) (by decide)]
          rw [nd1, trO]
          exact Or.inr ⟨_, _, rfl, w4 _ _⟩
        rcases w3 with z | ⟨z1, z2⟩
        · rw [z]
          simp only [Option.bind_some, if_neg (nI_pos (show x < 2 ^ 31 by omega))]
          exact fin _ _
        · rw [z1, z2]
          simp only [Option.bind_some, if_pos (show (-1 : Int32) < 0 by decide)]
          exact fin _ _
    rw [if_neg (fun z => c1 (kk2.mp z)), if_neg c1]
    by_cases c2 : cb T L p = 91
    · rw [if_pos (kk1.mpr c2), if_pos c2]
      have hun := r_uni hL hf hg fl pp (br := br) (Ma := Ma) (Fa := Fa) hI1 rfl (show sh < 6 + (k + 1) by omega) upG_s hD hm hw1 hv c2
      have e2 : upG (upG G k (mkN 12 k 0 0 [] [])) k (mkN 11 k sh 0 [] []) = upG G k (mkN 11 k sh 0 [] []) := funext (fun i => by
        by_cases q : i = k
        · rw [q, upG_s, upG_s]
        · rw [upG_n q, upG_n q, upG_n q])
      rw [e2] at hun
      generalize (if br = true then (.inl (4, p) : LRs) else if 1 ≤ (prt T L p).length ∧ (prt T L p).length ≤ 16 then lun (look T L j) k (prt T L p) 0 (k + 1, sh + 1, kc, pl, D, fi, upG G k (mkN 11 k sh 0 [] [])) else .inl (5, p)) = r at hun ⊢
      cases r with
      | inl e =>
        rcases hun with hu | ⟨u, hu⟩
        · rw [hu, trN]; exact RX.no
        · rw [hu, trE]
          obtain ⟨u1, u2, u3, u4, u5, u6, u7, u8, u9, u10, u11, u12, u13, u14, u15⟩ := u
          exact Or.inr ⟨_, rfl⟩
      | inr st' =>
        rcases hun with hu | ⟨v', u, hu, hP⟩
        · rw [hu, trN]; exact RX.no
        · rw [hu, trO]
          obtain ⟨u1, u2, u3, u4, u5, u6, u7, u8, u9, u10, u11, u12, u13, u14, u15, u16, u17⟩ := u
          exact Or.inr ⟨_, _, rfl, hP⟩
    rw [if_neg (fun z => c2 (kk1.mp z)), if_neg c2]
    by_cases c3 : cb T L p = 123
    · rw [if_pos (kk0.mpr c3), if_pos c3]
      exact r_obj hL hl hf hg hI1 rfl (show sh < 6 + (k + 1) by omega) upG_s hD hm hw1 hv c3
    · rw [if_neg (fun z => c3 (kk0.mp z)), if_neg c3]
      unfold m_X9_schemaOf_151
      rw [bd_go (show n < 4200 by omega) (by decide), nI_clamp (show n < 2 ^ 31 by omega), hb.2.2.2, nd0, trE]
      exact Or.inr ⟨_, rfl⟩
end RLOOK2
end
section
-- what every slot is, once looked at
def OKS (G : Nat → Nod) (k i : Nat) : Prop := n_me (G (n_me (G i))) = n_me (G i) ∧ n_kd (G (n_me (G i))) ≤ 11 ∧ n_me (G i) < k ∧ (∀ c, c ∈ n_ch (G i) → c < k ∧ n_me (G c) < k) ∧ (n_me (G i) = i → (n_kd (G i) = 6 ∨ n_kd (G i) = 7 → (n_ch (G i)).length = 1) ∧ (n_kd (G i) = 11 → 0 < (n_ch (G i)).length ∧ ∀ c, c ∈ n_ch (G i) → n_kd (G (n_me (G c))) ≤ 10) ∧ (n_kd (G i) ≠ 9 → (n_kl (G i)).length = (n_ch (G i)).length))
theorem OKS.low {G G' : Nat → Nod} {i k k' : Nat} (h : OKS G k i) (hi : i < k) (h1 : ∀ j, j < k → n_kd (G' j) = n_kd (G j) ∧ n_me (G' j) = n_me (G j)) (h3 : n_ch (G' i) = n_ch (G i)) (h5 : n_kl (G' i) = n_kl (G i)) (hk : k ≤ k') : OKS G' k' i := by
  obtain ⟨a1, a2, hm, hc, a3⟩ := h
  refine ⟨?_, ?_, ?_, fun c hcc => ?_, fun z => ?_⟩
  · rw [(h1 i hi).2, (h1 _ hm).2]; exact a1
  · rw [(h1 i hi).2, (h1 _ hm).1]; exact a2
  · rw [(h1 i hi).2]; omega
  · rw [h3] at hcc
    obtain ⟨c1, c2⟩ := hc c hcc
    rw [(h1 c c1).2]
    omega
  · rw [(h1 i hi).2] at z
    obtain ⟨b1, b2, b3⟩ := a3 z
    rw [(h1 i hi).1, h3, h5]
    refine ⟨b1, fun q => ⟨(b2 q).1, fun c hcc => ?_⟩, b3⟩
    obtain ⟨c1, c2⟩ := hc c hcc
    rw [(h1 c c1).2, (h1 _ c2).1]
    exact (b2 q).2 c hcc
/-- the slots from a on but s, and the inner slots of s -/
def NW (s a : Nat) : LSt → Prop
  | (sc, _, _, _, _, _, G) => (∀ i, a ≤ i → i < sc → i ≠ s → OKS G sc i) ∧ (∀ c, c ∈ n_ch (G s) → c < sc ∧ n_me (G c) < sc) ∧ s < sc ∧ n_me (G s) < sc
theorem NW.cg {s a : Nat} {sc sh kc : Nat} {pl : List Nat} {D : List Nat → Option Nat} {fi : List (Nat × Nat × Option Nat)} {G : Nat → Nod} {sh' kc' : Nat} {pl' : List Nat} {D' : List Nat → Option Nat} {fi' : List (Nat × Nat × Option Nat)} {G' : Nat → Nod} (h : NW s a (sc, sh, kc, pl, D, fi, G)) (h1 : ∀ j, n_kd (G' j) = n_kd (G j)) (h2 : ∀ j, n_me (G' j) = n_me (G j)) (h3 : ∀ j, j ≠ s → n_ch (G' j) = n_ch (G j)) (h5 : ∀ j, j ≠ s → n_kl (G' j) = n_kl (G j)) (h4 : ∀ c, c ∈ n_ch (G' s) → c < sc ∧ n_me (G c) < sc) : NW s a (sc, sh', kc', pl', D', fi', G') := by
  obtain ⟨a1, a2, a3, a4⟩ := h
  exact ⟨fun i i1 i2 i3 => (a1 i i1 i2 i3).low i2 (fun j _ => ⟨h1 j, h2 j⟩) (h3 i i3) (h5 i i3) (Nat.le_refl _), fun c hc => by rw [h2]; exact h4 c hc, a3, by rw [h2]; exact a4⟩
theorem NW.call {s a : Nat} {br : Bool} {st st' : LSt} (h : NW s a st) (hp : FPs br st st') (ho : ∀ i, st.1 ≤ i → i < st'.1 → OKS st'.2.2.2.2.2.2 st'.1 i) : NW s a st' := by
  obtain ⟨sc, sh, kc, pl, D, fi, G⟩ := st
  obtain ⟨sc', sh', kc', pl', D', fi', G'⟩ := st'
  obtain ⟨a1, a2, a3, a4⟩ := h
  have b1 := hp.1
  have b5 := hp.2.2.2.2.1
  refine ⟨fun i i1 i2 i3 => ?_, fun c hc => ?_, by omega, by rw [b5 s a3]; omega⟩
  · by_cases q : i < sc
    · exact (a1 i i1 q i3).low q (fun j hj => by rw [b5 j hj]; exact ⟨rfl, rfl⟩) (by rw [b5 i q]) (by rw [b5 i q]) (by omega)
    · exact ho i (by show sc ≤ i; omega) i2
  · rw [b5 s a3] at hc
    obtain ⟨c1, c2⟩ := a2 c hc
    rw [b5 c c1]
    omega
section OKF
variable {T : Nat → Int32} {L : Nat} {Sd In Nx Am K F S I X Lt : Nat → Int32} {N : Nat → Int64} {l : Nat}
def okFn (T : Nat → Int32) (L : Nat) (Sd In Nx Am K F : Nat → Int32) (N : Nat → Int64) (S I X Lt : Nat → Int32) (l : Nat) (f : Nat → Bool → LSt → LRs) : Prop := ∀ (p : Nat) (br : Bool) (st st' : LSt) (n q : Nat), VV T L Sd In Nx Am K F N S I X Lt l n p q → WFs st → f p br st = .inr st' → ∀ i, st.1 ≤ i → i < st'.1 → OKS st'.2.2.2.2.2.2 st'.1 i
theorem NW.kid {s a k0 : Nat} {sc sh kc : Nat} {pl : List Nat} {D : List Nat → Option Nat} {fi : List (Nat × Nat × Option Nat)} {G : Nat → Nod} {pl' : List Nat} (h : NW s a (sc, sh, kc, pl, D, fi, G)) : NW s a (sc, sh, kc + 1, pl', D, fi, upG G s (klN (G s) k0)) := by
  obtain ⟨e1, e2, e3, e4, e5⟩ := klN_kd (s := s) (kc := k0) (G := G)
  exact h.cg e1 e2 (fun j _ => e3 j) (fun j hj => by rw [upG_n hj]) (fun c hc => h.2.1 c (by rw [e3] at hc; exact hc))
theorem NW.jn {s a c : Nat} {st : LSt} (h : NW s a st) (hc : c < st.1) (hs : s ≠ c) (hm : n_me (st.2.2.2.2.2.2 c) < st.1) : NW s a (jon s c st) := by
  obtain ⟨sc, sh, kc, pl, D, fi, G⟩ := st
  obtain ⟨e1, e2⟩ := jon_kd (s := s) (c := c) (G := G)
  refine h.cg e1 e2 (fun j hj => ?_) (fun j hj => ?_) (fun x hx => ?_)
  · by_cases q : j = c
    · rw [q, upG_s]; rfl
    · rw [upG_n q, upG_n hj]
  · by_cases q : j = c
    · rw [q, upG_s]; rfl
    · rw [upG_n q, upG_n hj]
  · rw [upG_n hs, upG_s] at hx
    rcases List.mem_append.mp hx with q | q
    · exact h.2.1 x q
    · rw [List.mem_singleton.mp q]
      exact ⟨hc, hm⟩
theorem lun_f {f : Nat → Bool → LSt → LRs} (hf : okSp T L Sd In Nx Am K F N S I X Lt l f) (ho : okFn T L Sd In Nx Am K F N S I X Lt l f) {s a : Nat} : ∀ (ks : List (Nat × Nat)) (i lo hi : Nat) (st st' : LSt) (hc hr : Int32), WFs st → NW s a st → (∀ c, c ∈ n_ch (st.2.2.2.2.2.2 s) → n_kd (st.2.2.2.2.2.2 (n_me (st.2.2.2.2.2.2 c))) ≤ 10) → LCH T L Sd In Nx Am K F N S I X Lt l ks lo hi hc hr → lun f s ks i st = .inr st' → NW s a st' ∧ (∀ c, c ∈ n_ch (st'.2.2.2.2.2.2 s) → n_kd (st'.2.2.2.2.2.2 (n_me (st'.2.2.2.2.2.2 c))) ≤ 10) ∧ (n_ch (st'.2.2.2.2.2.2 s)).length = (n_ch (st.2.2.2.2.2.2 s)).length + ks.length ∧ (n_kl (st'.2.2.2.2.2.2 s)).length = (n_kl (st.2.2.2.2.2.2 s)).length + ks.length := by
  intro ks
  induction ks with
  | nil =>
    intro i lo hi st st' hc hr hw hn hk hl h
    simp only [lun] at h
    have e := Sum.inr.inj h
    rw [← e]
    obtain ⟨sc, sh, kc, pl, D, fi, G⟩ := st
    exact ⟨hn, hk, rfl, rfl⟩
  | cons v t ih =>
    intro i lo hi st st' hc hr hw hn hk hl h
    obtain ⟨c, b, c1, c2, c3, c4, c5, c6⟩ := hl
    obtain ⟨sc, sh, kc, pl, D, fi, G⟩ := st
    simp only [lun, wrt] at h
    have hw1 : WFs (sc, sh, kc, pl ++ [if i = 0 then 91 else 44], D, fi, G) := hw
    have hn1 : NW s a (sc, sh, kc, pl ++ [if i = 0 then 91 else 44], D, fi, G) := hn
    cases hv : f v.2 true (sc, sh, kc, pl ++ [if i = 0 then 91 else 44], D, fi, G) with
    | inl e => rw [hv] at h; cases h
    | inr st1 =>
      rw [hv] at h
      simp only at h
      obtain ⟨g1, _⟩ := hf _ _ _ _ _ _ c4 hw1 hv
      have g2 := ho _ _ _ _ _ _ c4 hw1 hv
      by_cases ha : hlk s sc st1 = true
      · rw [if_pos ha] at h; cases h
      · rw [if_neg ha] at h
        have hs : s < sc := hn.2.2.1
        have q1 : FQ s (sc, sh, kc, pl, D, fi, G) st1 := ((FQ.refl hw).wrt _).trans (g1.q hs)
        have q2 := (q1.kid).jon (c := sc) hs (Nat.le_refl _)
        have n1 := hn1.call g1 g2
        obtain ⟨k1, sh1, kc1, pl1, D1, fi1, G1⟩ := st1
        obtain ⟨a1, a2, a3, a4, a5, a6, a7, a8, a9, a10, a11, a12, a13⟩ := g1
        obtain ⟨e1, e2, e3, e4, e5⟩ := klN_kd (s := s) (kc := kc1) (G := G1)
        have n2 := (n1.kid (k0 := kc1) (pl' := pl1)).jn (c := sc) a1 (by omega) (by show n_me (upG G1 s (klN (G1 s) kc1) sc) < k1; rw [e2]; exact a11.1)
        obtain ⟨y1, y2⟩ := jon_kd (s := s) (c := sc) (G := upG G1 s (klN (G1 s) kc1))
        have ecs : n_ch (upG (upG (upG G1 s (klN (G1 s) kc1)) s (chN (upG G1 s (klN (G1 s) kc1) s) sc)) sc (paN (upG G1 s (klN (G1 s) kc1) sc) s) s) = n_ch (G s) ++ [sc] := by
          rw [upG_n (show s ≠ sc by omega), upG_s]
          show n_ch (upG G1 s (klN (G1 s) kc1) s) ++ [sc] = _
          rw [e3, a5 s hs]
        have eks : n_kl (upG (upG (upG G1 s (klN (G1 s) kc1)) s (chN (upG G1 s (klN (G1 s) kc1) s) sc)) sc (paN (upG G1 s (klN (G1 s) kc1) sc) s) s) = n_kl (G s) ++ [kc1] := by
          rw [upG_n (show s ≠ sc by omega), upG_s]
          show n_kl (upG G1 s (klN (G1 s) kc1) s) = _
          rw [upG_s, ← a5 s hs]
          rfl
        obtain ⟨r1, r2, r3, r4⟩ := ih (i + 1) _ _ _ _ _ _ (q2.wf hw) n2 (fun x hx => by
          have hx : x ∈ n_ch (upG (upG (upG G1 s (klN (G1 s) kc1)) s (chN (upG G1 s (klN (G1 s) kc1) s) sc)) sc (paN (upG G1 s (klN (G1 s) kc1) sc) s) s) := hx
          rw [ecs] at hx
          show n_kd (upG (upG (upG G1 s (klN (G1 s) kc1)) s (chN (upG G1 s (klN (G1 s) kc1) s) sc)) sc (paN (upG G1 s (klN (G1 s) kc1) sc) s) (n_me (upG (upG (upG G1 s (klN (G1 s) kc1)) s (chN (upG G1 s (klN (G1 s) kc1) s) sc)) sc (paN (upG G1 s (klN (G1 s) kc1) sc) s) x))) ≤ 10
          rw [y2, e2, y1, e1]
          rcases List.mem_append.mp hx with z | z
          · obtain ⟨z1, z2⟩ := hn.2.1 x z
            rw [a5 x z1, a5 _ z2]
            exact hk x z
          · rw [List.mem_singleton.mp z]
            exact a13 rfl) c6 h
        refine ⟨r1, r2, r3.trans ?_, r4.trans ?_⟩
        rotate_left
        · show (n_kl (upG (upG (upG G1 s (klN (G1 s) kc1)) s (chN (upG G1 s (klN (G1 s) kc1) s) sc)) sc (paN (upG G1 s (klN (G1 s) kc1) sc) s) s)).length + t.length = (n_kl (G s)).length + (t.length + 1)
          rw [eks, List.length_append, List.length_singleton]
          omega
        show (n_ch (upG (upG (upG G1 s (klN (G1 s) kc1)) s (chN (upG G1 s (klN (G1 s) kc1) s) sc)) sc (paN (upG G1 s (klN (G1 s) kc1) sc) s) s)).length + t.length = (n_ch (G s)).length + (t.length + 1)
        rw [ecs, List.length_append, List.length_singleton]
        omega
theorem NW.nd {s a : Nat} {sc sh kc : Nat} {pl : List Nat} {D : List Nat → Option Nat} {fi : List (Nat × Nat × Option Nat)} {G : Nat → Nod} {x : Nod} {sh' kc' : Nat} {pl' : List Nat} {D' : List Nat → Option Nat} (h : NW s a (sc, sh, kc, pl, D, fi, G)) (h1 : n_kd x = n_kd (G s)) (h2 : n_me x = n_me (G s)) (h3 : n_ch x = n_ch (G s)) : NW s a (sc, sh', kc', pl', D', fi, upG G s x) := by
  have e : ∀ {β : Type} (g : Nod → β), g x = g (G s) → ∀ j, g (upG G s x j) = g (G j) := fun g hg j => by
    by_cases q : j = s
    · rw [q, upG_s]; exact hg
    · rw [upG_n q]
  exact h.cg (e _ h1) (e _ h2) (fun j _ => e _ h3 j) (fun j hj => by rw [upG_n hj]) (fun c hc => h.2.1 c (by rw [e n_ch h3 s] at hc; exact hc))
theorem lsy_f {s a : Nat} : ∀ (ks : List (Nat × Nat)) (st st' : LSt), NW s a st → lsy T L s ks st = .inr st' → NW s a st' := by
  intro ks
  induction ks with
  | nil =>
    intro st st' hn h
    simp only [lsy] at h
    rw [← Sum.inr.inj h]
    exact hn
  | cons v t ih =>
    intro st st' hn h
    obtain ⟨sc, sh, kc, pl, D, fi, G⟩ := st
    simp only [lsy] at h
    by_cases hd : cb T L v.2 = 34 ∧ isNm (ts T L v.2) ∧ ts T L v.2 ∉ n_sy (G s)
    · rw [dec_t hd, if_pos rfl] at h
      exact ih _ _ (NW.nd (x := syN (G s) (ts T L v.2) kc) hn rfl rfl rfl) h
    · rw [dec_f hd, if_neg (by decide)] at h; cases h
theorem lfd_f (hL : L ≤ 4096) (hl : l ≤ 4200) {f : Nat → Bool → LSt → LRs} (hf : okSp T L Sd In Nx Am K F N S I X Lt l f) (ho : okFn T L Sd In Nx Am K F N S I X Lt l f) {s a n p q i : Nat} {st st' : LSt} (hw : WFs st) (hn : NW s a st) (hv : VV T L Sd In Nx Am K F N S I X Lt l n p q) (h : lfd T L f s p i st = .inr st') : NW s a st' ∧ ((n_kl (st.2.2.2.2.2.2 s)).length = (n_ch (st.2.2.2.2.2.2 s)).length → (n_kl (st'.2.2.2.2.2.2 s)).length = (n_ch (st'.2.2.2.2.2.2 s)).length) := by
  obtain ⟨sc, sh, kc, pl, D, fi, G⟩ := st
  have hs : s < sc := hn.2.2.1
  simp only [lfd] at h
  by_cases hc : cb T L p = 123
  rotate_left
  · rw [if_neg hc] at h; cases h
  rw [if_pos hc] at h
  cases e0 : mbr T L p (litN 20) with
  | none => rw [e0] at h; cases h
  | some v0 =>
  rw [e0] at h
  simp only at h
  by_cases c34 : cb T L v0 = 34
  rotate_left
  · rw [if_neg c34] at h; cases h
  rw [if_pos c34] at h
  by_cases hd : isNm (ts T L v0) ∧ ∀ c, c ∈ n_ch (G s) → n_fn (G c) ≠ ts T L v0
  rotate_left
  · rw [dec_f hd, if_neg (by decide)] at h; cases h
  rw [dec_t hd, if_pos rfl] at h
  rcases mbc hL hl hv hc (w := 15) (by decide) with ⟨e, _⟩ | ⟨v, kp, c, b, e, _, z1, z2, z3, z4, z5, z6⟩
  · rw [e] at h; cases h
  rw [e] at h
  simp only at h
  have hw1 : WFs (sc, sh, kc + 1, pl ++ ((if i = 0 then [] else [44]) ++ (litN 21 ++ (qt (ts T L v0) ++ litN 31))), D, fi, upG G s (klN (G s) kc)) := ⟨DOK.up (x := klN (G s) kc) hw.1 rfl rfl, hw.2⟩
  cases hr : f v false (sc, sh, kc + 1, pl ++ ((if i = 0 then [] else [44]) ++ (litN 21 ++ (qt (ts T L v0) ++ litN 31))), D, fi, upG G s (klN (G s) kc)) with
  | inl e => rw [hr] at h; cases h
  | inr st1 =>
    rw [hr] at h
    obtain ⟨g1, _⟩ := hf _ _ _ _ _ _ z1 hw1 hr
    have g2 := ho _ _ _ _ _ _ z1 hw1 hr
    have n1 := (hn.kid (k0 := kc) (pl' := pl ++ ((if i = 0 then [] else [44]) ++ (litN 21 ++ (qt (ts T L v0) ++ litN 31))))).call g1 g2
    obtain ⟨k1, sh1, kc1, pl1, D1, fi1, G1⟩ := st1
    obtain ⟨a1, a2, a3, a4, a5, a6, a7, a8, a9, a10, a11, a12, a13⟩ := g1
    have e := Sum.inr.inj h
    rw [← e]
    have ef : ∀ {β : Type} (g : Nod → β), g (fnN (G1 sc) (ts T L v0)) = g (G1 sc) → ∀ j, g (upG G1 sc (fnN (G1 sc) (ts T L v0)) j) = g (G1 j) := fun g hg j => by
      by_cases q : j = sc
      · rw [q, upG_s]; exact hg
      · rw [upG_n q]
    have n2 : NW s a (k1, sh1, kc1, pl1 ++ [125], D1, fi1 ++ [(kc, sc, mbr T L p (litN 28))], upG G1 sc (fnN (G1 sc) (ts T L v0))) := n1.cg (ef _ rfl) (ef _ rfl) (fun j _ => ef _ rfl j) (fun j _ => ef _ rfl j) (fun c hc => n1.2.1 c (by rw [ef n_ch rfl s] at hc; exact hc))
    refine ⟨n2.jn (c := sc) a1 (by omega) (by show n_me (upG G1 sc (fnN (G1 sc) (ts T L v0)) sc) < k1; rw [ef n_me rfl]; exact a11.1), fun hq => ?_⟩
    have eGs : G1 s = klN (G s) kc := by rw [a5 s hs, upG_s]
    show (n_kl (upG (upG (upG G1 sc (fnN (G1 sc) (ts T L v0))) s (chN (upG G1 sc (fnN (G1 sc) (ts T L v0)) s) sc)) sc (paN (upG G1 sc (fnN (G1 sc) (ts T L v0)) sc) s) s)).length = (n_ch (upG (upG (upG G1 sc (fnN (G1 sc) (ts T L v0))) s (chN (upG G1 sc (fnN (G1 sc) (ts T L v0)) s) sc)) sc (paN (upG G1 sc (fnN (G1 sc) (ts T L v0)) sc) s) s)).length
    rw [upG_n (show s ≠ sc by omega), upG_s, upG_n (show s ≠ sc by omega), eGs]
    show (n_kl (G s) ++ [kc]).length = (n_ch (G s) ++ [sc]).length
    rw [List.length_append, List.length_append, List.length_singleton, List.length_singleton]
    have hq : (n_kl (G s)).length = (n_ch (G s)).length := hq
    omega
theorem lfs_f (hL : L ≤ 4096) (hl : l ≤ 4200) {f : Nat → Bool → LSt → LRs} (hf : okSp T L Sd In Nx Am K F N S I X Lt l f) (ho : okFn T L Sd In Nx Am K F N S I X Lt l f) {s a : Nat} : ∀ (ks : List (Nat × Nat)) (i lo hi : Nat) (st st' : LSt) (hc hr : Int32), WFs st → NW s a st → LCH T L Sd In Nx Am K F N S I X Lt l ks lo hi hc hr → lfs T L f s ks i st = .inr st' → (n_kl (st.2.2.2.2.2.2 s)).length = (n_ch (st.2.2.2.2.2.2 s)).length → NW s a st' ∧ (n_kl (st'.2.2.2.2.2.2 s)).length = (n_ch (st'.2.2.2.2.2.2 s)).length := by
  intro ks
  induction ks with
  | nil =>
    intro i lo hi st st' hc hr hw hn hlc h hkl
    simp only [lfs] at h
    rw [← Sum.inr.inj h]
    obtain ⟨sc, sh, kc, pl, D, fi, G⟩ := st
    exact ⟨hn, hkl⟩
  | cons k t ih =>
    intro i lo hi st st' hc hr hw hn hlc h hkl
    obtain ⟨c, b, c1, c2, c3, c4, c5, c6⟩ := hlc
    simp only [lfs] at h
    cases hv : lfd T L f s k.2 i st with
    | inl e => rw [hv] at h; cases h
    | inr st1 =>
      rw [hv] at h
      simp only at h
      obtain ⟨n1, n2⟩ := lfd_f hL hl hf ho hw hn c4 hv
      obtain ⟨sc, sh, kc, pl, D, fi, G⟩ := st
      have g1 := (lfd_p hL hl hf hn.2.2.1 hw c4 hv).1
      exact ih (i + 1) _ _ _ _ _ _ (g1.wf hw) n1 c6 h (n2 hkl)
theorem ldf_f (hL : L ≤ 4096) (hl : l ≤ 4200) {f : Nat → Bool → LSt → LRs} (hf : okSp T L Sd In Nx Am K F N S I X Lt l f) (ho : okFn T L Sd In Nx Am K F N S I X Lt l f) {k n p q : Nat} (hk : k = 8 ∨ k = 9 ∨ k = 10) {sc sh kc : Nat} {pl : List Nat} {D : List Nat → Option Nat} {fi : List (Nat × Nat × Option Nat)} {G : Nat → Nod} {st' : LSt} (hw : WFs (sc, sh, kc, pl, D, fi, G)) (hv : VV T L Sd In Nx Am K F N S I X Lt l n p q) (hc : cb T L p = 123) (h : ldf T L f sc p k (sc + 1, sh, kc, pl, D, fi, upG G sc (mkN 12 sc 0 0 [] [])) = .inr st') : NW sc sc st' ∧ n_me (st'.2.2.2.2.2.2 sc) = sc ∧ n_kd (st'.2.2.2.2.2.2 sc) = k ∧ (k ≠ 9 → (n_kl (st'.2.2.2.2.2.2 sc)).length = (n_ch (st'.2.2.2.2.2.2 sc)).length) := by
  simp only [ldf] at h
  cases e0 : mbr T L p (litN 20) with
  | none => rw [e0] at h; cases h
  | some v =>
  rw [e0] at h
  simp only at h
  by_cases c34 : cb T L v = 34
  rotate_left
  · rw [if_neg c34] at h; cases h
  rw [if_pos c34] at h
  by_cases hd : isNm (ts T L v) ∧ kw (ts T L v) = -1 ∧ D (ts T L v) = none
  rotate_left
  · rw [dec_f hd, if_neg (by decide)] at h; cases h
  rw [dec_t hd, if_pos rfl] at h
  have e2 : ∀ y, upG (upG G sc (mkN 12 sc 0 0 [] [])) sc y = upG G sc y := fun y => funext (fun i => by
    by_cases q : i = sc
    · rw [q, upG_s, upG_s]
    · rw [upG_n q, upG_n q, upG_n q])
  rw [e2] at h
  have hw1 : ∀ pl', WFs (sc + 1, sh + 1, kc, pl', (fun u => if u = ts T L v then some sc else D u), fi, upG G sc (mkN k sc sh 0 [] [])) := by
    intro pl'
    refine ⟨fun w d hdd => ?_, by have := hw.2; omega⟩
    have hdd : (if w = ts T L v then some sc else D w) = some d := hdd
    by_cases ew : w = ts T L v
    · rw [if_pos ew] at hdd
      have e := Option.some.inj hdd
      subst e
      rw [upG_s]
      exact ⟨by omega, rfl, show 8 ≤ k by omega, show k ≤ 10 by omega⟩
    · rw [if_neg ew] at hdd
      obtain ⟨a, b⟩ := hw.1 w d hdd
      rw [upG_n (by omega)]
      exact ⟨by omega, b⟩
  have n0 : ∀ pl', NW sc sc (sc + 1, sh + 1, kc, pl', (fun u => if u = ts T L v then some sc else D u), fi, upG G sc (mkN k sc sh 0 [] [])) := fun pl' => ⟨fun i i1 i2 i3 => absurd (show i = sc by omega) i3, fun c hc => by rw [upG_s] at hc; exact absurd hc List.not_mem_nil, by omega, by rw [upG_s]; show sc < sc + 1; omega⟩
  have fin : ∀ pl' st', FQ sc (sc + 1, sh + 1, kc, pl', (fun u => if u = ts T L v then some sc else D u), fi, upG G sc (mkN k sc sh 0 [] [])) st' → n_me (st'.2.2.2.2.2.2 sc) = sc ∧ n_kd (st'.2.2.2.2.2.2 sc) = k := fun pl' st' hq => by
    obtain ⟨sc', sh', kc', pl'', D', fi', G'⟩ := st'
    obtain ⟨_, _, _, _, _, _, _, _, _, b10, b11, _⟩ := hq
    rw [upG_s] at b10 b11
    exact ⟨b11, b10⟩
  by_cases k8 : k = 8
  · rw [if_pos k8] at h
    subst k8
    have hq := (lfx_p hL hl (show sc < sc + 1 by omega) (by rw [upG_s]; exact ⟨rfl, rfl, rfl⟩) (hw1 _) hv hc h).1
    have key : NW sc sc st' ∧ (n_kl (st'.2.2.2.2.2.2 sc)).length = (n_ch (st'.2.2.2.2.2.2 sc)).length := ?_
    · exact ⟨key.1, (fin _ _ hq).1, (fin _ _ hq).2, fun _ => key.2⟩
    simp only [lfx] at h
    cases e1 : mbr T L p (litN 23) with
    | none => rw [e1] at h; cases h
    | some v2 =>
      rw [e1] at h
      simp only at h
      cases e2 : (if cb T L v2 = 45 ∨ (48 ≤ cb T L v2 ∧ cb T L v2 ≤ 57) then lsz (snv T L v2) else none : Option Nat) with
      | none => rw [e2] at h; cases h
      | some w =>
        rw [e2] at h
        rw [← Sum.inr.inj h]
        refine ⟨(n0 []).nd (by rw [upG_s]; rfl) (by rw [upG_s]; rfl) (by rw [upG_s]; rfl), ?_⟩
        show (n_kl (upG (upG G sc (mkN 8 sc sh 0 [] [])) sc _ sc)).length = (n_ch (upG (upG G sc (mkN 8 sc sh 0 [] [])) sc _ sc)).length
        rw [upG_s]
        rfl
  rw [if_neg k8] at h
  by_cases k9 : k = 9
  · rw [if_pos k9] at h
    subst k9
    have hq := (len_p hL hl (show sc < sc + 1 by omega) (by rw [upG_s]; rfl) (hw1 _) hv hc h).1
    refine ⟨?_, (fin _ _ hq).1, (fin _ _ hq).2, fun z => absurd rfl z⟩
    rw [len_2] at h
    cases e1 : mbr T L p (litN 25) with
    | none => rw [e1] at h; cases h
    | some v2 =>
      rw [e1] at h
      simp only at h
      by_cases c9 : cb T L v2 = 91 ∧ 1 ≤ (prt T L v2).length ∧ (prt T L v2).length ≤ 32
      rotate_left
      · rw [if_neg c9] at h; cases h
      rw [if_pos c9] at h
      cases hr : lsy T L sc (prt T L v2) (wrt (litN 26) (sc + 1, sh + 1, kc, pl ++ (litN 21 ++ (qt (ts T L v) ++ (litN 22 ++ (litN (3 + 9) ++ [34])))), (fun u => if u = ts T L v then some sc else D u), fi, upG G sc (mkN 9 sc sh 0 [] []))) with
      | inl e => rw [hr] at h; cases h
      | inr st1 =>
        rw [hr] at h
        have n1 := lsy_f (prt T L v2) _ _ (show NW sc sc (wrt (litN 26) (sc + 1, sh + 1, kc, pl ++ (litN 21 ++ (qt (ts T L v) ++ (litN 22 ++ (litN (3 + 9) ++ [34])))), (fun u => if u = ts T L v then some sc else D u), fi, upG G sc (mkN 9 sc sh 0 [] []))) from n0 _) hr
        obtain ⟨k1, sh1, kc1, pl1, D1, fi1, G1⟩ := st1
        simp only [len2] at h
        cases hm : mbr T L p (litN 28) with
        | none =>
          rw [hm] at h
          rw [← Sum.inr.inj h]
          exact n1
        | some d =>
          rw [hm] at h
          simp only at h
          by_cases hdd : cb T L d = 34 ∧ ts T L d ∈ n_sy (G1 sc)
          · rw [dec_t hdd, bT] at h
            rw [← Sum.inr.inj h]
            exact n1
          · rw [dec_f hdd, bF] at h; cases h
  rw [if_neg k9] at h
  have k10 : k = 10 := by omega
  subst k10
  have hq := (lrc_p hL hl hf (show sc < sc + 1 by omega) (hw1 _) hv hc h).1
  have key : NW sc sc st' ∧ (n_kl (st'.2.2.2.2.2.2 sc)).length = (n_ch (st'.2.2.2.2.2.2 sc)).length := ?_
  · exact ⟨key.1, (fin _ _ hq).1, (fin _ _ hq).2, fun _ => key.2⟩
  simp only [lrc] at h
  rcases mbc hL hl hv hc (w := 29) (by decide) with ⟨e, _⟩ | ⟨v2, kp, c, b, e, _, z1, z2, z3, z4, z5, z6⟩
  · rw [e] at h; cases h
  rw [e] at h
  simp only at h
  by_cases c9 : cb T L v2 = 91 ∧ (prt T L v2).length ≤ 32
  rotate_left
  · rw [if_neg c9] at h; cases h
  rw [if_pos c9] at h
  exact lfs_f hL hl hf ho (prt T L v2) _ _ _ _ _ _ _ (hw1 _) (n0 _) (z1.lst c9.1).2.2.2 h (by
    show (n_kl (upG G sc (mkN 10 sc sh 0 [] []) sc)).length = (n_ch (upG G sc (mkN 10 sc sh 0 [] []) sc)).length
    rw [upG_s]
    rfl)
/-- from the others to all of them -/
theorem NW.fin {s : Nat} {st : LSt} (h : NW s s st) (hs : n_me (st.2.2.2.2.2.2 s) = s) (hk : n_kd (st.2.2.2.2.2.2 s) ≤ 11) (h6 : n_kd (st.2.2.2.2.2.2 s) = 6 ∨ n_kd (st.2.2.2.2.2.2 s) = 7 → (n_ch (st.2.2.2.2.2.2 s)).length = 1) (h11 : n_kd (st.2.2.2.2.2.2 s) = 11 → 0 < (n_ch (st.2.2.2.2.2.2 s)).length ∧ ∀ c, c ∈ n_ch (st.2.2.2.2.2.2 s) → n_kd (st.2.2.2.2.2.2 (n_me (st.2.2.2.2.2.2 c))) ≤ 10) (h9 : n_kd (st.2.2.2.2.2.2 s) ≠ 9 → (n_kl (st.2.2.2.2.2.2 s)).length = (n_ch (st.2.2.2.2.2.2 s)).length) : ∀ i, s ≤ i → i < st.1 → OKS st.2.2.2.2.2.2 st.1 i := by
  obtain ⟨sc, sh, kc, pl, D, fi, G⟩ := st
  intro i i1 i2
  by_cases e : i = s
  · subst e
    exact ⟨by rw [hs]; exact hs, by rw [hs]; exact hk, h.2.2.2, h.2.1, fun _ => ⟨h6, h11, h9⟩⟩
  · exact h.1 i i1 i2 e
theorem lwd_f {p : Nat} {sc sh kc : Nat} {pl : List Nat} {D : List Nat → Option Nat} {fi : List (Nat × Nat × Option Nat)} {G : Nat → Nod} {x : Nod} {st' : LSt} (hw : WFs (sc, sh, kc, pl, D, fi, G)) (h : lwd T L sc p (sc + 1, sh, kc, pl, D, fi, upG G sc x) = .inr st') : ∀ i, sc ≤ i → i < st'.1 → OKS st'.2.2.2.2.2.2 st'.1 i := by
  simp only [lwd] at h
  by_cases c6 : kw6 (ts T L p) = -1
  · rw [if_pos c6] at h
    cases hD : D (ts T L p) with
    | none => rw [hD] at h; cases h
    | some d =>
      rw [hD] at h
      rw [← Sum.inr.inj h]
      obtain ⟨d1, d2, d3, d4⟩ := hw.1 _ _ hD
      intro i i1 i2
      have ei : i = sc := by have : i < sc + 1 := i2; omega
      subst ei
      have eg : upG (upG G i x) i (mkN 12 d (n_sg (upG G i x d)) 0 [] []) d = G d := by rw [upG_n (by omega), upG_n (by omega)]
      show OKS (upG (upG G i x) i (mkN 12 d (n_sg (upG G i x d)) 0 [] [])) (i + 1) i
      unfold OKS
      rw [upG_s]
      show n_me (upG (upG G i x) i _ d) = d ∧ n_kd (upG (upG G i x) i _ d) ≤ 11 ∧ d < i + 1 ∧ (∀ c, c ∈ ([] : List Nat) → c < i + 1 ∧ _) ∧ (d = i → _)
      rw [eg]
      exact ⟨d2, by omega, by omega, fun c hc => absurd hc List.not_mem_nil, fun z => by omega⟩
  · rw [if_neg c6] at h
    rw [← Sum.inr.inj h]
    have hk : (kw6 (ts T L p)).toNatClampNeg ≤ 5 := by
      rcases kw6_of (ts T L p) with ⟨k, k1, k2, k3⟩ | ⟨k1, _⟩
      · rw [k3, nI_clamp (by omega)]; exact k1
      · exact absurd k1 c6
    generalize (kw6 (ts T L p)).toNatClampNeg = k at hk
    intro i i1 i2
    have ei : i = sc := by have : i < sc + 1 := i2; omega
    subst ei
    show OKS (upG (upG G i x) i (mkN k i k 0 [] [])) (i + 1) i
    unfold OKS
    rw [upG_s]
    show n_me (upG (upG G i x) i (mkN k i k 0 [] []) i) = i ∧ n_kd (upG (upG G i x) i (mkN k i k 0 [] []) i) ≤ 11 ∧ i < i + 1 ∧ (∀ c, c ∈ ([] : List Nat) → c < i + 1 ∧ _) ∧ (i = i → (k = 6 ∨ k = 7 → _) ∧ (k = 11 → _) ∧ (k ≠ 9 → ([] : List Nat).length = ([] : List Nat).length))
    rw [upG_s]
    exact ⟨rfl, show k ≤ 11 by omega, by omega, fun c hc => absurd hc List.not_mem_nil, fun _ => ⟨fun z => by omega, fun z => by omega, fun _ => rfl⟩⟩
theorem look_f (hL : L ≤ 4096) (hl : l ≤ 4200) : ∀ k, okFn T L Sd In Nx Am K F N S I X Lt l (look T L k) := by
  intro k
  induction k with
  | zero =>
    intro p br st st' n q hv hw h
    obtain ⟨sc, sh, kc, pl, D, fi, G⟩ := st
    simp only [look] at h
    by_cases c : 128 ≤ sc
    · rw [if_pos c] at h; cases h
    · rw [if_neg c] at h; cases h
  | succ k ih =>
    intro p br st st' n q hv hw h
    obtain ⟨sc, sh, kc, pl, D, fi, G⟩ := st
    have hg := look_p (T := T) (Sd := Sd) (In := In) (Nx := Nx) (Am := Am) (K := K) (F := F) (N := N) (S := S) (I := I) (X := X) (Lt := Lt) hL hl k
    simp only [look] at h
    show ∀ i, sc ≤ i → _
    by_cases c : 128 ≤ sc
    · rw [if_pos c] at h; cases h
    rw [if_neg c] at h
    have e2 : ∀ y, upG (upG G sc (mkN 12 sc 0 0 [] [])) sc y = upG G sc y := fun y => funext (fun i => by
      by_cases q : i = sc
      · rw [q, upG_s, upG_s]
      · rw [upG_n q, upG_n q, upG_n q])
    have n0 : ∀ x sh' kc' pl', n_ch x = [] → n_me x = sc → NW sc sc (sc + 1, sh', kc', pl', D, fi, upG G sc x) := fun x sh' kc' pl' h1 h2 => ⟨fun i i1 i2 i3 => absurd (show i = sc by omega) i3, fun c hc => by rw [upG_s, h1] at hc; exact absurd hc List.not_mem_nil, by omega, by rw [upG_s, h2]; omega⟩
    have w0 : ∀ x sh' kc' pl', WFs (sc + 1, sh', kc', pl', D, fi, upG G sc x) := fun x sh' kc' pl' => by
      refine ⟨fun w d hd => ?_, by have := hw.2; omega⟩
      obtain ⟨a, b⟩ := hw.1 w d hd
      rw [upG_n (by omega)]
      exact ⟨by omega, b⟩
    by_cases c1 : cb T L p = 34
    · rw [if_pos c1] at h
      exact lwd_f hw h
    rw [if_neg c1] at h
    by_cases c2 : cb T L p = 91
    · rw [if_pos c2] at h
      by_cases c3 : br = true
      · rw [if_pos c3] at h; cases h
      rw [if_neg c3] at h
      by_cases c4 : 1 ≤ (prt T L p).length ∧ (prt T L p).length ≤ 16
      · rw [if_pos c4] at h
        obtain ⟨a1, a2, a3, a4⟩ := hv.lst c2
        obtain ⟨r1, r2, r3, r4⟩ := lun_f hg ih (s := sc) (a := sc) (prt T L p) _ _ _ _ _ _ _ (w0 _ _ _ _) (n0 (mkN 11 sc sh 0 [] []) (sh + 1) kc pl rfl rfl) (fun c hc => by
          have hc : c ∈ n_ch (upG G sc (mkN 11 sc sh 0 [] []) sc) := hc
          rw [upG_s] at hc
          exact absurd hc List.not_mem_nil) a4 h
        have hq := (lun_p hg (s := sc) (prt T L p) _ _ _ _ _ _ _ (show sc < sc + 1 by omega) (w0 _ _ _ _) a4 h).1
        have r3 : (n_ch (st'.2.2.2.2.2.2 sc)).length = (n_ch (upG G sc (mkN 11 sc sh 0 [] []) sc)).length + (prt T L p).length := r3
        rw [upG_s] at r3
        have r3 : (n_ch (st'.2.2.2.2.2.2 sc)).length = 0 + (prt T L p).length := r3
        have r4 : (n_kl (st'.2.2.2.2.2.2 sc)).length = (n_kl (upG G sc (mkN 11 sc sh 0 [] []) sc)).length + (prt T L p).length := r4
        rw [upG_s] at r4
        have r4 : (n_kl (st'.2.2.2.2.2.2 sc)).length = 0 + (prt T L p).length := r4
        have hmk : n_me (st'.2.2.2.2.2.2 sc) = sc ∧ n_kd (st'.2.2.2.2.2.2 sc) = 11 := by
          obtain ⟨sc', sh', kc', pl'', D', fi', G'⟩ := st'
          obtain ⟨_, _, _, _, _, _, _, _, _, b10, b11, _⟩ := hq
          rw [upG_s] at b10 b11
          exact ⟨b11, b10⟩
        exact r1.fin hmk.1 (by omega) (fun z => by omega) (fun _ => ⟨by omega, r2⟩) (fun _ => by omega)
      · rw [if_neg c4] at h; cases h
    rw [if_neg c2] at h
    by_cases c3 : cb T L p = 123
    rotate_left
    · rw [if_neg c3] at h; cases h
    rw [if_pos c3] at h
    simp only [lob] at h
    rcases mbc hL hl hv c3 (w := 15) (by decide) with ⟨e, _⟩ | ⟨v, kp, c, b, e, _, z1, z2, z3, z4, z5, z6⟩
    · rw [e] at h; cases h
    rw [e] at h
    simp only at h
    by_cases c34 : cb T L v = 34
    rotate_left
    · rw [if_neg c34] at h; cases h
    rw [if_pos c34] at h
    by_cases c67 : kw (ts T L v) = 6 ∨ kw (ts T L v) = 7
    · rw [if_pos c67] at h
      have hk6 : (kw (ts T L v)).toNatClampNeg = 6 ∨ (kw (ts T L v)).toNatClampNeg = 7 := by
        rcases c67 with z | z <;> rw [z]
        · exact Or.inl (by decide)
        · exact Or.inr (by decide)
      generalize (kw (ts T L v)).toNatClampNeg = k6 at h hk6
      simp only [lit] at h
      rcases mbc hL hl hv c3 (w := if k6 = 6 then 16 else 19) (by split <;> decide) with ⟨e', _⟩ | ⟨v2, kp2, c2', b2, e', _, q1, q2, q3, q4, q5, q6⟩
      · rw [e'] at h; cases h
      rw [e'] at h
      simp only at h
      rw [e2] at h
      cases hr : look T L k v2 false (sc + 1, sh + 1, kc + 1, pl ++ litN (if k6 = 6 then 17 else 18), D, fi, upG G sc (mkN k6 sc sh 0 [] [kc])) with
      | inl e => rw [hr] at h; cases h
      | inr st1 =>
        rw [hr] at h
        rw [← Sum.inr.inj h]
        obtain ⟨g1, _⟩ := hg _ _ _ _ _ _ q1 (w0 _ _ _ _) hr
        have g2 := ih _ _ _ _ _ _ q1 (w0 _ _ _ _) hr
        have n1 := (n0 (mkN k6 sc sh 0 [] [kc]) (sh + 1) (kc + 1) (pl ++ litN (if k6 = 6 then 17 else 18)) rfl rfl).call g1 g2
        obtain ⟨k1, sh1, kc1, pl1, D1, fi1, G1⟩ := st1
        obtain ⟨a1, a2, a3, a4, a5, a6, a7, a8, a9, a10, a11, a12, a13⟩ := g1
        have eGs : G1 sc = mkN k6 sc sh 0 [] [kc] := by rw [a5 sc (by omega), upG_s]
        have n2 := n1.jn (c := sc + 1) a1 (by omega) a11.1
        have n3 : NW sc sc (wrt [125] (jon sc (sc + 1) (k1, sh1, kc1, pl1, D1, fi1, G1))) := n2
        obtain ⟨y1, y2⟩ := jon_kd (s := sc) (c := sc + 1) (G := G1)
        have ecs : n_ch (upG (upG G1 sc (chN (G1 sc) (sc + 1))) (sc + 1) (paN (G1 (sc + 1)) sc) sc) = [sc + 1] := by
          rw [upG_n (by omega), upG_s, eGs]
          rfl
        refine n3.fin ((y2 sc).trans (by rw [eGs]; rfl)) (by show n_kd (upG (upG G1 sc (chN (G1 sc) (sc + 1))) (sc + 1) (paN (G1 (sc + 1)) sc) sc) ≤ 11; rw [y1, eGs]; show k6 ≤ 11; omega) (fun _ => ?_) (fun z => ?_) (fun _ => ?_)
        · show (n_ch (upG (upG G1 sc (chN (G1 sc) (sc + 1))) (sc + 1) (paN (G1 (sc + 1)) sc) sc)).length = 1
          rw [ecs]
          rfl
        · have z : n_kd (upG (upG G1 sc (chN (G1 sc) (sc + 1))) (sc + 1) (paN (G1 (sc + 1)) sc) sc) = 11 := z
          rw [y1, eGs] at z
          have z : k6 = 11 := z
          omega
        · show (n_kl (upG (upG G1 sc (chN (G1 sc) (sc + 1))) (sc + 1) (paN (G1 (sc + 1)) sc) sc)).length = (n_ch (upG (upG G1 sc (chN (G1 sc) (sc + 1))) (sc + 1) (paN (G1 (sc + 1)) sc) sc)).length
          rw [ecs, upG_n (by omega), upG_s, eGs]
          rfl
    rw [if_neg c67] at h
    by_cases c8 : kw (ts T L v) = 8 ∨ kw (ts T L v) = 9 ∨ kw (ts T L v) = 10
    · rw [if_pos c8] at h
      have hk8 : (kw (ts T L v)).toNatClampNeg = 8 ∨ (kw (ts T L v)).toNatClampNeg = 9 ∨ (kw (ts T L v)).toNatClampNeg = 10 := by
        rcases c8 with z | z | z <;> rw [z]
        · exact Or.inl (by decide)
        · exact Or.inr (Or.inl (by decide))
        · exact Or.inr (Or.inr (by decide))
      generalize (kw (ts T L v)).toNatClampNeg = k8 at h hk8
      obtain ⟨r1, r2, r3, r4⟩ := ldf_f hL hl hg ih hk8 hw hv c3 h
      exact r1.fin r2 (by omega) (fun z => by omega) (fun z => by omega) (fun z => r4 (by omega))
    rw [if_neg c8] at h
    exact lwd_f hw h
end OKF
end
