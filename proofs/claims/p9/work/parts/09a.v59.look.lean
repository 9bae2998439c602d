-- the class's look at an object, at a value
section CLB
variable {T Sd In Tn Tm : Nat → Int32} {L : Nat}
theorem obj_sp (hL : L ≤ 4096) (hA : AM Tm) {fl : FL} {d : Nat} (hfl : okL T Sd In Tn Tm L fl (d + 1)) (lf lp : Int32) (Pl Kd Me Fi Nx Na Fn Am Fd Ed : Nat → Int32) (lc : Int32) (Cf Cs : Nat → Int32) (cc : Int32) {s n : Nat} (hs : s < n) (hn : n ≤ 128) (hI : SI Fi Na Fn Am lc (nI n) cc) (h0 : Am s = nI 0) (v : Int32) : SP (m_X4_lookAtObject fl lf lp T Sd In Tn Tm (nI L) Pl Kd Me Fi Nx Na Fn Am Fd Ed lc (nI n) Cf Cs cc (nI s) v (nI d)) (lbP n s Am) := by
  have hwrap : ∀ x, SP x (lbP n s Am) → SP (x.bind fun (r23, u) => if r23 = 0 ∨ r23 = 1 then some (r23, u) else none) (lbP n s Am) := by
    intro x hx
    refine SP.bind hx ?_
    rintro ⟨r, u⟩ h
    exact SP.bb h.1 (SP.ok h)
  have hit : ∀ {w : Nat} (hw : w < 75) (k : Int32), SP (m_X4_lookAtItems fl lf lp T Sd In Tn Tm (nI L) Pl Kd Me Fi Nx Na Fn Am Fd Ed lc (nI n) Cf Cs cc (nI s) v (nI d) k w) (lbP n s Am) := fun hw k => itm_sp hL hA hfl lf lp Pl Kd Me Fi Nx Na Fn Am Fd Ed lc Cf Cs cc hs hn hI h0 hw v k
  have hrec := fun lf lp Pl Kd Na lc hI => rec_sp hL hA hfl lf lp Pl Kd Me Fi Nx Na Fn Am Fd Ed lc Cf Cs cc hs hn hI h0 v
  obtain ⟨hf, hna, hfn, hm, hl, hsc, hc⟩ := hI
  have hI : SI Fi Na Fn Am lc (nI n) cc := ⟨hf, hna, hfn, hm, hl, hsc, hc⟩
  unfold m_X4_lookAtObject
  simp only [m_X4_refuse, Option.bind_some, true_or, if_true]
  refine SP.bind (mbr_sp hL hA (by decide) _) (fun r1 _ => SP.bind (iss_sp hL _) (fun r2 _ => SP.ite (fun _ => SP.ok ⟨Or.inl rfl, ⟨hI, n, Nat.le_refl _, hn, rfl⟩, fun _ _ _ => rfl⟩) (fun _ => SP.bind (ksd_sp hL _) (fun r4 _ => SP.ite (fun _ => ?_) (fun _ => SP.ite (fun _ => ?_) (fun _ => SP.bind (nam_sp _) (fun r7 _ => SP.ite (fun _ => ?_) (fun _ => ?_))))))))
  · refine SP.bind (hit (by decide) _) ?_
    rintro ⟨r5, lf5, lp5, Pl5, Kd5, Me5, Fi5, Nx5, Na5, Fn5, Am5, Fd5, Ed5, lc5, sc5, Cf5, Cs5, cc5⟩ h
    exact SP.bb h.1 (SP.ok h)
  · refine SP.bind (hit (by decide) _) ?_
    rintro ⟨r5, lf5, lp5, Pl5, Kd5, Me5, Fi5, Nx5, Na5, Fn5, Am5, Fd5, Ed5, lc5, sc5, Cf5, Cs5, cc5⟩ h
    exact SP.bb h.1 (SP.ok h)
  · refine SP.bind (law_sp hL hA hl hn _ _) ?_
    rintro ⟨r19, lf19, lp19, Pl19, Kd19, Me19, lc19⟩ ⟨h1, h2⟩
    exact SP.bb h1 (SP.ok ⟨h1, ⟨⟨hf, hna, hfn, hm, h2, hsc, hc⟩, n, Nat.le_refl _, hn, rfl⟩, fun _ _ _ => rfl⟩)
  · refine SP.bind (dfi_sp hL hA hl hna hn _ _ _) ?_
    rintro ⟨r9, lf9, lp9, Pl9, Kd9, Na9, lc9⟩ ⟨h1, h2, h3⟩
    dsimp only at h1 h2 h3 ⊢
    refine SP.ite (fun _ => SP.ok ⟨Or.inl rfl, ⟨⟨hf, h2, hfn, hm, h3, hsc, hc⟩, n, Nat.le_refl _, hn, rfl⟩, fun _ _ _ => rfl⟩) (fun _ => SP.ite (fun _ => ?_) (fun _ => SP.ite (fun _ => ?_) (fun _ => ?_)))
    · refine SP.bind (lfx_sp hL hA h3 hm (show s < 128 by omega) _) ?_
      rintro ⟨r17, lf17, lp17, Pl17, Am17, lc17⟩ ⟨k1, k2, k3, k4⟩
      exact SP.bb k1 (SP.ok ⟨k1, ⟨⟨hf, h2, hfn, k2, k3, hsc, hc⟩, n, Nat.le_refl _, hn, rfl⟩, fun j _ hne => k4 j hne⟩)
    · refine SP.bind (len_sp hL hA h3 hf hm (show s < 128 by omega) h0 _) ?_
      rintro ⟨r15, lf15, lp15, Pl15, Fi15, Am15, Ed15, lc15⟩ ⟨k1, k2, k3, k4, k5⟩
      exact SP.bb k1 (SP.ok ⟨k1, ⟨⟨k2, h2, hfn, k3, k4, hsc, hc⟩, n, Nat.le_refl _, hn, rfl⟩, fun j _ hne => k5 j hne⟩)
    · refine SP.bind (hrec _ _ _ _ _ _ ⟨hf, h2, hfn, hm, h3, hsc, hc⟩) ?_
      rintro ⟨r5, lf5, lp5, Pl5, Kd5, Me5, Fi5, Nx5, Na5, Fn5, Am5, Fd5, Ed5, lc5, sc5, Cf5, Cs5, cc5⟩ h
      exact SP.bb h.1 (SP.ok h)
theorem look_sp (hL : L ≤ 4096) (hA : AM Tm) : ∀ (D d : Nat), d ≤ 16 → 17 - d ≤ D → okL T Sd In Tn Tm L (m_X4_lookAt D) d := by
  intro D
  induction D with
  | zero => intro d hd hD; exact absurd hD (by omega)
  | succ D ih =>
    intro d hd hD
    intro lf lp Pl Kd Me Fi Nx Na Fn Am Fd Ed lc sc Cf Cs cc p br n0 hn0 esc hI
    subst esc
    obtain ⟨hf, hna, hfn, hm, hl, hsc, hc⟩ := hI
    have hI : SI Fi Na Fn Am lc (nI n0) cc := ⟨hf, hna, hfn, hm, hl, hsc, hc⟩
    simp only [m_X4_lookAt, m_X4_refuse, m_X6_open, Option.bind_some, if_true]
    by_cases hlt : n0 < 128
    rotate_left
    · rw [if_neg (show ¬ nI n0 < 128 from fun q => absurd q (Int32.not_lt.mpr (nI_le (a := 128) (by omega) (by omega))))]
      simp only [Option.bind_some, if_true]
      exact SP.ok ⟨Or.inl rfl, ⟨hI, n0, Nat.le_refl _, hn0, rfl⟩, fun _ _ => rfl⟩
    rw [if_pos (show nI n0 < 128 from nI_lt (b := 128) hlt (by omega))]
    simp only [bd_go hlt (by decide), bd_gc hlt (by decide), Option.bind_some, nI_clamp (show n0 < 2 ^ 31 by omega), nI_1]
    rw [if_neg (show ¬ nI n0 = -1 from fun q => absurd (q ▸ nI_pos' (show n0 < 2 ^ 31 by omega) : (0 : Int32) ≤ -1) (by decide))]
    have fr : ∀ j, j < n0 → upd Am n0 0 j = Am j := fun j hj => pk_un (by omega)
    have e0 : upd Am n0 0 n0 = nI 0 := pk_us
    have hI1 : SI (upd Fi n0 (-1)) (upd Na n0 (-1)) (upd Fn n0 (-1)) (upd Am n0 0) lc (nI (n0 + 1)) cc := ⟨hf.up (Or.inl rfl), hna.up (Or.inl rfl), hfn.up (Or.inl rfl), hm.up (k := 0) (by omega), hl, ⟨n0 + 1, by omega, rfl⟩, hc⟩
    have bad : ∀ u : TL, SU (n0 + 1) u → (∀ j, j < n0 → u.2.2.2.2.2.2.2.2.2.1 j = Am j) → lkP n0 Am ((-1 : Int32), u) := fun u h1 h2 => ⟨Or.inl rfl, ⟨h1.1, h1.2.imp (fun n q => ⟨by omega, q.2⟩)⟩, h2⟩
    have good : ∀ u : TL, SU (n0 + 1) u → (∀ j, j < n0 → u.2.2.2.2.2.2.2.2.2.1 j = Am j) → lkP n0 Am (nI n0, u) := fun u h1 h2 => ⟨Or.inr ⟨n0, hlt, rfl⟩, ⟨h1.1, h1.2.imp (fun n q => ⟨by omega, q.2⟩)⟩, h2⟩
    have fin : ∀ r : Int32 × TL, lbP (n0 + 1) n0 (upd Am n0 0) r → SU (n0 + 1) r.2 ∧ ∀ j, j < n0 → r.2.2.2.2.2.2.2.2.2.2.1 j = Am j := fun r h => ⟨h.2.1, fun j hj => (h.2.2 j (by omega) (by omega)).trans (fr j hj)⟩
    have hnow : ∀ (lf lp : Int32), SU (n0 + 1) ((lf, lp, Pl, upd Kd n0 (-1), upd Me n0 (nI n0), upd Fi n0 (-1), upd Nx n0 (-1), upd Na n0 (-1), upd Fn n0 (-1), upd Am n0 0, upd Fd n0 (vp_nar .boolean 0), upd Ed n0 (vp_nar .boolean 0), lc, nI (n0 + 1), Cf, Cs, cc) : TL) := fun lf lp => ⟨hI1, n0 + 1, Nat.le_refl _, by omega, rfl⟩
    refine SP.ite (fun h16 => ?_) (fun _ => SP.ok (bad _ (hnow _ _) fr))
    have hd16 : d < 16 := Nat.lt_of_not_le (fun q => absurd h16 (Int32.not_lt.mpr (nI_le (a := 16) q (by omega))))
    have hfl := ih (d + 1) (by omega) (by omega)
    refine SP.bind (iss_sp hL _) (fun r4 _ => SP.ite (fun _ => SP.bind (isl_sp hL _) (fun r6 _ => SP.ite (fun _ => SP.bind (iso_sp hL _) (fun r8 _ => SP.ite (fun _ => SP.ok (bad _ (hnow _ _) fr)) (fun _ => ?_))) (fun _ => ?_))) (fun _ => ?_))
    · refine SP.bind (obj_sp hL hA hfl _ _ _ _ _ _ _ _ _ _ _ _ _ _ _ _ (show n0 < n0 + 1 by omega) (by omega) hI1 e0 _) ?_
      rintro ⟨r5, lf5, lp5, Pl5, Kd5, Me5, Fi5, Nx5, Na5, Fn5, Am5, Fd5, Ed5, lc5, sc5, Cf5, Cs5, cc5⟩ h
      have := fin _ h
      exact SP.ite (fun _ => SP.ok (bad _ this.1 this.2)) (fun _ => SP.ok (good _ this.1 this.2))
    · refine SP.bind (uni_sp hA hfl _ _ _ _ _ _ _ _ _ _ _ _ _ _ _ _ (show n0 < n0 + 1 by omega) (by omega) hI1 e0 _ _) ?_
      rintro ⟨r5, lf5, lp5, Pl5, Kd5, Me5, Fi5, Nx5, Na5, Fn5, Am5, Fd5, Ed5, lc5, sc5, Cf5, Cs5, cc5⟩ h
      have := fin _ h
      exact SP.ite (fun _ => SP.ok (bad _ this.1 this.2)) (fun _ => SP.ok (good _ this.1 this.2))
    · refine SP.bind (law_sp hL hA hl (show n0 + 1 ≤ 128 by omega) _ _) ?_
      rintro ⟨r16, lf16, lp16, Pl16, Kd16, Me16, lc16⟩ ⟨h1, h2⟩
      have hu : SU (n0 + 1) ((lf16, lp16, Pl16, Kd16, Me16, upd Fi n0 (-1), upd Nx n0 (-1), upd Na n0 (-1), upd Fn n0 (-1), upd Am n0 0, upd Fd n0 (vp_nar .boolean 0), upd Ed n0 (vp_nar .boolean 0), lc16, nI (n0 + 1), Cf, Cs, cc) : TL) := ⟨⟨hI1.1, hI1.2.1, hI1.2.2.1, hI1.2.2.2.1, h2, hI1.2.2.2.2.2.1, hc⟩, n0 + 1, Nat.le_refl _, by omega, rfl⟩
      exact SP.ite (fun _ => SP.ok (bad _ hu fr)) (fun _ => SP.ok (good _ hu fr))
end CLB
