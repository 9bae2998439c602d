-- the class's look at items, unions, fields, records, objects
section CLA
variable {T Sd In Tn Tm : Nat → Int32} {L : Nat}
theorem itm_sp (hL : L ≤ 4096) (hA : AM Tm) {fl : FL} {d : Nat} (hfl : okL T Sd In Tn Tm L fl (d + 1)) (lf lp : Int32) (Pl Kd Me Fi Nx Na Fn Am Fd Ed : Nat → Int32) (lc : Int32) (Cf Cs : Nat → Int32) (cc : Int32) {s n : Nat} (hs : s < n) (hn : n ≤ 128) (hI : SI Fi Na Fn Am lc (nI n) cc) (h0 : Am s = nI 0) {w : Nat} (hw : w < 75) (v k : Int32) : SP (m_X4_lookAtItems fl lf lp T Sd In Tn Tm (nI L) Pl Kd Me Fi Nx Na Fn Am Fd Ed lc (nI n) Cf Cs cc (nI s) v (nI d) k w) (lbP n s Am) := by
  obtain ⟨hf, hna, hfn, hm, hl, hsc, hc⟩ := hI
  have h54 : ∀ (Kd : Nat → Int32) (v : Int32) (y : Nat), y < 75 → SP (m_X4_lookAtItems_54 fl T Sd In Tn Tm (nI L) lf lp Pl Kd Me Fi Nx Na Fn Am Fd Ed lc (nI n) Cf Cs cc (nI s) (nI d) v y) (lbP n s Am) := by
    intro Kd v y hy
    unfold m_X4_lookAtItems_54
    simp only [nI_1]
    refine SP.bind (swr_sp hl hy) ?_
    rintro ⟨Pl4, lc4⟩ h4
    refine SP.bind (hfl lf lp Pl4 Kd Me Fi Nx Na Fn Am Fd Ed lc4 (nI n) Cf Cs cc v 0 n hn rfl ⟨hf, hna, hfn, hm, h4, hsc, hc⟩) ?_
    rintro ⟨r5, lf5, lp5, Pl5, Kd5, Me5, Fi5, Nx5, Na5, Fn5, Am5, Fd5, Ed5, lc5, sc5, Cf5, Cs5, cc5⟩ ⟨h5, ⟨⟨gf, gn, gfn, gm, gl, -, gc⟩, n5, hn5, hn5', e5⟩, hfr⟩
    dsimp only at h5 gf gn gfn gm gl gc e5 hfr ⊢
    subst e5
    have hSI : SI Fi5 Na5 Fn5 Am5 lc5 (nI n5) cc5 := ⟨gf, gn, gfn, gm, gl, ⟨n5, hn5', rfl⟩, gc⟩
    refine SP.ite (fun _ => SP.ok ⟨Or.inl rfl, ⟨hSI, n5, hn5, hn5', rfl⟩, fun j hj _ => hfr j hj⟩) (fun hne => ?_)
    obtain ⟨s', hs', rfl⟩ := h5.resolve_left hne
    refine SP.bind (jn_sp gf (show s < 128 by omega) ((hfr s hs).trans h0) (k := s') (by omega) _) ?_
    rintro ⟨Fi7, Nx7, Am7⟩ ⟨h7, e7⟩
    dsimp only at h7 e7 ⊢
    subst e7
    refine SP.bind (wby_sp gl _) ?_
    rintro ⟨Pl8, lc8⟩ h8
    exact SP.ok ⟨Or.inr rfl, ⟨⟨h7, gn, gfn, gm.up (by omega), h8, ⟨n5, hn5', rfl⟩, gc⟩, n5, hn5, hn5', rfl⟩, fun j hj hne => (pk_un hne).trans (hfr j hj)⟩
  unfold m_X4_lookAtItems
  simp only [m_X4_refuse, Option.bind_some, true_or, if_true]
  exact SP.bind (mbr_sp hL hA hw _) (fun _ _ => SP.ite (fun _ => SP.ok ⟨Or.inl rfl, ⟨⟨hf, hna, hfn, hm, hl, hsc, hc⟩, n, Nat.le_refl _, hn, rfl⟩, fun _ _ _ => rfl⟩) (fun _ => SP.bind (stk_sp _ _) (fun _ _ => SP.ite (fun _ => h54 _ _ 17 (by decide)) (fun _ => h54 _ _ 18 (by decide)))))
theorem uni_sp (hA : AM Tm) {fl : FL} {d : Nat} (hfl : okL T Sd In Tn Tm L fl (d + 1)) (lf lp : Int32) (Pl Kd Me Fi Nx Na Fn Am Fd Ed : Nat → Int32) (lc : Int32) (Cf Cs : Nat → Int32) (cc : Int32) {s n : Nat} (hs : s < n) (hn : n ≤ 128) (hI : SI Fi Na Fn Am lc (nI n) cc) (h0 : Am s = nI 0) (v br : Int32) : SP (m_X4_lookAtUnion fl lf lp T Sd In Tn Tm (nI L) Pl Kd Me Fi Nx Na Fn Am Fd Ed lc (nI n) Cf Cs cc (nI s) v (nI d) br) (lbP n s Am) := by
  have h35 : ∀ v, SP (m_X4_lookAtUnion_35 fl T Sd In Tn Tm (nI L) lf lp Pl Kd Me Fi Nx Na Fn Am Fd Ed lc (nI n) Cf Cs cc v) (lbP n s Am) := by
    intro v
    unfold m_X4_lookAtUnion_35
    simp only [m_X4_refuse, Option.bind_some, true_or, if_true]
    exact SP.ok ⟨Or.inl rfl, ⟨hI, n, Nat.le_refl _, hn, rfl⟩, fun _ _ _ => rfl⟩
  have go : ∀ (k : Nat), k ≤ 16 → ∀ (fuel i m : Nat) (lf lp : Int32) (Pl Kd Me Fi Nx Na Fn Am' Fd Ed : Nat → Int32) (lc : Int32) (Cf Cs : Nat → Int32) (cc x6 x7 : Int32), n ≤ m → m ≤ 128 → SI Fi Na Fn Am' lc (nI m) cc → Am' s = nI i → (∀ j, j < n → j ≠ s → Am' j = Am j) → i ≤ k → k - i < fuel →
      SP (m_X4_lookAtUnion_68 fl T Sd In Tn Tm (nI L) fuel lf lp Pl Kd Me Fi Nx Na Fn Am' Fd Ed lc (nI m) Cf Cs cc (nI s) (nI d) (nI k) x6 x7 (nI i)) (lbP n s Am) := by
    intro k hk fuel
    induction fuel with
    | zero => intro i m lf lp Pl Kd Me Fi Nx Na Fn Am' Fd Ed lc Cf Cs cc x6 x7 _ _ _ _ _ _ hf; exact absurd hf (Nat.not_lt_zero _)
    | succ fuel ih =>
      intro i m lf lp Pl Kd Me Fi Nx Na Fn Am' Fd Ed lc Cf Cs cc x6 x7 hnm hm128 hI hi hfr0 hik hfu
      obtain ⟨hf, hna, hfn, hm, hl, hsc, hc⟩ := hI
      simp only [m_X4_lookAtUnion_68]
      refine SP.ite (fun _ => ?_) (fun hcc => ?_)
      · refine SP.bind (wby_sp hl _) ?_
        rintro ⟨Pl8, lc8⟩ h8
        exact SP.ok ⟨Or.inr rfl, ⟨⟨hf, hna, hfn, hm, h8, hsc, hc⟩, m, hnm, hm128, rfl⟩, hfr0⟩
      have hlt : i < k := Nat.lt_of_not_le (fun q => hcc (nI_le q (by omega)))
      have h91 : ∀ y, SP (m_X4_lookAtUnion_91 fl T Sd In Tn Tm (nI L) (m_X4_lookAtUnion_68 fl T Sd In Tn Tm (nI L) fuel) lf lp Pl Kd Me Fi Nx Na Fn Am' Fd Ed lc (nI m) Cf Cs cc (nI s) (nI d) (nI k) x6 x7 (nI i) y) (lbP n s Am) := by
        intro y
        unfold m_X4_lookAtUnion_91
        simp only [m_X4_refuse, Option.bind_some, true_or, if_true, nI_1]
        refine SP.bind (wby_sp hl _) ?_
        rintro ⟨Pl4, lc4⟩ h4
        refine SP.bind (hfl lf lp Pl4 Kd Me Fi Nx Na Fn Am' Fd Ed lc4 (nI m) Cf Cs cc x6 1 m hm128 rfl ⟨hf, hna, hfn, hm, h4, hsc, hc⟩) ?_
        rintro ⟨r5, lf5, lp5, Pl5, Kd5, Me5, Fi5, Nx5, Na5, Fn5, Am5, Fd5, Ed5, lc5, sc5, Cf5, Cs5, cc5⟩ ⟨h5, ⟨⟨gf, gn, gfn, gm, gl, -, gc⟩, n5, hn5, hn5', e5⟩, hfr⟩
        dsimp only at h5 gf gn gfn gm gl gc e5 hfr ⊢
        subst e5
        have fr5 : ∀ j, j < n → j ≠ s → Am5 j = Am j := fun j hj hne => (hfr j (by omega)).trans (hfr0 j hj hne)
        refine SP.ite (fun _ => SP.ok ⟨Or.inl rfl, ⟨⟨gf, gn, gfn, gm, gl, ⟨n5, hn5', rfl⟩, gc⟩, n5, by omega, hn5', rfl⟩, fr5⟩) (fun hne => ?_)
        obtain ⟨s', hs', rfl⟩ := h5.resolve_left hne
        refine SP.bind (hal_sp gf gm _ _) (fun _ _ => SP.ite (fun _ => ?_) (fun _ => SP.ok ⟨Or.inl rfl, ⟨⟨gf, gn, gfn, gm, gl, ⟨n5, hn5', rfl⟩, gc⟩, n5, by omega, hn5', rfl⟩, fr5⟩))
        refine SP.bind (jn_sp gf (show s < 128 by omega) ((hfr s (by omega)).trans hi) (k := s') (by omega) _) ?_
        rintro ⟨Fi7, Nx7, Am7⟩ ⟨h7, e7⟩
        dsimp only at h7 e7 ⊢
        subst e7
        refine SP.bind (nxt_sp _) (fun _ _ => ?_)
        exact ih (i + 1) n5 _ _ _ _ _ _ _ _ _ _ _ _ _ _ _ _ _ _ (by omega) hn5' ⟨h7, gn, gfn, gm.up (by omega), gl, ⟨n5, hn5', rfl⟩, gc⟩ pk_us (fun j hj hne => (pk_un hne).trans (fr5 j hj hne)) (by omega) (by omega)
      exact SP.ite (fun _ => h91 _) (fun _ => h91 _)
  unfold m_X4_lookAtUnion
  simp only [m_X4_refuse, Option.bind_some, true_or, if_true]
  refine SP.ite (fun _ => SP.bind (amo_sp hA _) (fun r2 h2 => SP.ite (fun _ => h35 _) (fun h1 => SP.ite (fun h16 => SP.bind (stk_sp _ _) (fun q7 _ => SP.bind (inn_sp _) (fun q8 _ => ?_))) (fun _ => h35 _)))) (fun _ => SP.ok ⟨Or.inl rfl, ⟨hI, n, Nat.le_refl _, hn, rfl⟩, fun _ _ _ => rfl⟩)
  obtain ⟨k, hk, rfl⟩ : ∃ k, k ≤ 16 ∧ r2 = nI k := by
    rcases h2 with e | ⟨k, hk, e⟩
    · subst e; exact absurd (by decide) h1
    · subst e
      exact ⟨k, Nat.le_of_not_lt (fun q => nI_ge (a := 16) q (by omega) h16), rfl⟩
  have := go k hk sr_fuel 0 n lf lp Pl q7 Me Fi Nx Na Fn Am Fd Ed lc Cf Cs cc q8 (-1) (Nat.le_refl _) hn hI h0 (fun _ _ _ => rfl) (Nat.zero_le _) (by unfold sr_fuel; omega)
  rw [nI_0] at this
  exact this
theorem fdl_sp (hL : L ≤ 4096) (hA : AM Tm) {fl : FL} {d : Nat} (hfl : okL T Sd In Tn Tm L fl (d + 1)) (lf lp : Int32) (Pl Kd Me Fi Nx Na Fn Am Fd Ed : Nat → Int32) (lc : Int32) (Cf Cs : Nat → Int32) (cc : Int32) {n : Nat} (hn : n ≤ 128) (hI : SI Fi Na Fn Am lc (nI n) cc) (p v : Int32) : SP (m_X4_lookAtField fl lf lp T Sd In Tn Tm (nI L) Pl Kd Me Fi Nx Na Fn Am Fd Ed lc (nI n) Cf Cs cc p v (nI d)) (lkP n Am) := by
  obtain ⟨hf, hna, hfn, hm, hl, hsc, hc⟩ := hI
  unfold m_X4_lookAtField
  simp only [nI_1]
  refine SP.bind (gdf_sp hL hA hl hf hm _ _) ?_
  rintro ⟨r1, lf1, lp1⟩ h1
  refine SP.ite (fun _ => SP.ok ⟨Or.inl rfl, ⟨⟨hf, hna, hfn, hm, hl, hsc, hc⟩, n, Nat.le_refl _, hn, rfl⟩, fun _ _ => rfl⟩) (fun _ => ?_)
  refine SP.bind (swr_sp hl (by decide)) ?_
  rintro ⟨Pl3, lc3⟩ h3
  refine SP.bind (mbr_sp hL hA (by decide) _) (fun r4 _ => SP.bind (wsd_sp hA h3 _) ?_)
  rintro ⟨r55, Pl55, lc55⟩ ⟨h51, h52⟩
  refine SP.bind (swr_sp h52 (by decide)) ?_
  rintro ⟨Pl6, lc6⟩ h6
  refine SP.bind (mbr_sp hL hA (by decide) _) (fun r7 _ => ?_)
  refine SP.bind (hfl lf1 lp1 Pl6 Kd Me Fi Nx Na Fn Am Fd Ed lc6 (nI n) Cf Cs cc r7 0 n hn rfl ⟨hf, hna, hfn, hm, h6, hsc, hc⟩) ?_
  rintro ⟨r5, lf5, lp5, Pl5, Kd5, Me5, Fi5, Nx5, Na5, Fn5, Am5, Fd5, Ed5, lc5, sc5, Cf5, Cs5, cc5⟩ ⟨h5, ⟨⟨gf, gn, gfn, gm, gl, -, gc⟩, n5, hn5, hn5', e5⟩, hfr⟩
  dsimp only at h5 gf gn gfn gm gl gc e5 hfr h51 ⊢
  subst e5
  have hSI : SI Fi5 Na5 Fn5 Am5 lc5 (nI n5) cc5 := ⟨gf, gn, gfn, gm, gl, ⟨n5, hn5', rfl⟩, gc⟩
  refine SP.ite (fun _ => SP.ok ⟨Or.inl rfl, ⟨hSI, n5, hn5, hn5', rfl⟩, hfr⟩) (fun hne => ?_)
  have h120 : ∀ (Pl : Nat → Int32) (lc x6 y0 : Int32), LC lc → SP (m_X4_lookAtField_120 fl T Sd In Tn Tm (nI L) lf5 lp5 Pl Kd5 Me5 Fi5 Nx5 Na5 Fn5 Am5 Fd5 Ed5 lc (nI n5) Cf5 Cs5 cc5 r5 x6 y0 r55 r5) (lkP n Am) := by
    intro Pl lc x6 y0 hl
    unfold m_X4_lookAtField_120
    refine SP.bind (stf_sp gfn _ _ h51) ?_
    rintro ⟨Fn12, Fd12⟩ h12
    refine SP.ite (fun _ => SP.ok ⟨h5, ⟨⟨gf, gn, h12, gm, hl, ⟨n5, hn5', rfl⟩, gc⟩, n5, hn5, hn5', rfl⟩, hfr⟩) (fun _ => ?_)
    refine SP.bind (cad_sp gc _ _) ?_
    rintro ⟨Cf14, Cs14, cc14⟩ h14
    exact SP.ok ⟨h5, ⟨⟨gf, gn, h12, gm, hl, ⟨n5, hn5', rfl⟩, h14⟩, n5, hn5, hn5', rfl⟩, hfr⟩
  refine SP.bind (wby_sp gl _) ?_
  rintro ⟨Pl10, lc10⟩ h10
  exact SP.bind (mbr_sp hL hA (by decide) _) (fun _ _ => SP.ite (fun _ => h120 _ _ _ _ h10) (fun _ => h120 _ _ _ _ h10))
theorem rec_sp (hL : L ≤ 4096) (hA : AM Tm) {fl : FL} {d : Nat} (hfl : okL T Sd In Tn Tm L fl (d + 1)) (lf lp : Int32) (Pl Kd Me Fi Nx Na Fn Am Fd Ed : Nat → Int32) (lc : Int32) (Cf Cs : Nat → Int32) (cc : Int32) {s n : Nat} (hs : s < n) (hn : n ≤ 128) (hI : SI Fi Na Fn Am lc (nI n) cc) (h0 : Am s = nI 0) (v : Int32) : SP (m_X4_lookAtRecord fl lf lp T Sd In Tn Tm (nI L) Pl Kd Me Fi Nx Na Fn Am Fd Ed lc (nI n) Cf Cs cc (nI s) v (nI d)) (lbP n s Am) := by
  have h56 : ∀ v, SP (m_X4_lookAtRecord_56 fl T Sd In Tn Tm (nI L) lf lp Pl Kd Me Fi Nx Na Fn Am Fd Ed lc (nI n) Cf Cs cc v) (lbP n s Am) := by
    intro v
    unfold m_X4_lookAtRecord_56
    simp only [m_X4_refuse, Option.bind_some, true_or, if_true]
    exact SP.ok ⟨Or.inl rfl, ⟨hI, n, Nat.le_refl _, hn, rfl⟩, fun _ _ _ => rfl⟩
  have go : ∀ (x5 : Int32), (x5 = -1 ∨ ∃ k, k ≤ 32 ∧ x5 = nI k) → ∀ (fuel i m : Nat) (lf lp : Int32) (Pl Kd Me Fi Nx Na Fn Am' Fd Ed : Nat → Int32) (lc : Int32) (Cf Cs : Nat → Int32) (cc x6 x7 : Int32), n ≤ m → m ≤ 128 → SI Fi Na Fn Am' lc (nI m) cc → Am' s = nI i → (∀ j, j < n → j ≠ s → Am' j = Am j) → i ≤ 32 → 33 - i ≤ fuel →
      SP (m_X4_lookAtRecord_91 fl T Sd In Tn Tm (nI L) fuel lf lp Pl Kd Me Fi Nx Na Fn Am' Fd Ed lc (nI m) Cf Cs cc (nI s) (nI d) x5 x6 x7 (nI i)) (lbP n s Am) := by
    intro x5 hx5 fuel
    induction fuel with
    | zero => intro i m lf lp Pl Kd Me Fi Nx Na Fn Am' Fd Ed lc Cf Cs cc x6 x7 _ _ _ _ _ hi hf; exact absurd hf (by omega)
    | succ fuel ih =>
      intro i m lf lp Pl Kd Me Fi Nx Na Fn Am' Fd Ed lc Cf Cs cc x6 x7 hnm hm128 hI hi hfr0 hik hfu
      obtain ⟨hf, hna, hfn, hm, hl, hsc, hc⟩ := hI
      simp only [m_X4_lookAtRecord_91]
      refine SP.ite (fun _ => ?_) (fun hcc => ?_)
      · refine SP.bind (swr_sp hl (by decide)) ?_
        rintro ⟨Pl8, lc8⟩ h8
        exact SP.ok ⟨Or.inr rfl, ⟨⟨hf, hna, hfn, hm, h8, hsc, hc⟩, m, hnm, hm128, rfl⟩, hfr0⟩
      have hlt : i < 32 := lt_of_neg (by omega) hx5 (by omega) hcc
      have h112 : ∀ (Pl : Nat → Int32) (lc : Int32), LC lc → SP (m_X4_lookAtRecord_112 fl T Sd In Tn Tm (nI L) (m_X4_lookAtRecord_91 fl T Sd In Tn Tm (nI L) fuel) lf lp Pl Kd Me Fi Nx Na Fn Am' Fd Ed lc (nI m) Cf Cs cc (nI s) (nI d) x5 x6 x7 (nI i)) (lbP n s Am) := by
        intro Pl lc hl
        unfold m_X4_lookAtRecord_112
        simp only [nI_1]
        refine SP.bind (fdl_sp hL hA hfl lf lp Pl Kd Me Fi Nx Na Fn Am' Fd Ed lc Cf Cs cc hm128 ⟨hf, hna, hfn, hm, hl, hsc, hc⟩ _ _) ?_
        rintro ⟨r5, lf5, lp5, Pl5, Kd5, Me5, Fi5, Nx5, Na5, Fn5, Am5, Fd5, Ed5, lc5, sc5, Cf5, Cs5, cc5⟩ ⟨h5, ⟨⟨gf, gn, gfn, gm, gl, -, gc⟩, n5, hn5, hn5', e5⟩, hfr⟩
        dsimp only at h5 gf gn gfn gm gl gc e5 hfr ⊢
        subst e5
        have fr5 : ∀ j, j < n → j ≠ s → Am5 j = Am j := fun j hj hne => (hfr j (by omega)).trans (hfr0 j hj hne)
        refine SP.ite (fun _ => SP.ok ⟨Or.inl rfl, ⟨⟨gf, gn, gfn, gm, gl, ⟨n5, hn5', rfl⟩, gc⟩, n5, by omega, hn5', rfl⟩, fr5⟩) (fun hne => ?_)
        obtain ⟨s', hs', rfl⟩ := h5.resolve_left hne
        refine SP.bind (jn_sp gf (show s < 128 by omega) ((hfr s (by omega)).trans hi) (k := s') (by omega) _) ?_
        rintro ⟨Fi7, Nx7, Am7⟩ ⟨h7, e7⟩
        dsimp only at h7 e7 ⊢
        subst e7
        refine SP.bind (nxt_sp _) (fun _ _ => ?_)
        exact ih (i + 1) n5 _ _ _ _ _ _ _ _ _ _ _ _ _ _ _ _ _ _ (by omega) hn5' ⟨h7, gn, gfn, gm.up (by omega), gl, ⟨n5, hn5', rfl⟩, gc⟩ pk_us (fun j hj hne => (pk_un hne).trans (fr5 j hj hne)) (by omega) (by omega)
      refine SP.ite (fun _ => h112 _ _ hl) (fun _ => SP.bind (wby_sp hl _) ?_)
      rintro ⟨Pl18, lc18⟩ h18
      exact h112 _ _ h18
  unfold m_X4_lookAtRecord
  simp only [m_X4_refuse, Option.bind_some, true_or, if_true]
  refine SP.bind (mbr_sp hL hA (by decide) _) (fun r1 _ => SP.ite (fun _ => SP.ok ⟨Or.inl rfl, ⟨hI, n, Nat.le_refl _, hn, rfl⟩, fun _ _ _ => rfl⟩) (fun _ => SP.bind (amo_sp hA _) (fun r3 h3 => SP.bind (isl_sp hL _) (fun _ _ => SP.ite (fun _ => h56 _) (fun _ => SP.ite (fun h32 => ?_) (fun _ => h56 _))))))
  obtain ⟨hf, hna, hfn, hm, hl, hsc, hc⟩ := hI
  refine SP.bind (swr_sp hl (by decide)) ?_
  rintro ⟨Pl9, lc9⟩ h9
  refine SP.bind (inn_sp _) (fun r10 _ => ?_)
  have hx : r3 = -1 ∨ ∃ k, k ≤ 32 ∧ r3 = nI k := by
    rcases h3 with e | ⟨k, hk, e⟩
    · exact Or.inl e
    · subst e
      exact Or.inr ⟨k, Nat.le_of_not_lt (fun q => nI_ge (a := 32) q (by omega) h32), rfl⟩
  have := go r3 hx sr_fuel 0 n lf lp Pl9 Kd Me Fi Nx Na Fn Am Fd Ed lc9 Cf Cs cc r10 (-1) (Nat.le_refl _) hn ⟨hf, hna, hfn, hm, h9, hsc, hc⟩ h0 (fun _ _ _ => rfl) (by omega) (by unfold sr_fuel; omega)
  rw [nI_0] at this
  exact this
theorem SP.bb {r : Int32} {α : Type} {x : Option α} {P : α → Prop} (h : b01 r) (k : SP x P) : SP (if r = 0 ∨ r = 1 then x else none) P := by
  rw [if_pos (show r = 0 ∨ r = 1 from h)]; exact k
end CLA
