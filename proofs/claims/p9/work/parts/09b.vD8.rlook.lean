-- the reference's look at values
section RLOOK2
variable {T : Nat → Int32} {L : Nat} {Sd In Nx Am K F S I X Lt : Nat → Int32} {N : Nat → Int64} {l : Nat}
theorem r_wrd (hl : l ≤ 4200) {fl pp : Int32} {s n p q : Nat} {So Nm Wi Kd Ma Fa kS kN kD kX Fi : Nat → Int32} {k sh kc : Nat} {pl : List Nat} {D : List Nat → Option Nat} {fi : List (Nat × Nat × Option Nat)} {G : Nat → Nod} (hI : RI T L Sd In Nx Am K F N S I X Lt l So Nm Wi Kd (nI sh) (nI k) (nI kc) kS kN kD kX (nI fi.length) Fi (k, sh, kc, pl, D, fi, G)) (hs : s + 1 = k) (hG : G s = mkN 12 s 0 0 [] []) (hD : ∀ w d, D w = some d → d < s) (hm : ∀ i, i < k → n_me (G i) = s → i = s) (hv : VV T L Sd In Nx Am K F N S I X Lt l n p q) (hc : cb T L p = 34) :
    (∃ e, lwd T L s p (k, sh, kc, pl, D, fi, G) = .inl (3, p) ∧ kw6 (ts T L p) = -1 ∧ m_X9_word K N S Lt (nI n) = some (-1) ∧ m_X9_defined N S Lt (nI sh) Nm (nI n) = some (-1) ∧ e = 0) ∨ (∃ st' x, lwd T L s p (k, sh, kc, pl, D, fi, G) = .inr st' ∧ x < 140 ∧ (m_X9_word K N S Lt (nI n) = some (nI x) ∨ (m_X9_word K N S Lt (nI n) = some (-1) ∧ m_X9_defined N S Lt (nI sh) Nm (nI n) = some (nI x))) ∧ ∀ fl pp : Int32, PO T L Sd In Nx Am K F N S I X Lt l s kc kN kD (nI x) (fl, pp, nI sh, nI k, So, Nm, Wi, Kd, Ma, Fa, nI kc, kS, kN, kD, kX, nI fi.length, Fi) st') := by
  have hb := hv.base
  obtain ⟨s0, y1, y2, y3, y4, y5, y6⟩ := hv.str hc
  obtain ⟨i1, i2, i3, i4, i5, i6, i7, i8, i9, i10, i11, i12, i13, i14⟩ := hI
  simp only [lwd, y2, word_eq hl hb.2.2.1 (hv.kk.1.mpr hc) y4 y6, dfn_r hl i11 i2 (show sh ≤ 140 by omega) hb.2.2.1 y4 y6]
  have fin : ∀ y : Nod, n_ch (G s) = [] → n_kl y = [] → ¬ (6 ≤ n_kd y ∧ n_kd y ≤ 11) → RLs N S Lt l So Wi Kd kS kN kX sh kc k (upG G s y) → ∀ fl pp : Int32, PO T L Sd In Nx Am K F N S I X Lt l s kc kN kD (nI (n_sg y)) (fl, pp, nI sh, nI k, So, Nm, Wi, Kd, Ma, Fa, nI kc, kS, kN, kD, kX, nI fi.length, Fi) (k, sh, kc, pl ++ qt s0, D, fi, upG G s y) := by
    intro y h1 h2 h3 h4 fl pp
    refine ⟨⟨rfl, i2, i3, rfl, i5, rfl, i7, rfl, i9, i10, i11.cg (fun w i q => ?_), h4, SGI.one i13 (fun i a _ _ ha => by rw [h2] at ha; exact absurd ha List.not_mem_nil) (fun q1 q2 => absurd ⟨q1, q2⟩ h3), i14.fr h1⟩, ?_, fun _ _ => ⟨rfl, rfl⟩⟩
    · have := hD w i q
      rw [upG_n (by omega)]
    · show nI (n_sg y) = nI (n_sg (upG G s y s))
      rw [upG_s]
  rcases kw6_of s0 with ⟨k6, k1, k2, k3⟩ | ⟨k1, k2⟩
  · rw [if_neg (show ¬ kw6 s0 = -1 by rw [k3]; exact nI_m1 (by omega)), k3, nI_clamp (by omega)]
    refine Or.inr ⟨_, k6, rfl, by omega, Or.inl rfl, ?_⟩
    exact fin _ (by rw [hG]; rfl) rfl (show ¬ (6 ≤ k6 ∧ k6 ≤ 11) by omega) (i12.six i5 (by omega) hG k1 hm)
  · rw [if_pos k1, k1]
    cases hd : D s0 with
    | none => exact Or.inl ⟨0, rfl, rfl, rfl, rfl, rfl⟩
    | some d =>
      have hds := hD s0 d hd
      have hsg := i11.2 s0 d hd
      refine Or.inr ⟨_, n_sg (G d), rfl, by omega, Or.inr ⟨rfl, rfl⟩, ?_⟩
      exact fin _ (by rw [hG]; rfl) rfl (show ¬ (6 ≤ 12 ∧ 12 ≤ 11) by decide) (i12.mea i5 (by omega) hds hG hm)
theorem r_obj (hL : L ≤ 4096) (hl : l ≤ 4200) {f : FS} {g : Nat → Bool → LSt → LRs} {d : Nat} (hf : okRe T L Sd In Nx Am K F N S I X Lt l f (d + 1) g) (hg : okSp T L Sd In Nx Am K F N S I X Lt l g) {fl pp : Int32} {s n p q : Nat} {So Nm Wi Kd Ma Fa kS kN kD kX Fi : Nat → Int32} {k sh kc : Nat} {pl : List Nat} {D : List Nat → Option Nat} {fi : List (Nat × Nat × Option Nat)} {G : Nat → Nod} (hI : RI T L Sd In Nx Am K F N S I X Lt l So Nm Wi Kd (nI sh) (nI k) (nI kc) kS kN kD kX (nI fi.length) Fi (k, sh, kc, pl, D, fi, G)) (hs : s + 1 = k) (hsh : sh < 6 + k) (hG : G s = mkN 12 s 0 0 [] []) (hD : ∀ w d, D w = some d → d < s) (hm : ∀ i, i < k → n_me (G i) = s → i = s) (hw : WFs (k, sh, kc, pl, D, fi, G)) (hv : VV T L Sd In Nx Am K F N S I X Lt l n p q) (hc : cb T L p = 123) :
    RX (m_X9_schemaOf_151 f K F N S I X Lt fl pp (nI sh) (nI k) So Nm Wi Kd Ma Fa (nI kc) kS kN kD kX (nI fi.length) Fi (nI n) (nI d) 1) (PO T L Sd In Nx Am K F N S I X Lt l s kc kN kD) (lob T L g s p (k, sh, kc, pl, D, fi, G)) := by
  have hb := hv.base
  have i5 := hI.2.2.2.2.1
  unfold m_X9_schemaOf_151
  have em := mbr_r hl hv hc (w := 48) (by decide) hL
  rw [lit_r.1] at em
  simp only [lob, bd_go (show n < 4200 by omega) (by decide), bd_gc (show n < 4200 by omega) (by decide), nI_clamp (show n < 2 ^ 31 by omega), hb.2.2.2, m_X9_schemaOf_191]
  rw [nd1, trO]
  have bad : ∀ x4 : Int32, RX (m_X9_schemaOf_192 f K F N S I X Lt fl pp (nI sh) (nI k) So Nm Wi Kd Ma Fa (nI kc) kS kN kD kX (nI fi.length) Fi (nI n) (nI d) x4 0) (PO T L Sd In Nx Am K F N S I X Lt l s kc kN kD) (.inl (7, p)) := by
    intro x4
    unfold m_X9_schemaOf_192
    rw [bd_go (show n < 4200 by omega) (by decide), nI_clamp (show n < 2 ^ 31 by omega), hb.2.2.2, nd0, trE]
    exact Or.inr ⟨_, rfl⟩
  rcases em with ⟨e, em⟩ | ⟨v, c, b, e, em, z1⟩
  · rw [e, em]
    simp only [Option.bind_some, if_pos (show (-1 : Int32) < 0 by decide)]
    exact bad _
  rw [e, em]
  have hzb := z1.base
  have hzk := z1.kk.1
  simp only [Option.bind_some, if_neg (nI_pos (show c < 2 ^ 31 by omega)), bd_go (show c < 4200 by omega) (by decide), bd_gc (show c < 4200 by omega) (by decide), nI_clamp (show c < 2 ^ 31 by omega)]
  by_cases c34 : cb T L v = 34
  rotate_left
  · rw [if_neg (fun z => c34 (hzk.mp z)), if_neg c34]
    exact bad _
  have hzk2 := hzk.mpr c34
  rw [if_pos hzk2, if_pos c34]
  obtain ⟨s0, y1, y2, y3, y4, y5, y6⟩ := z1.str c34
  have isq : ∀ {w : Nat}, w < 75 → m_X9_is K N S Lt (nI c) w = some (if s0 = litN w then 1 else 0) := fun hw => isr_eq hl hzb.2.2.1 hzk2 y4 y6 hw
  unfold m_X9_schemaOf_192
  rw [bd_go (show n < 4200 by omega) (by decide), nI_clamp (show n < 2 ^ 31 by omega), hb.2.2.2, nd1, trO]
  have hwd := r_wrd hl (fl := fl) (pp := pp) (Ma := Ma) (Fa := Fa) hI hs hG hD hm z1 c34
  have hwq := word_eq hl hzb.2.2.1 hzk2 y4 y6
  have kl := kw_lit
  have kq : ∀ k', k' ≤ 10 → ∀ j, j ≤ 10 → kw s0 = nI k' → ((kw s0 = nI j) ↔ k' = j) := fun k' h1 j h2 h3 => by rw [h3]; exact nI_eq (by omega) (by omega)
  rw [y2]
  rcases kw6_of s0 with ⟨k6, k1, k2, k3⟩ | ⟨k1, k2⟩
  · have h67 : ¬ (kw s0 = 6 ∨ kw s0 = 7) := fun z => by
      rcases z with z | z
      · have := (kq k6 (by omega) 6 (by decide) k2).mp z; omega
      · have := (kq k6 (by omega) 7 (by decide) k2).mp z; omega
    have h810 : ¬ (kw s0 = 8 ∨ kw s0 = 9 ∨ kw s0 = 10) := fun z => by
      rcases z with z | z | z
      · have := (kq k6 (by omega) 8 (by decide) k2).mp z; omega
      · have := (kq k6 (by omega) 9 (by decide) k2).mp z; omega
      · have := (kq k6 (by omega) 10 (by decide) k2).mp z; omega
    rw [if_neg h67, if_neg h810]
    rcases hwd with ⟨e', w1, w2, w3, w4, _⟩ | ⟨st', x, w1, w2, w3, w4⟩
    · rw [y2, k3] at w2
      exact absurd w2 (nI_m1 (by omega))
    · rw [w1]
      have hx : m_X9_word K N S Lt (nI c) = some (nI x) := by
        rcases w3 with z | z
        · exact z
        · have := z.1
          rw [hwq, k3] at this
          exact absurd (Option.some.inj this) (nI_m1 (by omega))
      rw [hx]
      simp only [Option.bind_some]
      rw [if_neg (nI_pos (show x < 2 ^ 31 by omega))]
      exact Or.inr ⟨_, _, rfl, w4 _ _⟩
  rw [hwq, k1, isq (w := 49) (by decide), isq (w := 50) (by decide), isq (w := 53) (by decide), isq (w := 54) (by decide), isq (w := 55) (by decide)]
  simp only [Option.bind_some, if_pos (show (-1 : Int32) < 0 by decide), lit_r.2.2.2.2.2.2.2.2.1, lit_r.2.2.2.2.2.2.2.2.2.1, lit_r.2.2.2.2.2.2.2.2.2.2.1, lit_r.2.2.2.2.2.2.2.2.2.2.2.1, lit_r.2.2.2.2.2.2.2.2.2.2.2.2]
  have grp : ∀ k', (k' = 6 ∨ k' = 7) → s0 = litN (3 + k') → RX (m_X9_schemaOf_241 f K F N S I X Lt fl pp (nI sh) (nI k) So Nm Wi Kd Ma Fa (nI kc) kS kN kD kX (nI fi.length) Fi (nI n) (nI d) (nI c)) (PO T L Sd In Nx Am K F N S I X Lt l s kc kN kD) (lit T L g s p k' (k, sh, kc, pl, D, fi, G)) := by
    intro k' hk' es
    have em2 := mbr_r hl hv hc (w := if k' = 6 then 51 else 52) (by split <;> decide) hL
    have el : litN (if k' = 6 then 51 else 52) = litN (if k' = 6 then 16 else 19) := by rcases hk' with z | z <;> (subst z; decide +kernel)
    rw [el] at em2
    have i281 : ∀ (x5 : Int32), (x5 = 0 ↔ k' = 7) → RX (m_X9_schemaOf_265 f K F N S I X Lt fl pp (nI sh) (nI k) So Nm Wi Kd Ma Fa (nI kc) kS kN kD kX (nI fi.length) Fi (nI n) (nI d) x5 (if k' = 6 then 51 else 52) (nI n)) (PO T L Sd In Nx Am K F N S I X Lt l s kc kN kD) (lit T L g s p k' (k, sh, kc, pl, D, fi, G)) := by
      intro x5 hx5
      simp only [m_X9_schemaOf_265, m_X9_schemaOf_281, lit, bd_go (show n < 4200 by omega) (by decide), bd_gc (show n < 4200 by omega) (by decide), nI_clamp (show n < 2 ^ 31 by omega), hb.2.2.2]
      rcases em2 with ⟨e2, em2⟩ | ⟨v2, c2, b2, e2, em2, q1⟩
      · rw [e2, em2]
        simp only [Option.bind_some, if_pos (show (-1 : Int32) < 0 by decide)]
        rw [nd0, trE]
        exact Or.inr ⟨_, rfl⟩
      · rw [e2, em2]
        have hqb := q1.base
        simp only [Option.bind_some, if_neg (nI_pos (show c2 < 2 ^ 31 by omega))]
        rw [nd1, trO]
        have hit := r_itm hf hg fl pp (n := n) (p := p) (q := q) (Ma := Ma) (Fa := Fa) hk' hI hs hsh hG hD hm hw q1
        by_cases k7 : k' = 7
        · rw [if_pos (hx5.mpr k7)]
          subst k7
          exact hit
        · have k66 : k' = 6 := by omega
          rw [if_neg (fun z => k7 (hx5.mp z))]
          subst k66
          exact hit
    unfold m_X9_schemaOf_241
    rw [isq (w := 49) (by decide), lit_r.2.2.2.2.2.2.2.2.1]
    simp only [Option.bind_some]
    by_cases k66 : k' = 6
    · rw [if_pos (show s0 = litN 9 by rw [es, k66]), I10]
      have := i281 1 ⟨fun z => absurd z (by decide), fun z => by omega⟩
      rw [if_pos k66] at this
      exact this
    · have k7 : k' = 7 := by omega
      have hne : ¬ s0 = litN 9 := by rw [es, k7]; decide
      rw [if_neg hne, I00]
      have := i281 0 ⟨fun _ => k7, fun _ => rfl⟩
      rw [if_neg k66] at this
      exact this
  have nmd : ∀ k', (k' = 8 ∨ k' = 9 ∨ k' = 10) → s0 = litN (3 + k') → RX (m_X9_schemaOf_372 f K F N S I X Lt fl pp (nI sh) (nI k) So Nm Wi Kd Ma Fa (nI kc) kS kN kD kX (nI fi.length) Fi (nI n) (nI d) (nI c)) (PO T L Sd In Nx Am K F N S I X Lt l s kc kN kD) (ldf T L g s p k' (k, sh, kc, pl, D, fi, G)) := by
    intro k' hk' es
    have hn := r_nam hL hl hf hg (fl := fl) (pp := pp) (Ma := Ma) (Fa := Fa) hk' hI hs hsh hG hD hm hw hv hc z1 c34 (by rw [y2]; exact es)
    unfold m_X9_schemaOf_372
    cases hr : ldf T L g s p k' (k, sh, kc, pl, D, fi, G) with
    | inl e =>
      rw [hr] at hn
      rcases hn with hu | ⟨u, hu⟩
      · rw [hu, trN]; exact RX.no
      · rw [hu, trE]
        obtain ⟨u1, u2, u3, u4, u5, u6, u7, u8, u9, u10, u11, u12, u13, u14, u15⟩ := u
        exact Or.inr ⟨_, rfl⟩
    | inr st' =>
      rw [hr] at hn
      rcases hn with hu | ⟨v', u, hu, hP⟩
      · rw [hu, trN]; exact RX.no
      · rw [hu, trO]
        obtain ⟨u1, u2, u3, u4, u5, u6, u7, u8, u9, u10, u11, u12, u13, u14, u15, u16, u17⟩ := u
        exact Or.inr ⟨_, _, rfl, hP⟩
  by_cases e9 : s0 = litN 9
  · have hk : kw s0 = nI 6 := by rw [e9]; exact kl.2.2.2.2.2.2.1
    rw [if_pos e9, I10, if_pos (show kw s0 = 6 ∨ kw s0 = 7 from Or.inl hk), hk, nI_clamp (by decide)]
    exact grp 6 (Or.inl rfl) e9
  rw [if_neg e9, I00]
  by_cases e10 : s0 = litN 10
  · have hk : kw s0 = nI 7 := by rw [e10]; exact kl.2.2.2.2.2.2.2.1
    rw [if_pos e10, I10, if_pos (show kw s0 = 6 ∨ kw s0 = 7 from Or.inr hk), hk, nI_clamp (by decide)]
    exact grp 7 (Or.inr rfl) e10
  rw [if_neg e10, I00]
  have h67 : ¬ (kw s0 = 6 ∨ kw s0 = 7) := fun z => by
    rcases z with z | z
    · exact e9 (kw_6 s0 (k := 6) (by decide) z)
    · exact e10 (kw_6 s0 (k := 7) (by decide) z)
  rw [if_neg h67]
  by_cases e11 : s0 = litN 11
  · have hk : kw s0 = nI 8 := by rw [e11]; exact kl.2.2.2.2.2.2.2.2.1
    rw [if_pos e11, I10, if_pos (show kw s0 = 8 ∨ kw s0 = 9 ∨ kw s0 = 10 from Or.inl hk), hk, nI_clamp (by decide)]
    exact nmd 8 (Or.inl rfl) e11
  rw [if_neg e11, I00]
  by_cases e12 : s0 = litN 12
  · have hk : kw s0 = nI 9 := by rw [e12]; exact kl.2.2.2.2.2.2.2.2.2.1
    rw [if_pos e12, I10, if_pos (show kw s0 = 8 ∨ kw s0 = 9 ∨ kw s0 = 10 from Or.inr (Or.inl hk)), hk, nI_clamp (by decide)]
    exact nmd 9 (Or.inr (Or.inl rfl)) e12
  rw [if_neg e12, I00]
  by_cases e13 : s0 = litN 13
  · have hk : kw s0 = nI 10 := by rw [e13]; exact kl.2.2.2.2.2.2.2.2.2.2
    rw [if_pos e13, I10, if_pos (show kw s0 = 8 ∨ kw s0 = 9 ∨ kw s0 = 10 from Or.inr (Or.inr hk)), hk, nI_clamp (by decide)]
    exact nmd 10 (Or.inr (Or.inr rfl)) e13
  rw [if_neg e13, I00]
  have h810 : ¬ (kw s0 = 8 ∨ kw s0 = 9 ∨ kw s0 = 10) := fun z => by
    rcases z with z | z | z
    · exact e11 (kw_6 s0 (k := 8) (by decide) z)
    · exact e12 (kw_6 s0 (k := 9) (by decide) z)
    · exact e13 (kw_6 s0 (k := 10) (by decide) z)
  rw [if_neg h810]
  rcases hwd with ⟨e', w1, w2, w3, w4, _⟩ | ⟨st', x, w1, w2, w3, w4⟩
  · rw [w1, w4]
    simp only [Option.bind_some, if_pos (show (-1 : Int32) < 0 by decide), m_X9_schemaOf_400, bd_go (show c < 4200 by omega) (by decide), bd_gc (show c < 4200 by omega) (by decide), nI_clamp (show c < 2 ^ 31 by omega), hzb.2.2.2]
    rw [nd0, trE]
    exact Or.inr ⟨_, rfl⟩
  · have hx : m_X9_defined N S Lt (nI sh) Nm (nI c) = some (nI x) := by
      rcases w3 with z | z
      · rw [hwq, k1] at z
        exact absurd (Option.some.inj z).symm (nI_m1 (by omega))
      · exact z.2
    rw [w1, hx]
    simp only [Option.bind_some, if_neg (nI_pos (show x < 2 ^ 31 by omega)), m_X9_schemaOf_400, bd_go (show c < 4200 by omega) (by decide), bd_gc (show c < 4200 by omega) (by decide)]
    rw [nd1, trO]
    exact Or.inr ⟨_, _, rfl, w4 _ _⟩
theorem r_look (hL : L ≤ 4096) (hl : l ≤ 4200) : ∀ (j M d : Nat), j + d = 16 → j < M → okRe T L Sd In Nx Am K F N S I X Lt l (m_X9_schemaOf M) d (look T L j) := by
  intro j
  induction j with
  | zero =>
    intro M d hd hM fl pp So Nm Wi Kd Ma Fa kS kN kD kX Fi shI lkI kcI dnI p br st n q hI hw hv
    obtain ⟨M, rfl⟩ : ∃ z, M = z + 1 := ⟨M - 1, by omega⟩
    obtain ⟨k, sh, kc, pl, D, fi, G⟩ := st
    have hb := hv.base
    have i4 := hI.2.2.2.1
    have i5 := hI.2.2.2.2.1
    have ed : d = 16 := by omega
    subst ed
    rw [i4]
    simp only [m_X9_schemaOf, m_X9_schemaOf_16, m_X9_schemaOf_49, look, bd_go (show n < 4200 by omega) (by decide), bd_gc (show n < 4200 by omega) (by decide), nI_clamp (show n < 2 ^ 31 by omega), hb.2.2.2]
    by_cases c : 128 ≤ k
    · rw [if_pos c, if_pos (show (128 : Int32) ≤ nI k from nI_le (a := 128) c (by omega)), nd0, trE]
      exact Or.inr ⟨_, rfl⟩
    · rw [if_neg c, if_neg (show ¬ (128 : Int32) ≤ nI k from nI_ge (b := 128) (by omega) (by decide)), nd1, trO, if_pos (show (16 : Int32) ≤ nI 16 by decide), nd0, trE]
      exact Or.inr ⟨_, rfl⟩
  | succ j ih =>
    intro M d hd hM fl pp So Nm Wi Kd Ma Fa kS kN kD kX Fi shI lkI kcI dnI p br st n q hI hw hv
    obtain ⟨M, rfl⟩ : ∃ z, M = z + 1 := ⟨M - 1, by omega⟩
    obtain ⟨k, sh, kc, pl, D, fi, G⟩ := st
    obtain ⟨i1, i2, i3, i4, i5, i6, i7, i8, i9, i10, i11, i12, i13, i14⟩ := hI
    subst i1
    subst i4
    subst i6
    subst i8
    have hb := hv.base
    have hf := ih M (d + 1) (by omega) (by omega)
    have hg := look_p (T := T) (Sd := Sd) (In := In) (Nx := Nx) (Am := Am) (K := K) (F := F) (N := N) (S := S) (I := I) (X := X) (Lt := Lt) hL hl j
    simp only [m_X9_schemaOf, m_X9_schemaOf_16, m_X9_schemaOf_49, look, bd_go (show n < 4200 by omega) (by decide), bd_gc (show n < 4200 by omega) (by decide), nI_clamp (show n < 2 ^ 31 by omega), hb.2.2.2, nI_1]
    by_cases c : 128 ≤ k
    · rw [if_pos c, if_pos (show (128 : Int32) ≤ nI k from nI_le (a := 128) c (by omega)), nd0, trE]
      exact Or.inr ⟨_, rfl⟩
    rw [if_neg c, if_neg (show ¬ (128 : Int32) ≤ nI k from nI_ge (b := 128) (by omega) (by decide)), nd1, trO, if_neg (show ¬ (16 : Int32) ≤ nI d from nI_ge (b := 16) (by omega) (by decide)), nd1, trO]
    have hD : ∀ w d0, D w = some d0 → d0 < k := fun w d0 h => (hw.1 w d0 h).1
    have hI1 : RI T L Sd In Nx Am K F N S I X Lt l So Nm Wi Kd (nI sh) (nI (k + 1)) (nI kc) kS kN kD kX (nI fi.length) Fi (k + 1, sh, kc, pl, D, fi, upG G k (mkN 12 k 0 0 [] [])) := by
      refine ⟨rfl, i2, by omega, rfl, by omega, rfl, i7, rfl, i9, i10, i11.cg (fun w i q => ?_), i12.opn, i13.opn, i14.cg (fun _ _ => rfl) (fun _ _ => rfl) (Nat.le_refl _) (by omega) (fun s' hs' _ => ?_)⟩
      · have := hD w i q
        rw [upG_n (by omega)]
      · rw [upG_n (by omega)]
        exact ⟨rfl, rfl, same_ch _⟩
    have hm : ∀ i, i < k + 1 → n_me (upG G k (mkN 12 k 0 0 [] []) i) = k → i = k := fun i hi hq => by
      by_cases e : i = k
      · exact e
      · rw [upG_n e] at hq
        have := (i12 i (by omega)).1
        omega
    have hw1 : WFs (k + 1, sh, kc, pl, D, fi, upG G k (mkN 12 k 0 0 [] [])) := by
      refine ⟨fun w d0 hdd => ?_, by have := hw.2; omega⟩
      obtain ⟨a, b⟩ := hw.1 w d0 hdd
      rw [upG_n (by omega)]
      exact ⟨by omega, b⟩
    obtain ⟨kk2, kk1, kk0, kk3⟩ := hv.kk
    by_cases c1 : cb T L p = 34
    · rw [if_pos (kk2.mpr c1), if_pos c1]
      rcases r_wrd hl (fl := fl) (pp := pp) (Ma := Ma) (Fa := Fa) hI1 rfl upG_s hD hm hv c1 with ⟨e', w1, w2, w3, w4, _⟩ | ⟨st', x, w1, w2, w3, w4⟩
      · rw [w1, w3, w4]
        simp only [Option.bind_some, if_pos (show (-1 : Int32) < 0 by decide), m_X9_schemaOf_92, m_X9_schemaOf_105, bd_go (show n < 4200 by omega) (by decide), bd_gc (show n < 4200 by omega) (by decide), nI_clamp (show n < 2 ^ 31 by omega), hb.2.2.2]
        rw [nd0, trE]
        exact Or.inr ⟨_, rfl⟩
      · rw [w1]
        have fin : ∀ fl pp : Int32, RX (m_X9_schemaOf_92 (m_X9_schemaOf M) K F N S I X Lt fl pp (nI sh) (nI (k + 1)) So Nm Wi Kd Ma Fa (nI kc) kS kN kD kX (nI fi.length) Fi (nI n) (nI x)) (PO T L Sd In Nx Am K F N S I X Lt l k kc kN kD) (.inr st') := fun fl pp => by
          simp only [m_X9_schemaOf_92, m_X9_schemaOf_105, if_neg (nI_pos (show x < 2 ^ 31 by omega)), bd_go (show n < 4200 by omega) (by decide), bd_gc (show n < 4200 by omega) (by decide)]
          rw [nd1, trO]
          exact Or.inr ⟨_, _, rfl, w4 _ _⟩
        rcases w3 with z | ⟨z1, z2⟩
        · rw [z]
          simp only [Option.bind_some, if_neg (nI_pos (show x < 2 ^ 31 by omega))]
          exact fin _ _
        · rw [z1, z2]
          simp only [Option.bind_some, if_pos (show (-1 : Int32) < 0 by decide)]
          exact fin _ _
    rw [if_neg (fun z => c1 (kk2.mp z)), if_neg c1]
    by_cases c2 : cb T L p = 91
    · rw [if_pos (kk1.mpr c2), if_pos c2]
      have hun := r_uni hL hf hg fl pp (br := br) (Ma := Ma) (Fa := Fa) hI1 rfl (show sh < 6 + (k + 1) by omega) upG_s hD hm hw1 hv c2
      have e2 : upG (upG G k (mkN 12 k 0 0 [] [])) k (mkN 11 k sh 0 [] []) = upG G k (mkN 11 k sh 0 [] []) := funext (fun i => by
        by_cases q : i = k
        · rw [q, upG_s, upG_s]
        · rw [upG_n q, upG_n q, upG_n q])
      rw [e2] at hun
      generalize (if br = true then (.inl (4, p) : LRs) else if 1 ≤ (prt T L p).length ∧ (prt T L p).length ≤ 16 then lun (look T L j) k (prt T L p) 0 (k + 1, sh + 1, kc, pl, D, fi, upG G k (mkN 11 k sh 0 [] [])) else .inl (5, p)) = r at hun ⊢
      cases r with
      | inl e =>
        rcases hun with hu | ⟨u, hu⟩
        · rw [hu, trN]; exact RX.no
        · rw [hu, trE]
          obtain ⟨u1, u2, u3, u4, u5, u6, u7, u8, u9, u10, u11, u12, u13, u14, u15⟩ := u
          exact Or.inr ⟨_, rfl⟩
      | inr st' =>
        rcases hun with hu | ⟨v', u, hu, hP⟩
        · rw [hu, trN]; exact RX.no
        · rw [hu, trO]
          obtain ⟨u1, u2, u3, u4, u5, u6, u7, u8, u9, u10, u11, u12, u13, u14, u15, u16, u17⟩ := u
          exact Or.inr ⟨_, _, rfl, hP⟩
    rw [if_neg (fun z => c2 (kk1.mp z)), if_neg c2]
    by_cases c3 : cb T L p = 123
    · rw [if_pos (kk0.mpr c3), if_pos c3]
      exact r_obj hL hl hf hg hI1 rfl (show sh < 6 + (k + 1) by omega) upG_s hD hm hw1 hv c3
    · rw [if_neg (fun z => c3 (kk0.mp z)), if_neg c3]
      unfold m_X9_schemaOf_151
      rw [bd_go (show n < 4200 by omega) (by decide), nI_clamp (show n < 2 ^ 31 by omega), hb.2.2.2, nd0, trE]
      exact Or.inr ⟨_, rfl⟩
end RLOOK2
