-- the reference's records
section RREC
variable {T : Nat → Int32} {L : Nat} {Sd In Nx Am K F S I X Lt : Nat → Int32} {N : Nat → Int64} {l : Nat}
theorem r_rec_go (hL : L ≤ 4096) (hl : l ≤ 4200) {f : FS} {g : Nat → Bool → LSt → LRs} {d : Nat} (hf : okRe T L Sd In Nx Am K F N S I X Lt l f (d + 1) g) (hg : okSp T L Sd In Nx Am K F N S I X Lt l g) {s kc0 : Nat} {kN0 kD0 : Nat → Int32} : ∀ (ks : List (Nat × Nat)) (fuel i lo hi : Nat) (hc hr : Int32) (fl pp : Int32) (So Nm Wi Kd Ma Fa kS kN kD kX Fi : Nat → Int32) (k sh kc : Nat) (pl : List Nat) (D : List Nat → Option Nat) (fi : List (Nat × Nat × Option Nat)) (G : Nat → Nod), ks.length < fuel → i + ks.length ≤ 32 → RI T L Sd In Nx Am K F N S I X Lt l So Nm Wi Kd (nI sh) (nI k) (nI kc) kS kN kD kX (nI fi.length) Fi (k, sh, kc, pl, D, fi, G) → WFs (k, sh, kc, pl, D, fi, G) → s < k → n_me (G s) = s → n_kd (G s) = 10 → (n_ch (G s)).length = i → (n_kl (G s)).length = i → LCH T L Sd In Nx Am K F N S I X Lt l ks lo hi hc hr → kc0 ≤ kc → (∀ a, a < kc0 → kN a = kN0 a ∧ kD a = kD0 a) →
    RXU (m_X9_fields_85 f K F N S I X Lt fuel fl pp (nI sh) (nI k) So Nm Wi Kd Ma Fa (nI kc) kS kN kD kX (nI fi.length) Fi (nI (n_sg (G s))) (nI d) (if (n_kl (G s)).length = 0 then -1 else nI ((n_kl (G s)).getD ((n_kl (G s)).length - 1) 0)) hr) (PU T L Sd In Nx Am K F N S I X Lt l kc0 kN0 kD0) (lfs T L g s ks i (k, sh, kc, pl, D, fi, G)) := by
  intro ks
  induction ks with
  | nil =>
    intro fuel i lo hi hc hr fl pp So Nm Wi Kd Ma Fa kS kN kD kX Fi k sh kc pl D fi G hfu hi16 hI hw hs hm hk hch hkl hlc hk0 hfr
    obtain ⟨fu, rfl⟩ : ∃ z, fuel = z + 1 := ⟨fuel - 1, by omega⟩
    simp only [m_X9_fields_85, lfs, wrt]
    rw [hlc.2.2, if_pos (show (-1 : Int32) < 0 by decide)]
    exact Or.inr ⟨_, rfl, hI, hfr⟩
  | cons v t ih =>
    intro fuel i lo hi hc hr fl pp So Nm Wi Kd Ma Fa kS kN kD kX Fi k sh kc pl D fi G hfu hi16 hI hw hs hm hk hch hkl hlc hk0 hfr
    obtain ⟨fu, rfl⟩ : ∃ z, fuel = z + 1 := ⟨fuel - 1, by omega⟩
    rw [List.length_cons] at hfu hi16
    obtain ⟨c, b, c1, c2, c3, c4, c5, c6⟩ := hlc
    have hb := c4.base
    have hkc0 := c4.kk.2.2.1
    obtain ⟨g1, g2, g3, g4, _⟩ := hI.sg hs hm (by omega) (by omega)
    have i5 := hI.2.2.2.2.1
    have i7 := hI.2.2.2.2.2.2.1
    have i9 := hI.2.2.2.2.2.2.2.2.1
    simp only [m_X9_fields_85, lfs, lfd]
    rw [c3, if_neg (nI_pos (show c < 2 ^ 31 by omega))]
    simp only [bd_go (show c < 4200 by omega) (by decide), bd_gc (show c < 4200 by omega) (by decide), nI_clamp (show c < 2 ^ 31 by omega), m_X9_fields_106, m_X9_fields_149, m_X9_fields_150, hb.2.2.2]
    by_cases c123 : cb T L v.2 = 123
    rotate_left
    · rw [if_neg (fun z => c123 (hkc0.mp z)), if_neg c123, nd0, trE]
      exact Or.inr ⟨_, rfl⟩
    rw [if_pos (hkc0.mpr c123), if_pos c123, nd1, trO]
    have em := mbr_r hl c4 c123 (w := 56) (by decide) hL
    rw [lit_r.2.2.2.1] at em
    rcases em with ⟨e, em⟩ | ⟨nv, nn, nb, e, em, x1⟩
    · rw [e, em]
      simp only [Option.bind_some, if_pos (show (-1 : Int32) < 0 by decide)]
      rw [nd0, trE]
      exact Or.inr ⟨_, rfl⟩
    rw [e, em]
    have hxb := x1.base
    have hkn := x1.kk.1
    simp only [Option.bind_some, if_neg (nI_pos (show nn < 2 ^ 31 by omega)), bd_go (show nn < 4200 by omega) (by decide), bd_gc (show nn < 4200 by omega) (by decide), nI_clamp (show nn < 2 ^ 31 by omega)]
    by_cases c34 : cb T L nv = 34
    rotate_left
    · rw [if_neg (fun z => c34 (hkn.mp z)), if_neg c34, nd0, trE]
      exact Or.inr ⟨_, rfl⟩
    rw [if_pos (hkn.mpr c34), if_pos c34, nd1, trO]
    obtain ⟨s0, y1, y2, y3, y4, y5, y6⟩ := x1.str c34
    rw [y2]
    have hnm : ∃ b0 : Int32, (b0 = 0 ∨ b0 = 1) ∧ (b0 = 1 ↔ isNm s0) ∧ m_X9_isName K N S Lt (nI nn) = some b0 := by
      rcases inm_eq hl hxb.2.2.1 (hkn.mpr c34) y4 y6 with ⟨n1, n2⟩ | ⟨n1, n2⟩
      · exact ⟨1, Or.inr rfl, ⟨fun _ => n1, fun _ => rfl⟩, n2⟩
      · exact ⟨0, Or.inl rfl, ⟨fun z => absurd z (by decide), fun z => absurd z n1⟩, n2⟩
    obtain ⟨b0, hb0, hb1, hb2⟩ := hnm
    rw [hb2]
    simp only [Option.bind_some, bd_go g1 (by decide), bd_gc g1 (by decide), nI_clamp (show n_sg (G s) < 2 ^ 31 by omega)]
    rw [r_fld_in hl (f := f) (k85 := m_X9_fields_85 f K F N S I X Lt fu) (fl := fl) (pp := pp) (Ma := Ma) (Fa := Fa) hI (s := s) hs hm hk (by omega) (by omega) hxb.2.2.1 y4 y6 hb0]
    simp only [m_X9_fields_178, if_pos (show (-1 : Int32) < 0 by decide), bd_go (show nn < 4200 by omega) (by decide), bd_gc (show nn < 4200 by omega) (by decide), nI_clamp (show nn < 2 ^ 31 by omega), hxb.2.2.2]
    by_cases hno : isNm s0 ∧ ∀ c, c ∈ n_ch (G s) → n_fn (G c) ≠ s0
    rotate_left
    · rw [dec_f (fun z => hno ⟨hb1.mp z.1, z.2⟩), dec_f hno, bF, bF, nd0, trE]
      exact Or.inr ⟨_, rfl⟩
    rw [dec_t (show b0 = 1 ∧ _ from ⟨hb1.mpr hno.1, hno.2⟩), dec_t hno, bT, bT, nd1, trO]
    have em2 := mbr_r hl c4 c123 (w := 48) (by decide) hL
    rw [lit_r.1] at em2
    simp only [m_X9_fields_260, bd_go (show c < 4200 by omega) (by decide), bd_gc (show c < 4200 by omega) (by decide), nI_clamp (show c < 2 ^ 31 by omega), hb.2.2.2]
    rcases em2 with ⟨e2, em2⟩ | ⟨tv, tn, tb, e2, em2, z1⟩
    · rw [e2, em2]
      simp only [Option.bind_some, if_pos (show (-1 : Int32) < 0 by decide)]
      rw [nd0, trE]
      exact Or.inr ⟨_, rfl⟩
    rw [e2, em2]
    have hzb := z1.base
    simp only [Option.bind_some, if_neg (nI_pos (show tn < 2 ^ 31 by omega))]
    rw [nd1, trO]
    by_cases hkc : kc < 2200
    rotate_left
    · simp only [adk_no hkc (show kc < 2 ^ 31 by omega), Option.bind_none]
      exact RXU.no
    obtain ⟨Ma2, hadk⟩ := adk_eq (Kd := Kd) (Ma := Ma) (kS := kS) (kN := kN) (kD := kD) (kX := kX) hkc g1 g2
    simp only [hadk, Option.bind_some, bd_go hkc (by decide), bd_gc hkc (by decide), nI_clamp (show kc < 2 ^ 31 by omega), nI_1]
    have em3 := mbr_r hl c4 c123 (w := 59) (by decide) hL
    rw [lit_r.2.2.2.2.2.2.1] at em3
    have hdv : ∃ r25 : Int32, m_X9_member K N S I X Lt (nI c) 59 = some r25 ∧ (match mbr T L v.2 (litN 28) with | none => r25 = -1 | some p => ∃ n q, r25 = nI n ∧ VV T L Sd In Nx Am K F N S I X Lt l n p q) := by
      rcases em3 with ⟨e3, em3⟩ | ⟨dv, dn, db, e3, em3, w1⟩
      · exact ⟨_, em3, by rw [e3]⟩
      · exact ⟨_, em3, by rw [e3]; exact ⟨dn, db, rfl, w1⟩⟩
    obtain ⟨r25, hr25, ho⟩ := hdv
    rw [hr25]
    simp only [Option.bind_some]
    have eup : ∀ (fN : Nat → Int32) (z : Int32), upd (upd fN kc (-1)) kc z = upd fN kc z := fun fN z => by
      funext j
      by_cases q : j = kc
      · rw [q, pk_us, pk_us]
      · rw [pk_un q, pk_un q, pk_un q]
    rw [eup, eup]
    have hIk := hI.kid (s := s) (x := klN (G s) kc) (vS := -1) (vN := nI nn) (vD := r25) hs hkc hm (by omega) (by omega) rfl rfl rfl rfl rfl rfl rfl rfl (fun z => by omega) (fun _ => rfl)
    have hIk : RI T L Sd In Nx Am K F N S I X Lt l So Nm Wi (if (n_kl (G s)).length = 0 then upd Kd (n_sg (G s)) (nI kc) else Kd) (nI sh) (nI k) (nI (kc + 1)) (upd kS kc (-1)) (upd kN kc (nI nn)) (upd kD kc r25) (if (n_kl (G s)).length = 0 then upd kX kc (-1) else upd (upd kX kc (-1)) ((n_kl (G s)).getD ((n_kl (G s)).length - 1) 0) (nI kc)) (nI fi.length) Fi (k, sh, kc + 1, pl ++ ((if i = 0 then [] else [44]) ++ (litN 21 ++ (qt s0 ++ litN 31))), D, fi, upG G s (klN (G s) kc)) := hIk
    have hw1 : WFs (k, sh, kc + 1, pl ++ ((if i = 0 then [] else [44]) ++ (litN 21 ++ (qt s0 ++ litN 31))), D, fi, upG G s (klN (G s) kc)) := ⟨DOK.up (x := klN (G s) kc) hw.1 rfl rfl, hw.2⟩
    have hf1 := hf fl pp So Nm Wi _ Ma2 Fa _ _ _ _ Fi _ _ _ _ tv false _ _ _ hIk hw1 z1
    rw [bF] at hf1
    have hfq := fun st' (q : lfd T L g s v.2 i (k, sh, kc, pl, D, fi, G) = .inr st') => lfd_p hL hl hg hs hw c4 q
    simp only [lfd, if_pos c123, e, if_pos c34, y2, dec_t hno, bT, e2] at hfq
    cases hr : g tv false (k, sh, kc + 1, pl ++ ((if i = 0 then [] else [44]) ++ (litN 21 ++ (qt s0 ++ litN 31))), D, fi, upG G s (klN (G s) kc)) with
    | inl e =>
      rw [hr] at hf1
      rcases hf1 with hu | ⟨u, hu⟩
      · rw [hu, trN]; exact RXU.no
      · rw [hu, trE]
        obtain ⟨u1, u2, u3, u4, u5, u6, u7, u8, u9, u10, u11, u12, u13, u14, u15⟩ := u
        exact Or.inr ⟨_, rfl⟩
    | inr st1 =>
      rw [hr] at hf1 hfq
      obtain ⟨fp, _⟩ := hg _ _ _ _ _ _ z1 hw1 hr
      rcases hf1 with hu | ⟨vv, u, hu, hP⟩
      · rw [hu, trN]; exact RXU.no
      rw [hu, trO]
      obtain ⟨k1, sh1, kc1, pl1, D1, fi1, G1⟩ := st1
      obtain ⟨fl1, pp1, shI, lkI, So1, Nm1, Wi1, Kd1, Ma1, Fa1, kcI, kS1, kN1, kD1, kX1, dnI, Fi1⟩ := u
      obtain ⟨hI2, ev, hfr1⟩ := hP
      obtain ⟨a1, a2, a3, a4, a5, a6, a7, a8, a9, a10, a11, a12, a13⟩ := fp
      obtain ⟨j1, j2, j3, j4, j5, j6, j7, j8, j9, j10, j11, j12, j13, j14⟩ := hI2
      subst j1
      subst j4
      subst j6
      subst j8
      have hI2 : RI T L Sd In Nx Am K F N S I X Lt l So1 Nm1 Wi1 Kd1 (nI sh1) (nI k1) (nI kc1) kS1 kN1 kD1 kX1 (nI fi1.length) Fi1 (k1, sh1, kc1, pl1, D1, fi1, G1) := ⟨rfl, j2, j3, rfl, j5, rfl, j7, rfl, j9, j10, j11, j12, j13, j14⟩
      have ev : vv = nI (n_sg (G1 k)) := ev
      have hfr1 : ∀ a, a < kc + 1 → kN1 a = upd kN kc (nI nn) a ∧ kD1 a = upd kD kc r25 a := hfr1
      have hq := (hfq _ rfl).1
      have eGs : G1 s = klN (G s) kc := by rw [a5 s hs, upG_s]
      have ekl : n_kl (G1 s) = n_kl (G s) ++ [kc] := by rw [eGs]; rfl
      have ech : n_ch (G1 s) = n_ch (G s) := by rw [eGs]; rfl
      have hms : n_me (G1 s) = s := by rw [eGs]; exact hm
      have hks : n_kd (G1 s) = 10 := by rw [eGs]; exact hk
      have esg : n_sg (G1 s) = n_sg (G s) := by rw [eGs]; rfl
      have egd : (n_kl (G1 s)).getD (n_ch (G1 s)).length 0 = kc := by
        rw [ekl, ech, hch, ← hkl]
        exact (congrFun snc_app.symm _).trans snc_s
      by_cases hdn : fi1.length < 2200
      rotate_left
      · simp only [bd_go hkc (by decide), bd_gc hkc (by decide), nI_clamp (show kc < 2 ^ 31 by omega)]
        rw [if_pos (show nI fi1.length < (0 : Int32) ∨ 2200 ≤ (nI fi1.length).toNatClampNeg from Or.inr (by rw [nI_clamp (by omega)]; omega))]
        exact RXU.no
      simp only [bd_go hkc (by decide), bd_gc hkc (by decide), nI_clamp (show kc < 2 ^ 31 by omega), bd_go hdn (by decide), bd_gc hdn (by decide), nI_clamp (show fi1.length < 2 ^ 31 by omega), bd_go (show c < 4200 by omega) (by decide), bd_gc (show c < 4200 by omega) (by decide), nI_clamp (show c < 2 ^ 31 by omega), nI_1]
      have kNk := (hfr1 kc (by omega)).1
      have kDk := (hfr1 kc (by omega)).2
      rw [pk_us] at kNk kDk
      have hIj := ri_fldj (pl' := pl1 ++ [125]) (w := s0) (o := mbr T L v.2 (litN 28)) hI2 (s := s) (c := k) (a := kc) (by omega) a1 (by omega) hms hks a10 (by rw [ech, ekl, List.length_append, List.length_singleton]; omega) hdn egd (by omega) ⟨nn, kNk, hxb.2.2.1, y4, y6⟩ (by rw [kDk]; exact ho)
      have ecs : n_ch (upG (upG (upG G1 k (fnN (G1 k) s0)) s (chN (upG G1 k (fnN (G1 k) s0) s) k)) k (paN (upG G1 k (fnN (G1 k) s0) k) s) s) = n_ch (G s) ++ [k] := by
        rw [upG_n (show s ≠ k by omega), upG_s, upG_n (show s ≠ k by omega)]
        show n_ch (G1 s) ++ [k] = _
        rw [ech]
      have ess : ∀ {β : Type} (h : Nod → β), (∀ x, h (chN x k) = h x) → h (upG (upG (upG G1 k (fnN (G1 k) s0)) s (chN (upG G1 k (fnN (G1 k) s0) s) k)) k (paN (upG G1 k (fnN (G1 k) s0) k) s) s) = h (G1 s) := fun h hh => by
        rw [upG_n (show s ≠ k by omega), upG_s, upG_n (show s ≠ k by omega)]
        exact hh _
      have hlast : (if (n_kl (G s) ++ [kc]).length = 0 then (-1 : Int32) else nI ((n_kl (G s) ++ [kc]).getD ((n_kl (G s) ++ [kc]).length - 1) 0)) = nI kc := by
        rw [List.length_append, List.length_singleton, if_neg (by omega), Nat.add_sub_cancel, show (n_kl (G s) ++ [kc]).getD (n_kl (G s)).length 0 = kc from (congrFun snc_app.symm _).trans snc_s]
      have hlen2 : (fi1 ++ [(kc, k, mbr T L v.2 (litN 28))]).length = fi1.length + 1 := by rw [List.length_append]; rfl
      have fin := ih fu (i + 1) _ hi (Nx v.2) (X c) fl1 pp1 So1 Nm1 Wi1 Kd1 Ma1 Fa1 _ kN1 kD1 kX1 _ k1 sh1 kc1 (pl1 ++ [125]) D1 (fi1 ++ [(kc, k, mbr T L v.2 (litN 28))]) _ (by omega) (by omega) hIj (hq.wf hw) (by omega) ((ess n_me (fun _ => rfl)).trans hms) ((ess n_kd (fun _ => rfl)).trans hks) (by rw [ecs, List.length_append, List.length_singleton]; omega) (by rw [ess n_kl (fun _ => rfl), ekl, List.length_append, List.length_singleton]; omega) c6 (by omega) (fun a ha => by
        rw [(hfr1 a (by omega)).1, (hfr1 a (by omega)).2, pk_un (by omega), pk_un (by omega)]
        exact hfr a ha)
      rw [show n_kl (upG (upG (upG G1 k (fnN (G1 k) s0)) s (chN (upG G1 k (fnN (G1 k) s0) s) k)) k (paN (upG G1 k (fnN (G1 k) s0) k) s) s) = n_kl (G1 s) from ess n_kl (fun _ => rfl), show n_sg (upG (upG (upG G1 k (fnN (G1 k) s0)) s (chN (upG G1 k (fnN (G1 k) s0) s) k)) k (paN (upG G1 k (fnN (G1 k) s0) k) s) s) = n_sg (G1 s) from ess n_sg (fun _ => rfl), ekl, hlast, esg, hlen2] at fin
      rw [ev]
      exact fin
theorem r_rec (hL : L ≤ 4096) (hl : l ≤ 4200) {f : FS} {g : Nat → Bool → LSt → LRs} {d : Nat} (hf : okRe T L Sd In Nx Am K F N S I X Lt l f (d + 1) g) (hg : okSp T L Sd In Nx Am K F N S I X Lt l g) {fl pp : Int32} {s n p q : Nat} {So Nm Wi Kd Ma Fa kS kN kD kX Fi : Nat → Int32} {k sh kc : Nat} {pl : List Nat} {D : List Nat → Option Nat} {fi : List (Nat × Nat × Option Nat)} {G : Nat → Nod} (hI : RI T L Sd In Nx Am K F N S I X Lt l So Nm Wi Kd (nI sh) (nI k) (nI kc) kS kN kD kX (nI fi.length) Fi (k, sh, kc, pl, D, fi, G)) (hw : WFs (k, sh, kc, pl, D, fi, G)) (hs : s < k) (hG : ∃ sg, G s = mkN 10 s sg 0 [] []) (hv : VV T L Sd In Nx Am K F N S I X Lt l n p q) (hc : cb T L p = 123) :
    RXU (m_X9_fields f fl pp K F N S I X Lt (nI sh) (nI k) So Nm Wi Kd Ma Fa (nI kc) kS kN kD kX (nI fi.length) Fi (nI (n_sg (G s))) (nI n) (nI d)) (PU T L Sd In Nx Am K F N S I X Lt l kc kN kD) (lrc T L g s p (k, sh, kc, pl, D, fi, G)) := by
  have hb := hv.base
  obtain ⟨sg, hG⟩ := hG
  have ekl : n_kl (G s) = [] := by rw [hG]; rfl
  simp only [lrc, wrt]
  unfold m_X9_fields
  have em := mbr_r hl hv hc (w := 60) (by decide) hL
  rw [lit_r.2.2.2.2.2.2.2.1] at em
  simp only [m_X9_fields_21, m_X9_fields_60, m_X9_fields_61, bd_go (show n < 4200 by omega) (by decide), bd_gc (show n < 4200 by omega) (by decide), nI_clamp (show n < 2 ^ 31 by omega), hb.2.2.2]
  rcases em with ⟨e, em⟩ | ⟨v, c, b, e, em, z1⟩
  · rw [e, em]
    simp only [Option.bind_some, if_pos (show (-1 : Int32) < 0 by decide)]
    rw [nd0, trE]
    exact Or.inr ⟨_, rfl⟩
  rw [e, em]
  have hzb := z1.base
  have hkk := z1.kk.2.1
  simp only [Option.bind_some, if_neg (nI_pos (show c < 2 ^ 31 by omega))]
  rw [nd1, trO]
  simp only [bd_go (show c < 4200 by omega) (by decide), bd_gc (show c < 4200 by omega) (by decide), nI_clamp (show c < 2 ^ 31 by omega), hzb.2.2.2]
  by_cases c91 : cb T L v = 91
  rotate_left
  · rw [if_neg (fun z => c91 (hkk.mp z)), nd0, trE, if_neg (fun z => c91 z.1)]
    exact Or.inr ⟨_, rfl⟩
  obtain ⟨a1, a2, a3, a4⟩ := z1.lst c91
  rw [if_pos (hkk.mpr c91), a2]
  by_cases x2 : (prt T L v).length ≤ 32
  rotate_left
  · rw [if_pos (show (33 : Int32) ≤ nI (prt T L v).length from nI_le (a := 33) (by omega) (by omega)), nd0, trE, if_neg (fun z => x2 z.2)]
    exact Or.inr ⟨_, rfl⟩
  rw [if_neg (show ¬ (33 : Int32) ≤ nI (prt T L v).length from nI_ge (b := 33) (by omega) (by decide)), nd1, trO, if_pos ⟨c91, x2⟩]
  have fin := r_rec_go hL hl hf hg (s := s) (kc0 := kc) (kN0 := kN) (kD0 := kD) (prt T L v) sr_fuel 0 _ _ _ _ fl pp So Nm Wi Kd Ma Fa kS kN kD kX Fi k sh kc (pl ++ litN 30) D fi G (by unfold sr_fuel; omega) (by omega) hI hw hs (by rw [hG]; rfl) (by rw [hG]; rfl) (by rw [hG]; rfl) (by rw [ekl]; rfl) a4 (Nat.le_refl _) (fun _ _ => ⟨rfl, rfl⟩)
  rw [ekl] at fin
  exact fin
end RREC
