-- the reference's unions and items
section RUNI2
variable {T : Nat → Int32} {L : Nat} {Sd In Nx Am K F S I X Lt : Nat → Int32} {N : Nat → Int64} {l : Nat}
theorem RI.sg {So Nm Wi Kd kS kN kD kX Fi : Nat → Int32} {k sh kc : Nat} {pl : List Nat} {D : List Nat → Option Nat} {fi : List (Nat × Nat × Option Nat)} {G : Nat → Nod} {a b c d' : Int32} (h : RI T L Sd In Nx Am K F N S I X Lt l So Nm Wi Kd a b c kS kN kD kX d' Fi (k, sh, kc, pl, D, fi, G)) {s : Nat} (hs : s < k) (hm : n_me (G s) = s) (h6 : 6 ≤ n_kd (G s)) (h11 : n_kd (G s) ≤ 11) : n_sg (G s) < 140 ∧ (∀ a, a ∈ n_kl (G s) → a < 2200) ∧ (∀ x, x ∈ n_ch (G s) → x < k ∧ n_me (G x) < k ∧ n_pa (G x) = s) ∧ n_sg (G s) < sh ∧ (n_ch (G s)).length ≤ (n_kl (G s)).length := by
  obtain ⟨i1, i2, i3, i4, i5, i6, i7, i8, i9, i10, i11, i12, i13, i14⟩ := h
  obtain ⟨s0, s1, s2, s3⟩ := i12 s hs
  obtain ⟨t1, t2, t3⟩ := s3 hm
  obtain ⟨c1, c2, c3, c4, c5, c6, c7, c8⟩ := t3 h6 h11
  exact ⟨by omega, fun a ha => by have := s1 a ha; omega, fun x hx => ⟨(t2 x hx).1, (i12 x (t2 x hx).1).1, (t2 x hx).2⟩, c2, c5⟩
theorem adk0 {kc x : Nat} {Kd Ma kS kN kD kX : Nat → Int32} (h : kc < 2200) (hx : x < 140) : ∃ Ma', m_X9_addKid Kd Ma (nI kc) kS kN kD kX (nI x) (-1) = some (nI kc, (upd Kd x (nI kc), Ma', nI (kc + 1), upd kS kc (-1), upd kN kc (-1), upd kD kc (-1), upd kX kc (-1))) := by
  obtain ⟨Ma', h1⟩ := adk_eq (Kd := Kd) (Ma := Ma) (kS := kS) (kN := kN) (kD := kD) (kX := kX) (kl := []) h hx (fun a ha => absurd ha List.not_mem_nil)
  exact ⟨Ma', h1⟩
theorem klN_sg {s kc : Nat} {G : Nat → Nod} : (∀ i, n_sg (upG G s (klN (G s) kc) i) = n_sg (G i)) := fun i => by
  by_cases q : i = s
  · rw [q, upG_s]; rfl
  · rw [upG_n q]
theorem r_uni_go {f : FS} {g : Nat → Bool → LSt → LRs} {d : Nat} (hf : okRe T L Sd In Nx Am K F N S I X Lt l f (d + 1) g) (hg : okSp T L Sd In Nx Am K F N S I X Lt l g) {s kc0 : Nat} {kN0 kD0 : Nat → Int32} : ∀ (ks : List (Nat × Nat)) (fuel i lo hi : Nat) (hc hr : Int32) (fl pp : Int32) (So Nm Wi Kd Ma Fa kS kN kD kX Fi : Nat → Int32) (k sh kc : Nat) (pl : List Nat) (D : List Nat → Option Nat) (fi : List (Nat × Nat × Option Nat)) (G : Nat → Nod), ks.length < fuel → i + ks.length ≤ 16 → RI T L Sd In Nx Am K F N S I X Lt l So Nm Wi Kd (nI sh) (nI k) (nI kc) kS kN kD kX (nI fi.length) Fi (k, sh, kc, pl, D, fi, G) → WFs (k, sh, kc, pl, D, fi, G) → s < k → n_me (G s) = s → n_kd (G s) = 11 → (n_ch (G s)).length = i → (n_kl (G s)).length = i → (∀ x, x ∈ n_ch (G s) → KD1 G x ∧ n_kd (G (n_me (G x))) ≤ 10) → LCH T L Sd In Nx Am K F N S I X Lt l ks lo hi hc hr → kc0 ≤ kc → (∀ a, a < kc0 → kN a = kN0 a ∧ kD a = kD0 a) →
    RX (m_X9_union_75 f K F N S I X Lt fuel fl pp (nI sh) (nI k) So Nm Wi Kd Ma Fa (nI kc) kS kN kD kX (nI fi.length) Fi (nI d) (nI (n_sg (G s))) (if (n_kl (G s)).length = 0 then -1 else nI ((n_kl (G s)).getD ((n_kl (G s)).length - 1) 0)) hr) (PO T L Sd In Nx Am K F N S I X Lt l s kc0 kN0 kD0) (lun g s ks i (k, sh, kc, pl, D, fi, G)) := by
  intro ks
  induction ks with
  | nil =>
    intro fuel i lo hi hc hr fl pp So Nm Wi Kd Ma Fa kS kN kD kX Fi k sh kc pl D fi G hfu hi16 hI hw hs hm hk hch hkl hkd hlc hk0 hfr
    obtain ⟨fu, rfl⟩ : ∃ z, fuel = z + 1 := ⟨fuel - 1, by omega⟩
    simp only [m_X9_union_75, lun, wrt]
    rw [hlc.2.2, if_pos (show (-1 : Int32) < 0 by decide)]
    exact Or.inr ⟨_, _, rfl, hI, rfl, hfr⟩
  | cons v t ih =>
    intro fuel i lo hi hc hr fl pp So Nm Wi Kd Ma Fa kS kN kD kX Fi k sh kc pl D fi G hfu hi16 hI hw hs hm hk hch hkl hkd hlc hk0 hfr
    obtain ⟨fu, rfl⟩ : ∃ z, fuel = z + 1 := ⟨fuel - 1, by omega⟩
    rw [List.length_cons] at hfu hi16
    obtain ⟨c, b, c1, c2, c3, c4, c5, c6⟩ := hlc
    have hb := c4.base
    have hw1 : WFs (k, sh, kc, pl ++ [if i = 0 then 91 else 44], D, fi, G) := hw
    have hI1 : RI T L Sd In Nx Am K F N S I X Lt l So Nm Wi Kd (nI sh) (nI k) (nI kc) kS kN kD kX (nI fi.length) Fi (k, sh, kc, pl ++ [if i = 0 then 91 else 44], D, fi, G) := hI
    have hf1 := hf fl pp So Nm Wi Kd Ma Fa kS kN kD kX Fi _ _ _ _ v.2 true _ _ _ hI1 hw1 c4
    rw [bT] at hf1
    simp only [m_X9_union_75, lun, wrt, nI_1]
    rw [c3, if_neg (nI_pos (show c < 2 ^ 31 by omega))]
    cases hv : g v.2 true (k, sh, kc, pl ++ [if i = 0 then 91 else 44], D, fi, G) with
    | inl e =>
      rw [hv] at hf1
      rcases hf1 with hu | ⟨u, hu⟩
      · rw [hu, trN]; exact RX.no
      · rw [hu, trE]
        obtain ⟨u1, u2, u3, u4, u5, u6, u7, u8, u9, u10, u11, u12, u13, u14, u15⟩ := u
        exact Or.inr ⟨_, rfl⟩
    | inr st1 =>
      rw [hv] at hf1
      obtain ⟨fp, _⟩ := hg _ _ _ _ _ _ c4 hw1 hv
      rcases hf1 with hu | ⟨vv, u, hu, hP⟩
      · rw [hu, trN]; exact RX.no
      rw [hu, trO]
      obtain ⟨k1, sh1, kc1, pl1, D1, fi1, G1⟩ := st1
      obtain ⟨fl1, pp1, shI, lkI, So1, Nm1, Wi1, Kd1, Ma1, Fa1, kcI, kS1, kN1, kD1, kX1, dnI, Fi1⟩ := u
      obtain ⟨hI2, ev, hfr1⟩ := hP
      obtain ⟨a1, a2, a3, a4, a5, a6, a7, a8, a9, a10, a11, a12, a13⟩ := fp
      obtain ⟨j1, j2, j3, j4, j5, j6, j7, j8, j9, j10, j11, j12, j13, j14⟩ := hI2
      subst j1
      subst j4
      subst j6
      subst j8
      have hI2 : RI T L Sd In Nx Am K F N S I X Lt l So1 Nm1 Wi1 Kd1 (nI sh1) (nI k1) (nI kc1) kS1 kN1 kD1 kX1 (nI fi1.length) Fi1 (k1, sh1, kc1, pl1, D1, fi1, G1) := ⟨rfl, j2, j3, rfl, j5, rfl, j7, rfl, j9, j10, j11, j12, j13, j14⟩
      have ev : vv = nI (n_sg (G1 k)) := ev
      have hfr1 : ∀ a, a < kc → kN1 a = kN a ∧ kD1 a = kD a := hfr1
      have eGs : G1 s = G s := a5 s hs
      have hms : n_me (G1 s) = s := by rw [eGs]; exact hm
      have hks : n_kd (G1 s) = 11 := by rw [eGs]; exact hk
      have hchs : (n_ch (G1 s)).length = i := by rw [eGs]; exact hch
      have hkls : (n_kl (G1 s)).length = i := by rw [eGs]; exact hkl
      obtain ⟨g1, g2, g3, g4, _⟩ := hI2.sg (s := s) (by omega) hms (by omega) (by omega)
      have hkd1 : ∀ x, x ∈ n_ch (G1 s) → KD1 G1 x ∧ n_kd (G1 (n_me (G1 x))) ≤ 10 := fun x hx => by
        rw [eGs] at hx
        obtain ⟨_, _, q3, _⟩ := hI.sg hs hm (by omega) (by omega)
        obtain ⟨z1, z2, z3⟩ := q3 x hx
        obtain ⟨z4, z5⟩ := hkd x hx
        exact ⟨z4.low a5 z1 z2, by rw [a5 x z1, a5 _ z2]; exact z5⟩
      rw [ev, ← eGs]
      simp only [bd_go g1 (by decide), bd_gc g1 (by decide), nI_clamp (show n_sg (G1 s) < 2 ^ 31 by omega)]
      rcases r_uni_in (f := f) (k75 := m_X9_union_75 f K F N S I X Lt fu) (fl := fl1) (pp := pp1) (Ma := Ma1) (Fa := Fa1) hI2 (s := s) (c := k) (d := d) (x5 := if (n_kl (G1 s)).length = 0 then -1 else nI ((n_kl (G1 s)).getD ((n_kl (G1 s)).length - 1) 0)) (by omega) a1 hms hks (by omega) (by omega) hkd1 ⟨a12, a11.2⟩ c4 with ⟨q, u, hq⟩ | ⟨q, hq⟩
      · rw [hq, if_pos q]
        exact Or.inr ⟨_, rfl⟩
      · rw [hq, if_neg (show ¬ hlk s k (k1, sh1, kc1, pl1, D1, fi1, G1) = true by rw [q]; decide)]
        simp only [m_X9_union_101, if_pos (show (-1 : Int32) < 0 by decide)]
        by_cases hkc : kc1 < 2200
        rotate_left
        · rw [adk_no hkc (by omega)]
          exact RX.no
        obtain ⟨Ma2, hadk⟩ := adk_eq (Kd := Kd1) (Ma := Ma1) (kS := kS1) (kN := kN1) (kD := kD1) (kX := kX1) hkc g1 g2
        rw [hadk]
        simp only [Option.bind_some, bd_go hkc (by decide), bd_gc hkc (by decide), nI_clamp (show kc1 < 2 ^ 31 by omega), bd_go (show c < 4200 by omega) (by decide), bd_gc (show c < 4200 by omega) (by decide), nI_clamp (show c < 2 ^ 31 by omega)]
        have hIk := hI2.kid (s := s) (x := klN (G1 s) kc1) (vS := -1) (vN := -1) (vD := -1) (by omega) hkc hms (by omega) (by omega) rfl rfl rfl rfl rfl rfl rfl rfl (fun z => by omega) (fun _ => rfl)
        obtain ⟨e1, e2, e3, e4, e5⟩ := klN_kd (s := s) (kc := kc1) (G := G1)
        have esg := klN_sg (s := s) (kc := kc1) (G := G1)
        have ekl : n_kl (upG G1 s (klN (G1 s) kc1) s) = n_kl (G1 s) ++ [kc1] := by rw [upG_s]; rfl
        have egd : (n_kl (upG G1 s (klN (G1 s) kc1) s)).getD (n_ch (upG G1 s (klN (G1 s) kc1) s)).length 0 = kc1 := by
          rw [ekl, e3, hchs, ← hkls]
          exact (congrFun snc_app.symm _).trans snc_s
        have hIj := hIk.jon (s := s) (c := k) (by omega) a1 (by omega) ((e2 s).trans hms) (by rw [e1]; omega) (by rw [e1]; omega) ((e4 k).trans a10) (by rw [ekl, e3, List.length_append, List.length_singleton]; omega) (fun z => by rw [e1] at z; omega)
        rw [egd, esg] at hIj
        have q1 : FQ s (k, sh, kc, pl, D, fi, G) (k1, sh1, kc1, pl1, D1, fi1, G1) := by
          have := (FPs.q (br := true) (a := (k, sh, kc, pl ++ [if i = 0 then 91 else 44], D, fi, G)) (b := (k1, sh1, kc1, pl1, D1, fi1, G1)) ⟨a1, a2, a3, a4, a5, a6, a7, a8, a9, a10, a11, a12, a13⟩ hs)
          exact ((FQ.refl hw).wrt _).trans this
        have q2 := (q1.kid).jon (c := k) hs (Nat.le_refl _)
        have hw2 := q2.wf hw
        obtain ⟨y1, y2⟩ := jon_kd (s := s) (c := k) (G := upG G1 s (klN (G1 s) kc1))
        have ecs : n_ch (upG (upG (upG G1 s (klN (G1 s) kc1)) s (chN (upG G1 s (klN (G1 s) kc1) s) k)) k (paN (upG G1 s (klN (G1 s) kc1) k) s) s) = n_ch (G1 s) ++ [k] := by
          rw [upG_n (show s ≠ k by omega), upG_s]
          show n_ch (upG G1 s (klN (G1 s) kc1) s) ++ [k] = _
          rw [e3]
        have eks : n_kl (upG (upG (upG G1 s (klN (G1 s) kc1)) s (chN (upG G1 s (klN (G1 s) kc1) s) k)) k (paN (upG G1 s (klN (G1 s) kc1) k) s) s) = n_kl (G1 s) ++ [kc1] := by
          rw [upG_n (show s ≠ k by omega), upG_s]
          exact ekl
        have ess : n_sg (upG (upG (upG G1 s (klN (G1 s) kc1)) s (chN (upG G1 s (klN (G1 s) kc1) s) k)) k (paN (upG G1 s (klN (G1 s) kc1) k) s) s) = n_sg (G1 s) := by
          rw [upG_n (show s ≠ k by omega), upG_s]
          exact esg s
        have hlast : (if (n_kl (G1 s) ++ [kc1]).length = 0 then (-1 : Int32) else nI ((n_kl (G1 s) ++ [kc1]).getD ((n_kl (G1 s) ++ [kc1]).length - 1) 0)) = nI kc1 := by
          rw [List.length_append, List.length_singleton, if_neg (by omega), Nat.add_sub_cancel, show (n_kl (G1 s) ++ [kc1]).getD (n_kl (G1 s)).length 0 = kc1 from (congrFun snc_app.symm _).trans snc_s]
        have fin := ih fu (i + 1) _ hi (Nx v.2) (X c) fl1 pp1 So1 Nm1 Wi1 _ Ma2 Fa1 _ _ _ _ Fi1 k1 sh1 (kc1 + 1) pl1 D1 fi1 _ (by omega) (by omega) hIj hw2 (by omega) ((y2 s).trans ((e2 s).trans hms)) ((y1 s).trans ((e1 s).trans hks)) (by rw [ecs, List.length_append, List.length_singleton]; omega) (by rw [eks, List.length_append, List.length_singleton]; omega) (fun x hx => by
          rw [ecs] at hx
          have key : KD1 G1 x ∧ n_kd (G1 (n_me (G1 x))) ≤ 10 := by
            rcases List.mem_append.mp hx with z | z
            · exact hkd1 x z
            · rw [List.mem_singleton.mp z]
              exact ⟨⟨a12, a11.2⟩, a13 rfl⟩
          refine ⟨KD1.cg (KD1.cg key.1 e1 e2) y1 y2, ?_⟩
          rw [y2, e2, y1, e1]
          exact key.2) c6 (by omega) (fun a ha => by
          rw [pk_un (by omega), pk_un (by omega), (hfr1 a (by omega)).1, (hfr1 a (by omega)).2]
          exact hfr a ha)
        rw [eks, hlast, ess] at fin
        exact fin
theorem RI.shp {So Nm Wi Kd kS kN kD kX Fi : Nat → Int32} {k sh kc : Nat} {pl : List Nat} {D : List Nat → Option Nat} {fi : List (Nat × Nat × Option Nat)} {G : Nat → Nod} (h : RI T L Sd In Nx Am K F N S I X Lt l So Nm Wi Kd (nI sh) (nI k) (nI kc) kS kN kD kX (nI fi.length) Fi (k, sh, kc, pl, D, fi, G)) {s x : Nat} {pl' : List Nat} (hs : s + 1 = k) (hsh : sh < 6 + k) (hG : G s = mkN 12 s 0 0 [] []) (hD : ∀ w d, D w = some d → d < s) (hx6 : 6 ≤ x) (hx : x ≤ 11) (hm : ∀ i, i < k → n_me (G i) = s → i = s) : RI T L Sd In Nx Am K F N S I X Lt l (upd So sh (nI (srt x))) (upd Nm sh (-1)) (upd Wi sh 0) (upd Kd sh (-1)) (nI (sh + 1)) (nI k) (nI kc) kS kN kD kX (nI fi.length) Fi (k, sh + 1, kc, pl', D, fi, upG G s (mkN x s sh 0 [] [])) := by
  obtain ⟨i1, i2, i3, i4, i5, i6, i7, i8, i9, i10, i11, i12, i13, i14⟩ := h
  refine ⟨rfl, by omega, by omega, rfl, i5, rfl, i7, rfl, i9, fun t ht => by rw [pk_un (by omega)]; exact i10 t ht, (i11.shp).cg (fun w i q => ?_), i12.shp i5 (by omega) i2 hG hx6 hx hm, SGI.one i13 (fun i a _ _ ha => absurd ha List.not_mem_nil) (fun _ _ i hi ei q1 q2 q3 q4 => ?_), i14.fr (by rw [hG]; rfl)⟩
  · have := hD w i q
    rw [upG_n (by omega)]
  · have := (((i12 i hi).2.2.2 q1).2.2 q2 q3).2.1
    have q4 : n_sg (G i) = sh := q4
    omega
theorem r_uni (hL : L ≤ 4096) {f : FS} {g : Nat → Bool → LSt → LRs} {d : Nat} (hf : okRe T L Sd In Nx Am K F N S I X Lt l f (d + 1) g) (hg : okSp T L Sd In Nx Am K F N S I X Lt l g) (fl pp : Int32) {s n p q : Nat} {br : Bool} {So Nm Wi Kd Ma Fa kS kN kD kX Fi : Nat → Int32} {k sh kc : Nat} {pl : List Nat} {D : List Nat → Option Nat} {fi : List (Nat × Nat × Option Nat)} {G : Nat → Nod} (hI : RI T L Sd In Nx Am K F N S I X Lt l So Nm Wi Kd (nI sh) (nI k) (nI kc) kS kN kD kX (nI fi.length) Fi (k, sh, kc, pl, D, fi, G)) (hs : s + 1 = k) (hsh : sh < 6 + k) (hG : G s = mkN 12 s 0 0 [] []) (hD : ∀ w d, D w = some d → d < s) (hm : ∀ i, i < k → n_me (G i) = s → i = s) (hw : WFs (k, sh, kc, pl, D, fi, G)) (hv : VV T L Sd In Nx Am K F N S I X Lt l n p q) (hc : cb T L p = 91) :
    RX (m_X9_union f fl pp K F N S I X Lt (nI sh) (nI k) So Nm Wi Kd Ma Fa (nI kc) kS kN kD kX (nI fi.length) Fi (nI n) (nI d) (if br = true then 1 else 0)) (PO T L Sd In Nx Am K F N S I X Lt l s kc kN kD) (if br = true then .inl (4, p) else if 1 ≤ (prt T L p).length ∧ (prt T L p).length ≤ 16 then lun g s (prt T L p) 0 (k, sh + 1, kc, pl, D, fi, upG G s (mkN 11 s sh 0 [] [])) else .inl (5, p)) := by
  have hb := hv.base
  obtain ⟨a1, a2, a3, a4⟩ := hv.lst hc
  have i5 := hI.2.2.2.2.1
  unfold m_X9_union
  simp only [m_X9_union_10, m_X9_union_45, m_X9_union_46, bd_go (show n < 4200 by omega) (by decide), bd_gc (show n < 4200 by omega) (by decide), nI_clamp (show n < 2 ^ 31 by omega), a2, hb.2.2.2]
  by_cases e : br = true
  · rw [if_pos e, if_pos e, I10, nd0, trE]
    exact Or.inr ⟨_, rfl⟩
  rw [if_neg e, if_neg e, I00, nd1, trO]
  by_cases c1 : 1 ≤ (prt T L p).length
  rotate_left
  · rw [if_pos (show nI (prt T L p).length ≤ 0 by rw [show (prt T L p).length = 0 by omega]; decide), nd0, trE, if_neg (fun z => c1 z.1)]
    exact Or.inr ⟨_, rfl⟩
  rw [if_neg (show ¬ nI (prt T L p).length ≤ 0 from nI_ge (a := 0) (by omega) (by omega))]
  by_cases c2 : (prt T L p).length ≤ 16
  rotate_left
  · rw [if_pos (show (17 : Int32) ≤ nI (prt T L p).length from nI_le (a := 17) (by omega) (by omega)), nd0, trE, if_neg (fun z => c2 z.2)]
    exact Or.inr ⟨_, rfl⟩
  rw [if_neg (show ¬ (17 : Int32) ≤ nI (prt T L p).length from nI_ge (b := 17) (by omega) (by decide)), nd1, trO, if_pos ⟨c1, c2⟩, shp_eq (show sh < 140 by omega)]
  simp only [Option.bind_some]
  have hI1 := hI.shp (pl' := pl) (x := 11) hs hsh hG hD (by decide) (by decide) hm
  have hw1 : WFs (k, sh + 1, kc, pl, D, fi, upG G s (mkN 11 s sh 0 [] [])) := by
    refine ⟨fun w d hd => ?_, hw.2⟩
    have := hD w d hd
    rw [upG_n (by omega)]
    exact hw.1 w d hd
  have hgo := r_uni_go hf hg (s := s) (kc0 := kc) (kN0 := kN) (kD0 := kD) (prt T L p) sr_fuel 0 _ _ _ _ fl pp _ _ _ _ (upd Ma sh 0) (upd Fa sh (-1)) kS kN kD kX Fi k (sh + 1) kc pl D fi _ (by unfold sr_fuel; omega) (by omega) hI1 hw1 (by omega) (by rw [upG_s]; rfl) (by rw [upG_s]; rfl) (by rw [upG_s]; rfl) (by rw [upG_s]; rfl) (fun x hx => by rw [upG_s] at hx; exact absurd hx List.not_mem_nil) a4 (Nat.le_refl _) (fun _ _ => ⟨rfl, rfl⟩)
  rw [upG_s] at hgo
  exact hgo
theorem r_itm {f : FS} {g : Nat → Bool → LSt → LRs} {d : Nat} (hf : okRe T L Sd In Nx Am K F N S I X Lt l f (d + 1) g) (hg : okSp T L Sd In Nx Am K F N S I X Lt l g) (fl pp : Int32) {s n p q c v b x6 : Nat} (hk6 : x6 = 6 ∨ x6 = 7) {So Nm Wi Kd Ma Fa kS kN kD kX Fi : Nat → Int32} {k sh kc : Nat} {pl : List Nat} {D : List Nat → Option Nat} {fi : List (Nat × Nat × Option Nat)} {G : Nat → Nod} (hI : RI T L Sd In Nx Am K F N S I X Lt l So Nm Wi Kd (nI sh) (nI k) (nI kc) kS kN kD kX (nI fi.length) Fi (k, sh, kc, pl, D, fi, G)) (hs : s + 1 = k) (hsh : sh < 6 + k) (hG : G s = mkN 12 s 0 0 [] []) (hD : ∀ w d, D w = some d → d < s) (hm : ∀ i, i < k → n_me (G i) = s → i = s) (hw : WFs (k, sh, kc, pl, D, fi, G)) (hz : VV T L Sd In Nx Am K F N S I X Lt l c v b) :
    RX (m_X9_schemaOf_305 f K F N S I X Lt fl pp (nI sh) (nI k) So Nm Wi Kd Ma Fa (nI kc) kS kN kD kX (nI fi.length) Fi (nI d) (nI c) (nI x6)) (PO T L Sd In Nx Am K F N S I X Lt l s kc kN kD) (match g v false (k, sh + 1, kc + 1, pl ++ litN (if x6 = 6 then 17 else 18), D, fi, upG G s (mkN x6 s sh 0 [] [kc])) with
      | .inl e => .inl e
      | .inr st' => .inr (wrt [125] (jon s k st'))) := by
  have i5 := hI.2.2.2.2.1
  have i7 := hI.2.2.2.2.2.2.1
  unfold m_X9_schemaOf_305
  rw [shp_eq (show sh < 140 by omega)]
  simp only [Option.bind_some]
  by_cases hkc : kc < 2200
  rotate_left
  · rw [adk_no hkc (by omega)]
    exact RX.no
  have hI1 := hI.shp (pl' := pl ++ litN (if x6 = 6 then 17 else 18)) (x := x6) hs hsh hG hD (by omega) (by omega) hm
  have es : srt x6 = x6 := by rcases hk6 with e | e <;> (subst e; decide)
  rw [es] at hI1
  obtain ⟨Ma2, hadk⟩ := adk0 (x := sh) (Kd := upd Kd sh (-1)) (Ma := upd Ma sh 0) (kS := kS) (kN := kN) (kD := kD) (kX := kX) hkc (by omega)
  rw [hadk]
  simp only [Option.bind_some, nI_1]
  have hIk := hI1.kid (s := s) (x := mkN x6 s sh 0 [] [kc]) (vS := -1) (vN := -1) (vD := -1) (by omega) hkc (by rw [upG_s]; rfl) (by rw [upG_s]; show 6 ≤ x6; omega) (by rw [upG_s]; show x6 ≤ 11; omega) (by rw [upG_s]; rfl) (by rw [upG_s]; rfl) (by rw [upG_s]; rfl) (by rw [upG_s]; rfl) (by rw [upG_s]; rfl) (by rw [upG_s]; rfl) (by rw [upG_s]; rfl) (by rw [upG_s]; rfl) (fun z => by rw [upG_s] at z; have z : x6 = 9 := z; omega) (fun _ => by rw [upG_s]; rfl)
  rw [upG_s] at hIk
  have e2 : upG (upG G s (mkN x6 s sh 0 [] [])) s (mkN x6 s sh 0 [] [kc]) = upG G s (mkN x6 s sh 0 [] [kc]) := funext (fun i => by
    by_cases q : i = s
    · rw [q, upG_s, upG_s]
    · rw [upG_n q, upG_n q, upG_n q])
  rw [e2] at hIk
  have hw1 : WFs (k, sh + 1, kc + 1, pl ++ litN (if x6 = 6 then 17 else 18), D, fi, upG G s (mkN x6 s sh 0 [] [kc])) := by
    refine ⟨fun w d hd => ?_, hw.2⟩
    have := hD w d hd
    rw [upG_n (by omega)]
    exact hw.1 w d hd
  have hf1 := hf fl pp _ _ _ _ Ma2 (upd Fa sh (-1)) _ _ _ _ Fi _ _ _ _ v false _ _ _ hIk hw1 hz
  rw [bF] at hf1
  cases hr : g v false (k, sh + 1, kc + 1, pl ++ litN (if x6 = 6 then 17 else 18), D, fi, upG G s (mkN x6 s sh 0 [] [kc])) with
  | inl e =>
    rw [hr] at hf1
    rcases hf1 with hu | ⟨u, hu⟩
    · have hu : f fl pp K F N S I X Lt (nI (sh + 1)) (nI k) (upd So sh (nI x6)) (upd Nm sh (-1)) (upd Wi sh 0) (upd (upd Kd sh (-1)) sh (nI kc)) Ma2 (upd Fa sh (-1)) (nI (kc + 1)) (upd kS kc (-1)) (upd kN kc (-1)) (upd kD kc (-1)) (upd kX kc (-1)) (nI fi.length) Fi (nI c) (nI (d + 1)) 0 = none := hu
      rw [hu, trN]; exact RX.no
    · have hu : f fl pp K F N S I X Lt (nI (sh + 1)) (nI k) (upd So sh (nI x6)) (upd Nm sh (-1)) (upd Wi sh 0) (upd (upd Kd sh (-1)) sh (nI kc)) Ma2 (upd Fa sh (-1)) (nI (kc + 1)) (upd kS kc (-1)) (upd kN kc (-1)) (upd kD kc (-1)) (upd kX kc (-1)) (nI fi.length) Fi (nI c) (nI (d + 1)) 0 = _ := hu
      rw [hu, trE]
      obtain ⟨u1, u2, u3, u4, u5, u6, u7, u8, u9, u10, u11, u12, u13, u14, u15⟩ := u
      exact Or.inr ⟨_, rfl⟩
  | inr st1 =>
    rw [hr] at hf1
    obtain ⟨fp, _⟩ := hg _ _ _ _ _ _ hz hw1 hr
    rcases hf1 with hu | ⟨vv, u, hu, hP⟩
    · have hu : f fl pp K F N S I X Lt (nI (sh + 1)) (nI k) (upd So sh (nI x6)) (upd Nm sh (-1)) (upd Wi sh 0) (upd (upd Kd sh (-1)) sh (nI kc)) Ma2 (upd Fa sh (-1)) (nI (kc + 1)) (upd kS kc (-1)) (upd kN kc (-1)) (upd kD kc (-1)) (upd kX kc (-1)) (nI fi.length) Fi (nI c) (nI (d + 1)) 0 = none := hu
      rw [hu, trN]; exact RX.no
    have hu : f fl pp K F N S I X Lt (nI (sh + 1)) (nI k) (upd So sh (nI x6)) (upd Nm sh (-1)) (upd Wi sh 0) (upd (upd Kd sh (-1)) sh (nI kc)) Ma2 (upd Fa sh (-1)) (nI (kc + 1)) (upd kS kc (-1)) (upd kN kc (-1)) (upd kD kc (-1)) (upd kX kc (-1)) (nI fi.length) Fi (nI c) (nI (d + 1)) 0 = _ := hu
    rw [hu, trO]
    obtain ⟨k1, sh1, kc1, pl1, D1, fi1, G1⟩ := st1
    obtain ⟨fl1, pp1, shI, lkI, So1, Nm1, Wi1, Kd1, Ma1, Fa1, kcI, kS1, kN1, kD1, kX1, dnI, Fi1⟩ := u
    obtain ⟨hI2, ev, hfr1⟩ := hP
    obtain ⟨a1, a2, a3, a4, a5, a6, a7, a8, a9, a10, a11, a12, a13⟩ := fp
    obtain ⟨j1, j2, j3, j4, j5, j6, j7, j8, j9, j10, j11, j12, j13, j14⟩ := hI2
    subst j1
    subst j4
    subst j6
    subst j8
    have hI2 : RI T L Sd In Nx Am K F N S I X Lt l So1 Nm1 Wi1 Kd1 (nI sh1) (nI k1) (nI kc1) kS1 kN1 kD1 kX1 (nI fi1.length) Fi1 (k1, sh1, kc1, pl1, D1, fi1, G1) := ⟨rfl, j2, j3, rfl, j5, rfl, j7, rfl, j9, j10, j11, j12, j13, j14⟩
    have ev : vv = nI (n_sg (G1 k)) := ev
    have hfr1 : ∀ a, a < kc + 1 → kN1 a = upd kN kc (-1) a ∧ kD1 a = upd kD kc (-1) a := hfr1
    have eGs : G1 s = mkN x6 s sh 0 [] [kc] := by rw [a5 s (by omega), upG_s]
    have ekl : n_kl (G1 s) = [kc] := by rw [eGs]; rfl
    have ech : n_ch (G1 s) = [] := by rw [eGs]; rfl
    have egd : (n_kl (G1 s)).getD (n_ch (G1 s)).length 0 = kc := by rw [ekl, ech]; rfl
    have hIj := hI2.jon (s := s) (c := k) (by omega) a1 (by omega) (by rw [eGs]; rfl) (by rw [eGs]; show 6 ≤ x6; omega) (by rw [eGs]; show x6 ≤ 11; omega) a10 (by rw [ekl, ech]; show 0 < 1; omega) (fun z => by rw [eGs] at z; have z : x6 = 10 := z; omega)
    rw [egd] at hIj
    simp only [bd_go hkc (by decide), bd_gc hkc (by decide), nI_clamp (show kc < 2 ^ 31 by omega)]
    refine Or.inr ⟨_, _, rfl, ?_, ?_, fun a ha => ?_⟩
    · rw [ev]
      exact hIj
    · show nI sh = nI (n_sg (upG (upG G1 s (chN (G1 s) k)) k (paN (G1 k) s) s))
      rw [upG_n (by omega), upG_s, eGs]
      rfl
    · rw [(hfr1 a (by omega)).1, (hfr1 a (by omega)).2, pk_un (by omega), pk_un (by omega)]
      exact ⟨rfl, rfl⟩
end RUNI2
