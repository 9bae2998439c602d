-- the reference's symbols
theorem lit_r : litN 48 = litN 15 ∧ litN 51 = litN 16 ∧ litN 52 = litN 19 ∧ litN 56 = litN 20 ∧ litN 57 = litN 23 ∧ litN 58 = litN 25 ∧ litN 59 = litN 28 ∧ litN 60 = litN 29 ∧ litN 49 = litN 9 ∧ litN 50 = litN 10 ∧ litN 53 = litN 11 ∧ litN 54 = litN 12 ∧ litN 55 = litN 13 := by decide +kernel
def RXY (x : Option (Except TY (Unit × TY))) (P : TY → LSt → Prop) : LRs → Prop
  | .inl e => x = none ∨ ∃ u, x = some (.error (nI e.1, (nI e.2, u)))
  | .inr st => x = none ∨ ∃ u, x = some (.ok ((), u)) ∧ P u st
theorem RXY.no {P : TY → LSt → Prop} {r : LRs} : RXY none P r := by
  cases r with
  | inl e => exact Or.inl rfl
  | inr st => exact Or.inl rfl
def PY (T : Nat → Int32) (L : Nat) (Sd In Nx Am K F : Nat → Int32) (N : Nat → Int64) (S I X Lt : Nat → Int32) (l : Nat) (So Nm Wi : Nat → Int32) (shI lkI dnI : Int32) (Fi : Nat → Int32) (kc0 : Nat) (kN0 kD0 : Nat → Int32) : TY → LSt → Prop
  | (_, _, Kd, _, _, kc, kS, kN, kD, kX), st => RI T L Sd In Nx Am K F N S I X Lt l So Nm Wi Kd shI lkI kc kS kN kD kX dnI Fi st ∧ ∀ a, a < kc0 → kN a = kN0 a ∧ kD a = kD0 a
section RSYM
variable {T : Nat → Int32} {L : Nat} {Sd In Nx Am K F S I X Lt : Nat → Int32} {N : Nat → Int64} {l : Nat}
theorem VV.kk {n p q : Nat} (h : VV T L Sd In Nx Am K F N S I X Lt l n p q) : (K n = 2 ↔ cb T L p = 34) ∧ (K n = 1 ↔ cb T L p = 91) ∧ (K n = 0 ↔ cb T L p = 123) ∧ (K n = 3 ↔ (cb T L p = 45 ∨ (48 ≤ cb T L p ∧ cb T L p ≤ 57))) := by
  have hk := h.kn
  unfold kdn at hk
  by_cases c1 : cb T L p = 34
  · rw [if_pos c1] at hk
    rw [hk]
    exact ⟨⟨fun _ => c1, fun _ => rfl⟩, ⟨fun z => absurd z (by decide), fun z => by omega⟩, ⟨fun z => absurd z (by decide), fun z => by omega⟩, ⟨fun z => absurd z (by decide), fun z => by omega⟩⟩
  rw [if_neg c1] at hk
  by_cases c2 : cb T L p = 91
  · rw [if_pos c2] at hk
    rw [hk]
    exact ⟨⟨fun z => absurd z (by decide), fun z => by omega⟩, ⟨fun _ => c2, fun _ => rfl⟩, ⟨fun z => absurd z (by decide), fun z => by omega⟩, ⟨fun z => absurd z (by decide), fun z => by omega⟩⟩
  rw [if_neg c2] at hk
  by_cases c3 : cb T L p = 123
  · rw [if_pos c3] at hk
    rw [hk]
    exact ⟨⟨fun z => absurd z (by decide), fun z => by omega⟩, ⟨fun z => absurd z (by decide), fun z => by omega⟩, ⟨fun _ => c3, fun _ => rfl⟩, ⟨fun z => absurd z (by decide), fun z => by omega⟩⟩
  rw [if_neg c3] at hk
  by_cases c4 : cb T L p = 45 ∨ (48 ≤ cb T L p ∧ cb T L p ≤ 57)
  · rw [if_pos c4] at hk
    rw [hk]
    exact ⟨⟨fun z => absurd z (by decide), fun z => absurd z c1⟩, ⟨fun z => absurd z (by decide), fun z => absurd z c2⟩, ⟨fun z => absurd z (by decide), fun z => absurd z c3⟩, ⟨fun _ => c4, fun _ => rfl⟩⟩
  rw [if_neg c4] at hk
  have key : K n = 4 ∨ K n = 5 ∨ K n = 6 := by
    by_cases c5 : cb T L p = 116
    · rw [if_pos c5] at hk; exact Or.inl hk
    rw [if_neg c5] at hk
    by_cases c6 : cb T L p = 102
    · rw [if_pos c6] at hk; exact Or.inr (Or.inl hk)
    · rw [if_neg c6] at hk; exact Or.inr (Or.inr hk)
  refine ⟨⟨fun z => ?_, fun z => absurd z c1⟩, ⟨fun z => ?_, fun z => absurd z c2⟩, ⟨fun z => ?_, fun z => absurd z c3⟩, ⟨fun z => ?_, fun z => absurd z c4⟩⟩
  all_goals (rw [z] at key; exact absurd key (by decide))
theorem inm_no {n : Nat} (hn : n < 4200) (hk : ¬ K n = 2) : m_X9_isName K N S Lt (nI n) = some 0 := by
  obtain ⟨f1, hf1⟩ : ∃ f, sr_fuel = f + 1 := ⟨sr_fuel - 1, by unfold sr_fuel; omega⟩
  have hz : m_X9_isName_38 K N S Lt sr_fuel (nI n) 0 0 = some 0 := by rw [hf1]; exact nm0 hn
  simp only [m_X9_isName, bd_go hn (by decide), bd_gc hn (by decide), nI_clamp (show n < 2 ^ 31 by omega), if_neg hk, hz]
theorem r_sym_in (hl : l ≤ 4200) {k88 : Int32 → Int32 → (Nat → Int32) → (Nat → Int32) → (Nat → Int32) → Int32 → (Nat → Int32) → (Nat → Int32) → (Nat → Int32) → (Nat → Int32) → Int32 → Int32 → Int32 → Int32 → Option (Except TY (Unit × TY))} {fl pp : Int32} {So Nm Wi Kd Ma Fa kS kN kD kX Fi : Nat → Int32} {k sh kc : Nat} {pl : List Nat} {D : List Nat → Option Nat} {fi : List (Nat × Nat × Option Nat)} {G : Nat → Nod} (hI : RI T L Sd In Nx Am K F N S I X Lt l So Nm Wi Kd (nI sh) (nI k) (nI kc) kS kN kD kX (nI fi.length) Fi (k, sh, kc, pl, D, fi, G)) {s n p q : Nat} {x2 x4 : Int32} {w : List Nat} (hs : s < k) (hm : n_me (G s) = s) (hk : n_kd (G s) = 9) (h32 : (n_kl (G s)).length ≤ 32) (hv : VV T L Sd In Nx Am K F N S I X Lt l n p q) (hw : RSt N S Lt l n w) (hwb : ∀ v, v ∈ w → v ≤ 255) :
    (w ∈ n_sy (G s) ∧ ∃ u, m_X9_symbols_120 K F N S I X Lt k88 sr_fuel fl pp Kd Ma Fa (nI kc) kS kN kD kX (nI (n_sg (G s))) x2 x4 (nI n) (Kd (n_sg (G s))) = some (.error (11, nI p, u))) ∨ (w ∉ n_sy (G s) ∧ m_X9_symbols_120 K F N S I X Lt k88 sr_fuel fl pp Kd Ma Fa (nI kc) kS kN kD kX (nI (n_sg (G s))) x2 x4 (nI n) (Kd (n_sg (G s))) = m_X9_symbols_120 K F N S I X Lt k88 1 fl pp Kd Ma Fa (nI kc) kS kN kD kX (nI (n_sg (G s))) x2 x4 (nI n) (-1)) := by
  obtain ⟨i1, i2, i3, i4, i5, i6, i7, i8, i9, i10, i11, i12, i13, i14⟩ := hI
  obtain ⟨s0, s1, s2, s3⟩ := i12 s hs
  obtain ⟨t1, t2, t3⟩ := s3 hm
  obtain ⟨c1, c2, c3, c4, c5, c6, c7, c8⟩ := t3 (by omega) (by omega)
  obtain ⟨c9, c10⟩ := c8 hk
  have hb := hv.base
  obtain ⟨R, hR⟩ : ∃ R, ∀ fu, m_X9_symbols_120 K F N S I X Lt k88 (fu + 1) fl pp Kd Ma Fa (nI kc) kS kN kD kX (nI (n_sg (G s))) x2 x4 (nI n) (-1) = R := ⟨m_X9_symbols_120 K F N S I X Lt k88 1 fl pp Kd Ma Fa (nI kc) kS kN kD kX (nI (n_sg (G s))) x2 x4 (nI n) (-1), fun fu => by simp only [m_X9_symbols_120, if_pos (show (-1 : Int32) < 0 by decide)]⟩
  have go : ∀ (fuel j : Nat), j ≤ (n_kl (G s)).length → (n_kl (G s)).length - j < fuel → (∀ i, i < j → (n_sy (G s)).getD i [] ≠ w) →
      (w ∈ n_sy (G s) ∧ ∃ u, m_X9_symbols_120 K F N S I X Lt k88 fuel fl pp Kd Ma Fa (nI kc) kS kN kD kX (nI (n_sg (G s))) x2 x4 (nI n) (if j = (n_kl (G s)).length then -1 else nI ((n_kl (G s)).getD j 0)) = some (.error (11, nI p, u))) ∨ (w ∉ n_sy (G s) ∧ m_X9_symbols_120 K F N S I X Lt k88 fuel fl pp Kd Ma Fa (nI kc) kS kN kD kX (nI (n_sg (G s))) x2 x4 (nI n) (if j = (n_kl (G s)).length then -1 else nI ((n_kl (G s)).getD j 0)) = R) := by
    intro fuel
    induction fuel with
    | zero => intro j _ hf; exact absurd hf (Nat.not_lt_zero _)
    | succ fuel ih =>
      intro j hj hf ha
      by_cases e : j = (n_kl (G s)).length
      · rw [if_pos e]
        refine Or.inr ⟨fun z => ?_, hR fuel⟩
        obtain ⟨i, hi, ei⟩ := sy_mem.mpr z
        exact ha i (by omega) ei
      · have hjk : j < (n_kl (G s)).length := by omega
        obtain ⟨d1, d2⟩ := c4.1 j hjk
        have d1 : (n_kl (G s)).getD j 0 < kc := d1
        obtain ⟨m, m1, m2, m3, m4⟩ := c10 j hjk
        rw [if_neg e]
        simp only [m_X9_symbols_120, if_neg (nI_pos (show (n_kl (G s)).getD j 0 < 2 ^ 31 by omega)), bd_go (show (n_kl (G s)).getD j 0 < 2200 by omega) (by decide), bd_gc (show (n_kl (G s)).getD j 0 < 2200 by omega) (by decide), nI_clamp (show (n_kl (G s)).getD j 0 < 2 ^ 31 by omega), m1, same_r m2 hb.2.2.1 hl hl m3 hw m4 hwb, Option.bind_some, m_X9_symbols_148, bd_go (show n < 4200 by omega) (by decide), bd_gc (show n < 4200 by omega) (by decide), nI_clamp (show n < 2 ^ 31 by omega)]
        by_cases q : (n_sy (G s)).getD j [] = w
        · rw [if_pos q, I10, nd0, trE, hb.2.2.2]
          exact Or.inl ⟨sy_mem.mp ⟨j, by omega, q⟩, _, rfl⟩
        · rw [if_neg q, I00, nd1, trO, d2]
          refine ih (j + 1) (by omega) (by omega) (fun i hi => ?_)
          by_cases ei : i = j
          · rw [ei]; exact q
          · exact ha i (by omega)
  have := go sr_fuel 0 (by omega) (by unfold sr_fuel; omega) (fun i hi => absurd hi (Nat.not_lt_zero _))
  rw [← c4.ptr] at this
  exact this.imp id (fun z => ⟨z.1, z.2.trans (hR 0).symm⟩)
theorem r_sym_go (hL : L ≤ 4096) (hl : l ≤ 4200) {s n p q kc0 : Nat} (hv : VV T L Sd In Nx Am K F N S I X Lt l n p q) (hc : cb T L p = 123) {kN0 kD0 So Nm Wi Fi : Nat → Int32} : ∀ (ks : List (Nat × Nat)) (fuel i lo hi : Nat) (hcp hr : Int32) (fl pp : Int32) (Kd Ma Fa kS kN kD kX : Nat → Int32) (k sh kc : Nat) (pl : List Nat) (D : List Nat → Option Nat) (fi : List (Nat × Nat × Option Nat)) (G : Nat → Nod), ks.length < fuel → i + ks.length ≤ 32 → RI T L Sd In Nx Am K F N S I X Lt l So Nm Wi Kd (nI sh) (nI k) (nI kc) kS kN kD kX (nI fi.length) Fi (k, sh, kc, pl, D, fi, G) → s < k → n_me (G s) = s → n_kd (G s) = 9 → (n_kl (G s)).length = i → LCH T L Sd In Nx Am K F N S I X Lt l ks lo hi hcp hr → kc0 ≤ kc → (∀ a, a < kc0 → kN a = kN0 a ∧ kD a = kD0 a) →
    RXY (m_X9_symbols_88 K F N S I X Lt fuel fl pp Kd Ma Fa (nI kc) kS kN kD kX (nI (n_sg (G s))) (nI n) (if (n_kl (G s)).length = 0 then -1 else nI ((n_kl (G s)).getD ((n_kl (G s)).length - 1) 0)) hr) (PY T L Sd In Nx Am K F N S I X Lt l So Nm Wi (nI sh) (nI k) (nI fi.length) Fi kc0 kN0 kD0) (len2 T L s p (lsy T L s ks (k, sh, kc, pl, D, fi, G))) := by
  intro ks
  have hb := hv.base
  induction ks with
  | nil =>
    intro fuel i lo hi hcp hr fl pp Kd Ma Fa kS kN kD kX k sh kc pl D fi G hfu hi32 hI hs hm hk hkl hlc hk0 hfr
    obtain ⟨fu, rfl⟩ : ∃ z, fuel = z + 1 := ⟨fuel - 1, by omega⟩
    have hI1 : RI T L Sd In Nx Am K F N S I X Lt l So Nm Wi Kd (nI sh) (nI k) (nI kc) kS kN kD kX (nI fi.length) Fi (k, sh, kc, pl ++ litN 27, D, fi, G) := hI
    obtain ⟨g1, g2, g3, g4, _⟩ := hI.sg hs hm (by omega) (by omega)
    simp only [m_X9_symbols_88, lsy, len2]
    rw [hlc.2.2, if_pos (show (-1 : Int32) < 0 by decide)]
    have em := mbr_r hl hv hc (w := 59) (by decide) hL
    rw [lit_r.2.2.2.2.2.2.1] at em
    rcases em with ⟨e, em⟩ | ⟨v, c, b, e, em, z1⟩
    · rw [e, em]
      simp only [Option.bind_some, if_pos (show (-1 : Int32) < 0 by decide)]
      exact Or.inr ⟨_, rfl, hI1, hfr⟩
    · rw [e, em]
      have hzb := z1.base
      have hkk := z1.kk.1
      simp only [Option.bind_some, if_neg (nI_pos (show c < 2 ^ 31 by omega)), bd_go (show c < 4200 by omega) (by decide), bd_gc (show c < 4200 by omega) (by decide), nI_clamp (show c < 2 ^ 31 by omega), m_X9_symbols_244, m_X9_symbols_245, hzb.2.2.2]
      by_cases c34 : cb T L v = 34
      rotate_left
      · rw [if_neg (fun z => c34 (hkk.mp z)), nd0, trE, dec_f (fun z => c34 z.1), bF]
        exact Or.inr ⟨_, rfl⟩
      obtain ⟨s0, y1, y2, y3, y4, y5, y6⟩ := z1.str c34
      rw [if_pos (hkk.mpr c34), y2]
      obtain ⟨i1, i2, i3, i4, i5, i6, i7, i8, i9, i10, i11, i12, i13, i14⟩ := hI
      obtain ⟨s0', s1, s2, s3⟩ := i12 s hs
      obtain ⟨t1, t2, t3⟩ := s3 hm
      obtain ⟨c1, c2, c3, c4, c5, c6, c7, c8⟩ := t3 (by omega) (by omega)
      obtain ⟨c9, c10⟩ := c8 hk
      rcases rsy_eq (N := N) (S := S) (Lt := Lt) hl g1 i7 c4 c10 (u := s0) (n := c) ⟨c, rfl, hzb.2.2.1, y4, y6⟩ hzb.2.2.1 (by omega) with ⟨⟨j, j1, j2⟩, j', j3, j4⟩ | ⟨j1, j2⟩
      · have hin : s0 ∈ n_sy (G s) := sy_mem.mp ⟨j, by omega, j2⟩
        rw [j4]
        simp only [Option.bind_some]
        rw [if_neg (nI_pos (show j' < 2 ^ 31 by omega)), nd1, trO, dec_t ⟨c34, hin⟩, bT]
        simp only [bd_go g1 (by decide), bd_gc g1 (by decide)]
        exact Or.inr ⟨_, rfl, hI1, hfr⟩
      · have hin : s0 ∉ n_sy (G s) := fun z => by
          obtain ⟨i', h1, h2⟩ := sy_mem.mpr z
          exact j1 ⟨i', by omega, h2⟩
        rw [j2]
        simp only [Option.bind_some]
        rw [if_pos (show (-1 : Int32) < 0 by decide), nd0, trE, dec_f (fun z => hin z.2), bF]
        exact Or.inr ⟨_, rfl⟩
  | cons v t ih =>
    intro fuel i lo hi hcp hr fl pp Kd Ma Fa kS kN kD kX k sh kc pl D fi G hfu hi32 hI hs hm hk hkl hlc hk0 hfr
    obtain ⟨fu, rfl⟩ : ∃ z, fuel = z + 1 := ⟨fuel - 1, by omega⟩
    rw [List.length_cons] at hfu hi32
    obtain ⟨c, b, c1, c2, c3, c4, c5, c6⟩ := hlc
    have hcb := c4.base
    have hkk := c4.kk.1
    obtain ⟨g1, g2, g3, g4, _⟩ := hI.sg hs hm (by omega) (by omega)
    simp only [m_X9_symbols_88, lsy]
    rw [c3, if_neg (nI_pos (show c < 2 ^ 31 by omega))]
    simp only [bd_go (show c < 4200 by omega) (by decide), bd_gc (show c < 4200 by omega) (by decide), nI_clamp (show c < 2 ^ 31 by omega), hcb.2.2.2]
    by_cases c34 : cb T L v.2 = 34
    rotate_left
    · rw [inm_no hcb.2.2.1 (fun z => c34 (hkk.mp z)), dec_f (fun z => c34 z.1), bF]
      simp only [Option.bind_some, len2]
      rw [nd0, trE]
      exact Or.inr ⟨_, rfl⟩
    obtain ⟨s0, y1, y2, y3, y4, y5, y6⟩ := c4.str c34
    rw [y2]
    rcases inm_eq hl hcb.2.2.1 (hkk.mpr c34) y4 y6 with ⟨n1, n2⟩ | ⟨n1, n2⟩
    rotate_left
    · rw [n2, dec_f (fun z => n1 z.2.1), bF]
      simp only [Option.bind_some, len2]
      rw [nd0, trE]
      exact Or.inr ⟨_, rfl⟩
    rw [n2]
    simp only [Option.bind_some]
    rw [nd1, trO]
    simp only [bd_go g1 (by decide), bd_gc g1 (by decide), nI_clamp (show n_sg (G s) < 2 ^ 31 by omega)]
    rcases r_sym_in hl (k88 := m_X9_symbols_88 K F N S I X Lt fu) (fl := fl) (pp := pp) (Ma := Ma) (Fa := Fa) hI (s := s) (x2 := nI n) (x4 := if (n_kl (G s)).length = 0 then -1 else nI ((n_kl (G s)).getD ((n_kl (G s)).length - 1) 0)) hs hm hk (by omega) c4 y4 y6 with ⟨hin, u, hq⟩ | ⟨hin, hq⟩
    · rw [hq, dec_f (fun z => z.2.2 hin), bF]
      exact Or.inr ⟨_, rfl⟩
    rw [hq, dec_t ⟨c34, n1, hin⟩, bT]
    simp only [m_X9_symbols_120, if_pos (show (-1 : Int32) < 0 by decide)]
    have i7 := hI.2.2.2.2.2.2.1
    by_cases hkc : kc < 2200
    rotate_left
    · rw [adk_no hkc (by omega)]
      exact RXY.no
    obtain ⟨Ma2, hadk⟩ := adk_eq (Kd := Kd) (Ma := Ma) (kS := kS) (kN := kN) (kD := kD) (kX := kX) hkc g1 g2
    rw [hadk]
    simp only [Option.bind_some, bd_go hkc (by decide), bd_gc hkc (by decide), nI_clamp (show kc < 2 ^ 31 by omega), bd_go (show c < 4200 by omega) (by decide), bd_gc (show c < 4200 by omega) (by decide), nI_clamp (show c < 2 ^ 31 by omega)]
    have hIk := hI.kid (s := s) (x := syN (G s) s0 kc) (vS := -1) (vN := nI c) (vD := -1) hs hkc hm (by omega) (by omega) rfl rfl rfl rfl rfl rfl rfl rfl (fun _ => ⟨s0, rfl, c, rfl, hcb.2.2.1, y4, y6⟩) (fun z => absurd hk z)
    have ekl : n_kl (upG G s (syN (G s) s0 kc) s) = n_kl (G s) ++ [kc] := by rw [upG_s]; rfl
    have esg : n_sg (upG G s (syN (G s) s0 kc) s) = n_sg (G s) := by rw [upG_s]; rfl
    have hlast : (if (n_kl (G s) ++ [kc]).length = 0 then (-1 : Int32) else nI ((n_kl (G s) ++ [kc]).getD ((n_kl (G s) ++ [kc]).length - 1) 0)) = nI kc := by
      rw [List.length_append, List.length_singleton, if_neg (by omega), Nat.add_sub_cancel, show (n_kl (G s) ++ [kc]).getD (n_kl (G s)).length 0 = kc from (congrFun snc_app.symm _).trans snc_s]
    have eup : upd (upd kN kc (-1)) kc (nI c) = upd kN kc (nI c) := by
      funext j
      by_cases q : j = kc
      · rw [q, pk_us, pk_us]
      · rw [pk_un q, pk_un q, pk_un q]
    rw [eup]
    have fin := ih fu (i + 1) _ hi (Nx v.2) (X c) fl pp _ Ma2 Fa _ _ _ _ k sh (kc + 1) (pl ++ ((if n_sy (G s) = [] then [] else [44]) ++ qt s0)) D fi _ (by omega) (by omega) hIk hs (by rw [upG_s]; exact hm) (by rw [upG_s]; exact hk) (by rw [ekl, List.length_append, List.length_singleton]; omega) c6 (by omega) (fun a ha => by
      rw [pk_un (by omega), pk_un (by omega)]
      exact hfr a ha)
    rw [ekl, hlast, esg] at fin
    exact fin
theorem r_sym (hL : L ≤ 4096) (hl : l ≤ 4200) {fl pp : Int32} {s n p q : Nat} {So Nm Wi Kd Ma Fa kS kN kD kX Fi : Nat → Int32} {k sh kc : Nat} {pl : List Nat} {D : List Nat → Option Nat} {fi : List (Nat × Nat × Option Nat)} {G : Nat → Nod} (hI : RI T L Sd In Nx Am K F N S I X Lt l So Nm Wi Kd (nI sh) (nI k) (nI kc) kS kN kD kX (nI fi.length) Fi (k, sh, kc, pl, D, fi, G)) (hs : s < k) (hG : ∃ sg, G s = mkN 9 s sg 0 [] []) (hv : VV T L Sd In Nx Am K F N S I X Lt l n p q) (hc : cb T L p = 123) :
    RXY (m_X9_symbols fl pp K F N S I X Lt Kd Ma Fa (nI kc) kS kN kD kX (nI (n_sg (G s))) (nI n)) (PY T L Sd In Nx Am K F N S I X Lt l So Nm Wi (nI sh) (nI k) (nI fi.length) Fi kc kN kD) (len T L s p (k, sh, kc, pl, D, fi, G)) := by
  have hb := hv.base
  obtain ⟨sg, hG⟩ := hG
  have ekl : n_kl (G s) = [] := by rw [hG]; rfl
  rw [len_2]
  simp only [wrt]
  unfold m_X9_symbols
  have em := mbr_r hl hv hc (w := 58) (by decide) hL
  rw [lit_r.2.2.2.2.2.1] at em
  simp only [m_X9_symbols_19, m_X9_symbols_65, m_X9_symbols_66, bd_go (show n < 4200 by omega) (by decide), bd_gc (show n < 4200 by omega) (by decide), nI_clamp (show n < 2 ^ 31 by omega), hb.2.2.2]
  rcases em with ⟨e, em⟩ | ⟨v, c, b, e, em, z1⟩
  · rw [e, em]
    simp only [Option.bind_some, if_pos (show (-1 : Int32) < 0 by decide)]
    rw [nd0, trE]
    exact Or.inr ⟨_, rfl⟩
  rw [e, em]
  have hzb := z1.base
  have hkk := z1.kk.2.1
  simp only [Option.bind_some, if_neg (nI_pos (show c < 2 ^ 31 by omega))]
  rw [nd1, trO]
  simp only [bd_go (show c < 4200 by omega) (by decide), bd_gc (show c < 4200 by omega) (by decide), nI_clamp (show c < 2 ^ 31 by omega), hzb.2.2.2]
  by_cases c91 : cb T L v = 91
  rotate_left
  · rw [if_neg (fun z => c91 (hkk.mp z)), nd0, trE, if_neg (fun z => c91 z.1)]
    exact Or.inr ⟨_, rfl⟩
  obtain ⟨a1, a2, a3, a4⟩ := z1.lst c91
  rw [if_pos (hkk.mpr c91), a2]
  by_cases x1 : 1 ≤ (prt T L v).length
  rotate_left
  · rw [if_pos (show nI (prt T L v).length ≤ 0 by rw [show (prt T L v).length = 0 by omega]; decide), nd0, trE, if_neg (fun z => x1 z.2.1)]
    exact Or.inr ⟨_, rfl⟩
  rw [if_neg (show ¬ nI (prt T L v).length ≤ 0 from nI_ge (a := 0) (by omega) (by omega))]
  by_cases x2 : (prt T L v).length ≤ 32
  rotate_left
  · rw [if_pos (show (33 : Int32) ≤ nI (prt T L v).length from nI_le (a := 33) (by omega) (by omega)), nd0, trE, if_neg (fun z => x2 z.2.2)]
    exact Or.inr ⟨_, rfl⟩
  rw [if_neg (show ¬ (33 : Int32) ≤ nI (prt T L v).length from nI_ge (b := 33) (by omega) (by decide)), nd1, trO, if_pos ⟨c91, x1, x2⟩]
  have fin := r_sym_go hL hl (s := s) (kc0 := kc) (kN0 := kN) (kD0 := kD) hv hc (prt T L v) sr_fuel 0 _ _ _ _ fl pp Kd Ma Fa kS kN kD kX k sh kc (pl ++ litN 26) D fi G (by unfold sr_fuel; omega) (by omega) hI hs (by rw [hG]; rfl) (by rw [hG]; rfl) (by rw [ekl]; rfl) a4 (Nat.le_refl _) (fun _ _ => ⟨rfl, rfl⟩)
  rw [ekl] at fin
  exact fin
end RSYM
