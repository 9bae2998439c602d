-- what both tell of the latest schema
noncomputable def stO (T : Nat → Int32) (L : Nat) : Option LSt := match rdS T L with
  | .inl _ => none
  | .inr st => some st
theorem stO_some {T : Nat → Int32} {L : Nat} {st : LSt} (h : stO T L = some st) : rdS T L = .inr st := by
  unfold stO at h
  cases e : rdS T L with
  | inl x =>
    rw [e] at h
    dsimp only at h
    cases h
  | inr x =>
    rw [e] at h
    dsimp only at h
    rw [Option.some.inj h]
theorem stO_has (T : Nat → Int32) (L : Nat) : (dS T L).2.1 = 0 ↔ stO T L = none := by
  unfold dS stO
  cases e : rdS T L with
  | inl x => exact ⟨fun _ => rfl, fun _ => rfl⟩
  | inr x => exact ⟨fun h => absurd h (show ¬ (1 : Int32) = 0 by decide), fun h => absurd h (Option.some_ne_none x)⟩
/-- the class's rows of one schema tell o -/
def CIx (Pl Ki Me Fi Ne Na Fn Ac : Nat → Int32) (lc sc : Int32) (o : Option LSt) : Prop := ∀ st, o = some st → ∃ (Cf Cs : Nat → Int32) (cc : Int32), CI Pl Ki Me Fi Ne Na Fn Ac lc sc Cf Cs cc st
def CLO (u : TRC) (o : Option LSt) : Prop := match u with
  | (sd9, in9, nx9, am9, wp9, Pl9, Ki9, Me9, Fi9, Ne9, Na9, Fn9, Ac9, Fd9, Ed9, lc9, sc9, Cf9, Cs9, cc9, kh9, kp9, ko9, kn9, kc9) => CIx Pl9 Ki9 Me9 Fi9 Ne9 Na9 Fn9 Ac9 lc9 sc9 o
/-- the reference's latest text tells o -/
def YO (o : Option LSt) (yb : Nat → Int32) (yl : Int32) (ypl : Nat → Int32) (yp : Int32) : Prop := ∀ st, o = some st → st.2.2.2.1.length ≤ 4096 ∧ yp = nI st.2.2.2.1.length ∧ PLI ypl st.2.2.2.1 ∧ ∃ (T B : Nat → Int32) (L : Nat), L ≤ 4096 ∧ BY B L ∧ cb B L = cb T L ∧ rdS T L = .inr st ∧ yl = nI L ∧ ∀ i, i < L → yb i = B i
def YR (o : Option LSt) (r : TYR) : Prop := match r with
  | (y_bytes, y_length, _, _, _, _, _, _, _, _, _, _, _, _, _, _, _, _, _, _, _, _, _, _, _, _, _, _, _, _, _, _, y_plain, y_plainSize, _) => YO o y_bytes y_length y_plain y_plainSize
section TLD
variable {T B : Nat → Int32} {L : Nat} {y_bytes y_kinds y_firsts y_sizes y_inner y_nexts y_letters y_sorts y_names y_wide y_kids y_many y_fallback y_kidShape y_kidName y_kidDefault y_kidNext y_finished y_plain y_told : Nat → Int32} {y_numbers : Nat → Int64} {y_length y_at y_deep y_fault y_place y_end y_nodes y_lettered y_shapes y_looked y_kidCount y_done y_root y_plainSize : Int32} {Sd In Tn Tm Pl Kd Me Fi Nx Na Fn Am Fd Ed Cf Cs kh kp ko kn : Nat → Int32} {lc sc cc kc : Int32}
theorem sch_cls2 (hT : BY T L) (hL : L ≤ 4096) (xh xp wp : Int32) : ∃ u, m_X8_schema xh xp T Sd In Tn Tm (nI L) wp Pl Kd Me Fi Nx Na Fn Am Fd Ed lc sc Cf Cs cc kh kp ko kn kc = some ((dS T L).1, ((dS T L).2.1, (dS T L).2.2, u)) ∧ CLO u (stO T L) := by
  unfold m_X8_schema
  rcases rd_cls2 hT hL 0 (-1) wp Sd In Tn Tm Pl Kd Me Fi Nx Na Fn Am Fd Ed Cf Cs kh kp ko kn lc sc cc kc with ⟨e, u, h1, h2⟩ | ⟨st, u, h1, h2, h3⟩
  · have hd : dS T L = (nI e.1, 0, nI e.2) := by unfold dS; rw [h1]
    have ho : stO T L = none := by unfold stO; rw [h1]
    have hc : ¬ nI e.1 = 0 := by
      rcases read_out2 hT hL (T := T) rfl with ⟨st, h3, _⟩ | ⟨e2, h3, h4, _⟩
      · rw [h1] at h3; cases h3
      · rw [h1] at h3; cases h3; exact h4
    obtain ⟨u1, u2, u3, u4, u5, u6, u7, u8, u9, u10, u11, u12, u13, u14, u15, u16, u17, u18, u19, u20, u21, u22, u23, u24, u25⟩ := u
    rw [h2]
    simp only [Option.bind_some, if_neg hc, m_X8_schema_35, m_X4_faultPlace, if_true, true_or]
    rw [hd, ho]
    exact ⟨_, rfl, fun st h => (nomatch h)⟩
  · have hd : dS T L = (0, 1, -1) := by unfold dS; rw [h1]
    have ho : stO T L = some st := by unfold stO; rw [h1]
    obtain ⟨u1, u2, u3, u4, u5, u6, u7, u8, u9, u10, u11, u12, u13, u14, u15, u16, u17, u18, u19, u20, u21, u22, u23, u24, u25⟩ := u
    have h3 : CI u6 u7 u8 u9 u10 u11 u12 u13 u16 u17 u18 u19 u20 st := h3
    rw [h2]
    simp only [Option.bind_some, m_X8_schema_35, m_X4_faultPlace, if_true, or_true]
    rw [hd, ho]
    refine ⟨_, rfl, fun st2 h => ?_⟩
    rw [← Option.some.inj h]
    exact ⟨u18, u19, u20, h3⟩
theorem sch_ref2 (hB : BY B L) (hL : L ≤ 4096) (hcb : cb B L = cb T L) (th has pl : Int32) : SP (m_X10_schema th B (nI L) has pl y_bytes y_length y_at y_deep y_fault y_place y_end y_nodes y_kinds y_firsts y_numbers y_sizes y_inner y_nexts y_letters y_lettered y_shapes y_looked y_sorts y_names y_wide y_kids y_many y_fallback y_kidCount y_kidShape y_kidName y_kidDefault y_kidNext y_done y_finished y_root y_plain y_plainSize y_told) (fun r => r.1 = (dS T L).1 ∧ r.2.2.1 = (dS T L).2.1 ∧ r.2.2.2.1 = (dS T L).2.2 ∧ tyH r.2.2.1 r.2.2.2.2 ∧ YR (stO T L) r.2.2.2.2) := by
  obtain ⟨r, hr, hp1, hp2, hp3, hp4⟩ : SP (m_X10_schema th B (nI L) has pl y_bytes y_length y_at y_deep y_fault y_place y_end y_nodes y_kinds y_firsts y_numbers y_sizes y_inner y_nexts y_letters y_lettered y_shapes y_looked y_sorts y_names y_wide y_kids y_many y_fallback y_kidCount y_kidShape y_kidName y_kidDefault y_kidNext y_done y_finished y_root y_plain y_plainSize y_told) (fun r => r.1 = (dS T L).1 ∧ r.2.2.1 = (dS T L).2.1 ∧ r.2.2.2.1 = (dS T L).2.2 ∧ tyH r.2.2.1 r.2.2.2.2) := sch_ref hB hL hcb th has pl
  refine ⟨r, hr, hp1, hp2, hp3, hp4, ?_⟩
  obtain ⟨r0, r1, r2, r3, z1, z2, z3, z4, z5, z6, z7, z8, z9, z10, z11, z12, z13, z14, z15, z16, z17, z18, z19, z20, z21, z22, z23, z24, z25, z26, z27, z28, z29, z30, z31, z32, z33, z34, z35⟩ := r
  intro st hst
  have hst2 := stO_some hst
  obtain ⟨u, hu, hU⟩ := read_full hB hL hcb hst2 y_bytes y_kinds y_firsts y_sizes y_inner y_nexts y_letters y_sorts y_names y_wide y_kids y_many y_fallback y_kidShape y_kidName y_kidDefault y_kidNext y_finished y_plain y_told B y_numbers y_length y_at y_deep y_fault y_place y_end y_nodes y_lettered y_shapes y_looked y_kidCount y_done y_root y_plainSize 4096 0 (by omega) (by decide) (fun i hi => by rw [Nat.zero_add]; exact hB i hi)
  rw [nI_0] at hu
  obtain ⟨u1, u2, u3, u4, u5, u6, u7, u8, u9, u10, u11, u12, u13, u14, u15, u16, u17, u18, u19, u20, u21, u22, u23, u24, u25, u26, u27, u28, u29, u30, u31, u32, u33, u34, u35⟩ := u
  clear hp1 hp2 hp3 hp4
  unfold m_X10_schema at hr
  rw [hu] at hr
  unfold m_X10_schema_32 at hr
  simp only [Option.bind_some, if_true, if_neg (show ¬ (1 : Int32) = 0 by decide), or_true] at hr
  cases hr
  obtain ⟨-, h1, h2, h3, h4, h5⟩ := hU
  exact ⟨h3, h2, h1, T, B, L, hL, hB, hcb, hst2, h4, h5⟩
end TLD
/-- what size() tells -/
def szT : Option LSt → Int32
  | none => 0
  | some st => nI st.2.2.2.1.length
/-- what letter() tells -/
def ltW (o : Option LSt) (x k v : Int32) : Prop := (k = 1 ∧ ∀ st, o = some st → ∀ i, i < st.2.2.2.1.length → x ≠ nI i) ∨ (k = 0 ∧ ∃ st i, o = some st ∧ i < st.2.2.2.1.length ∧ st.2.2.2.1.length ≤ 4096 ∧ x = nI i ∧ v = nI (st.2.2.2.1.getD i 0))
section TLE
variable {o : Option LSt} {Pl Ki Me Fi Ne Na Fn Ac yb ypl : Nat → Int32} {lc sc xh mh yl yp : Int32}
theorem csz_t (hO : xh = 0 ↔ o = none) (hC : CIx Pl Ki Me Fi Ne Na Fn Ac lc sc o) : m_X8_size xh lc = some (szT o) := by
  unfold m_X8_size m_X6_letterCount
  cases o with
  | none => rw [if_pos (hO.mpr rfl)]; rfl
  | some st =>
    rw [if_neg (fun h => (nomatch (hO.mp h)))]
    obtain ⟨Cf, Cs, cc, h⟩ := hC st rfl
    obtain ⟨k, sh, kc, pl, D, fi, G⟩ := st
    obtain ⟨i1, i2, i3, i4⟩ := h
    rw [i3]
    rfl
theorem msz_t (hO : mh = 0 ↔ o = none) (hY : YO o yb yl ypl yp) (th : Int32) : m_X10_size th mh yp = some (szT o, 0) := by
  unfold m_X10_size
  cases o with
  | none => rw [if_pos (hO.mpr rfl)]; rfl
  | some st =>
    rw [if_neg (fun h => (nomatch (hO.mp h)))]
    rw [(hY st rfl).2.1]
    rfl
theorem ltW.one {x k v k' v' : Int32} (h : ltW o x k v) (h' : ltW o x k' v') : k' = k ∧ (k = 0 → v' = v) := by
  rcases h with ⟨rfl, h⟩ | ⟨rfl, st, i, rfl, hi, hl, hx, rfl⟩
  · rcases h' with ⟨rfl, h'⟩ | ⟨rfl, st', i', rfl, hi', hl', hx', rfl⟩
    · exact ⟨rfl, fun h => absurd h (by decide)⟩
    · exact absurd hx' (h st' rfl i' hi')
  · rcases h' with ⟨rfl, h'⟩ | ⟨rfl, st', i', hs, hi', hl', hx', rfl⟩
    · exact absurd hx (h' st rfl i hi)
    · cases hs
      have e : i = i' := (nI_eq (by omega) (by omega)).mp (hx.symm.trans hx')
      subst e
      exact ⟨rfl, fun _ => rfl⟩
theorem cle_t (hO : xh = 0 ↔ o = none) (hC : CIx Pl Ki Me Fi Ne Na Fn Ac lc sc o) (of : Nat → Int64) (x : Int32) : ∃ (k : Int32) (of' : Nat → Int64), m_X12_letter xh of Pl lc 1 x = some (k, of') ∧ ∃ v, ltW o x k v ∧ (k = 0 → of' 0 = v.toInt64) := by
  unfold m_X12_letter m_X8_letter m_X8_letter_22 m_X6_letterCount
  cases o with
  | none =>
    rw [if_pos (hO.mpr rfl)]
    exact ⟨1, of, rfl, 0, Or.inl ⟨rfl, fun st h => (nomatch h)⟩, fun h => absurd h (by decide)⟩
  | some st =>
    rw [if_neg (fun h => (nomatch (hO.mp h)))]
    obtain ⟨Cf, Cs, cc, h⟩ := hC st rfl
    obtain ⟨k, sh, kc, pl, D, fi, G⟩ := st
    obtain ⟨i1, i2, i3, i4, i5, -⟩ := h
    subst i3
    by_cases hx : ∃ i, i < pl.length ∧ x = nI i
    · obtain ⟨i, hi, rfl⟩ := hx
      rw [if_neg (nI_pos (by omega)), Option.bind_some, if_pos (nI_lt hi (by omega)), lat_eq i4 (by omega), Option.bind_some, if_pos hi]
      have e0 : (0 : Int32).toNatClampNeg = 0 := by decide +kernel
      refine ⟨0, vp_updL of (0 : Int32).toNatClampNeg ((nI (bv (Pl i))).toInt64), (show (if (0 : Int32) < (0 : Int32) ∨ 1 ≤ (0 : Int32).toNatClampNeg then none else some ((0 : Int32), vp_updL of (0 : Int32).toNatClampNeg ((nI (bv (Pl i))).toInt64))) = some (0, vp_updL of (0 : Int32).toNatClampNeg ((nI (bv (Pl i))).toInt64)) from if_neg (by decide +kernel)), nI (bv (Pl i)), Or.inr ⟨rfl, _, i, rfl, hi, i4, rfl, ?_⟩, fun _ => ?_⟩
      · rw [i5.1 i hi]
      · rw [e0]
        exact if_pos rfl
    · refine ⟨1, of, ?_, 0, Or.inl ⟨rfl, fun st h i hi e => ?_⟩, fun h => absurd h (by decide)⟩
      · by_cases h0 : x < 0
        · rw [if_pos h0]
          rfl
        · obtain ⟨i, hi, rfl⟩ := nI_of h0
          rw [if_neg h0, Option.bind_some, if_neg (fun q => hx ⟨i, (nI_ltI hi (by omega)).mp q, rfl⟩)]
          rfl
      · cases h
        exact hx ⟨i, hi, e⟩
theorem and_bv (x : Int32) : x &&& 255 = nI (bv x) := by
  rw [pk_and x 8 (by decide)]
  rfl
theorem mle_t (hO : mh = 0 ↔ o = none) (hY : YO o yb yl ypl yp) (th x : Int32) : ∃ v k, m_X10_letter th mh ypl yp x = some (v, k) ∧ ltW o x k v := by
  unfold m_X10_letter m_X10_letter_25 m_X10_letter_30
  simp only [ref_0, ref_1, Option.bind_some, if_neg (show ¬ (1 : Int32) = 0 by decide), if_true]
  cases o with
  | none =>
    rw [if_pos (hO.mpr rfl)]
    exact ⟨0, 1, rfl, Or.inl ⟨rfl, fun st h => (nomatch h)⟩⟩
  | some st =>
    rw [if_neg (fun h => (nomatch (hO.mp h)))]
    obtain ⟨hl, hp, hP, -⟩ := hY st rfl
    obtain ⟨k, sh, kc, pl, D, fi, G⟩ := st
    have hl : pl.length ≤ 4096 := hl
    have hp : yp = nI pl.length := hp
    have hP : PLI ypl pl := hP
    rw [hp]
    have hno : (∀ i, i < pl.length → x ≠ nI i) → ∃ v k', (some ((0 : Int32), (1 : Int32))) = some (v, k') ∧ ltW (some (k, sh, kc, pl, D, fi, G)) x k' v := fun h => ⟨0, 1, rfl, Or.inl ⟨rfl, fun st h2 i hi => by cases h2; exact h i hi⟩⟩
    cases hw : pl.length with
    | zero =>
      have e1 : nI 0 - 1 = -1 := by decide +kernel
      have : m_X10_within x 0 (nI 0 - 1) = some 0 := by
        rw [e1]
        unfold m_X10_within
        by_cases h : x < 0
        · rw [if_pos h]
        · obtain ⟨i, hi, rfl⟩ := nI_of h
          rw [if_neg h, if_pos]
          exact Int32.lt_of_lt_of_le (by decide) (nI_pos' hi)
      rw [this]
      exact hno (fun i hi => by omega)
    | succ w =>
      have e1 : nI (w + 1) - 1 = nI w := by rw [← nI_1]; exact Int32.add_sub_cancel _ _
      rw [e1]
      rcases wit_sp (x := x) (n := w) (by omega) with ⟨⟨a, ha, e⟩, h⟩ | ⟨h2, h⟩
      · rw [h]
        subst e
        simp only [Option.bind_some, if_neg (show ¬ (1 : Int32) = 0 by decide)]
        rw [bd_go (show a < 4200 by omega) (by decide), nI_clamp (show a < 2 ^ 31 by omega), and_bv]
        exact ⟨_, _, rfl, Or.inr ⟨rfl, _, a, rfl, show a < pl.length by omega, hl, rfl, by rw [hP a (by omega)]⟩⟩
      · rw [h]
        exact hno (fun i hi => h2 i (by omega))
end TLE
