-- the class's look at definitions, objects, values
section CLOOK
variable {T : Nat → Int32} {L : Nat} {Sd In Nx Am K F S I X Lt : Nat → Int32} {N : Nat → Int64} {l : Nat}
/-- the state behind a definition's name and type -/
def dfS (w : List Nat) (s kk k sh kc : Nat) (pl : List Nat) (D : List Nat → Option Nat) (fi : List (Nat × Nat × Option Nat)) (G : Nat → Nod) : LSt := (k, sh + 1, kc, pl ++ (litN 21 ++ (qt w ++ (litN 22 ++ (litN (3 + kk) ++ [34])))), (fun u => if u = w then some s else D u), fi, upG G s (mkN kk s sh 0 [] []))
theorem c_def (hL : L ≤ 4096) (hl : l ≤ 4200) (lf lp : Int32) {g : Nat → Bool → LSt → LRs} {s n p q kk : Nat} (hkk : kk = 8 ∨ kk = 9 ∨ kk = 10) {Pl Ki Me Fi Ne Na Fn Ac : Nat → Int32} {lc sc : Int32} {Cf Cs : Nat → Int32} {cc : Int32} {k sh kc : Nat} {pl : List Nat} {D : List Nat → Option Nat} {fi : List (Nat × Nat × Option Nat)} {G : Nat → Nod} (hI : CI Pl Ki Me Fi Ne Na Fn Ac lc sc Cf Cs cc (k, sh, kc, pl, D, fi, G)) (hs : s + 1 = k) (hG : G s = mkN 12 s 0 0 [] []) (hD : ∀ w d, D w = some d → d < s) (hv : VV T L Sd In Nx Am K F N S I X Lt l n p q) (hc : cb T L p = 123) (hb : ∀ v kp c b, (kp, v) ∈ prt T L p → VV T L Sd In Nx Am K F N S I X Lt l c v b → ts T L kp = litN 20 → p < kp → kp + 7 ≤ v → b < q → pl.length + 18 + (litN (3 + kk)).length + (b - v) ≤ 4096) :
    (∃ e, ldf T L g s p kk (k, sh, kc, pl, D, fi, G) = .inl e ∧ ∃ u, m_X4_define lf lp T Sd In Nx Am (nI L) Pl Ki Na lc sc (nI s) (nI p) (nI kk) = some (0, (nI e.1, nI e.2, u))) ∨ (∃ v kp c b Pl' Ki' Na' lc', mbr T L p (litN 20) = some v ∧ (kp, v) ∈ prt T L p ∧ VV T L Sd In Nx Am K F N S I X Lt l c v b ∧ ts T L kp = litN 20 ∧ p < kp ∧ kp + 7 ≤ v ∧ b < q ∧ v + (ts T L v).length + 2 ≤ b ∧ D (ts T L v) = none ∧ isNm (ts T L v) ∧ kw (ts T L v) = -1 ∧ cb T L v = 34 ∧ m_X4_define lf lp T Sd In Nx Am (nI L) Pl Ki Na lc sc (nI s) (nI p) (nI kk) = some (1, (lf, lp, Pl', Ki', Na', lc')) ∧ CI Pl' Ki' Me Fi Ne Na' Fn Ac lc' sc Cf Cs cc (dfS (ts T L v) s kk k sh kc pl D fi G)) := by
  have hp := hv.base
  have h20 : (litN 20).length = 4 := by decide
  have h21 : (litN 21).length = 8 := by decide
  have h22 : (litN 22).length = 9 := by decide
  unfold m_X4_define
  simp only [ldf, m_X4_define_74, m_X4_refuse, Option.bind_some, true_or, if_true]
  rcases mbc hL hl hv hc (w := 20) (by decide) with ⟨e, em⟩ | ⟨v, kp, c, b, e, em, z1, z2, z3, z4, z5, z6⟩
  · rw [e, em]
    simp only [Option.bind_some, iss_m1, if_true]
    exact Or.inl ⟨_, rfl, _, rfl⟩
  rw [e, em]
  have hzb := z1.base
  simp only [Option.bind_some, iss_eq hL (show v < 4096 by omega)]
  by_cases c34 : cb T L v = 34
  rotate_left
  · rw [if_neg c34, if_neg c34, I00]
    exact Or.inl ⟨_, rfl, _, rfl⟩
  rw [if_pos c34, if_pos c34, I10]
  obtain ⟨s0, y1, y2, y3, y4, y5, y6⟩ := z1.str c34
  rw [y2]
  obtain ⟨i1, i2, i3, i4, i5, i6, i7, i8, i9⟩ := hI
  subst i1
  subst i3
  have hdf := dfn_c (Sd := Sd) (Am := Am) i2 i5 i4 i6 y3
  rcases snm_eq hL c34 y3 with ⟨n1, n2⟩ | ⟨n1, n2⟩
  rotate_left
  · rw [n2, dec_f (fun z => n1 z.1), bF]
    simp only [Option.bind_some, if_true]
    exact Or.inl ⟨_, rfl, _, rfl⟩
  rw [n2, ksaid_eq hL c34 y3, hdf]
  simp only [Option.bind_some, if_neg (show ¬ (1 : Int32) = 0 by decide)]
  by_cases ck : kw s0 = -1
  rotate_left
  · rw [if_neg ck, dec_f (fun z => ck z.2.1), bF]
    exact Or.inl ⟨_, rfl, _, rfl⟩
  rw [if_pos ck]
  cases hd : D s0 with
  | some d0 =>
    have := hD s0 d0 hd
    simp only
    rw [if_neg (nI_m1 (show d0 < 2 ^ 31 by omega)), dec_f (fun z => by have := z.2.2; cases this), bF]
    exact Or.inl ⟨_, rfl, _, rfl⟩
  | none =>
    dsimp only
    rw [if_pos (show (-1 : Int32) = -1 from rfl), dec_t (show isNm s0 ∧ kw s0 = -1 ∧ (none : Option Nat) = none from ⟨n1, ck, rfl⟩), bT]
    have hbb := hb v kp c b z5 z1 z6 z2 (by omega) z4
    rw [stk_eq (show s < 128 by omega)]
    obtain ⟨Pl1, w1, w2⟩ := wrL (w := 21) (by decide) i5 (by omega)
    have el1 : (pl ++ litN 21).length = pl.length + 8 := by rw [List.length_append, h21]
    obtain ⟨Pl2, w3, w4⟩ := wsL y3 y6 w2 (by omega)
    have el2 : (pl ++ litN 21 ++ qt s0).length = pl.length + 8 + (s0.length + 2) := by rw [List.length_append, el1, qt_len]
    obtain ⟨Pl3, w5, w6⟩ := wrL (w := 22) (by decide) w4 (by omega)
    have el3 : (pl ++ litN 21 ++ qt s0 ++ litN 22).length = pl.length + 8 + (s0.length + 2) + 9 := by rw [List.length_append, el2, h22]
    obtain ⟨Pl4, w7, w8⟩ := wrL (w := 3 + kk) (by omega) w6 (by omega)
    have el4 : (pl ++ litN 21 ++ qt s0 ++ litN 22 ++ litN (3 + kk)).length = pl.length + 8 + (s0.length + 2) + 9 + (litN (3 + kk)).length := by rw [List.length_append, el3]
    obtain ⟨Pl5, w9, w10⟩ := wbL (v := 34) (by decide) w8 (by omega)
    have el5 : (pl ++ litN 21 ++ qt s0 ++ litN 22 ++ litN (3 + kk) ++ [34]).length = pl.length + 8 + (s0.length + 2) + 9 + (litN (3 + kk)).length + 1 := by rw [List.length_append, el4]; rfl
    have ea : pl ++ litN 21 ++ qt s0 ++ litN 22 ++ litN (3 + kk) ++ [34] = pl ++ (litN 21 ++ (qt s0 ++ (litN 22 ++ (litN (3 + kk) ++ [34])))) := by
      simp only [List.append_assoc]
    simp only [Option.bind_some]
    rw [w1]
    simp only [Option.bind_some]
    rw [w3]
    simp only [Option.bind_some]
    rw [stn_eq (show s < 128 by omega)]
    simp only [Option.bind_some]
    rw [w5]
    simp only [Option.bind_some]
    rw [wrd_k kk (by omega)]
    simp only [Option.bind_some]
    rw [w7]
    simp only [Option.bind_some]
    rw [show (34 : Int32) = nI 34 from rfl, w9]
    simp only [Option.bind_some]
    rw [ea] at w10 el5
    refine Or.inr ⟨v, kp, c, b, Pl5, upd Ki s (nI kk), upd Na s (nI ((pl ++ litN 21).length + 1)), _, rfl, z5, z1, z6, z2, by omega, z4, by rw [y2]; exact y5, by rw [y2]; exact hd, by rw [y2]; exact n1, by rw [y2]; exact ck, c34, rfl, ?_⟩
    rw [y2, ea]
    have hPN : PNL (pl ++ (litN 21 ++ (qt s0 ++ (litN 22 ++ (litN (3 + kk) ++ [34]))))) ((pl ++ litN 21).length + 1) s0 := by
      rw [el1]
      have := PNL.new (pl := pl) (a := litN 21) (b := litN 22 ++ (litN (3 + kk) ++ [34])) n1
      rw [h21] at this
      exact this
    refine ⟨rfl, i2, rfl, by omega, w10, ⟨fun i hi => ?_, fun w i hi => ?_⟩, (i7.set (by omega) hG).wr _, i8, i9⟩
    · by_cases ei : i = s
      · subst ei
        refine Or.inr ⟨s0, (pl ++ litN 21).length + 1, if_pos rfl, pk_us, hPN⟩
      · rw [pk_un ei]
        rcases i6.1 i hi with q | ⟨w, a, q1, q2, q3⟩
        · exact Or.inl q
        · have : w ≠ s0 := fun z => by rw [z, hd] at q1; cases q1
          exact Or.inr ⟨w, a, by show (if w = s0 then some s else D w) = some i; rw [if_neg this]; exact q1, q2, q3.app⟩
    · have hi : (if w = s0 then some s else D w) = some i := hi
      by_cases ew : w = s0
      · rw [if_pos ew] at hi
        have := Option.some.inj hi
        subst this
        exact ⟨by omega, _, pk_us, by rw [ew]; exact hPN⟩
      · rw [if_neg ew] at hi
        obtain ⟨q1, a, q2, q3⟩ := i6.2 w i hi
        have := hD w i hi
        exact ⟨q1, a, by rw [pk_un (by omega)]; exact q2, q3.app⟩
theorem c_obj (hL : L ≤ 4096) (hl : l ≤ 4200) {f : FL} {g : Nat → Bool → LSt → LRs} {d : Nat} (hf : okCl T L Sd In Nx Am K F N S I X Lt l f (d + 1) g) (hg : okSp T L Sd In Nx Am K F N S I X Lt l g) (lf lp : Int32) {s n p q : Nat} {Fd Ed : Nat → Int32} {Pl Ki Me Fi Ne Na Fn Ac : Nat → Int32} {lc sc : Int32} {Cf Cs : Nat → Int32} {cc : Int32} {k sh kc : Nat} {pl : List Nat} {D : List Nat → Option Nat} {fi : List (Nat × Nat × Option Nat)} {G : Nat → Nod} (hI : CI Pl Ki Me Fi Ne Na Fn Ac lc sc Cf Cs cc (k, sh, kc, pl, D, fi, G)) (hs : s + 1 = k) (hG : G s = mkN 12 s 0 0 [] []) (hD : ∀ w d, D w = some d → d < s) (hw : WFs (k, sh, kc, pl, D, fi, G)) (hv : VV T L Sd In Nx Am K F N S I X Lt l n p q) (hc : cb T L p = 123) (hb : pl.length + (q - p) ≤ 4096) :
    CX lf lp (m_X4_lookAtObject f lf lp T Sd In Nx Am (nI L) Pl Ki Me Fi Ne Na Fn Ac Fd Ed lc sc Cf Cs cc (nI s) (nI p) (nI d)) 1 0 (lob T L g s p (k, sh, kc, pl, D, fi, G)) := by
  have hp := hv.base
  have h15 : (litN 15).length = 4 := by decide
  unfold m_X4_lookAtObject
  simp only [lob, m_X4_refuse, Option.bind_some, true_or, if_true]
  rcases mbc hL hl hv hc (w := 15) (by decide) with ⟨e, em⟩ | ⟨v, kp, c, b, e, em, z1, z2, z3, z4, z5, z6⟩
  · rw [e, em]
    simp only [Option.bind_some, iss_m1, if_true]
    exact ⟨_, rfl⟩
  rw [e, em]
  have hzb := z1.base
  simp only [Option.bind_some, iss_eq hL (show v < 4096 by omega)]
  by_cases c34 : cb T L v = 34
  rotate_left
  · rw [if_neg c34, if_neg c34, I00]
    exact ⟨_, rfl⟩
  rw [if_pos c34, if_pos c34, I10]
  obtain ⟨s0, y1, y2, y3, y4, y5, y6⟩ := z1.str c34
  rw [ksaid_eq hL c34 y3, y2]
  simp only [Option.bind_some]
  have wrap : ∀ (x : Option (Int32 × TL)) (r : LRs), CX lf lp x 1 0 r → CX lf lp (x.bind fun (r23, l_fault_23, l_faultPlace_23, s_plain_23, s_kinds_23, s_meant_23, s_firsts_23, s_nexts_23, s_names_23, s_fieldNames_23, s_amounts_23, s_fieldDefaults_23, s_enumDefaults_23, s_letterCount_23, s_slotCount_23, c_firsts_23, c_seconds_23, c_count_23) => (if r23 = 0 ∨ r23 = 1 then (some (r23, (l_fault_23, l_faultPlace_23, s_plain_23, s_kinds_23, s_meant_23, s_firsts_23, s_nexts_23, s_names_23, s_fieldNames_23, s_amounts_23, s_fieldDefaults_23, s_enumDefaults_23, s_letterCount_23, s_slotCount_23, c_firsts_23, c_seconds_23, c_count_23))) else none)) 1 0 r := by
    intro x r h
    cases r with
    | inl e =>
      obtain ⟨u, hu⟩ := h
      rw [hu]
      obtain ⟨u1, u2, u3, u4, u5, u6, u7, u8, u9, u10, u11, u12, u13, u14, u15⟩ := u
      simp only [Option.bind_some, true_or, if_true]
      exact ⟨_, rfl⟩
    | inr st =>
      obtain ⟨Pl, Ki, Me, Fi, Ne, Na, Fn, Ac, Fd, Ed, lc, sc, Cf, Cs, cc, hu, hI⟩ := h
      rw [hu]
      simp only [Option.bind_some, or_true, if_true]
      exact ⟨_, _, _, _, _, _, _, _, _, _, _, _, _, _, _, rfl, hI⟩
  have word : (kw s0 = -1 ∨ ∃ k6, k6 ≤ 5 ∧ kw s0 = nI k6) → CX lf lp ((m_X4_lookAtWord lf lp T Sd Am (nI L) Pl Ki Me Na lc sc (nI s) (nI v)).bind fun (r19, l_fault_19, l_faultPlace_19, s_plain_19, s_kinds_19, s_meant_19, s_letterCount_19) => (if r19 = 0 ∨ r19 = 1 then (some (r19, (l_fault_19, l_faultPlace_19, s_plain_19, s_kinds_19, s_meant_19, Fi, Ne, Na, Fn, Ac, Fd, Ed, s_letterCount_19, sc, Cf, Cs, cc))) else none)) 1 0 (lwd T L s v (k, sh, kc, pl, D, fi, G)) := by
    intro _
    rcases law_c hL lf lp hI hs hG hD z1 c34 (by omega) with ⟨e, e1, u, hu⟩ | ⟨st', Pl', Ki', Me', lc', e1, hu, hI'⟩
    · rw [e1, hu]
      obtain ⟨u1, u2, u3, u4⟩ := u
      simp only [Option.bind_some, true_or, if_true]
      exact ⟨_, rfl⟩
    · rw [e1, hu]
      simp only [Option.bind_some, or_true, if_true]
      exact ⟨_, _, _, _, _, _, _, _, _, _, _, _, _, _, _, rfl, hI'⟩
  have named : ∀ kk, (kk = 8 ∨ kk = 9 ∨ kk = 10) → kw s0 = nI kk → CX lf lp ((m_X4_define lf lp T Sd In Nx Am (nI L) Pl Ki Na lc sc (nI s) (nI p) (nI kk)).bind fun (r9, l_fault_9, l_faultPlace_9, s_plain_9, s_kinds_9, s_names_9, s_letterCount_9) => (if r9 = 0 then (some (0, (l_fault_9, l_faultPlace_9, s_plain_9, s_kinds_9, Me, Fi, Ne, s_names_9, Fn, Ac, Fd, Ed, s_letterCount_9, sc, Cf, Cs, cc))) else (if nI kk = 8 then ((m_X4_lookAtFixed l_fault_9 l_faultPlace_9 T Sd In Nx Am (nI L) s_plain_9 Ac s_letterCount_9 (nI s) (nI p)).bind fun (r17, l_fault_17, l_faultPlace_17, s_plain_17, s_amounts_17, s_letterCount_17) => (if r17 = 0 ∨ r17 = 1 then (some (r17, (l_fault_17, l_faultPlace_17, s_plain_17, s_kinds_9, Me, Fi, Ne, s_names_9, Fn, s_amounts_17, Fd, Ed, s_letterCount_17, sc, Cf, Cs, cc))) else none)) else (if nI kk = 9 then ((m_X4_lookAtEnum l_fault_9 l_faultPlace_9 T Sd In Nx Am (nI L) s_plain_9 Me Fi Ac Ed s_letterCount_9 (nI s) (nI p)).bind fun (r15, l_fault_15, l_faultPlace_15, s_plain_15, s_firsts_15, s_amounts_15, s_enumDefaults_15, s_letterCount_15) => (if r15 = 0 ∨ r15 = 1 then (some (r15, (l_fault_15, l_faultPlace_15, s_plain_15, s_kinds_9, Me, s_firsts_15, Ne, s_names_9, Fn, s_amounts_15, Fd, s_enumDefaults_15, s_letterCount_15, sc, Cf, Cs, cc))) else none)) else ((m_X4_lookAtRecord f l_fault_9 l_faultPlace_9 T Sd In Nx Am (nI L) s_plain_9 s_kinds_9 Me Fi Ne s_names_9 Fn Ac Fd Ed s_letterCount_9 sc Cf Cs cc (nI s) (nI p) (nI d)).bind fun (r13, l_fault_13, l_faultPlace_13, s_plain_13, s_kinds_13, s_meant_13, s_firsts_13, s_nexts_13, s_names_13, s_fieldNames_13, s_amounts_13, s_fieldDefaults_13, s_enumDefaults_13, s_letterCount_13, s_slotCount_13, c_firsts_13, c_seconds_13, c_count_13) => (if r13 = 0 ∨ r13 = 1 then (some (r13, (l_fault_13, l_faultPlace_13, s_plain_13, s_kinds_13, s_meant_13, s_firsts_13, s_nexts_13, s_names_13, s_fieldNames_13, s_amounts_13, s_fieldDefaults_13, s_enumDefaults_13, s_letterCount_13, s_slotCount_13, c_firsts_13, c_seconds_13, c_count_13))) else none)))))) 1 0 (ldf T L g s p kk (k, sh, kc, pl, D, fi, G)) := by
    intro kk hkk ekk
    have hs0 : s0 = litN (3 + kk) := kw_6 s0 (by omega) ekk
    have hlk : (litN (3 + kk)).length = s0.length := by rw [hs0]
    rcases c_def hL hl lf lp (g := g) hkk hI hs hG hD hv hc (fun v' kp' c' b' x1 x2 x3 x4 x5 x6 => by
      have ha := mb2 hv hc z5 x1 z1 x2 (by rw [z6, x3]; decide)
      have := x2.base
      omega) with ⟨e, e1, u, hu⟩ | ⟨v', kp', c', b', Pl', Ki', Na', lc', x0, x1, x2, x3, x4, x5, x6, x7, x8, x9, x10, x11, hu, hI'⟩
    · rw [e1, hu]
      obtain ⟨u1, u2, u3, u4⟩ := u
      simp only [Option.bind_some, if_true]
      exact ⟨_, rfl⟩
    · have ha := mb2 hv hc z5 x1 z1 x2 (by rw [z6, x3]; decide)
      have hxb := x2.base
      have eld : ldf T L g s p kk (k, sh, kc, pl, D, fi, G) = (if kk = 8 then lfx T L s p (dfS (ts T L v') s kk k sh kc pl D fi G) else if kk = 9 then len T L s p (dfS (ts T L v') s kk k sh kc pl D fi G) else lrc T L g s p (dfS (ts T L v') s kk k sh kc pl D fi G)) := by
        simp only [ldf]
        rw [x0]
        simp only
        rw [if_pos x11, dec_t ⟨x9, x10, x8⟩, bT]
        rfl
      rw [eld, hu]
      simp only [Option.bind_some, if_neg (show ¬ (1 : Int32) = 0 by decide)]
      have hlen : (pl ++ (litN 21 ++ (qt (ts T L v') ++ (litN 22 ++ (litN (3 + kk) ++ [34]))))).length = pl.length + 20 + (ts T L v').length + (litN (3 + kk)).length := by
        simp only [List.length_append, qt_len, List.length_singleton, show (litN 21).length = 8 by decide, show (litN 22).length = 9 by decide]
        omega
      have hw1 : WFs (dfS (ts T L v') s kk k sh kc pl D fi G) := by
        refine ⟨fun w d0 hdd => ?_, hw.2⟩
        have hdd : (if w = ts T L v' then some s else D w) = some d0 := hdd
        by_cases ew : w = ts T L v'
        · rw [if_pos ew] at hdd
          have e := Option.some.inj hdd
          subst e
          rw [upG_s]
          exact ⟨by omega, rfl, show 8 ≤ kk by omega, show kk ≤ 10 by omega⟩
        · rw [if_neg ew] at hdd
          have := hD w d0 hdd
          rw [upG_n (by omega)]
          exact hw.1 w d0 hdd
      by_cases k8 : kk = 8
      · subst k8
        rw [if_pos rfl, if_pos (show nI 8 = 8 from rfl)]
        rcases c_fix hL hl lf lp hI' (by omega) ⟨sh, upG_s⟩ hv hc (fun v2 kp2 c2 b2 w1 w2 w3 w4 w5 w6 => by
          have ha1 := mb2 hv hc z5 w1 z1 w2 (by rw [z6, w3]; decide)
          have ha2 := mb2 hv hc x1 w1 x2 w2 (by rw [x3, w3]; decide)
          have := w2.base
          have h11 : (litN (3 + 8)).length = 5 := by decide
          omega) with ⟨e, e1, u, hu2⟩ | ⟨st', Pl2, Ac2, lc2, e1, hu2, hI2⟩
        · have e1 : lfx T L s p (dfS (ts T L v') s 8 k sh kc pl D fi G) = Sum.inl e := e1
          rw [e1, hu2]
          obtain ⟨u1, u2, u3⟩ := u
          simp only [Option.bind_some, true_or, if_true]
          exact ⟨_, rfl⟩
        · have e1 : lfx T L s p (dfS (ts T L v') s 8 k sh kc pl D fi G) = Sum.inr st' := e1
          rw [e1, hu2]
          simp only [Option.bind_some, or_true, if_true]
          exact ⟨_, _, _, _, _, _, _, _, _, _, _, _, _, _, _, rfl, hI2⟩
      rw [if_neg k8, if_neg (show ¬ nI kk = 8 from fun z => k8 ((nI_eq (b := 8) (by omega) (by decide)).mp z))]
      by_cases k9 : kk = 9
      · subst k9
        rw [if_pos rfl, if_pos (show nI 9 = 9 from rfl)]
        have hen := c_enu hL hl lf lp (Ed := Ed) hI' (by omega) ⟨sh, upG_s⟩ hv hc (fun v2 kp2 c2 b2 w1 w2 w3 w4 w5 w6 => by
          have ha1 := mb2 hv hc z5 w1 z1 w2 (by rw [z6, w3]; decide)
          have ha2 := mb2 hv hc x1 w1 x2 w2 (by rw [x3, w3]; decide)
          have := w2.base
          have h11 : (litN (3 + 9)).length = 4 := by decide
          omega)
        have hen : CE lf lp (m_X4_lookAtEnum lf lp T Sd In Nx Am (nI L) Pl' Me Fi Ac Ed lc' (nI s) (nI p)) Ki' Me Ne Na' Fn sc Cf Cs cc (len T L s p (dfS (ts T L v') s 9 k sh kc pl D fi G)) := hen
        cases hr : len T L s p (dfS (ts T L v') s 9 k sh kc pl D fi G) with
        | inl e =>
          rw [hr] at hen
          obtain ⟨u, hu2⟩ := hen
          rw [hu2]
          obtain ⟨u1, u2, u3, u4, u5⟩ := u
          simp only [Option.bind_some, true_or, if_true]
          exact ⟨_, rfl⟩
        | inr st' =>
          rw [hr] at hen
          obtain ⟨Pl2, Fi2, Ac2, Ed2, lc2, hu2, hI2⟩ := hen
          rw [hu2]
          simp only [Option.bind_some, or_true, if_true]
          exact ⟨_, _, _, _, _, _, _, _, _, _, _, _, _, _, _, rfl, hI2⟩
      rw [if_neg k9, if_neg (show ¬ nI kk = 9 from fun z => k9 ((nI_eq (b := 9) (by omega) (by decide)).mp z))]
      have k10 : kk = 10 := by omega
      subst k10
      refine wrap _ _ ?_
      exact c_rec hL hl hf hg lf lp hI' hw1 (by omega) ⟨sh, upG_s⟩ hv hc (fun v2 kp2 c2 b2 w1 w2 w3 w4 w5 w6 => by
        have ha1 := mb2 hv hc z5 w1 z1 w2 (by rw [z6, w3]; decide)
        have ha2 := mb2 hv hc x1 w1 x2 w2 (by rw [x3, w3]; decide)
        have := w2.base
        have h11 : (litN (3 + 10)).length = 6 := by decide
        omega)
  have e0 : mbr T L p (litN 15) = some v := e
  rcases kw_any s0 with ek | ⟨kk, k1, k2, k3⟩
  · rw [ek, if_neg (show ¬ (-1 : Int32) = 6 by decide), if_neg (show ¬ (-1 : Int32) = 7 by decide), if_neg (show ¬ ((-1 : Int32) = 6 ∨ (-1 : Int32) = 7) by decide), if_neg (show ¬ ((-1 : Int32) = 8 ∨ (-1 : Int32) = 9 ∨ (-1 : Int32) = 10) by decide), show m_X3_isNamed (-1) = some 0 by decide]
    simp only [Option.bind_some, if_true]
    exact word (Or.inl ek)
  · rw [k2]
    have nk : ∀ j, j < 100 → ((nI kk = nI j) = (kk = j)) := fun j hj => propext (nI_eq (by omega) (by omega))
    have n6 : (nI kk = (6 : Int32)) = (kk = 6) := nk 6 (by decide)
    have n7 : (nI kk = (7 : Int32)) = (kk = 7) := nk 7 (by decide)
    have n8 : (nI kk = (8 : Int32)) = (kk = 8) := nk 8 (by decide)
    have n9 : (nI kk = (9 : Int32)) = (kk = 9) := nk 9 (by decide)
    have n10 : (nI kk = (10 : Int32)) = (kk = 10) := nk 10 (by decide)
    rw [nI_clamp (show kk < 2 ^ 31 by omega)]
    by_cases c6 : kk = 6
    · subst c6
      rw [if_pos (show nI 6 = 6 from rfl), if_pos (show nI 6 = 6 ∨ nI 6 = 7 from Or.inl rfl)]
      refine wrap _ _ ?_
      have := c_itm hL hl hf hg lf lp (k6 := 6) (Fd := Fd) (Ed := Ed) (Or.inl rfl) hI hs hG hD hw hv hc e0 (y2.trans k3) c34 hb
      exact this
    rw [if_neg (show ¬ nI kk = 6 by rw [n6]; exact c6)]
    by_cases c7 : kk = 7
    · subst c7
      rw [if_pos (show nI 7 = 7 from rfl), if_pos (show nI 7 = 6 ∨ nI 7 = 7 from Or.inr rfl)]
      refine wrap _ _ ?_
      have := c_itm hL hl hf hg lf lp (k6 := 7) (Fd := Fd) (Ed := Ed) (Or.inr rfl) hI hs hG hD hw hv hc e0 (y2.trans k3) c34 hb
      exact this
    rw [if_neg (show ¬ nI kk = 7 by rw [n7]; exact c7), if_neg (show ¬ (nI kk = 6 ∨ nI kk = 7) by rw [n6, n7]; omega), nam_k (show kk < 2 ^ 31 by omega)]
    simp only [Option.bind_some]
    by_cases c8 : 8 ≤ kk ∧ kk ≤ 10
    · rw [if_pos c8, I10, if_pos (show nI kk = 8 ∨ nI kk = 9 ∨ nI kk = 10 by rw [n8, n9, n10]; omega)]
      exact named kk (by omega) k2
    · rw [if_neg c8, I00, if_neg (show ¬ (nI kk = 8 ∨ nI kk = 9 ∨ nI kk = 10) by rw [n8, n9, n10]; omega)]
      exact word (Or.inr ⟨kk, by omega, k2⟩)
theorem c_look (hL : L ≤ 4096) (hl : l ≤ 4200) : ∀ (j M d : Nat), j + d = 16 → j < M → okCl T L Sd In Nx Am K F N S I X Lt l (m_X4_lookAt M) d (look T L j) := by
  intro j
  induction j with
  | zero =>
    intro M d hd hM lf lp Pl Ki Me Fi Ne Na Fn Ac Fd Ed lc sc Cf Cs cc p br st n q hI hw hv hb
    obtain ⟨D, rfl⟩ : ∃ z, M = z + 1 := ⟨M - 1, by omega⟩
    obtain ⟨k, sh, kc, pl, Df, fi, G⟩ := st
    have i1 := hI.1
    have i2 := hI.2.1
    have ed : d = 16 := by omega
    subst ed
    simp only [m_X4_lookAt, look, m_X4_refuse, m_X6_open, Option.bind_some, if_true]
    rw [i1]
    by_cases c : 128 ≤ k
    · rw [if_pos c, if_neg (show ¬ nI k < 128 from Int32.not_lt.mpr (nI_le (a := 128) c (by omega)))]
      simp only [Option.bind_some, if_true]
      exact ⟨_, rfl⟩
    · rw [if_neg c, if_pos (show nI k < 128 from nI_lt (b := 128) (by omega) (by decide))]
      simp only [bd_go (show k < 128 by omega) (by decide), bd_gc (show k < 128 by omega) (by decide), Option.bind_some, nI_clamp (show k < 2 ^ 31 by omega), nI_1, if_neg (nI_m1 (show k < 2 ^ 31 by omega))]
      rw [if_neg (show ¬ nI 16 < 16 by decide)]
      exact ⟨_, rfl⟩
  | succ j ih =>
    intro M d hd hM lf lp Pl Ki Me Fi Ne Na Fn Ac Fd Ed lc sc Cf Cs cc p br st n q hI hw hv hb
    obtain ⟨M, rfl⟩ : ∃ z, M = z + 1 := ⟨M - 1, by omega⟩
    obtain ⟨k, sh, kc, pl, D, fi, G⟩ := st
    obtain ⟨i1, i2, i3, i4, i5, i6, i7, i8, i9⟩ := hI
    have hp := hv.base
    have hf := ih M (d + 1) (by omega) (by omega)
    have hg := look_p (T := T) (Sd := Sd) (In := In) (Nx := Nx) (Am := Am) (K := K) (F := F) (N := N) (S := S) (I := I) (X := X) (Lt := Lt) hL hl j
    simp only [m_X4_lookAt, look, m_X4_refuse, m_X6_open, Option.bind_some, if_true]
    rw [i1]
    by_cases c : 128 ≤ k
    · rw [if_pos c, if_neg (show ¬ nI k < 128 from Int32.not_lt.mpr (nI_le (a := 128) c (by omega)))]
      simp only [Option.bind_some, if_true]
      exact ⟨_, rfl⟩
    rw [if_neg c, if_pos (show nI k < 128 from nI_lt (b := 128) (by omega) (by decide))]
    simp only [bd_go (show k < 128 by omega) (by decide), bd_gc (show k < 128 by omega) (by decide), Option.bind_some, nI_clamp (show k < 2 ^ 31 by omega), nI_1, if_neg (nI_m1 (show k < 2 ^ 31 by omega))]
    rw [if_pos (show nI d < 16 from nI_lt (b := 16) (by omega) (by decide))]
    have hI1 : CI Pl (upd Ki k (-1)) (upd Me k (nI k)) (upd Fi k (-1)) (upd Ne k (-1)) (upd Na k (-1)) (upd Fn k (-1)) (upd Ac k 0) lc (nI (k + 1)) Cf Cs cc (k + 1, sh, kc, pl, D, fi, upG G k (mkN 12 k 0 0 [] [])) := ⟨rfl, by omega, i3, i4, i5, i6.opn, i7.opn, i8, i9⟩
    have hD : ∀ w d0, D w = some d0 → d0 < k := fun w d0 h => (hw.1 w d0 h).1
    have hw1 : WFs (k + 1, sh, kc, pl, D, fi, upG G k (mkN 12 k 0 0 [] [])) := by
      refine ⟨fun w d0 hdd => ?_, by have := hw.2; omega⟩
      obtain ⟨a, b⟩ := hw.1 w d0 hdd
      rw [upG_n (by omega)]
      exact ⟨by omega, b⟩
    have hb : pl.length + (q - p) ≤ 4096 := hb
    simp only [iss_eq hL (show p < 4096 by omega), isl_eq hL (show p < 4096 by omega), iso_eq hL (show p < 4096 by omega), Option.bind_some]
    have wrap : ∀ (x : Option (Int32 × TL)) (r : LRs), CX lf lp x 1 0 r → CX lf lp (x.bind fun (r12, l_fault_12, l_faultPlace_12, s_plain_12, s_kinds_12, s_meant_12, s_firsts_12, s_nexts_12, s_names_12, s_fieldNames_12, s_amounts_12, s_fieldDefaults_12, s_enumDefaults_12, s_letterCount_12, s_slotCount_12, c_firsts_12, c_seconds_12, c_count_12) => (if r12 = 0 then (some ((-1), (l_fault_12, l_faultPlace_12, s_plain_12, s_kinds_12, s_meant_12, s_firsts_12, s_nexts_12, s_names_12, s_fieldNames_12, s_amounts_12, s_fieldDefaults_12, s_enumDefaults_12, s_letterCount_12, s_slotCount_12, c_firsts_12, c_seconds_12, c_count_12))) else (some (nI k, (l_fault_12, l_faultPlace_12, s_plain_12, s_kinds_12, s_meant_12, s_firsts_12, s_nexts_12, s_names_12, s_fieldNames_12, s_amounts_12, s_fieldDefaults_12, s_enumDefaults_12, s_letterCount_12, s_slotCount_12, c_firsts_12, c_seconds_12, c_count_12))))) (nI k) (-1) r := by
      intro x r h
      cases r with
      | inl e =>
        obtain ⟨u, hu⟩ := h
        rw [hu]
        obtain ⟨u1, u2, u3, u4, u5, u6, u7, u8, u9, u10, u11, u12, u13, u14, u15⟩ := u
        simp only [Option.bind_some, if_true]
        exact ⟨_, rfl⟩
      | inr st =>
        obtain ⟨Pl, Ki, Me, Fi, Ne, Na, Fn, Ac, Fd, Ed, lc, sc, Cf, Cs, cc, hu, hI⟩ := h
        rw [hu]
        simp only [Option.bind_some, if_neg (show ¬ (1 : Int32) = 0 by decide)]
        exact ⟨_, _, _, _, _, _, _, _, _, _, _, _, _, _, _, rfl, hI⟩
    by_cases c1 : cb T L p = 34
    · rw [if_pos c1, if_pos c1, I10]
      rcases law_c hL lf lp hI1 rfl upG_s hD hv c1 hb with ⟨e, e1, u, hu⟩ | ⟨st', Pl', Ki', Me', lc', e1, hu, hI'⟩
      · rw [e1, hu]
        obtain ⟨u1, u2, u3, u4⟩ := u
        simp only [Option.bind_some, if_true]
        exact ⟨_, rfl⟩
      · rw [e1, hu]
        simp only [Option.bind_some, if_neg (show ¬ (1 : Int32) = 0 by decide)]
        exact ⟨_, _, _, _, _, _, _, _, _, _, _, _, _, _, _, rfl, hI'⟩
    rw [if_neg c1, if_neg c1, I00]
    by_cases c2 : cb T L p = 91
    · rw [if_pos c2, if_pos c2, I10]
      refine wrap _ _ ?_
      have := c_uni hL hf hg lf lp (br := br) (Fd := upd Fd k (vp_nar .boolean 0)) (Ed := upd Ed k (vp_nar .boolean 0)) hI1 rfl upG_s hD hw1 hv c2 hb
      have e2 : upG (upG G k (mkN 12 k 0 0 [] [])) k (mkN 11 k sh 0 [] []) = upG G k (mkN 11 k sh 0 [] []) := funext (fun i => by
        by_cases q : i = k
        · rw [q, upG_s, upG_s]
        · rw [upG_n q, upG_n q, upG_n q])
      rw [e2] at this
      exact this
    rw [if_neg c2, if_neg c2, I00]
    by_cases c3 : cb T L p = 123
    · rw [if_pos c3, if_pos c3, I10]
      refine wrap _ _ ?_
      exact c_obj hL hl hf hg lf lp hI1 rfl upG_s hD hw1 hv c3 hb
    · rw [if_neg c3, if_neg c3, I00]
      exact ⟨_, rfl⟩
end CLOOK
