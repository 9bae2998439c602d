-- the class's look at sizes and symbols
theorem lN_clamp : ∀ w, w ≤ 64 → (lN w).toNatClampNeg = w ∧ (lN w).toInt32 = nI w ∧ ¬ lg_cmp (lN w) 0 < 0 ∧ lg_cmp (lN w) 64 ≤ 0 := by decide +kernel
theorem lsz_n {x : Int64} (h : lsz x = none) : lg_cmp x 0 < 0 ∨ ¬ lg_cmp x 64 ≤ 0 := by
  by_cases c : lg_cmp x 0 < 0
  · exact Or.inl c
  · by_cases c2 : lg_cmp x 64 ≤ 0
    · obtain ⟨d, d1, d2⟩ := lgc c (Int32.not_lt.mpr c2)
      unfold lsz at h
      rw [d2, (lN_clamp d d1).1, if_pos ⟨rfl, d1⟩] at h
      cases h
    · exact Or.inr c2
theorem wn_num : ∀ w, w ≤ 64 → (48 + (nI w - (nI w / 10) * 10) = nI (48 + w % 10)) ∧ (48 + nI w / 10 = nI (48 + w / 10)) ∧ ((nI w < 10) = (w < 10)) := by
  have h : ∀ w, w < 65 → (48 + (nI w - (nI w / 10) * 10) = nI (48 + w % 10)) ∧ (48 + nI w / 10 = nI (48 + w / 10)) ∧ (decide (nI w < 10) = decide (w < 10)) := by decide +kernel
  intro w hw
  obtain ⟨a, b, c⟩ := h w (by omega)
  exact ⟨a, b, propext (decide_eq_decide.mp c)⟩
theorem wnL {Pl : Nat → Int32} {pl : List Nat} {w : Nat} (hw : w ≤ 64) (h : PLI Pl pl) (hl : pl.length + (dgs w).length ≤ 4096) : ∃ Pl', m_X6_writeNumber Pl (nI pl.length) (nI w) = some (Pl', nI (pl ++ dgs w).length) ∧ PLI Pl' (pl ++ dgs w) := by
  obtain ⟨n1, n2, n3⟩ := wn_num w hw
  unfold m_X6_writeNumber m_X6_writeNumber_17
  simp only [n1, n2, n3]
  rw [dgs_len] at hl
  unfold dgs
  by_cases c : w < 10
  · rw [if_neg (show ¬ 10 ≤ w by omega)] at hl
    rw [if_pos c, if_neg (show ¬ 10 ≤ w by omega)]
    obtain ⟨Pl1, w1, w2⟩ := wbL (v := 48 + w % 10) (by omega) h (by omega)
    rw [w1]
    exact ⟨_, rfl, w2⟩
  · rw [if_pos (show 10 ≤ w by omega)] at hl
    rw [if_neg c, if_pos (show 10 ≤ w by omega)]
    obtain ⟨Pl1, w1, w2⟩ := wbL (v := 48 + w / 10) (by omega) h (by omega)
    obtain ⟨Pl2, w3, w4⟩ := wbL (v := 48 + w % 10) (by omega) w2 (by rw [List.length_append, List.length_singleton]; omega)
    rw [w1]
    simp only [Option.bind_some]
    rw [w3]
    rw [List.append_assoc] at w4 ⊢
    exact ⟨_, rfl, w4⟩
section CFIX
variable {T : Nat → Int32} {L : Nat} {Sd In Nx Am K F S I X Lt : Nat → Int32} {N : Nat → Int64} {l : Nat}
theorem c_fix (hL : L ≤ 4096) (hl : l ≤ 4200) (lf lp : Int32) {s n p q : Nat} {Pl Ki Me Fi Ne Na Fn Ac : Nat → Int32} {lc sc : Int32} {Cf Cs : Nat → Int32} {cc : Int32} {k sh kc : Nat} {pl : List Nat} {D : List Nat → Option Nat} {fi : List (Nat × Nat × Option Nat)} {G : Nat → Nod} (hI : CI Pl Ki Me Fi Ne Na Fn Ac lc sc Cf Cs cc (k, sh, kc, pl, D, fi, G)) (hs : s < k) (hG : ∃ sg, G s = mkN 8 s sg 0 [] []) (hv : VV T L Sd In Nx Am K F N S I X Lt l n p q) (hc : cb T L p = 123) (hb : ∀ v kp c b, (kp, v) ∈ prt T L p → VV T L Sd In Nx Am K F N S I X Lt l c v b → ts T L kp = litN 23 → p < kp → kp + 7 ≤ v → b < q → pl.length + 9 + (b - v) ≤ 4096) :
    (∃ e, lfx T L s p (k, sh, kc, pl, D, fi, G) = .inl e ∧ ∃ u, m_X4_lookAtFixed lf lp T Sd In Nx Am (nI L) Pl Ac lc (nI s) (nI p) = some (0, (nI e.1, nI e.2, u))) ∨ (∃ st' Pl' Ac' lc', lfx T L s p (k, sh, kc, pl, D, fi, G) = .inr st' ∧ m_X4_lookAtFixed lf lp T Sd In Nx Am (nI L) Pl Ac lc (nI s) (nI p) = some (1, (lf, lp, Pl', Ac', lc')) ∧ CI Pl' Ki Me Fi Ne Na Fn Ac' lc' sc Cf Cs cc st') := by
  have hp := hv.base
  have h23 : (litN 23).length = 4 := by decide
  have h24 : (litN 24).length = 8 := by decide
  obtain ⟨sg, hG⟩ := hG
  unfold m_X4_lookAtFixed
  simp only [lfx]
  rcases mbc hL hl hv hc (w := 23) (by decide) with ⟨e, em⟩ | ⟨v, kp, c, b, e, em, z1, z2, z3, z4, z5, z6⟩
  · rw [e, em]
    simp only [Option.bind_some, if_true, m_X4_refuse, true_or]
    exact Or.inl ⟨_, rfl, _, rfl⟩
  rw [e, em]
  have hzb := z1.base
  simp only [Option.bind_some, if_neg (nI_m1 (show v < 2 ^ 31 by omega)), isn_eq hL (show v < 2 ^ 31 by omega)]
  have bad : ∀ y : Int64, (lg_cmp y 0 < 0 ∨ ¬ lg_cmp y 64 ≤ 0) → m_X4_lookAtFixed_49 T Sd In Nx Am (nI L) lf lp Pl Ac lc (nI s) (nI v) y = some (0, (nI 10, nI v, Pl, Ac, lc)) := by
    intro y hy
    unfold m_X4_lookAtFixed_49 m_X4_lookAtFixed_67
    simp only [m_X4_refuse, Option.bind_some, true_or, if_true]
    by_cases c1 : lg_cmp y 0 < 0
    · rw [if_pos c1]; rfl
    · rw [if_neg c1, if_neg (hy.resolve_left c1)]; rfl
  by_cases cn : cb T L v = 45 ∨ (48 ≤ cb T L v ∧ cb T L v ≤ 57)
  · rw [if_pos cn, if_pos cn, if_neg (show ¬ (1 : Int32) = 0 by decide), z1.nmc hL cn]
    simp only [Option.bind_some]
    cases hz : lsz (snv T L v) with
    | none =>
      rw [bad _ (lsz_n hz)]
      exact Or.inl ⟨_, rfl, _, rfl⟩
    | some w =>
      obtain ⟨w1, w2⟩ := lsz_of hz
      obtain ⟨l1, l2, l3, l4⟩ := lN_clamp w w2
      have hbb := hb v kp c b z5 z1 z6 z2 (by omega) z4
      have hdg : (dgs w).length ≤ b - v := by
        rw [dgs_len]
        by_cases c10 : 10 ≤ w
        · rw [if_pos c10]
          by_cases eb : v + 1 = b
          · obtain ⟨k', k1, k2⟩ := z1.nm1 cn eb
            have := lN_inj _ w2 _ (show k' ≤ 64 by omega) (w1.symm.trans k2)
            omega
          · omega
        · rw [if_neg c10]
          omega
      unfold m_X4_lookAtFixed_49
      rw [w1, if_neg l3, if_pos l4, l2, sta_eq (show s < 128 by have := hI.2.1; omega)]
      obtain ⟨i1, i2, i3, i4, i5, i6, i7, i8, i9⟩ := hI
      obtain ⟨Pl1, x1, x2⟩ := wrL (w := 24) (by decide) i5 (by omega)
      have e1 : (pl ++ litN 24).length = pl.length + 8 := by rw [List.length_append, h24]
      obtain ⟨Pl2, x3, x4⟩ := wnL w2 x2 (by omega)
      have e2 : (pl ++ litN 24 ++ dgs w).length = pl.length + 8 + (dgs w).length := by rw [List.length_append, e1]
      obtain ⟨Pl3, x5, x6⟩ := wbL (v := 125) (by decide) x4 (by omega)
      simp only [Option.bind_some]
      rw [i3, x1]
      simp only [Option.bind_some]
      rw [x3]
      simp only [Option.bind_some]
      rw [show (125 : Int32) = nI 125 from rfl, x5]
      simp only [Option.bind_some]
      have ea : pl ++ litN 24 ++ dgs w ++ [125] = pl ++ (litN 24 ++ (dgs w ++ [125])) := by rw [List.append_assoc, List.append_assoc]
      rw [ea] at x6 ⊢
      refine Or.inr ⟨_, _, _, _, rfl, rfl, i1, i2, rfl, ?_, x6, i6.wr _, (i7.amt hs rfl (by rw [hG]; rfl) (by rw [hG]; rfl) (by rw [hG]; rfl) (by rw [hG]; rfl) w2).wr _, i8, i9⟩
      rw [← ea, List.length_append, e2, List.length_singleton]
      omega
  · rw [if_neg cn, if_neg cn, if_pos rfl, bad (-1) (Or.inl (by decide))]
    exact Or.inl ⟨_, rfl, _, rfl⟩
theorem sy_mem {l : List (List Nat)} {t : List Nat} : (∃ i, i < l.length ∧ l.getD i [] = t) ↔ t ∈ l := by
  constructor
  · rintro ⟨i, hi, e⟩
    rw [← e]
    simp only [List.getD, List.getElem?_eq_getElem hi, Option.getD_some]
    exact List.getElem_mem hi
  · intro h
    obtain ⟨i, hi, e⟩ := List.getElem_of_mem h
    exact ⟨i, hi, by simp only [List.getD, List.getElem?_eq_getElem hi, Option.getD_some]; exact e⟩
theorem hsy_c {Pl Ki Me Fi Ne Na Fn Ac : Nat → Int32} {lc sc : Int32} {Cf Cs : Nat → Int32} {cc : Int32} {k sh kc : Nat} {pl : List Nat} {D : List Nat → Option Nat} {fi : List (Nat × Nat × Option Nat)} {G : Nat → Nod} (hI : CI Pl Ki Me Fi Ne Na Fn Ac lc sc Cf Cs cc (k, sh, kc, pl, D, fi, G)) {s p : Nat} {t : List Nat} (hs : s < k) (h9 : n_kd (G s) = 9) (hm : n_me (G s) = s) (ht : SAID Sd Am p t) : m_X6_hasSymbol Pl Me Fi Ac lc Sd Am (nI s) (nI p) = some (if dec (t ∈ n_sy (G s)) = true then 1 else 0) := by
  obtain ⟨i1, i2, i3, i4, i5, i6, i7, i8, i9⟩ := hI
  obtain ⟨s1, s2, s3, s4⟩ := i7 s hs
  obtain ⟨t1, t2, t3, t4⟩ := s4 hm
  obtain ⟨u1, u2, x, u3, u4⟩ := t4 h9
  rw [hm] at s1
  rw [i3]
  rcases hsy_eq (Pl := Pl) (lc := pl.length) (show s < 128 by omega) (show s < 128 by omega) s1 u1 (by omega) u3 (show SYM Pl pl.length (n_sy (G s)).length x (fun j => (n_sy (G s)).getD j []) from ⟨fun i hi => (u4.1 i hi).pn i5 i4, u4.2⟩) ht with ⟨a, b⟩ | ⟨a, b⟩
  · rw [b, dec_t (sy_mem.mp a), if_pos rfl]
  · rw [b, dec_f (fun z => a (sy_mem.mpr z)), if_neg (by decide)]
theorem asy_c {Pl Ki Me Fi Ne Na Fn Ac : Nat → Int32} {lc sc : Int32} {Cf Cs : Nat → Int32} {cc : Int32} {k sh kc : Nat} {pl : List Nat} {D : List Nat → Option Nat} {fi : List (Nat × Nat × Option Nat)} {G : Nat → Nod} (hI : CI Pl Ki Me Fi Ne Na Fn Ac lc sc Cf Cs cc (k, sh, kc, pl, D, fi, G)) {s p : Nat} {w : List Nat} (hs : s < k) (h9 : n_kd (G s) = 9) (hm : n_me (G s) = s) (hw : SAID Sd Am p w) (hn : isNm w) (hb : ∀ v, v ∈ w → v ≤ 255) (hl : (n_sy (G s)).length < 32) (hse : SE Fi pl s (n_sy (G s))) (hbu : (pl ++ ((if n_sy (G s) = [] then [] else [44]) ++ qt w)).length ≤ 4096) :
    ∃ Pl' Fi' Ac' lc', m_X6_addSymbol Pl Fi Ac lc Sd Am (nI s) (nI p) = some (Pl', Fi', Ac', lc') ∧ CI Pl' Ki Me Fi' Ne Na Fn Ac' lc' sc Cf Cs cc (k, sh, kc + 1, pl ++ ((if n_sy (G s) = [] then [] else [44]) ++ qt w), D, fi, upG G s (syN (G s) w kc)) ∧ SE Fi' (pl ++ ((if n_sy (G s) = [] then [] else [44]) ++ qt w)) s (n_sy (G s) ++ [w]) := by
  obtain ⟨i1, i2, i3, i4, i5, i6, i7, i8, i9⟩ := hI
  obtain ⟨s1, s2, s3, s4⟩ := i7 s hs
  obtain ⟨t1, t2, t3, t4⟩ := s4 hm
  obtain ⟨u1, u2, x, u3, u4⟩ := t4 h9
  have hs128 : s < 128 := by omega
  have hse2 := hse.step u4 u3 rfl hbu
  have hLC := i7.sym (k0 := kc) hs hm h9 hn hl hse rfl
  have hbu2 := hbu
  rw [List.length_append, List.length_append, qt_len] at hbu2
  unfold m_X6_addSymbol
  rw [sto_eq hs128, nI_clamp (by omega), u1, i3]
  by_cases c0 : n_sy (G s) = []
  · have c0' : (n_sy (G s)).length = 0 := by rw [c0]; rfl
    rw [if_pos c0, List.nil_append] at hbu hse2 hLC ⊢
    rw [if_pos c0'] at hse2 hLC
    rw [if_pos c0, List.length_nil] at hbu2
    obtain ⟨Pl1, w1, w2⟩ := wsL hw hb i5 (by omega)
    rw [c0', if_pos (show nI 0 ≤ 0 by decide)]
    unfold m_X6_addSymbol_23
    rw [w1]
    simp only [Option.bind_some, bd_go hs128 (by decide), bd_gc hs128 (by decide), nI_clamp (show s < 2 ^ 31 by omega)]
    rw [u1, c0', if_pos (show nI 0 = 0 from rfl)]
    rw [u1, c0'] at hLC
    exact ⟨_, _, _, _, rfl, ⟨i1, i2, rfl, hbu, w2, i6.wr _, hLC, i8, i9⟩, hse2⟩
  · have c0' : ¬ (n_sy (G s)).length = 0 := fun z => c0 (List.eq_nil_of_length_eq_zero z)
    rw [if_neg c0] at hbu hse2 hLC ⊢
    rw [if_neg c0'] at hse2 hLC
    rw [if_neg c0, List.length_singleton] at hbu2
    rw [if_neg (show ¬ nI (n_sy (G s)).length ≤ 0 from nI_ge (a := 0) (by omega) (by omega))]
    obtain ⟨Pl1, w1, w2⟩ := wbL (v := 44) (by decide) i5 (by omega)
    obtain ⟨Pl2, w3, w4⟩ := wsL hw hb w2 (by rw [List.length_append, List.length_singleton]; omega)
    rw [show (44 : Int32) = nI 44 from rfl, w1]
    simp only [Option.bind_some]
    unfold m_X6_addSymbol_23
    rw [w3]
    simp only [Option.bind_some, bd_go hs128 (by decide), bd_gc hs128 (by decide), nI_clamp (show s < 2 ^ 31 by omega)]
    rw [u1, if_neg (show ¬ nI (n_sy (G s)).length = 0 from fun z => c0' ((nI_eq (b := 0) (by omega) (by decide)).mp z))]
    rw [u1] at hLC
    rw [List.append_assoc] at w4 ⊢
    exact ⟨_, _, _, _, rfl, ⟨i1, i2, rfl, hbu, w4, i6.wr _, hLC, i8, i9⟩, hse2⟩
end CFIX
