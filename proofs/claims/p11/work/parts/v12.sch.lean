-- schema() of both, as the telling has it
section SCB
variable {T B : Nat → Int32} {L : Nat} {y_bytes y_kinds y_firsts y_sizes y_inner y_nexts y_letters y_sorts y_names y_wide y_kids y_many y_fallback y_kidShape y_kidName y_kidDefault y_kidNext y_finished y_plain y_told : Nat → Int32} {y_numbers : Nat → Int64} {y_length y_at y_deep y_fault y_place y_end y_nodes y_lettered y_shapes y_looked y_kidCount y_done y_root y_plainSize : Int32} {Sd In Tn Tm Pl Kd Me Fi Nx Na Fn Am Fd Ed Cf Cs kh kp ko kn : Nat → Int32} {lc sc cc kc : Int32}
/-- what schema() leaves: its answer, whether there is a schema, the place -/
noncomputable def dS (T : Nat → Int32) (L : Nat) : Int32 × Int32 × Int32 := match rdS T L with
  | .inl e => (nI e.1, 0, nI e.2)
  | .inr _ => (0, 1, -1)
theorem read_out2 (hB : BY B L) (hL : L ≤ 4096) (hcb : cb B L = cb T L) : (∃ st, rdS T L = .inr st ∧ gT B L) ∨ (∃ e, rdS T L = .inl e ∧ rdBad B L (nI e.1) (nI e.2)) := by
  rcases readAll_ok B hL (fun g => g.1 20 0) (fun g => g.1 21 0) with ⟨v0, u0, hq, hok⟩ | ⟨⟨c, p⟩, hc, hbad⟩
  · have g0 : m_X9_readAll (ov L B B) (nI L) (nI 0) (nI 0) 0 (-1) 0 (nI 0) (fun _ => 0) (fun _ => 0) (fun _ => 0) (fun _ => 0) (fun _ => 0) (fun _ => 0) (fun _ => 0) (nI 0) (nI 6) (nI 0) (ov 6 (fun s => nI s) (fun _ => 0)) (ov 6 (fun _ => -1) (fun _ => 0)) (fun _ => 0) (ov 6 (fun _ => -1) (fun _ => 0)) (fun _ => 0) (fun _ => 0) (nI 0) (fun _ => 0) (fun _ => 0) (fun _ => 0) (fun _ => 0) (nI 0) (fun _ => 0) 0 = some (.ok (v0, u0 (fun j => match j with | 6 => B | _ => fun _ => 0, fun _ => 0))) := hok (fun j => match j with | 6 => B | _ => fun _ => 0, fun _ => 0)
    rw [ov_same] at g0
    obtain ⟨st9, hst9⟩ : ∃ st, rdS T L = .inr st := by
      rcases rd_ref hB hL hcb (by intro t ht; exact if_pos ht) g0 with ⟨e9, u9, _, h, _⟩ | ⟨st9, u9, h, _⟩
      · cases h
      · exact ⟨st9, h⟩
    obtain ⟨a, e, n, l, sh, lk, kc, dn, root, w, K, F, N, S, I, X, Lt, So, Na, Wi, Ki, Ma, Fa, kS, kN, kD, kX, Fi, hT, rfl⟩ := hq
    obtain ⟨hn, hl, h6, hsh, hkc, hshOK, hocc, hw⟩ := id hT
    obtain ⟨_, ⟨Pl, To, rfl, -⟩, hwr⟩ := wri_ok (Lt := Lt) hn hl (show sh ≤ 140 by omega) (show kc ≤ 2200 by omega) hshOK.1 40 16 (by omega) root 6 sh 0 kc w 0 (fun _ => 0) (fun _ => 0) (Nat.le_refl _) (Nat.le_refl _) (Nat.le_refl _) hocc (by omega) (fun x x6 _ _ => by rw [if_neg (by omega)])
    refine Or.inl ⟨st9, hst9, hL, a, e, n, l, sh, lk, kc, dn, root, w, K, F, N, S, I, X, Lt, So, Na, Wi, Ki, Ma, Fa, kS, kN, kD, kX, Fi, Pl, To, hT, ?_⟩
    intro tB tK tF tS tI tX tL tSo tNa tWi tKi tMa tFa tkS tkN tkD tkX tFi tPn tTo row tN tLen tAt tDe tFl tPl tEn tNo tLd tSh tLk tKc tDn tRo tPs rn st hrn hrn2 hB2
    have g1 := hok (fun j => match j with | 0 => tK | 1 => tF | 2 => tS | 3 => tI | 4 => tX | 5 => tL | 6 => tB | 7 => tSo | 8 => tNa | 9 => tWi | 10 => tKi | 11 => tMa | 12 => tFa | 13 => tkS | 14 => tkN | 15 => tkD | 16 => tkX | 17 => tFi | 18 => tPn | 19 => tTo | 20 => fun _ => tEn | _ => fun _ => tRo, tN)
    have g2 := hwr (fun j => match j with | 0 => tK | 1 => tF | 2 => tS | 3 => tI | 4 => tX | 5 => tL | 6 => tB | 7 => tSo | 8 => tNa | 9 => tWi | 10 => tKi | 11 => tMa | 12 => tFa | 13 => tkS | 14 => tkN | 15 => tkD | 16 => tkX | 17 => tFi | 18 => tPn | 19 => tTo | 20 => fun _ => tEn | _ => fun _ => tRo, tN)
    dsimp only at g1 g2
    simp only [nI_0, nI_6] at g1
    simp only [ov_0, nI_0, Nat.zero_add] at g2
    have s1 := r3 (tB := tB) (tK := tK) (tF := tF) (tS := tS) (tI := tI) (tX := tX) (tL := tL) (tSo := tSo) (tNa := tNa) (tWi := tWi) (tKi := tKi) (tMa := tMa) (tFa := tFa) (tkS := tkS) (tkN := tkN) (tkD := tkD) (tkX := tkX) (tFi := tFi) (tPn := tPn) (tTo := tTo) (row := row) (tN := tN) (tLen := tLen) (tAt := tAt) (tDe := tDe) (tFl := tFl) (tPl := tPl) (tEn := tEn) (tNo := tNo) (tLd := tLd) (tSh := tSh) (tLk := tLk) (tKc := tKc) (tDn := tDn) (tRo := tRo) (tPs := tPs) (B := B) (rn := rn) (st := st) hL hrn hrn2 hB2 sr_fuel 0 (Nat.zero_le _) (by unfold sr_fuel; omega)
    have s2 := r62 (tB := ov L B tB) (tK := tK) (tF := tF) (tS := tS) (tI := tI) (tX := tX) (tL := tL) (tSo := tSo) (tNa := tNa) (tWi := tWi) (tKi := tKi) (tMa := tMa) (tFa := tFa) (tkS := tkS) (tkN := tkN) (tkD := tkD) (tkX := tkX) (tFi := tFi) (tPn := tPn) (tTo := tTo) (row := row) (tN := tN) (tLen := nI L) (tAt := 0) (tDe := 0) (tFl := tFl) (tPl := tPl) (tEn := tEn) (tNo := 0) (tLd := 0) (tSh := 6) (tLk := tLk) (tKc := tKc) (tDn := tDn) (tRo := tRo) (tPs := tPs) (rn := rn) sr_fuel 0 (Nat.zero_le _) (by unfold sr_fuel; omega)
    simp only [ov_0, nI_0, nI_6] at s1 s2
    rw [m_X9_read, s1, s2]
    simp only [m_X9_read_62, if_pos (show (6 : Int32) ≤ 6 by decide), g1, mr_tc]
    have s3 := r147 (tB := ov L B tB) (tK := ov n K tK) (tF := ov n F tF) (tS := ov n S tS) (tI := ov n I tI) (tX := ov n X tX) (tL := ov l Lt tL) (tSo := ov sh So tSo) (tNa := ov sh Na tNa) (tWi := ow sh Wi tWi) (tKi := ov sh Ki tKi) (tMa := ow sh Ma tMa) (tFa := ow sh Fa tFa) (tkS := ov kc kS tkS) (tkN := ov kc kN tkN) (tkD := ov kc kD tkD) (tkX := ov kc kX tkX) (tFi := ov dn Fi tFi) (tPn := tPn) (tTo := tTo) (row := row) (tN := ov n N tN) (tLen := nI L) (tAt := nI a) (tDe := 0) (tFl := 0) (tPl := -1) (tEn := nI e) (tNo := nI n) (tLd := nI l) (tSh := nI sh) (tLk := nI lk) (tKc := nI kc) (tDn := nI dn) (tRo := nI root) (tPs := 0) (rn := rn) (sh := sh) (by omega) rfl sr_fuel 0 (Nat.zero_le _) (by unfold sr_fuel; omega)
    simp only [ov_0, nI_0] at s3
    rw [s3]
    simp only [m_X9_read_147, if_pos (nI_le (Nat.le_refl sh) (show sh < 2 ^ 31 by omega)), g2, Option.bind_some]
  · obtain ⟨u0, g0, gf0⟩ := hbad (fun j => match j with | 6 => B | _ => fun _ => 0, fun _ => 0)
    have g0 : m_X9_readAll (ov L B B) (nI L) (nI 0) (nI 0) 0 (-1) 0 (nI 0) (fun _ => 0) (fun _ => 0) (fun _ => 0) (fun _ => 0) (fun _ => 0) (fun _ => 0) (fun _ => 0) (nI 0) (nI 6) (nI 0) (ov 6 (fun s => nI s) (fun _ => 0)) (ov 6 (fun _ => -1) (fun _ => 0)) (fun _ => 0) (ov 6 (fun _ => -1) (fun _ => 0)) (fun _ => 0) (fun _ => 0) (nI 0) (fun _ => 0) (fun _ => 0) (fun _ => 0) (fun _ => 0) (nI 0) (fun _ => 0) 0 = some (.error u0) := g0
    rw [ov_same] at g0
    obtain ⟨e9, he9, hcp⟩ : ∃ e9, rdS T L = .inl e9 ∧ (c, p) = (nI e9.1, nI e9.2) := by
      rcases rd_ref hB hL hcb (by intro t ht; exact if_pos ht) g0 with ⟨e9, u9, h, hu, hf⟩ | ⟨st9, u9, _, h⟩
      · cases hu
        exact ⟨e9, h, gf0.symm.trans hf⟩
      · cases h
    obtain ⟨rfl, rfl⟩ : c = nI e9.1 ∧ p = nI e9.2 := Prod.mk.inj hcp
    refine Or.inr ⟨e9, he9, hc, ?_⟩
    intro tB tK tF tS tI tX tL tSo tNa tWi tKi tMa tFa tkS tkN tkD tkX tFi tPn tTo row tN tLen tAt tDe tFl tPl tEn tNo tLd tSh tLk tKc tDn tRo tPs rn st hrn hrn2 hB2
    obtain ⟨u, g1, gfp⟩ := hbad (fun j => match j with | 0 => tK | 1 => tF | 2 => tS | 3 => tI | 4 => tX | 5 => tL | 6 => tB | 7 => tSo | 8 => tNa | 9 => tWi | 10 => tKi | 11 => tMa | 12 => tFa | 13 => tkS | 14 => tkN | 15 => tkD | 16 => tkX | 17 => tFi | 18 => tPn | 19 => tTo | 20 => fun _ => tEn | _ => fun _ => tRo, tN)
    dsimp only at g1
    simp only [nI_0, nI_6] at g1
    have s1 := r3 (tB := tB) (tK := tK) (tF := tF) (tS := tS) (tI := tI) (tX := tX) (tL := tL) (tSo := tSo) (tNa := tNa) (tWi := tWi) (tKi := tKi) (tMa := tMa) (tFa := tFa) (tkS := tkS) (tkN := tkN) (tkD := tkD) (tkX := tkX) (tFi := tFi) (tPn := tPn) (tTo := tTo) (row := row) (tN := tN) (tLen := tLen) (tAt := tAt) (tDe := tDe) (tFl := tFl) (tPl := tPl) (tEn := tEn) (tNo := tNo) (tLd := tLd) (tSh := tSh) (tLk := tLk) (tKc := tKc) (tDn := tDn) (tRo := tRo) (tPs := tPs) (B := B) (rn := rn) (st := st) hL hrn hrn2 hB2 sr_fuel 0 (Nat.zero_le _) (by unfold sr_fuel; omega)
    have s2 := r62 (tB := ov L B tB) (tK := tK) (tF := tF) (tS := tS) (tI := tI) (tX := tX) (tL := tL) (tSo := tSo) (tNa := tNa) (tWi := tWi) (tKi := tKi) (tMa := tMa) (tFa := tFa) (tkS := tkS) (tkN := tkN) (tkD := tkD) (tkX := tkX) (tFi := tFi) (tPn := tPn) (tTo := tTo) (row := row) (tN := tN) (tLen := nI L) (tAt := 0) (tDe := 0) (tFl := tFl) (tPl := tPl) (tEn := tEn) (tNo := 0) (tLd := 0) (tSh := 6) (tLk := tLk) (tKc := tKc) (tDn := tDn) (tRo := tRo) (tPs := tPs) (rn := rn) sr_fuel 0 (Nat.zero_le _) (by unfold sr_fuel; omega)
    simp only [ov_0, nI_0, nI_6] at s1 s2
    have hf1 : u.2.2.1 = nI e9.1 := congrArg Prod.fst gfp
    have hf2 : u.2.2.2.1 = nI e9.2 := congrArg Prod.snd gfp
    refine ⟨_, by
      rw [m_X9_read, s1, s2]
      simp only [m_X9_read_62, if_pos (show (6 : Int32) ≤ 6 by decide), g1, mr_tc]
      rw [hf1], rfl, rfl, hf2⟩
theorem sch_ref (hB : BY B L) (hL : L ≤ 4096) (hcb : cb B L = cb T L) (th has pl : Int32) : SP (m_X10_schema th B (nI L) has pl y_bytes y_length y_at y_deep y_fault y_place y_end y_nodes y_kinds y_firsts y_numbers y_sizes y_inner y_nexts y_letters y_lettered y_shapes y_looked y_sorts y_names y_wide y_kids y_many y_fallback y_kidCount y_kidShape y_kidName y_kidDefault y_kidNext y_done y_finished y_root y_plain y_plainSize y_told) (fun r => r.1 = (dS T L).1 ∧ r.2.2.1 = (dS T L).2.1 ∧ r.2.2.2.1 = (dS T L).2.2 ∧ tyH r.2.2.1 r.2.2.2.2) := by
  have hB2 : ∀ i, i < L → vp_nar .byte (B (0 + i)) = B i := fun i hi => by rw [Nat.zero_add]; exact hB i hi
  unfold m_X10_schema
  rcases read_out2 hB hL hcb with ⟨st, hst, hG⟩ | ⟨e, he, hc, hb⟩
  · have hd : dS T L = (0, 1, -1) := by unfold dS; rw [hst]
    have hs := rd_gT (y_bytes := y_bytes) (y_length := y_length) (y_at := y_at) (y_deep := y_deep) (y_fault := y_fault) (y_place := y_place) (y_end := y_end) (y_nodes := y_nodes) (y_kinds := y_kinds) (y_firsts := y_firsts) (y_numbers := y_numbers) (y_sizes := y_sizes) (y_inner := y_inner) (y_nexts := y_nexts) (y_letters := y_letters) (y_lettered := y_lettered) (y_shapes := y_shapes) (y_looked := y_looked) (y_sorts := y_sorts) (y_names := y_names) (y_wide := y_wide) (y_kids := y_kids) (y_many := y_many) (y_fallback := y_fallback) (y_kidCount := y_kidCount) (y_kidShape := y_kidShape) (y_kidName := y_kidName) (y_kidDefault := y_kidDefault) (y_kidNext := y_kidNext) (y_done := y_done) (y_finished := y_finished) (y_root := y_root) (y_plain := y_plain) (y_plainSize := y_plainSize) (y_told := y_told) hG (row := B) (rn := 4096) (st := 0) (by omega) (by decide) hB2
    rw [nI_0] at hs
    refine SP.bind hs ?_
    rintro ⟨r1, y_bytes, y_length, y_at, y_deep, y_fault, y_place, y_end, y_nodes, y_kinds, y_firsts, y_numbers, y_sizes, y_inner, y_nexts, y_letters, y_lettered, y_shapes, y_looked, y_sorts, y_names, y_wide, y_kids, y_many, y_fallback, y_kidCount, y_kidShape, y_kidName, y_kidDefault, y_kidNext, y_done, y_finished, y_root, y_plain, y_plainSize, y_told⟩ ⟨h0, h1, h2, ⟨w, hw, h3⟩, h4⟩
    dsimp only at h0 h2 h3 h4 ⊢
    subst h0
    unfold m_X10_schema_32
    simp only [if_true, if_neg (show ¬ (1 : Int32) = 0 by decide), or_true]
    exact SP.ok ⟨by rw [hd], by rw [hd], by rw [hd], Or.inr ⟨rfl, _, L, w, hG, h2, fun i hi => by rw [h4 i hi]; exact hB i hi, hw, h3⟩⟩
  · have hd : dS T L = (nI e.1, 0, nI e.2) := by unfold dS; rw [he]
    obtain ⟨u, hu, -, -, hu3⟩ := hb y_bytes y_kinds y_firsts y_sizes y_inner y_nexts y_letters y_sorts y_names y_wide y_kids y_many y_fallback y_kidShape y_kidName y_kidDefault y_kidNext y_finished y_plain y_told B y_numbers y_length y_at y_deep y_fault y_place y_end y_nodes y_lettered y_shapes y_looked y_kidCount y_done y_root y_plainSize 4096 0 (by omega) (by decide) hB2
    rw [nI_0] at hu
    rw [hu]
    unfold m_X10_schema_32
    simp only [Option.bind_some, if_neg hc, if_true, true_or]
    exact SP.ok ⟨by rw [hd], by rw [hd], by rw [hd]; exact hu3, Or.inl rfl⟩
theorem sch_cls (hT : BY T L) (hL : L ≤ 4096) (xh xp wp : Int32) : ∃ u, m_X8_schema xh xp T Sd In Tn Tm (nI L) wp Pl Kd Me Fi Nx Na Fn Am Fd Ed lc sc Cf Cs cc kh kp ko kn kc = some ((dS T L).1, ((dS T L).2.1, (dS T L).2.2, u)) := by
  unfold m_X8_schema
  rcases rd_cls hT hL 0 (-1) wp Sd In Tn Tm Pl Kd Me Fi Nx Na Fn Am Fd Ed Cf Cs kh kp ko kn lc sc cc kc with ⟨e, u, h1, h2⟩ | ⟨st, u, h1, h2⟩
  · have hd : dS T L = (nI e.1, 0, nI e.2) := by unfold dS; rw [h1]
    have hc : ¬ nI e.1 = 0 := by
      rcases read_out2 hT hL (T := T) rfl with ⟨st, h3, _⟩ | ⟨e2, h3, h4, _⟩
      · rw [h1] at h3; cases h3
      · rw [h1] at h3; cases h3; exact h4
    obtain ⟨u1, u2, u3, u4, u5, u6, u7, u8, u9, u10, u11, u12, u13, u14, u15, u16, u17, u18, u19, u20, u21, u22, u23, u24, u25⟩ := u
    rw [h2]
    simp only [Option.bind_some, if_neg hc, m_X8_schema_35, m_X4_faultPlace, if_true, true_or]
    rw [hd]
    exact ⟨_, rfl⟩
  · have hd : dS T L = (0, 1, -1) := by unfold dS; rw [h1]
    obtain ⟨u1, u2, u3, u4, u5, u6, u7, u8, u9, u10, u11, u12, u13, u14, u15, u16, u17, u18, u19, u20, u21, u22, u23, u24, u25⟩ := u
    rw [h2]
    simp only [Option.bind_some, m_X8_schema_35, m_X4_faultPlace, if_true, or_true]
    rw [hd]
    exact ⟨_, rfl⟩
end SCB
