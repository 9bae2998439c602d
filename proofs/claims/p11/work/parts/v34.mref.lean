-- matches: the reference as told
theorem six_of {t : Nat} (ht : t < 2 ^ 31) : m_X10_sixOf (nI t) = some (if 6 ≤ t then 0 else 1) := by
  unfold m_X10_sixOf
  by_cases h : 6 ≤ t
  · rw [if_pos (show (6 : Int32) ≤ nI t from nI_le (a := 6) h ht), if_pos h]
  · rw [if_neg (show ¬ (6 : Int32) ≤ nI t from nI_ge (b := 6) (by omega) (by decide)), if_neg h]
theorem srt_5 : ∀ x, x ≤ 5 → srt x = x := by decide
theorem srt_8 : ∀ x, x ≤ 11 → (srt x = 8 ↔ x = 11) ∧ (srt x = 9 ↔ x = 8) := by decide
theorem ms6 : ∀ x, x ≤ 5 → ∀ y, y ≤ 5 → m_X10_matchesSix (nI x) (nI y) = some (if sixT x y = true then 1 else 0) := by decide +kernel
theorem six_f {x y : Nat} (h : ¬ (x ≤ 5 ∧ y ≤ 5)) : sixT x y = false := by
  unfold sixT
  exact decide_eq_false (fun z => h ⟨z.1, z.2.1⟩)
section RMM
variable {N N' : Nat → Int64} {S Lt So Nm Wi Kd kS kN kX S' Lt' So' Nm' Wi' Kd' kS' kN' kX' : Nat → Int32} {l l' sh kc k sh' kc' k' : Nat} {D D' : List Nat → Option Nat} {G G' : Nat → Nod}
theorem shp_f (h6 : ∀ t, t < 6 → So t = nI t) (hsh : sh ≤ 140) (hR : RLs N S Lt l So Wi Kd kS kN kX sh kc k G) {i : Nat} (h1 : i < k) (h2 : n_me (G i) < k) (h3 : n_me (G (n_me (G i))) = n_me (G i)) (h4 : n_kd (G (n_me (G i))) ≤ 11) : n_sg (G i) = n_sg (G (n_me (G i))) ∧ n_sg (G i) < 140 ∧ So (n_sg (G i)) = nI (srt (n_kd (G (n_me (G i))))) := by
  have e : n_sg (G i) = n_sg (G (n_me (G i))) := by
    by_cases q : n_me (G i) = i
    · rw [q]
    · exact (hR i h1).2.2.1 q
  obtain ⟨a1, -, a3⟩ := (hR _ h2).2.2.2 h3
  rw [e]
  by_cases c : n_kd (G (n_me (G i))) ≤ 5
  · have z := a1 c
    refine ⟨rfl, by omega, ?_⟩
    rw [z, srt_5 _ c]
    exact h6 _ (by omega)
  · obtain ⟨b1, b2, b3, -⟩ := a3 (by omega) h4
    exact ⟨rfl, by omega, b3⟩
theorem rmt_eq (hl : l ≤ 4200) (hl' : l' ≤ 4200) (h6 : ∀ t, t < 6 → So t = nI t) (h6' : ∀ t, t < 6 → So' t = nI t) (hsh : sh ≤ 140) (hsh' : sh' ≤ 140) (hkc : kc ≤ 2200) (hkc' : kc' ≤ 2200) (hN : RN1 N S Lt l Nm sh D G) (hN' : RN1 N' S' Lt' l' Nm' sh' D' G') (hR : RLs N S Lt l So Wi Kd kS kN kX sh kc k G) (hR' : RLs N' S' Lt' l' So' Wi' Kd' kS' kN' kX' sh' kc' k' G') (hW : ∀ i, i < k → n_me (G i) = i → n_kd (G i) = 8 → n_wd (G i) ≤ 64) (hW' : ∀ i, i < k' → n_me (G' i) = i → n_kd (G' i) = 8 → n_wd (G' i) ≤ 64) (hD : ∃ nm : Nat → List Nat, ∀ w d, D w = some d → nm d = w) (hD' : ∃ nm : Nat → List Nat, ∀ w d, D' w = some d → nm d = w) :
    ∀ (n f i j : Nat), n ≤ f → CHF G D k n i → CHF G' D' k' n j → m_X10_matchesT f N S Lt So Nm Wi Kd kS N' S' Lt' So' Nm' Wi' Kd' kS' (nI (n_sg (G i))) (nI (n_sg (G' j))) = some (if mtS G G' D D' n i j = true then 1 else 0) := by
  obtain ⟨nm, hnm⟩ := hD
  obtain ⟨nm', hnm'⟩ := hD'
  intro n
  induction n with
  | zero => intro f i j _ h; exact h.elim
  | succ n ih =>
    intro f i j hf h h'
    obtain ⟨f, rfl⟩ : ∃ z, f = z + 1 := ⟨f - 1, by omega⟩
    obtain ⟨h1, h2, h3, h4, h5, h7⟩ := h
    obtain ⟨g1, g2, g3, g4, g5, g7⟩ := h'
    obtain ⟨s1, s2, s3⟩ := shp_f h6 hsh hR h1 h2 h3 h4
    obtain ⟨t1, t2, t3⟩ := shp_f h6' hsh' hR' g1 g2 g3 g4
    obtain ⟨-, -, a3⟩ := (hR _ h2).2.2.2 h3
    obtain ⟨-, -, b3⟩ := (hR' _ g2).2.2.2 g3
    have w8 := hW _ h2 h3
    have w8' := hW' _ g2 g3
    rw [← s1] at a3
    rw [← t1] at b3
    obtain ⟨x, hx⟩ : ∃ x, n_kd (G (n_me (G i))) = x := ⟨_, rfl⟩
    obtain ⟨y, hy⟩ : ∃ y, n_kd (G' (n_me (G' j))) = y := ⟨_, rfl⟩
    rw [hx] at h4 h5 h7 s3 a3 w8
    rw [hy] at g4 g5 g7 t3 b3 w8'
    obtain ⟨x6, x7, x66, x11⟩ := srt_6 x h4
    obtain ⟨y6, y7, y66, y11⟩ := srt_6 y g4
    obtain ⟨x8, x9⟩ := srt_8 x h4
    obtain ⟨y8, y9⟩ := srt_8 y g4
    simp only [m_X10_matchesT, bd_go s2 (by decide), bd_go t2 (by decide)]
    simp only [nI_clamp (show n_sg (G i) < 2 ^ 31 by omega), nI_clamp (show n_sg (G' j) < 2 ^ 31 by omega), s3, t3]
    by_cases cx : x = 11
    · have em : mtS G G' D D' (n + 1) i j = true := by
        unfold mtS
        rw [hx, if_pos (Or.inl cx)]
      rw [em, if_pos (show nI (srt x) = 8 by rw [x8.mpr cx]; rfl), if_pos (show true = true from rfl)]
    rw [if_neg (show ¬ nI (srt x) = 8 from fun z => cx (x8.mp ((nI_eq (b := 8) (by omega) (by decide)).mp z)))]
    by_cases cy : y = 11
    · have em : mtS G G' D D' (n + 1) i j = true := by
        unfold mtS
        rw [hy, if_pos (Or.inr cy)]
      rw [em, if_pos (show nI (srt y) = 8 by rw [y8.mpr cy]; rfl), if_pos (show true = true from rfl)]
    rw [if_neg (show ¬ nI (srt y) = 8 from fun z => cy (y8.mp ((nI_eq (b := 8) (by omega) (by decide)).mp z)))]
    rw [six_of (show srt x < 2 ^ 31 by omega), Option.bind_some]
    by_cases c5 : x ≤ 5
    · have em : mtS G G' D D' (n + 1) i j = sixT x y := by
        unfold mtS
        rw [hx, hy, if_neg (by omega), if_pos (Or.inr c5)]
      rw [if_neg (show ¬ 6 ≤ srt x by omega), if_neg (show ¬ (1 : Int32) = 0 by decide), em]
      unfold m_X10_matchesT_48
      rw [six_of (show srt x < 2 ^ 31 by omega), Option.bind_some, if_neg (show ¬ 6 ≤ srt x by omega), if_neg (show ¬ (1 : Int32) = 0 by decide), six_of (show srt y < 2 ^ 31 by omega), Option.bind_some]
      by_cases d5 : y ≤ 5
      · rw [if_neg (show ¬ 6 ≤ srt y by omega), if_neg (show ¬ (1 : Int32) = 0 by decide), srt_5 x c5, srt_5 y d5, ms6 x c5 y d5, Option.bind_some]
        by_cases z : sixT x y = true
        · rw [if_pos z]; rfl
        · rw [if_neg z]; rfl
      · rw [if_pos (show 6 ≤ srt y by omega), if_pos (show (0 : Int32) = 0 from rfl), six_f (by omega)]
        rfl
    rw [if_pos (show 6 ≤ srt x by omega), if_pos (show (0 : Int32) = 0 from rfl), six_of (show srt y < 2 ^ 31 by omega), Option.bind_some]
    by_cases d5 : y ≤ 5
    · have em : mtS G G' D D' (n + 1) i j = sixT x y := by
        unfold mtS
        rw [hx, hy, if_neg (by omega), if_pos (Or.inl (by omega))]
      rw [if_neg (show ¬ 6 ≤ srt y by omega), if_neg (show ¬ (1 : Int32) = 0 by decide), em, six_f (by omega)]
      unfold m_X10_matchesT_48
      rw [six_of (show srt x < 2 ^ 31 by omega), Option.bind_some, if_pos (show 6 ≤ srt x by omega), if_pos (show (0 : Int32) = 0 from rfl)]
      rfl
    rw [if_pos (show 6 ≤ srt y by omega), if_pos (show (0 : Int32) = 0 from rfl)]
    by_cases cxy : x = y
    case neg =>
      have em : mtS G G' D D' (n + 1) i j = sixT x y := by
        unfold mtS
        rw [hx, hy, if_neg (by omega), if_pos (Or.inl cxy)]
      rw [if_neg (fun z => cxy (srt_i x h4 y g4 ((nI_eq (by omega) (by omega)).mp z))), em, six_f (by omega)]
      rfl
    rw [if_pos (show nI (srt x) = nI (srt y) by rw [cxy])]
    obtain ⟨-, c2, -, c4, c6, c8, c9, -⟩ := a3 (by omega) h4
    obtain ⟨-, d2, -, d4, d6, d8, d9, -⟩ := b3 (by omega) g4
    by_cases c7 : x ≤ 7
    · obtain ⟨c, r, hc, hcc⟩ := h7 (by omega)
      obtain ⟨c', r', hc', hcc'⟩ := g7 (by omega)
      have em : mtS G G' D D' (n + 1) i j = mtS G G' D D' n c c' := by
        conv => lhs; unfold mtS
        rw [hx, hy, if_neg (by omega), if_neg (by omega), if_pos c7, hc, hc']
        rfl
      rw [hc] at c6 c8
      rw [hc'] at d6 d8
      have l1 : 0 < (n_kl (G (n_me (G i)))).length := by simp only [List.length_cons] at c6; omega
      have l1' : 0 < (n_kl (G' (n_me (G' j)))).length := by simp only [List.length_cons] at d6; omega
      have k1 : Kd (n_sg (G i)) = nI ((n_kl (G (n_me (G i)))).getD 0 0) := by
        have z := c4.2.2
        rw [if_neg (by omega)] at z
        exact z
      have k1' : Kd' (n_sg (G' j)) = nI ((n_kl (G' (n_me (G' j)))).getD 0 0) := by
        have z := d4.2.2
        rw [if_neg (by omega)] at z
        exact z
      have k2 : (n_kl (G (n_me (G i)))).getD 0 0 < kc := (c4.1 0 l1).1
      have k2' : (n_kl (G' (n_me (G' j)))).getD 0 0 < kc' := (d4.1 0 l1').1
      have k3 : kS ((n_kl (G (n_me (G i)))).getD 0 0) = nI (n_sg (G c)) := (c8 0 (by simp only [List.length_cons]; omega)).1
      have k3' : kS' ((n_kl (G' (n_me (G' j)))).getD 0 0) = nI (n_sg (G' c')) := (d8 0 (by simp only [List.length_cons]; omega)).1
      have ih2 := ih f c c' (by omega) hcc hcc'
      have hgo : m_X10_matchesT_103 (m_X10_matchesT f) N S Lt So Nm Wi Kd kS N' S' Lt' So' Nm' Wi' Kd' kS' (nI (n_sg (G i))) (nI (n_sg (G' j))) = some (if mtS G G' D D' n c c' = true then 1 else 0) := by
        unfold m_X10_matchesT_103
        rw [bd_go s2 (by decide), nI_clamp (show n_sg (G i) < 2 ^ 31 by omega), k1, bd_go (show (n_kl (G (n_me (G i)))).getD 0 0 < 2200 by omega) (by decide), bd_go t2 (by decide), nI_clamp (show n_sg (G' j) < 2 ^ 31 by omega), k1', bd_go (show (n_kl (G' (n_me (G' j)))).getD 0 0 < 2200 by omega) (by decide), nI_clamp (show (n_kl (G (n_me (G i)))).getD 0 0 < 2 ^ 31 by omega), nI_clamp (show (n_kl (G' (n_me (G' j)))).getD 0 0 < 2 ^ 31 by omega), k3, k3', ih2, Option.bind_some]
        exact b01_if _
      rw [em]
      by_cases z6 : x = 6
      · rw [if_pos (show nI (srt x) = 6 by rw [x6.mpr z6]; rfl)]
        exact hgo
      · rw [if_neg (show ¬ nI (srt x) = 6 from fun z => z6 (x6.mp ((nI_eq (b := 6) (by omega) (by decide)).mp z))), if_pos (show nI (srt x) = 7 by rw [x7.mpr (by omega)]; rfl)]
        exact hgo
    · obtain ⟨w, hw⟩ := h5 (by omega) (by omega)
      obtain ⟨w', hw'⟩ := g5 (by omega) (by omega)
      obtain ⟨-, -, n1, e1, m1, r1, v1⟩ := hN.2 w _ hw
      obtain ⟨-, -, n2, e2, m2, r2, v2⟩ := hN'.2 w' _ hw'
      rw [← s1] at e1
      rw [← t1] at e2
      have hsm := same_r m1 m2 hl hl' r1 r2 v1 v2
      have hdn := dnm_eq hnm hw hw' hnm'
      have em : mtS G G' D D' (n + 1) i j = dec ((∃ w, D w = some (n_me (G i)) ∧ D' w = some (n_me (G' j))) ∧ (x = 8 → n_wd (G (n_me (G i))) = n_wd (G' (n_me (G' j))))) := by
        conv => lhs; unfold mtS
        rw [hx, hy, if_neg (by omega), if_neg (by omega), if_neg (by omega)]
      rw [em, if_neg (show ¬ nI (srt x) = 6 from fun z => by have := x6.mp ((nI_eq (b := 6) (by omega) (by decide)).mp z); omega), if_neg (show ¬ nI (srt x) = 7 from fun z => by have := x7.mp ((nI_eq (b := 7) (by omega) (by decide)).mp z); omega), e1, e2, hsm, Option.bind_some]
      by_cases ew : w = w'
      case neg =>
        rw [if_neg ew, if_pos (show (0 : Int32) = 0 from rfl), dec_f (fun z => ew (hdn.mp z.1))]
        rfl
      rw [if_pos ew, if_neg (show ¬ (1 : Int32) = 0 by decide)]
      by_cases z8 : x = 8
      · have m8 := c9 z8
        have m8' := d9 (by omega)
        have u1 := w8 z8
        have u2 := w8' (by omega)
        rw [if_pos (show nI (srt x) = 9 by rw [x9.mpr z8]; rfl), m8, m8']
        by_cases cw : n_wd (G (n_me (G i))) = n_wd (G' (n_me (G' j)))
        · rw [if_pos (by rw [cw]), dec_t ⟨hdn.mpr ew, fun _ => cw⟩]
          rfl
        · rw [if_neg (fun z => cw ((nI_eq (by omega) (by omega)).mp z)), dec_f (fun z => cw (z.2 z8))]
          rfl
      · rw [if_neg (show ¬ nI (srt x) = 9 from fun z => z8 (x9.mp ((nI_eq (b := 9) (by omega) (by decide)).mp z))), dec_t ⟨hdn.mpr ew, fun q => absurd q z8⟩]
        rfl
end RMM
/-- what the reference keeps, told -/
def KO (kst : Nat → Option LSt) (kept sizes : Nat → Int32) : Prop := ∀ p, p < 8 → (kst p = none ∧ sizes p = -1) ∨ ∃ (st : LSt) (T B : Nat → Int32) (L : Nat), kst p = some st ∧ L ≤ 4096 ∧ BY B L ∧ cb B L = cb T L ∧ rdS T L = .inr st ∧ sizes p = nI L ∧ ∀ i, i < L → vp_nar .byte (kept (4096 * p + i)) = B i
/-- what matches() answers -/
def mtW (kst : Nat → Option LSt) (x y k v : Int32) : Prop := (((∀ i, i < 8 → x ≠ nI i) ∨ (∀ i, i < 8 → y ≠ nI i)) ∧ k = 1) ∨ ∃ p q, p < 8 ∧ q < 8 ∧ x = nI p ∧ y = nI q ∧ (((kst p = none ∨ kst q = none) ∧ k = 2) ∨ ∃ st st', kst p = some st ∧ kst q = some st' ∧ k = 0 ∧ v = (if mtT st st' = true then 1 else 0))
theorem mtW.one {kst : Nat → Option LSt} {x y k v k' v' : Int32} (h : mtW kst x y k v) (h' : mtW kst x y k' v') : k' = k ∧ (k = 0 → v' = v) := by
  rcases h with ⟨h, rfl⟩ | ⟨p, q, hp, hq, hx, hy, h⟩
  · rcases h' with ⟨h', rfl⟩ | ⟨p', q', hp', hq', hx', hy', h'⟩
    · exact ⟨rfl, fun z => absurd z (by decide)⟩
    · rcases h with h | h
      · exact absurd hx' (h p' hp')
      · exact absurd hy' (h q' hq')
  · rcases h' with ⟨h', rfl⟩ | ⟨p', q', hp', hq', hx', hy', h'⟩
    · rcases h' with h' | h'
      · exact absurd hx (h' p hp)
      · exact absurd hy (h' q hq)
    · have e1 : p = p' := (nI_eq (by omega) (by omega)).mp (hx.symm.trans hx')
      have e2 : q = q' := (nI_eq (by omega) (by omega)).mp (hy.symm.trans hy')
      subst e1 e2
      rcases h with ⟨h, rfl⟩ | ⟨st, st', a1, a2, rfl, rfl⟩
      · rcases h' with ⟨h', rfl⟩ | ⟨st2, st2', b1, b2, rfl, rfl⟩
        · exact ⟨rfl, fun z => absurd z (by decide)⟩
        · rcases h with h | h
          · rw [h] at b1; cases b1
          · rw [h] at b2; cases b2
      · rcases h' with ⟨h', rfl⟩ | ⟨st2, st2', b1, b2, rfl, rfl⟩
        · rcases h' with h' | h'
          · rw [h'] at a1; cases a1
          · rw [h'] at a2; cases a2
        · rw [a1] at b1
          rw [a2] at b2
          cases b1
          cases b2
          exact ⟨rfl, fun _ => rfl⟩
section TKT
variable {kept sizes : Nat → Int32} {kst : Nat → Option LSt} {a_bytes a_kinds a_firsts a_sizes a_inner a_nexts a_letters a_sorts a_names a_wide a_kids a_many a_fallback a_kidShape a_kidName a_kidDefault a_kidNext a_finished a_plain a_told : Nat → Int32} {a_numbers : Nat → Int64} {a_length a_at a_deep a_fault a_place a_end a_nodes a_lettered a_shapes a_looked a_kidCount a_done a_root a_plainSize : Int32} {b_bytes b_kinds b_firsts b_sizes b_inner b_nexts b_letters b_sorts b_names b_wide b_kids b_many b_fallback b_kidShape b_kidName b_kidDefault b_kidNext b_finished b_plain b_told : Nat → Int32} {b_numbers : Nat → Int64} {b_length b_at b_deep b_fault b_place b_end b_nodes b_lettered b_shapes b_looked b_kidCount b_done b_root b_plainSize : Int32}
theorem mma_t (hK : KO kst kept sizes) (th x y : Int32) : SP (m_X10_matches th kept sizes a_bytes a_length a_at a_deep a_fault a_place a_end a_nodes a_kinds a_firsts a_numbers a_sizes a_inner a_nexts a_letters a_lettered a_shapes a_looked a_sorts a_names a_wide a_kids a_many a_fallback a_kidCount a_kidShape a_kidName a_kidDefault a_kidNext a_done a_finished a_root a_plain a_plainSize a_told b_bytes b_length b_at b_deep b_fault b_place b_end b_nodes b_kinds b_firsts b_numbers b_sizes b_inner b_nexts b_letters b_lettered b_shapes b_looked b_sorts b_names b_wide b_kids b_many b_fallback b_kidCount b_kidShape b_kidName b_kidDefault b_kidNext b_done b_finished b_root b_plain b_plainSize b_told x y) (fun r => mtW kst x y r.2.1 r.1) := by
  have n1 : ¬ (1 : Int32) = 0 := by decide
  have no1 : ∀ y0 : Int32, m_X10_take_57 kept sizes th a_bytes a_length a_at a_deep a_fault a_place a_end a_nodes a_kinds a_firsts a_numbers a_sizes a_inner a_nexts a_letters a_lettered a_shapes a_looked a_sorts a_names a_wide a_kids a_many a_fallback a_kidCount a_kidShape a_kidName a_kidDefault a_kidNext a_done a_finished a_root a_plain a_plainSize a_told b_bytes b_length b_at b_deep b_fault b_place b_end b_nodes b_kinds b_firsts b_numbers b_sizes b_inner b_nexts b_letters b_lettered b_shapes b_looked b_sorts b_names b_wide b_kids b_many b_fallback b_kidCount b_kidShape b_kidName b_kidDefault b_kidNext b_done b_finished b_root b_plain b_plainSize b_told x y y0 1 = some (0, 1, a_bytes, a_length, a_at, a_deep, a_fault, a_place, a_end, a_nodes, a_kinds, a_firsts, a_numbers, a_sizes, a_inner, a_nexts, a_letters, a_lettered, a_shapes, a_looked, a_sorts, a_names, a_wide, a_kids, a_many, a_fallback, a_kidCount, a_kidShape, a_kidName, a_kidDefault, a_kidNext, a_done, a_finished, a_root, a_plain, a_plainSize, a_told, b_bytes, b_length, b_at, b_deep, b_fault, b_place, b_end, b_nodes, b_kinds, b_firsts, b_numbers, b_sizes, b_inner, b_nexts, b_letters, b_lettered, b_shapes, b_looked, b_sorts, b_names, b_wide, b_kids, b_many, b_fallback, b_kidCount, b_kidShape, b_kidName, b_kidDefault, b_kidNext, b_done, b_finished, b_root, b_plain, b_plainSize, b_told) := by
    intro y0
    unfold m_X10_take_57
    simp only [ref_1, Option.bind_some, if_neg n1]
  have no2 : m_X10_take_57 kept sizes th a_bytes a_length a_at a_deep a_fault a_place a_end a_nodes a_kinds a_firsts a_numbers a_sizes a_inner a_nexts a_letters a_lettered a_shapes a_looked a_sorts a_names a_wide a_kids a_many a_fallback a_kidCount a_kidShape a_kidName a_kidDefault a_kidNext a_done a_finished a_root a_plain a_plainSize a_told b_bytes b_length b_at b_deep b_fault b_place b_end b_nodes b_kinds b_firsts b_numbers b_sizes b_inner b_nexts b_letters b_lettered b_shapes b_looked b_sorts b_names b_wide b_kids b_many b_fallback b_kidCount b_kidShape b_kidName b_kidDefault b_kidNext b_done b_finished b_root b_plain b_plainSize b_told x y 1 0 = some (0, 2, a_bytes, a_length, a_at, a_deep, a_fault, a_place, a_end, a_nodes, a_kinds, a_firsts, a_numbers, a_sizes, a_inner, a_nexts, a_letters, a_lettered, a_shapes, a_looked, a_sorts, a_names, a_wide, a_kids, a_many, a_fallback, a_kidCount, a_kidShape, a_kidName, a_kidDefault, a_kidNext, a_done, a_finished, a_root, a_plain, a_plainSize, a_told, b_bytes, b_length, b_at, b_deep, b_fault, b_place, b_end, b_nodes, b_kinds, b_firsts, b_numbers, b_sizes, b_inner, b_nexts, b_letters, b_lettered, b_shapes, b_looked, b_sorts, b_names, b_wide, b_kids, b_many, b_fallback, b_kidCount, b_kidShape, b_kidName, b_kidDefault, b_kidNext, b_done, b_finished, b_root, b_plain, b_plainSize, b_told) := by
    unfold m_X10_take_57
    simp only [ref_2, Option.bind_some, if_neg n1]
  have h20 : m_X10_take_20 kept sizes th a_bytes a_length a_at a_deep a_fault a_place a_end a_nodes a_kinds a_firsts a_numbers a_sizes a_inner a_nexts a_letters a_lettered a_shapes a_looked a_sorts a_names a_wide a_kids a_many a_fallback a_kidCount a_kidShape a_kidName a_kidDefault a_kidNext a_done a_finished a_root a_plain a_plainSize a_told b_bytes b_length b_at b_deep b_fault b_place b_end b_nodes b_kinds b_firsts b_numbers b_sizes b_inner b_nexts b_letters b_lettered b_shapes b_looked b_sorts b_names b_wide b_kids b_many b_fallback b_kidCount b_kidShape b_kidName b_kidDefault b_kidNext b_done b_finished b_root b_plain b_plainSize b_told x y 1 = some (0, 1, a_bytes, a_length, a_at, a_deep, a_fault, a_place, a_end, a_nodes, a_kinds, a_firsts, a_numbers, a_sizes, a_inner, a_nexts, a_letters, a_lettered, a_shapes, a_looked, a_sorts, a_names, a_wide, a_kids, a_many, a_fallback, a_kidCount, a_kidShape, a_kidName, a_kidDefault, a_kidNext, a_done, a_finished, a_root, a_plain, a_plainSize, a_told, b_bytes, b_length, b_at, b_deep, b_fault, b_place, b_end, b_nodes, b_kinds, b_firsts, b_numbers, b_sizes, b_inner, b_nexts, b_letters, b_lettered, b_shapes, b_looked, b_sorts, b_names, b_wide, b_kids, b_many, b_fallback, b_kidCount, b_kidShape, b_kidName, b_kidDefault, b_kidNext, b_done, b_finished, b_root, b_plain, b_plainSize, b_told) := by
    unfold m_X10_take_20 m_X10_take_56 m_X10_take_52
    obtain ⟨r, hr0, hr⟩ := mpl_sp x
    rw [hr0, Option.bind_some]
    split
    · exact no1 _
    · rename_i h0
      obtain ⟨r2, hr20, hr2⟩ := mpl_sp y
      rw [hr20, Option.bind_some]
      split
      · exact no1 _
      · rename_i h2
        obtain ⟨-, p, hp, rfl⟩ := hr.resolve_left h0
        obtain ⟨-, q, hq, rfl⟩ := hr2.resolve_left h2
        rw [bd_go hp (by decide)]
        split
        · exact no1 _
        · rw [bd_go hq (by decide)]
          split
          · exact no1 _
          · exact no1 _
  have bad : ∀ k : Int32, (m_X10_take th kept sizes a_bytes a_length a_at a_deep a_fault a_place a_end a_nodes a_kinds a_firsts a_numbers a_sizes a_inner a_nexts a_letters a_lettered a_shapes a_looked a_sorts a_names a_wide a_kids a_many a_fallback a_kidCount a_kidShape a_kidName a_kidDefault a_kidNext a_done a_finished a_root a_plain a_plainSize a_told b_bytes b_length b_at b_deep b_fault b_place b_end b_nodes b_kinds b_firsts b_numbers b_sizes b_inner b_nexts b_letters b_lettered b_shapes b_looked b_sorts b_names b_wide b_kids b_many b_fallback b_kidCount b_kidShape b_kidName b_kidDefault b_kidNext b_done b_finished b_root b_plain b_plainSize b_told x y = some (0, k, a_bytes, a_length, a_at, a_deep, a_fault, a_place, a_end, a_nodes, a_kinds, a_firsts, a_numbers, a_sizes, a_inner, a_nexts, a_letters, a_lettered, a_shapes, a_looked, a_sorts, a_names, a_wide, a_kids, a_many, a_fallback, a_kidCount, a_kidShape, a_kidName, a_kidDefault, a_kidNext, a_done, a_finished, a_root, a_plain, a_plainSize, a_told, b_bytes, b_length, b_at, b_deep, b_fault, b_place, b_end, b_nodes, b_kinds, b_firsts, b_numbers, b_sizes, b_inner, b_nexts, b_letters, b_lettered, b_shapes, b_looked, b_sorts, b_names, b_wide, b_kids, b_many, b_fallback, b_kidCount, b_kidShape, b_kidName, b_kidDefault, b_kidNext, b_done, b_finished, b_root, b_plain, b_plainSize, b_told)) → (∀ v, mtW kst x y k v) → SP (m_X10_matches th kept sizes a_bytes a_length a_at a_deep a_fault a_place a_end a_nodes a_kinds a_firsts a_numbers a_sizes a_inner a_nexts a_letters a_lettered a_shapes a_looked a_sorts a_names a_wide a_kids a_many a_fallback a_kidCount a_kidShape a_kidName a_kidDefault a_kidNext a_done a_finished a_root a_plain a_plainSize a_told b_bytes b_length b_at b_deep b_fault b_place b_end b_nodes b_kinds b_firsts b_numbers b_sizes b_inner b_nexts b_letters b_lettered b_shapes b_looked b_sorts b_names b_wide b_kids b_many b_fallback b_kidCount b_kidShape b_kidName b_kidDefault b_kidNext b_done b_finished b_root b_plain b_plainSize b_told x y) (fun r => mtW kst x y r.2.1 r.1) := by
    intro k h hv
    unfold m_X10_matches
    rw [h, Option.bind_some]
    dsimp only
    rw [if_pos (show (0 : Int32) = 0 from rfl)]
    exact SP.ok (hv _)
  by_cases hx : ∃ p, p < 8 ∧ x = nI p
  case neg =>
    refine bad 1 ?_ (fun v => Or.inl ⟨Or.inl (fun i hi e => hx ⟨i, hi, e⟩), rfl⟩)
    unfold m_X10_take m_X10_take_15
    obtain ⟨r, hr0, hr⟩ := mpl_sp x
    rw [hr0, Option.bind_some]
    rcases hr with e | ⟨-, i, hi, e⟩
    · rw [if_pos e]; exact h20
    · exact absurd ⟨i, hi, e⟩ hx
  by_cases hy : ∃ q, q < 8 ∧ y = nI q
  case neg =>
    refine bad 1 ?_ (fun v => Or.inl ⟨Or.inr (fun i hi e => hy ⟨i, hi, e⟩), rfl⟩)
    unfold m_X10_take m_X10_take_15
    obtain ⟨r, hr0, hr⟩ := mpl_sp x
    rw [hr0, Option.bind_some]
    split
    · exact h20
    · obtain ⟨r2, hr20, hr2⟩ := mpl_sp y
      rw [hr20, Option.bind_some]
      rcases hr2 with e | ⟨-, i, hi, e⟩
      · rw [if_pos e]; exact h20
      · exact absurd ⟨i, hi, e⟩ hy
  obtain ⟨p, hp, rfl⟩ := hx
  obtain ⟨q, hq, rfl⟩ := hy
  have t20 : m_X10_take th kept sizes a_bytes a_length a_at a_deep a_fault a_place a_end a_nodes a_kinds a_firsts a_numbers a_sizes a_inner a_nexts a_letters a_lettered a_shapes a_looked a_sorts a_names a_wide a_kids a_many a_fallback a_kidCount a_kidShape a_kidName a_kidDefault a_kidNext a_done a_finished a_root a_plain a_plainSize a_told b_bytes b_length b_at b_deep b_fault b_place b_end b_nodes b_kinds b_firsts b_numbers b_sizes b_inner b_nexts b_letters b_lettered b_shapes b_looked b_sorts b_names b_wide b_kids b_many b_fallback b_kidCount b_kidShape b_kidName b_kidDefault b_kidNext b_done b_finished b_root b_plain b_plainSize b_told (nI p) (nI q) = (if sizes p < 0 then m_X10_take_57 kept sizes th a_bytes a_length a_at a_deep a_fault a_place a_end a_nodes a_kinds a_firsts a_numbers a_sizes a_inner a_nexts a_letters a_lettered a_shapes a_looked a_sorts a_names a_wide a_kids a_many a_fallback a_kidCount a_kidShape a_kidName a_kidDefault a_kidNext a_done a_finished a_root a_plain a_plainSize a_told b_bytes b_length b_at b_deep b_fault b_place b_end b_nodes b_kinds b_firsts b_numbers b_sizes b_inner b_nexts b_letters b_lettered b_shapes b_looked b_sorts b_names b_wide b_kids b_many b_fallback b_kidCount b_kidShape b_kidName b_kidDefault b_kidNext b_done b_finished b_root b_plain b_plainSize b_told (nI p) (nI q) 1 0 else if 0 ≤ sizes q then m_X10_take_57 kept sizes th a_bytes a_length a_at a_deep a_fault a_place a_end a_nodes a_kinds a_firsts a_numbers a_sizes a_inner a_nexts a_letters a_lettered a_shapes a_looked a_sorts a_names a_wide a_kids a_many a_fallback a_kidCount a_kidShape a_kidName a_kidDefault a_kidNext a_done a_finished a_root a_plain a_plainSize a_told b_bytes b_length b_at b_deep b_fault b_place b_end b_nodes b_kinds b_firsts b_numbers b_sizes b_inner b_nexts b_letters b_lettered b_shapes b_looked b_sorts b_names b_wide b_kids b_many b_fallback b_kidCount b_kidShape b_kidName b_kidDefault b_kidNext b_done b_finished b_root b_plain b_plainSize b_told (nI p) (nI q) 0 0 else m_X10_take_57 kept sizes th a_bytes a_length a_at a_deep a_fault a_place a_end a_nodes a_kinds a_firsts a_numbers a_sizes a_inner a_nexts a_letters a_lettered a_shapes a_looked a_sorts a_names a_wide a_kids a_many a_fallback a_kidCount a_kidShape a_kidName a_kidDefault a_kidNext a_done a_finished a_root a_plain a_plainSize a_told b_bytes b_length b_at b_deep b_fault b_place b_end b_nodes b_kinds b_firsts b_numbers b_sizes b_inner b_nexts b_letters b_lettered b_shapes b_looked b_sorts b_names b_wide b_kids b_many b_fallback b_kidCount b_kidShape b_kidName b_kidDefault b_kidNext b_done b_finished b_root b_plain b_plainSize b_told (nI p) (nI q) 1 0) := by
    unfold m_X10_take m_X10_take_15
    unfold m_X10_take_20 m_X10_take_56 m_X10_take_52
    simp only [mpl_1 hp, mpl_1 hq, Option.bind_some, if_neg n1]
    rw [bd_go hp (by decide), nI_clamp (show p < 2 ^ 31 by omega), bd_go hq (by decide), nI_clamp (show q < 2 ^ 31 by omega)]
  rcases hK p hp with ⟨k1, e1⟩ | ⟨st, T1, B1, L1, k1, l1, hB1, hc1, hr1, e1, f1⟩
  · refine bad 2 ?_ (fun v => Or.inr ⟨p, q, hp, hq, rfl, rfl, Or.inl ⟨Or.inl k1, rfl⟩⟩)
    rw [t20, if_pos (by rw [e1]; decide)]
    exact no2
  rcases hK q hq with ⟨k2, e2⟩ | ⟨st', T2, B2, L2, k2, l2, hB2, hc2, hr2, e2, f2⟩
  · refine bad 2 ?_ (fun v => Or.inr ⟨p, q, hp, hq, rfl, rfl, Or.inl ⟨Or.inr k2, rfl⟩⟩)
    rw [t20, if_neg (by rw [e1]; exact nI_pos (by omega)), if_neg (by rw [e2]; decide)]
    exact no2
  have m1 : (4096 : Int32) * nI p = nI (4096 * p) := by rw [show (4096 : Int32) = nI 4096 from rfl, nI_mul]
  have m2 : (4096 : Int32) * nI q = nI (4096 * q) := by rw [show (4096 : Int32) = nI 4096 from rfl, nI_mul]
  obtain ⟨u, hu, hU⟩ := read_full hB1 l1 hc1 hr1 a_bytes a_kinds a_firsts a_sizes a_inner a_nexts a_letters a_sorts a_names a_wide a_kids a_many a_fallback a_kidShape a_kidName a_kidDefault a_kidNext a_finished a_plain a_told kept a_numbers a_length a_at a_deep a_fault a_place a_end a_nodes a_lettered a_shapes a_looked a_kidCount a_done a_root a_plainSize 32768 (4096 * p) (by omega) (by decide) f1
  obtain ⟨z, hz, hZ⟩ := read_full hB2 l2 hc2 hr2 b_bytes b_kinds b_firsts b_sizes b_inner b_nexts b_letters b_sorts b_names b_wide b_kids b_many b_fallback b_kidShape b_kidName b_kidDefault b_kidNext b_finished b_plain b_told kept b_numbers b_length b_at b_deep b_fault b_place b_end b_nodes b_lettered b_shapes b_looked b_kidCount b_done b_root b_plainSize 32768 (4096 * q) (by omega) (by decide) f2
  obtain ⟨u1, u2, u3, u4, u5, u6, u7, u8, u9, u10, u11, u12, u13, u14, u15, u16, u17, u18, u19, u20, u21, u22, u23, u24, u25, u26, u27, u28, u29, u30, u31, u32, u33, u34, u35⟩ := u
  obtain ⟨z1, z2, z3, z4, z5, z6, z7, z8, z9, z10, z11, z12, z13, z14, z15, z16, z17, z18, z19, z20, z21, z22, z23, z24, z25, z26, z27, z28, z29, z30, z31, z32, z33, z34, z35⟩ := z
  have hMU := mok_rtu l1 hU.1
  have hMZ := mok_rtu l2 hZ.1
  obtain ⟨Sd, In, Nx, Am, l, p0, n, b, hl, hV, hlk, hW, hI, hrt⟩ := hU.1
  obtain ⟨Sd', In', Nx', Am', l', p0', n', b', hl', hV', hlk', hW', hI', hrt'⟩ := hZ.1
  have hm : m_X10_matchesT 150 u11 u12 u15 u19 u20 u21 u22 u26 z11 z12 z15 z19 z20 z21 z22 z26 u32 z32 = some (if mtT st st' = true then 1 else 0) := by
    obtain ⟨k, sh, kc, pl, D, fi, G⟩ := st
    obtain ⟨k', sh', kc', pl', D', fi', G'⟩ := st'
    obtain ⟨i1, i2, i3, i4, i5, i6, i7, i8, i9, i10, i11, i12, i13, i14⟩ := hI
    obtain ⟨j1, j2, j3, j4, j5, j6, j7, j8, j9, j10, j11, j12, j13, j14⟩ := hI'
    rw [hrt, hrt']
    exact rmt_eq hl hl' i10 j10 (by omega) (by omega) i7 j7 i11 j11 i12 j12 hW hW' hMU.2.2.1 hMZ.2.2.1 16 150 0 0 (by decide) hMU.2.1 hMZ.2.1
  unfold m_X10_matches
  rw [t20, if_neg (by rw [e1]; exact nI_pos (by omega)), if_pos (by rw [e2]; exact nI_pos' (by omega))]
  unfold m_X10_take_57
  simp only [ref_0, Option.bind_some, if_true]
  rw [bd_go hp (by decide), nI_clamp (show p < 2 ^ 31 by omega), e1, m1, hu, Option.bind_some]
  dsimp only
  rw [bd_go hq (by decide), nI_clamp (show q < 2 ^ 31 by omega), e2, m2, hz, Option.bind_some]
  dsimp only
  simp only [Option.bind_some, if_neg n1]
  rw [hm, Option.bind_some]
  have fin : ∀ v, v = (if mtT st st' = true then (1 : Int32) else 0) → mtW kst (nI p) (nI q) 0 v := fun v hv => Or.inr ⟨p, q, hp, hq, rfl, rfl, Or.inr ⟨st, st', k1, k2, rfl, hv⟩⟩
  by_cases c : mtT st st' = true
  · rw [if_pos c, if_neg n1]
    exact SP.ok (fin 1 (by rw [if_pos c]))
  · rw [if_neg c, if_pos (show (0 : Int32) = 0 from rfl)]
    exact SP.ok (fin 0 (by rw [if_neg c]))
end TKT
