-- the class's look at enums
section CENU
variable {T : Nat → Int32} {L : Nat} {Sd In Nx Am K F S I X Lt : Nat → Int32} {N : Nat → Int64} {l : Nat}
/-- what follows the symbols -/
noncomputable def len2 (T : Nat → Int32) (L s p : Nat) : LRs → LRs
  | .inl e => .inl e
  | .inr (sc, sh, kc, pl, D, fi, G) => match mbr T L p (litN 28) with
    | none => .inr (sc, sh, kc, pl ++ litN 27, D, fi, G)
    | some d => if dec (cb T L d = 34 ∧ ts T L d ∈ n_sy (G s)) = true then .inr (sc, sh, kc, pl ++ litN 27, D, fi, G) else .inl (12, d)
theorem len_2 {s p : Nat} {st : LSt} : len T L s p st = match mbr T L p (litN 25) with
  | none => .inl (8, p)
  | some v => if cb T L v = 91 ∧ 1 ≤ (prt T L v).length ∧ (prt T L v).length ≤ 32 then len2 T L s p (lsy T L s (prt T L v) (wrt (litN 26) st)) else .inl (11, v) := by
  unfold len
  cases mbr T L p (litN 25) with
  | none => rfl
  | some v =>
    simp only
    by_cases c : cb T L v = 91 ∧ 1 ≤ (prt T L v).length ∧ (prt T L v).length ≤ 32
    · rw [if_pos c, if_pos c]
      cases lsy T L s (prt T L v) (wrt (litN 26) st) with
      | inl e => rfl
      | inr st' => rfl
    · rw [if_neg c, if_neg c]
/-- the class's answer over the rows that an enum changes -/
def CE (lf lp : Int32) (x : Option (Int32 × Int32 × Int32 × (Nat → Int32) × (Nat → Int32) × (Nat → Int32) × (Nat → Int32) × Int32)) (Ki Me Ne Na Fn : Nat → Int32) (sc : Int32) (Cf Cs : Nat → Int32) (cc : Int32) : LRs → Prop
  | .inl e => ∃ u, x = some (0, (nI e.1, nI e.2, u))
  | .inr st => ∃ Pl Fi Ac Ed lc, x = some (1, (lf, lp, Pl, Fi, Ac, Ed, lc)) ∧ CI Pl Ki Me Fi Ne Na Fn Ac lc sc Cf Cs cc st
theorem c_enu_go (hL : L ≤ 4096) (hl : l ≤ 4200) (lf lp : Int32) {s n p q : Nat} (hv : VV T L Sd In Nx Am K F N S I X Lt l n p q) (hc : cb T L p = 123) {Ki Me Ne Na Fn : Nat → Int32} {sc : Int32} {Cf Cs : Nat → Int32} {cc : Int32} : ∀ (ks : List (Nat × Nat)) (fuel i lo hi : Nat) (hcp hr : Int32) (Pl Fi Ac Ed : Nat → Int32) (lc : Int32) (k sh kc : Nat) (pl : List Nat) (D : List Nat → Option Nat) (fi : List (Nat × Nat × Option Nat)) (G : Nat → Nod), ks.length < fuel → i + ks.length ≤ 32 → CI Pl Ki Me Fi Ne Na Fn Ac lc sc Cf Cs cc (k, sh, kc, pl, D, fi, G) → s < k → n_me (G s) = s → n_kd (G s) = 9 → (n_sy (G s)).length = i → SE Fi pl s (n_sy (G s)) → LCH T L Sd In Nx Am K F N S I X Lt l ks lo hi hcp hr → hi ≤ 4096 → pl.length + (hi - lo) + 2 ≤ 4096 + (if n_sy (G s) = [] ∧ ks ≠ [] then 1 else 0) →
    CE lf lp (m_X4_lookAtEnum_88 T Sd In Nx Am (nI L) Me fuel lf lp Pl Fi Ac Ed lc (nI s) (nI p) (nI (i + ks.length)) hcp (nI i)) Ki Me Ne Na Fn sc Cf Cs cc (len2 T L s p (lsy T L s ks (k, sh, kc, pl, D, fi, G))) := by
  intro ks
  have hp := hv.base
  have h27 : (litN 27).length = 2 := by decide
  induction ks with
  | nil =>
    intro fuel i lo hi hcp hr Pl Fi Ac Ed lc k sh kc pl D fi G hfu hi32 hI hs hm h9 hsy hse hlc hhi hbu
    obtain ⟨fu, rfl⟩ : ∃ z, fuel = z + 1 := ⟨fuel - 1, by omega⟩
    rw [if_neg (fun z => z.2 rfl)] at hbu
    have i3 := hI.2.2.1
    obtain ⟨Pl1, w1, w2⟩ := wrL (w := 27) (by decide) hI.2.2.2.2.1 (by omega)
    have hI1 := hI.wr w2 (by rw [List.length_append, h27]; omega)
    simp only [m_X4_lookAtEnum_88, lsy, len2]
    rw [if_pos (nI_le (by simp) (by omega)), i3, w1]
    simp only [Option.bind_some]
    rcases mbc hL hl hv hc (w := 28) (by decide) with ⟨e, em⟩ | ⟨v, kp, c, b, e, em, z1, z2, z3, z4, z5, z6⟩
    · rw [e, em]
      simp only [Option.bind_some, m_X4_lookAtEnumDefault, if_true, or_true]
      exact ⟨_, _, _, _, _, rfl, hI1⟩
    · rw [e, em]
      have hzb := z1.base
      simp only [Option.bind_some, m_X4_lookAtEnumDefault, if_neg (nI_m1 (show v < 2 ^ 31 by omega)), iss_eq hL (show v < 4096 by omega), m_X4_lookAtEnumDefault_34, m_X4_refuse, true_or, if_true]
      by_cases c34 : cb T L v = 34
      · obtain ⟨s0, y1, y2, y3, y4, y5, y6⟩ := z1.str c34
        rw [if_pos c34, if_neg (show ¬ (1 : Int32) = 0 by decide), hsy_c hI1 hs h9 hm y3, y2]
        simp only [Option.bind_some]
        by_cases hin : s0 ∈ n_sy (G s)
        · obtain ⟨Ed', he⟩ := ste_eq (Ed := Ed) (s := s) (by have := hI.2.1; omega)
          rw [dec_t hin, dec_t ⟨c34, hin⟩, if_pos (show true = true from rfl), if_pos (show true = true from rfl), if_neg (show ¬ (1 : Int32) = 0 by decide), he]
          simp only [Option.bind_some, or_true, if_true]
          exact ⟨_, _, _, _, _, rfl, hI1⟩
        · rw [dec_f hin, dec_f (fun z => hin z.2), if_neg (show ¬ (false = true) by decide), if_neg (show ¬ (false = true) by decide), if_pos (show (0 : Int32) = 0 from rfl)]
          simp only [Option.bind_some, true_or, if_true]
          exact ⟨_, rfl⟩
      · rw [if_neg c34, if_pos (show (0 : Int32) = 0 from rfl), dec_f (fun z => c34 z.1), if_neg (show ¬ (false = true) by decide)]
        simp only [Option.bind_some, true_or, if_true]
        exact ⟨_, rfl⟩
  | cons v t ih =>
    intro fuel i lo hi hcp hr Pl Fi Ac Ed lc k sh kc pl D fi G hfu hi32 hI hs hm h9 hsy hse hlc hhi hbu
    obtain ⟨fu, rfl⟩ : ∃ z, fuel = z + 1 := ⟨fuel - 1, by omega⟩
    rw [List.length_cons] at hfu hi32
    obtain ⟨c, b, c1, c2, c3, c4, c5, c6⟩ := hlc
    have hb := c4.base
    have i2 := hI.2.1
    simp only [m_X4_lookAtEnum_88, lsy]
    rw [if_neg (nI_ge (show i < i + (v :: t).length by rw [List.length_cons]; omega) (by rw [List.length_cons]; omega)), c2]
    by_cases c34 : cb T L v.2 = 34
    rotate_left
    · rw [snm_no hL (by omega) c34, dec_f (fun z => c34 z.1), if_neg (show ¬ (false = true) by decide)]
      simp only [Option.bind_some, if_true, m_X4_lookAtEnum_124, m_X4_refuse, true_or, len2]
      exact ⟨_, rfl⟩
    obtain ⟨s0, y1, y2, y3, y4, y5, y6⟩ := c4.str c34
    rw [y2]
    rcases snm_eq hL c34 y3 with ⟨n1, n2⟩ | ⟨n1, n2⟩
    rotate_left
    · rw [n2, dec_f (fun z => n1 z.2.1), if_neg (show ¬ (false = true) by decide)]
      simp only [Option.bind_some, if_true, m_X4_lookAtEnum_124, m_X4_refuse, true_or, len2]
      exact ⟨_, rfl⟩
    rw [n2]
    simp only [Option.bind_some, if_neg (show ¬ (1 : Int32) = 0 by decide)]
    rw [hsy_c hI hs h9 hm y3]
    simp only [Option.bind_some]
    by_cases hin : s0 ∈ n_sy (G s)
    · rw [dec_t hin, dec_f (fun z => z.2.2 hin), if_pos (show true = true from rfl), if_neg (show ¬ (false = true) by decide), if_neg (show ¬ (1 : Int32) = 0 by decide)]
      simp only [m_X4_lookAtEnum_124, m_X4_refuse, Option.bind_some, true_or, if_true, len2]
      exact ⟨_, rfl⟩
    rw [dec_f hin, dec_t ⟨c34, n1, hin⟩, if_neg (show ¬ (false = true) by decide), if_pos (show true = true from rfl), if_pos (show (0 : Int32) = 0 from rfl)]
    have hlen2 : (pl ++ ((if n_sy (G s) = [] then [] else [44]) ++ qt s0)).length + (if n_sy (G s) = [] then 1 else 0) = pl.length + 1 + (s0.length + 2) := by
      rw [List.length_append, List.length_append, qt_len]
      by_cases e0 : n_sy (G s) = []
      · rw [if_pos e0, if_pos e0, List.length_nil]; omega
      · rw [if_neg e0, if_neg e0, List.length_singleton]; omega
    have hbu1 : pl.length + 1 + (hi - lo) + 1 ≤ 4096 + (if n_sy (G s) = [] then 1 else 0) := by
      by_cases e0 : n_sy (G s) = []
      · rw [if_pos ⟨e0, by simp⟩] at hbu; rw [if_pos e0]; omega
      · rw [if_neg (fun z => e0 z.1)] at hbu; rw [if_neg e0]; omega
    obtain ⟨Pl1, Fi1, Ac1, lc1, a1, a2, a3⟩ := asy_c hI hs h9 hm y3 n1 y6 (by omega) hse (by omega)
    rw [a1]
    simp only [Option.bind_some, m_X7_next]
    rw [ent_eq (n := 4096) (by decide) (show v.2 < 4096 by omega)]
    simp only [Option.bind_some, nI_1]
    have esy : n_sy (upG G s (syN (G s) s0 kc) s) = n_sy (G s) ++ [s0] := by rw [upG_s]; rfl
    have fin := ih fu (i + 1) _ hi (Nx v.2) (X c) Pl1 Fi1 Ac1 Ed lc1 k sh (kc + 1) _ D fi _ (by omega) (by omega) a2 hs (by rw [upG_s]; exact hm) (by rw [upG_s]; exact h9) (by rw [esy, List.length_append, List.length_singleton]; omega) (by rw [esy]; exact a3) c6 hhi (by
      rw [if_neg (show ¬ (n_sy (upG G s (syN (G s) s0 kc) s) = [] ∧ t ≠ []) from fun z => absurd z.1 (by rw [esy]; simp))]
      omega)
    rw [List.length_cons, show i + (t.length + 1) = i + 1 + t.length by omega]
    exact fin
theorem c_enu (hL : L ≤ 4096) (hl : l ≤ 4200) (lf lp : Int32) {s n p q : Nat} {Ed : Nat → Int32} {Pl Ki Me Fi Ne Na Fn Ac : Nat → Int32} {lc sc : Int32} {Cf Cs : Nat → Int32} {cc : Int32} {k sh kc : Nat} {pl : List Nat} {D : List Nat → Option Nat} {fi : List (Nat × Nat × Option Nat)} {G : Nat → Nod} (hI : CI Pl Ki Me Fi Ne Na Fn Ac lc sc Cf Cs cc (k, sh, kc, pl, D, fi, G)) (hs : s < k) (hG : ∃ sg, G s = mkN 9 s sg 0 [] []) (hv : VV T L Sd In Nx Am K F N S I X Lt l n p q) (hc : cb T L p = 123) (hb : ∀ v kp c b, (kp, v) ∈ prt T L p → VV T L Sd In Nx Am K F N S I X Lt l c v b → ts T L kp = litN 25 → p < kp → kp + 10 ≤ v → b < q → pl.length + 12 + (b - v) ≤ 4096) :
    CE lf lp (m_X4_lookAtEnum lf lp T Sd In Nx Am (nI L) Pl Me Fi Ac Ed lc (nI s) (nI p)) Ki Me Ne Na Fn sc Cf Cs cc (len T L s p (k, sh, kc, pl, D, fi, G)) := by
  have hp := hv.base
  have h25 : (litN 25).length = 7 := by decide
  have h26 : (litN 26).length = 12 := by decide
  obtain ⟨sg, hG⟩ := hG
  rw [len_2]
  simp only [wrt]
  unfold m_X4_lookAtEnum
  rcases mbc hL hl hv hc (w := 25) (by decide) with ⟨e, em⟩ | ⟨v, kp, c, b, e, em, z1, z2, z3, z4, z5, z6⟩
  · rw [e, em]
    simp only [Option.bind_some, if_true, m_X4_refuse, true_or]
    exact ⟨_, rfl⟩
  rw [e, em]
  have hzb := z1.base
  simp only [Option.bind_some, if_neg (nI_m1 (show v < 2 ^ 31 by omega)), m_X7_amount, ent_eq (n := 4096) (by decide) (show v < 4096 by omega), isl_eq hL (show v < 4096 by omega), m_X4_lookAtEnum_58, m_X4_refuse, true_or, if_true]
  by_cases c91 : cb T L v = 91
  rotate_left
  · rw [if_neg c91, if_pos rfl, if_neg (fun z => c91 z.1)]
    exact ⟨_, rfl⟩
  obtain ⟨a1, a2, a3, a4⟩ := z1.lst c91
  have htwo := z1.two (Or.inl c91)
  rw [if_pos c91, if_neg (show ¬ (1 : Int32) = 0 by decide), a1]
  by_cases x1 : 1 ≤ (prt T L v).length
  rotate_left
  · rw [if_pos (show nI (prt T L v).length < 1 from nI_lt (b := 1) (by omega) (by decide)), if_neg (fun z => x1 z.2.1)]
    exact ⟨_, rfl⟩
  rw [if_neg (show ¬ nI (prt T L v).length < 1 from Int32.not_lt.mpr (nI_le (a := 1) x1 (by omega)))]
  by_cases x2 : (prt T L v).length ≤ 32
  rotate_left
  · rw [if_neg (show ¬ nI (prt T L v).length ≤ 32 from nI_ge (a := 32) (b := (prt T L v).length) (by omega) (by omega)), if_neg (fun z => x2 z.2.2)]
    exact ⟨_, rfl⟩
  rw [if_pos (show nI (prt T L v).length ≤ 32 from nI_le (b := 32) x2 (by decide)), if_pos ⟨c91, x1, x2⟩]
  have hbb := hb v kp c b z5 z1 z6 z2 (by omega) z4
  have i3 := hI.2.2.1
  obtain ⟨Pl1, w1, w2⟩ := wrL (w := 26) (by decide) hI.2.2.2.2.1 (by omega)
  have hI1 := hI.wr w2 (by rw [List.length_append, h26]; omega)
  rw [i3, w1]
  simp only [Option.bind_some, m_X7_inner]
  rw [ent_eq (n := 4096) (by decide) (show v < 4096 by omega)]
  simp only [Option.bind_some]
  have esy : n_sy (G s) = [] := by rw [hG]; rfl
  have fin := c_enu_go hL hl lf lp hv hc (prt T L v) sr_fuel 0 _ _ _ _ Pl1 Fi Ac Ed _ k sh kc _ D fi G (by unfold sr_fuel; omega) (by omega) hI1 hs (by rw [hG]; rfl) (by rw [hG]; rfl) (by rw [esy]; rfl) (fun x hx => by rw [esy] at hx; exact absurd rfl hx) a4 (by omega) (by
    rw [if_pos ⟨esy, fun z => by rw [z] at x1; simp at x1⟩, List.length_append, h26]
    omega)
  rw [Nat.zero_add, nI_0] at fin
  exact fin
end CENU
