-- matches: both programs as told
theorem nIc {x c : Nat} (hx : x < 2 ^ 31) (hc : c < 2 ^ 31) : (nI x = nI c) = (x = c) := propext (nI_eq hx hc)
theorem dec_if {P Q : Prop} [Decidable Q] (h : P ↔ Q) : (if dec P = true then (1 : Int32) else 0) = if Q then 1 else 0 := by
  by_cases q : Q
  · rw [if_pos q, dec_t (h.mpr q), if_pos rfl]
  · rw [if_neg q, dec_f (fun p => q (h.mp p)), if_neg (by decide)]
section CMT
variable {Me Fi Na Ac Ki : Nat → Int32}
theorem fst_e {i m : Nat} (hi : i < 128) (hm : m < 128) (h : Me i = nI m) : m_X6_first Me Fi (nI i) = some (Fi m) := by
  unfold m_X6_first
  simp only [ent_eq (n := 128) (by decide) hi, h, ent_eq (n := 128) (by decide) hm, Option.bind_some]
theorem nme_e {i m : Nat} (hi : i < 128) (hm : m < 128) (h : Me i = nI m) : m_X6_name Me Na (nI i) = some (Na m) := by
  unfold m_X6_name
  simp only [ent_eq (n := 128) (by decide) hi, h, ent_eq (n := 128) (by decide) hm, Option.bind_some]
theorem amt_e {i m : Nat} (hi : i < 128) (hm : m < 128) (h : Me i = nI m) : m_X6_amount Me Ac (nI i) = some (Ac m) := by
  unfold m_X6_amount
  simp only [ent_eq (n := 128) (by decide) hi, h, ent_eq (n := 128) (by decide) hm, Option.bind_some]
end CMT
section SSN
variable {P P' : Nat → Int32} {pl pl' s s' : List Nat} {a a' : Nat}
theorem pnl_at (h : PNL pl a s) {j : Nat} (hj : j ≤ s.length) : pl.getD (a + j) 0 = (if j < s.length then s.getD j 0 else 34) := by
  obtain ⟨h1, h2, h3, h4⟩ := h
  by_cases c : j < s.length
  · rw [if_pos c]; exact h3 j c
  · have e : j = s.length := by omega
    rw [if_neg c, e]; exact h4
theorem ssn_eq (hP : SBI P pl) (hP' : SBI P' pl') (hl : pl.length ≤ 4096) (hl' : pl'.length ≤ 4096) (h : PNL pl a s) (h' : PNL pl' a' s') : m_X6_isSameName P (nI pl.length) P' (nI pl'.length) (nI a) (nI a') = some (if s = s' then 1 else 0) := by
  have b1 := h.1
  have b1' := h'.1
  have n2 := h.2.1.2.1
  have n2' := h'.2.1.2.1
  have go : ∀ (fuel j : Nat), j ≤ s.length → j ≤ s'.length → 33 - j < fuel → (∀ i, i < j → s.getD i 0 = s'.getD i 0) → m_X6_isSameName_13 P (nI pl.length) P' (nI pl'.length) fuel (nI a) (nI a') (nI j) = some (if s = s' then 1 else 0) := by
    intro fuel
    induction fuel with
    | zero => intro j _ _ hf; exact absurd hf (Nat.not_lt_zero _)
    | succ fuel ih =>
      intro j hj hj' hf ha
      obtain ⟨p1, p2⟩ := hP (a + j) (by omega)
      obtain ⟨p1', p2'⟩ := hP' (a' + j) (by omega)
      have e1 := pnl_at h hj
      have e1' := pnl_at h' hj'
      simp only [m_X6_isSameName_13, nI_add, nI_1]
      rw [if_neg (show ¬ (32 : Int32) < nI j from nI_nlt (a := 32) (b := j) (by omega) (by omega)), if_neg (nI_ge (show a + j < pl.length by omega) (by omega)), if_neg (nI_ge (show a' + j < pl'.length by omega) (by omega))]
      simp only [bd_go (show a + j < 4096 by omega) (by decide), bd_go (show a' + j < 4096 by omega) (by decide)]
      rw [nI_clamp (show a + j < 2 ^ 31 by omega), nI_clamp (show a' + j < 2 ^ 31 by omega)]
      rw [p1, p1', e1, e1']
      rw [e1] at p2
      rw [e1'] at p2'
      by_cases c : j < s.length
      · rw [if_pos c] at p2 ⊢
        have q := nm_q h.2.1 c
        by_cases c' : j < s'.length
        · rw [if_pos c'] at p2' ⊢
          by_cases e : s.getD j 0 = s'.getD j 0
          · rw [if_pos (by rw [e]), if_neg (show ¬ sbI (s.getD j 0) = 34 from fun z => q ((sb_e (c := 34) (by omega) (by decide)).mp z))]
            refine ih (j + 1) (by omega) (by omega) (by omega) (fun i hi => ?_)
            by_cases ei : i = j
            · rw [ei]; exact e
            · exact ha i (by omega)
          · rw [if_neg (fun z => e (sbI_inj p2 p2' z)), if_neg (fun z => e (by rw [z]))]
        · rw [if_neg c'] at p2' ⊢
          rw [if_neg (fun z => q (sbI_inj p2 p2' z)), if_neg (fun z => by rw [z] at c; omega)]
      · rw [if_neg c] at p2 ⊢
        by_cases c' : j < s'.length
        · have q := nm_q h'.2.1 c'
          rw [if_pos c'] at p2' ⊢
          rw [if_neg (fun z => q (sbI_inj p2 p2' z).symm), if_neg (fun z => by rw [z] at c; omega)]
        · rw [if_neg c'] at p2' ⊢
          rw [if_pos rfl, if_pos (show sbI 34 = 34 from (sb_e (c := 34) (by omega) (by decide)).mpr rfl), if_pos (ls_eq (by omega) (fun i hi => ha i (by omega)))]
  unfold m_X6_isSameName
  rw [if_neg (nI_pos (by omega)), if_pos (nI_pos' (by omega))]
  have := go sr_fuel 0 (by omega) (by omega) (by unfold sr_fuel; omega) (fun i hi => absurd hi (Nat.not_lt_zero _))
  rw [nI_0] at this
  exact this
end SSN
theorem cls6 : ∀ x, x ≤ 11 → ∀ y, y ≤ 11 → ¬ x = y → (if nI x = 2 then (if nI y = 3 then (some 1 : Option Int32) else (if nI x = 4 then (if nI y = 5 then (some 1) else (if nI x = 5 then (if nI y = 4 then (some 1) else (some 0)) else (some 0))) else (if nI x = 5 then (if nI y = 4 then (some 1) else (some 0)) else (some 0)))) else (if nI x = 4 then (if nI y = 5 then (some 1) else (if nI x = 5 then (if nI y = 4 then (some 1) else (some 0)) else (some 0))) else (if nI x = 5 then (if nI y = 4 then (some 1) else (some 0)) else (some 0)))) = some (if sixT x y = true then 1 else 0) := by decide +kernel
theorem six_r : ∀ x, x ≤ 5 → sixT x x = true := by decide
theorem b01_if (b : Prop) [Decidable b] : (if (if b then (1 : Int32) else 0) = 0 ∨ (if b then (1 : Int32) else 0) = 1 then some (if b then (1 : Int32) else 0) else none) = some (if b then (1 : Int32) else 0) := by
  by_cases h : b
  · rw [if_pos h]; rfl
  · rw [if_neg h]; rfl
section CMM
variable {Pl Ki Me Fi Ne Na Fn Ac Cf Cs Pl' Ki' Me' Fi' Ne' Na' Fn' Ac' Cf' Cs' : Nat → Int32} {lc sc cc lc' sc' cc' : Int32} {k sh kc : Nat} {pl : List Nat} {D : List Nat → Option Nat} {fi : List (Nat × Nat × Option Nat)} {G : Nat → Nod} {k' sh' kc' : Nat} {pl' : List Nat} {D' : List Nat → Option Nat} {fi' : List (Nat × Nat × Option Nat)} {G' : Nat → Nod}
theorem cmt_eq (hs : SBI Pl pl) (hs' : SBI Pl' pl') (hC : CI Pl Ki Me Fi Ne Na Fn Ac lc sc Cf Cs cc (k, sh, kc, pl, D, fi, G)) (hC' : CI Pl' Ki' Me' Fi' Ne' Na' Fn' Ac' lc' sc' Cf' Cs' cc' (k', sh', kc', pl', D', fi', G')) (hD : ∃ nm : Nat → List Nat, ∀ w d, D w = some d → nm d = w) (hD' : ∃ nm : Nat → List Nat, ∀ w d, D' w = some d → nm d = w) :
    ∀ (n fuel d i j : Nat), n ≤ fuel → d + n ≤ 17 → CHF G D k n i → CHF G' D' k' n j → m_X5_isMatch_8 Pl Ki Me Fi Na Ac lc Pl' Ki' Me' Fi' Na' Ac' lc' fuel (nI i) (nI j) (nI d) = some (if mtS G G' D D' n i j = true then 1 else 0) := by
  obtain ⟨i1, i2, i3, i4, i5, i6, i7, -⟩ := hC
  obtain ⟨j1, j2, j3, j4, j5, j6, j7, -⟩ := hC'
  obtain ⟨nm, hnm⟩ := hD
  obtain ⟨nm', hnm'⟩ := hD'
  intro n
  induction n with
  | zero => intro fuel d i j _ _ h; exact h.elim
  | succ n ih =>
    intro fuel d i j hf hd h h'
    obtain ⟨fuel, rfl⟩ : ∃ f, fuel = f + 1 := ⟨fuel - 1, by omega⟩
    obtain ⟨h1, h2, h3, h4, h5, h6⟩ := h
    obtain ⟨g1, g2, g3, g4, g5, g6⟩ := h'
    obtain ⟨a1, -, -, -⟩ := i7 i h1
    obtain ⟨a1', -, -, -⟩ := j7 j g1
    obtain ⟨-, -, -, a4⟩ := i7 _ h2
    obtain ⟨-, -, -, a4'⟩ := j7 _ g2
    obtain ⟨k1, k2, k3, -⟩ := a4 h3
    obtain ⟨k1', k2', k3', -⟩ := a4' g3
    have hK := k1 h4
    have hK' := k1' g4
    have kd := knd_eq (Ki := Ki) (Me := Me) (show i < 128 by omega) (show n_me (G i) < 128 by omega) a1
    have kd' := knd_eq (Ki := Ki') (Me := Me') (show j < 128 by omega) (show n_me (G' j) < 128 by omega) a1'
    rw [hK] at kd
    rw [hK'] at kd'
    obtain ⟨x, hx⟩ : ∃ x, n_kd (G (n_me (G i))) = x := ⟨_, rfl⟩
    obtain ⟨y, hy⟩ : ∃ y, n_kd (G' (n_me (G' j))) = y := ⟨_, rfl⟩
    rw [hx] at kd h4 h5 h6 k2 k3
    rw [hy] at kd' g4 g5 g6 k2' k3'
    have e11 : (11 : Int32) = nI 11 := rfl
    have e6 : (6 : Int32) = nI 6 := rfl
    have e7 : (7 : Int32) = nI 7 := rfl
    simp only [m_X5_isMatch_8, kd, kd', Option.bind_some, nI_1]
    rw [if_neg (show ¬ (16 : Int32) < nI d from nI_nlt (a := 16) (b := d) (by omega) (by omega))]
    by_cases cx : x = 11
    · have em : mtS G G' D D' (n + 1) i j = true := by
        unfold mtS
        rw [hx, if_pos (Or.inl cx)]
      rw [em, if_pos (show nI x = 11 by rw [cx]; rfl), if_pos (show true = true from rfl)]
    rw [if_neg (show ¬ nI x = 11 from fun z => cx ((nI_eq (b := 11) (by omega) (by decide)).mp z))]
    by_cases cy : y = 11
    · have em : mtS G G' D D' (n + 1) i j = true := by
        unfold mtS
        rw [hy, if_pos (Or.inr cy)]
      rw [em, if_pos (show nI y = 11 by rw [cy]; rfl), if_pos (show true = true from rfl)]
    rw [if_neg (show ¬ nI y = 11 from fun z => cy ((nI_eq (b := 11) (by omega) (by decide)).mp z))]
    by_cases cxy : x = y
    case neg =>
      have em : mtS G G' D D' (n + 1) i j = sixT x y := by
        unfold mtS
        rw [hx, hy, if_neg (by omega), if_pos (Or.inl cxy)]
      have c0 : ¬ nI x = nI y := fun z => cxy ((nI_eq (by omega) (by omega)).mp z)
      rw [if_neg c0, em]
      simp only [m_X5_isMatch_76, m_X5_isSame, m_X5_isSame_36, kd, kd', Option.bind_some]
      rw [if_neg c0, cls6 x h4 y g4 cxy, Option.bind_some]
      exact b01_if _
    rw [if_pos (show nI x = nI y by rw [cxy])]
    by_cases c5 : x ≤ 5
    · have em : mtS G G' D D' (n + 1) i j = true := by
        unfold mtS
        rw [hx, hy, if_neg (by omega), if_pos (Or.inr c5), ← cxy]
        exact six_r x c5
      rw [em, if_pos (show true = true from rfl), if_neg (show ¬ nI x = 6 from fun z => by have := (nI_eq (b := 6) (by omega) (by decide)).mp z; omega), if_neg (show ¬ nI x = 7 from fun z => by have := (nI_eq (b := 7) (by omega) (by decide)).mp z; omega)]
      simp only [m_X5_isMatch_76, m_X5_isSame, kd, kd', Option.bind_some]
      rw [if_pos (show nI x = nI y by rw [cxy]), nam_k (by omega), if_neg (show ¬ (8 ≤ x ∧ x ≤ 10) by omega)]
      rfl
    by_cases c7 : x ≤ 7
    · obtain ⟨c, r, hc, hcc⟩ := h6 (by omega)
      obtain ⟨c', r', hc', hcc'⟩ := g6 (by omega)
      have em : mtS G G' D D' (n + 1) i j = mtS G G' D D' n c c' := by
        conv => lhs; unfold mtS
        rw [hx, hy, if_neg (by omega), if_neg (by omega), if_pos c7, hc, hc']
        rfl
      have hc2 : ICH Ne (Fi (n_me (G i))) (n_ch (G (n_me (G i)))).length (fun t => (n_ch (G (n_me (G i)))).getD t 0) k := (k2 (by omega) (by omega)).1
      have hc2' : ICH Ne' (Fi' (n_me (G' j))) (n_ch (G' (n_me (G' j)))).length (fun t => (n_ch (G' (n_me (G' j)))).getD t 0) k' := (k2' (by omega) (by omega)).1
      have f1 : Fi (n_me (G i)) = nI c := by
        have z := hc2.2.2
        rw [hc, if_neg (by simp)] at z
        exact z
      have f1' : Fi' (n_me (G' j)) = nI c' := by
        have z := hc2'.2.2
        rw [hc', if_neg (by simp)] at z
        exact z
      have q1 := fst_e (Fi := Fi) (show i < 128 by omega) (show n_me (G i) < 128 by omega) a1
      have q1' := fst_e (Fi := Fi') (show j < 128 by omega) (show n_me (G' j) < 128 by omega) a1'
      rw [f1] at q1
      rw [f1'] at q1'
      have ih2 := ih fuel (d + 1) c c' (by omega) (by omega) hcc hcc'
      rw [em]
      by_cases c6 : x = 6
      · rw [if_pos (show nI x = 6 by rw [c6]; rfl)]
        simp only [m_X5_isMatch_84, q1, q1', Option.bind_some, nI_1]
        exact ih2
      · rw [if_neg (show ¬ nI x = 6 from fun z => c6 ((nI_eq (b := 6) (by omega) (by decide)).mp z)), if_pos (show nI x = 7 by rw [show x = 7 by omega]; rfl)]
        simp only [m_X5_isMatch_84, q1, q1', Option.bind_some, nI_1]
        exact ih2
    · obtain ⟨w, hw⟩ := h5 (by omega) (by omega)
      obtain ⟨w', hw'⟩ := g5 (by omega) (by omega)
      obtain ⟨-, a, ha, hp⟩ := i6.2 w _ hw
      obtain ⟨-, a', ha', hp'⟩ := j6.2 w' _ hw'
      have q1 := nme_e (Na := Na) (show i < 128 by omega) (show n_me (G i) < 128 by omega) a1
      have q1' := nme_e (Na := Na') (show j < 128 by omega) (show n_me (G' j) < 128 by omega) a1'
      rw [ha] at q1
      rw [ha'] at q1'
      have hsn := ssn_eq hs hs' i4 j4 hp hp'
      have hdn := dnm_eq hnm hw hw' hnm'
      have em : mtS G G' D D' (n + 1) i j = dec ((∃ w, D w = some (n_me (G i)) ∧ D' w = some (n_me (G' j))) ∧ (x = 8 → n_wd (G (n_me (G i))) = n_wd (G' (n_me (G' j))))) := by
        conv => lhs; unfold mtS
        rw [hx, hy, if_neg (by omega), if_neg (by omega), if_neg (by omega)]
      rw [em, if_neg (show ¬ nI x = 6 from fun z => by have := (nI_eq (b := 6) (by omega) (by decide)).mp z; omega), if_neg (show ¬ nI x = 7 from fun z => by have := (nI_eq (b := 7) (by omega) (by decide)).mp z; omega)]
      simp only [m_X5_isMatch_76, m_X5_isSame, kd, kd', Option.bind_some]
      rw [if_pos (show nI x = nI y by rw [cxy]), nam_k (by omega), if_pos (show 8 ≤ x ∧ x ≤ 10 by omega), Option.bind_some, if_neg (show ¬ (1 : Int32) = 0 by decide)]
      simp only [m_X5_isSame_100, q1, q1', Option.bind_some]
      rw [i3, j3, hsn]
      by_cases c8 : x = 8
      · obtain ⟨m1, m2⟩ := k3 (by omega)
        obtain ⟨m1', m2'⟩ := k3' (by omega)
        have q2 := amt_e (Ac := Ac) (show i < 128 by omega) (show n_me (G i) < 128 by omega) a1
        have q2' := amt_e (Ac := Ac') (show j < 128 by omega) (show n_me (G' j) < 128 by omega) a1'
        rw [m1] at q2
        rw [m1'] at q2'
        rw [if_pos (show nI x = 8 by rw [c8]; rfl)]
        simp only [q2, q2', Option.bind_some]
        by_cases cw : n_wd (G (n_me (G i))) = n_wd (G' (n_me (G' j)))
        · rw [if_pos (congrArg nI cw)]
          by_cases ew : w = w'
          · rw [if_pos ew, dec_t ⟨hdn.mpr ew, fun _ => cw⟩]
            rfl
          · rw [if_neg ew, dec_f (fun z => ew (hdn.mp z.1))]
            rfl
        · rw [if_neg (fun z => cw ((nI_eq (by omega) (by omega)).mp z)), dec_f (fun z => cw (z.2 c8))]
          rfl
      · rw [if_neg (show ¬ nI x = 8 from fun z => c8 ((nI_eq (b := 8) (by omega) (by decide)).mp z))]
        by_cases ew : w = w'
        · rw [if_pos ew, dec_t ⟨hdn.mpr ew, fun q => absurd q c8⟩]
          rfl
        · rw [if_neg ew, dec_f (fun z => ew (hdn.mp z.1))]
          rfl
end CMM
