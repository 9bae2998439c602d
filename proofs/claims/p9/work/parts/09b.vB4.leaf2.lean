-- leaves: words, names, numbers
def kwf (s : List Nat) : Nat → Nat → Int32
  | 0, _ => -1
  | n + 1, k => if s = litN (3 + k) then nI k else kwf s n (k + 1)
/-- the kind whose word it is, or -1 -/
def kw (s : List Nat) : Int32 := kwf s 11 0
theorem kw_say (s : List Nat) : kw s = if s = litN 3 then 0 else if s = litN 4 then 1 else if s = litN 5 then 2 else if s = litN 6 then 3 else if s = litN 7 then 4 else if s = litN 8 then 5 else if s = litN 9 then 6 else if s = litN 10 then 7 else if s = litN 11 then 8 else if s = litN 12 then 9 else if s = litN 13 then 10 else -1 := rfl
theorem kw_lit : kw (litN 3) = 0 ∧ kw (litN 4) = 1 ∧ kw (litN 5) = 2 ∧ kw (litN 6) = 3 ∧ kw (litN 7) = 4 ∧ kw (litN 8) = 5 ∧ kw (litN 9) = 6 ∧ kw (litN 10) = 7 ∧ kw (litN 11) = 8 ∧ kw (litN 12) = 9 ∧ kw (litN 13) = 10 := by decide +kernel
theorem kw_any (s : List Nat) : kw s = -1 ∨ ∃ k, k ≤ 10 ∧ kw s = nI k ∧ s = litN (3 + k) := by
  have go : ∀ (n k : Nat), k + n = 11 → kwf s n k = -1 ∨ ∃ j, j ≤ 10 ∧ kwf s n k = nI j ∧ s = litN (3 + j) := by
    intro n
    induction n with
    | zero => intro k _; exact Or.inl rfl
    | succ n ih =>
      intro k hk
      simp only [kwf]
      by_cases h : s = litN (3 + k)
      · rw [if_pos h]
        exact Or.inr ⟨k, by omega, rfl, h⟩
      · rw [if_neg h]
        exact ih (k + 1) (by omega)
  exact go 11 0 rfl
theorem wrd_k : ∀ k, k ≤ 10 → m_X3_word (nI k) = some (3 + k) := by decide +kernel
def chr (c : Nat) : Prop := (97 ≤ c ∧ c ≤ 122) ∨ (65 ≤ c ∧ c ≤ 90) ∨ (48 ≤ c ∧ c ≤ 57) ∨ c = 95
def isNm (s : List Nat) : Prop := 1 ≤ s.length ∧ s.length ≤ 32 ∧ ¬ (48 ≤ s.getD 0 0 ∧ s.getD 0 0 ≤ 57) ∧ ∀ j, j < s.length → chr (s.getD j 0)
section LEAF2
variable {T : Nat → Int32} {L : Nat} {Sd In Nx Am K F S I X Lt : Nat → Int32} {N : Nat → Int64} {l : Nat}
theorem ksaid_eq (hL : L ≤ 4096) {p : Nat} {s : List Nat} (hc : cb T L p = 34) (hs : SAID Sd Am p s) : m_X3_said T Sd Am (nI L) (nI p) = some (kw s) := by
  have go : ∀ (n k fuel : Nat), k + n = 11 → n < fuel → m_X3_said_2 T Sd Am (nI L) fuel (nI p) (nI k) = some (kwf s n k) := by
    intro n
    induction n with
    | zero =>
      intro k fuel hk hf
      obtain ⟨f, rfl⟩ : ∃ f, fuel = f + 1 := ⟨fuel - 1, by omega⟩
      simp only [m_X3_said_2]
      rw [if_pos (show (10 : Int32) < nI k from nI_lt (a := 10) (by omega) (by omega))]
      rfl
    | succ n ih =>
      intro k fuel hk hf
      obtain ⟨f, rfl⟩ : ∃ f, fuel = f + 1 := ⟨fuel - 1, by omega⟩
      simp only [m_X3_said_2, nI_1]
      rw [if_neg (show ¬ (10 : Int32) < nI k from nI_nlt (a := 10) (by omega) (by omega)), wrd_k k (by omega)]
      simp only [Option.bind_some]
      rw [says_eq hL hc hs (by omega)]
      simp only [Option.bind_some, kwf]
      by_cases h : s = litN (3 + k)
      · rw [if_pos h, if_pos h, if_neg (by decide)]
      · rw [if_neg h, if_neg h, if_pos rfl]
        exact ih (k + 1) f (by omega) (by omega)
  have := go 11 0 sr_fuel rfl (by unfold sr_fuel; omega)
  rw [nI_0] at this
  exact this
/-- one of the six, or -1 -/
def kw6 (s : List Nat) : Int32 := if s = litN 3 then 0 else if s = litN 4 then 1 else if s = litN 5 then 2 else if s = litN 6 then 3 else if s = litN 7 then 4 else if s = litN 8 then 5 else -1
theorem lit_six : litN 42 = litN 3 ∧ litN 43 = litN 4 ∧ litN 44 = litN 5 ∧ litN 45 = litN 6 ∧ litN 46 = litN 7 ∧ litN 47 = litN 8 := by decide +kernel
theorem word_eq (hl : l ≤ 4200) {n : Nat} {s : List Nat} (hn : n < 4200) (hk : K n = 2) (hs : RSt N S Lt l n s) (hb : ∀ v, v ∈ s → v ≤ 255) : m_X9_word K N S Lt (nI n) = some (kw6 s) := by
  obtain ⟨e1, e2, e3, e4, e5, e6⟩ := lit_six
  unfold m_X9_word kw6
  simp only [isr_eq hl hn hk hs hb (show 42 < 75 by decide), isr_eq hl hn hk hs hb (show 43 < 75 by decide), isr_eq hl hn hk hs hb (show 44 < 75 by decide), isr_eq hl hn hk hs hb (show 45 < 75 by decide), isr_eq hl hn hk hs hb (show 46 < 75 by decide), isr_eq hl hn hk hs hb (show 47 < 75 by decide), Option.bind_some, e1, e2, e3, e4, e5, e6]
  by_cases c1 : s = litN 3
  · simp only [if_pos c1, if_neg (show ¬ (1 : Int32) = 0 by decide)]
  simp only [if_neg c1, if_true]
  by_cases c2 : s = litN 4
  · simp only [if_pos c2, if_neg (show ¬ (1 : Int32) = 0 by decide)]
  simp only [if_neg c2, if_true]
  by_cases c3 : s = litN 5
  · simp only [if_pos c3, if_neg (show ¬ (1 : Int32) = 0 by decide)]
  simp only [if_neg c3, if_true]
  by_cases c4 : s = litN 6
  · simp only [if_pos c4, if_neg (show ¬ (1 : Int32) = 0 by decide)]
  simp only [if_neg c4, if_true]
  by_cases c5 : s = litN 7
  · simp only [if_pos c5, if_neg (show ¬ (1 : Int32) = 0 by decide)]
  simp only [if_neg c5, if_true]
  by_cases c6 : s = litN 8
  · simp only [if_pos c6, if_neg (show ¬ (1 : Int32) = 0 by decide)]
  simp only [if_neg c6, if_true]
theorem kw6_of (s : List Nat) : (∃ k, k ≤ 5 ∧ kw s = nI k ∧ kw6 s = nI k) ∨ (kw6 s = -1 ∧ (kw s = -1 ∨ ∃ k, 6 ≤ k ∧ k ≤ 10 ∧ kw s = nI k ∧ s = litN (3 + k))) := by
  rw [kw_say]
  unfold kw6
  by_cases c1 : s = litN 3
  · simp only [if_pos c1]; exact Or.inl ⟨0, by decide, rfl, rfl⟩
  simp only [if_neg c1]
  by_cases c2 : s = litN 4
  · simp only [if_pos c2]; exact Or.inl ⟨1, by decide, rfl, rfl⟩
  simp only [if_neg c2]
  by_cases c3 : s = litN 5
  · simp only [if_pos c3]; exact Or.inl ⟨2, by decide, rfl, rfl⟩
  simp only [if_neg c3]
  by_cases c4 : s = litN 6
  · simp only [if_pos c4]; exact Or.inl ⟨3, by decide, rfl, rfl⟩
  simp only [if_neg c4]
  by_cases c5 : s = litN 7
  · simp only [if_pos c5]; exact Or.inl ⟨4, by decide, rfl, rfl⟩
  simp only [if_neg c5]
  by_cases c6 : s = litN 8
  · simp only [if_pos c6]; exact Or.inl ⟨5, by decide, rfl, rfl⟩
  simp only [if_neg c6]
  refine Or.inr ⟨trivial, ?_⟩
  by_cases d1 : s = litN 9
  · simp only [if_pos d1]; exact Or.inr ⟨6, by decide, by decide, rfl, d1⟩
  simp only [if_neg d1]
  by_cases d2 : s = litN 10
  · simp only [if_pos d2]; exact Or.inr ⟨7, by decide, by decide, rfl, d2⟩
  simp only [if_neg d2]
  by_cases d3 : s = litN 11
  · simp only [if_pos d3]; exact Or.inr ⟨8, by decide, by decide, rfl, d3⟩
  simp only [if_neg d3]
  by_cases d4 : s = litN 12
  · simp only [if_pos d4]; exact Or.inr ⟨9, by decide, by decide, rfl, d4⟩
  simp only [if_neg d4]
  by_cases d5 : s = litN 13
  · simp only [if_pos d5]; exact Or.inr ⟨10, by decide, by decide, rfl, d5⟩
  simp only [if_neg d5]
  exact Or.inl trivial
theorem let_c {c : Nat} (h : c < 256) : m_X8_isLetter (nI c) = some (if (97 ≤ c ∧ c ≤ 122) ∨ (65 ≤ c ∧ c ≤ 90) then 1 else 0) := by
  have : ∀ c, c < 256 → m_X8_isLetter (nI c) = some (if (97 ≤ c ∧ c ≤ 122) ∨ (65 ≤ c ∧ c ≤ 90) then 1 else 0) := by decide +kernel
  exact this c h
theorem dig_c {c : Nat} (h : c < 256) : m_X8_isDigit (nI c) = some (if 48 ≤ c ∧ c ≤ 57 then 1 else 0) := by
  have : ∀ c, c < 256 → m_X8_isDigit (nI c) = some (if 48 ≤ c ∧ c ≤ 57 then 1 else 0) := by decide +kernel
  exact this c h
theorem snm_eq (hL : L ≤ 4096) {p : Nat} {s : List Nat} (hc : cb T L p = 34) (hs : SAID Sd Am p s) : (isNm s ∧ m_X7_saysName T Sd Am (nI L) (nI p) = some 1) ∨ (¬ isNm s ∧ m_X7_saysName T Sd Am (nI L) (nI p) = some 0) := by
  obtain ⟨h1, h2, h3, h4⟩ := hs
  have hlt := cb_lt (B := T) (L := L) (a := p) (by omega)
  unfold m_X7_saysName
  have e1 : m_X7_isString T (nI L) (nI p) = some 1 := by
    unfold m_X7_isString
    rw [byt_eq hL (by omega)]
    simp only [Option.bind_some, ub34, if_pos hc]
  simp only [m_X7_amount, ent_eq (n := 4096) (by decide) h1, h3, Option.bind_some, e1, if_neg (show ¬ (1 : Int32) = 0 by decide)]
  by_cases a1 : 1 ≤ s.length
  case neg =>
    rw [if_pos (show nI s.length < 1 from nI_lt (b := 1) (by omega) (by decide))]
    exact Or.inr ⟨fun z => a1 z.1, rfl⟩
  rw [if_neg (show ¬ nI s.length < 1 from nI_nlt (b := 1) a1 (by omega))]
  by_cases a2 : s.length ≤ 32
  case neg =>
    rw [if_pos (show (32 : Int32) < nI s.length from nI_lt (a := 32) (by omega) (by omega))]
    exact Or.inr ⟨fun z => a2 z.2.1, rfl⟩
  rw [if_neg (show ¬ (32 : Int32) < nI s.length from nI_nlt (a := 32) a2 (by omega)), sai_eq (by omega)]
  have hb0 := bv_lt (Sd p)
  have h40 := h4 0 (by omega)
  rw [Nat.add_zero] at h40
  rw [h40] at hb0
  simp only [Option.bind_some, h40, dig_c hb0]
  by_cases a3 : 48 ≤ s.getD 0 0 ∧ s.getD 0 0 ≤ 57
  · simp only [if_pos a3, if_neg (show ¬ (1 : Int32) = 0 by decide)]
    exact Or.inr ⟨fun z => z.2.2.1 a3, trivial⟩
  simp only [if_neg a3, if_true]
  have go : ∀ (fuel j : Nat), j ≤ s.length → s.length - j < fuel → (∀ i, i < j → chr (s.getD i 0)) → (isNm s ∧ m_X7_saysName_40 T Sd Am (nI L) fuel (nI p) (nI s.length) (nI j) = some 1) ∨ (¬ isNm s ∧ m_X7_saysName_40 T Sd Am (nI L) fuel (nI p) (nI s.length) (nI j) = some 0) := by
    intro fuel
    induction fuel with
    | zero => intro j _ hf; exact absurd hf (Nat.not_lt_zero _)
    | succ fuel ih =>
      intro j hj hf ha
      simp only [m_X7_saysName_40, nI_add, nI_1]
      by_cases c : s.length ≤ j
      · rw [if_pos (nI_le c (by omega))]
        exact Or.inl ⟨⟨a1, a2, a3, fun i hi => ha i (by omega)⟩, rfl⟩
      · have hb := bv_lt (Sd (p + j))
        have hj2 := h4 j (by omega)
        rw [if_neg (nI_ge (show j < s.length by omega) (by omega)), sai_eq (by omega)]
        rw [hj2] at hb
        simp only [Option.bind_some, hj2, let_c hb, dig_c hb]
        have nxt : chr (s.getD j 0) → (isNm s ∧ m_X7_saysName_40 T Sd Am (nI L) fuel (nI p) (nI s.length) (nI (j + 1)) = some 1) ∨ (¬ isNm s ∧ m_X7_saysName_40 T Sd Am (nI L) fuel (nI p) (nI s.length) (nI (j + 1)) = some 0) := fun hch => ih (j + 1) (by omega) (by omega) (fun i hi => by
          by_cases e : i = j
          · rw [e]; exact hch
          · exact ha i (by omega))
        by_cases l1 : (97 ≤ s.getD j 0 ∧ s.getD j 0 ≤ 122) ∨ (65 ≤ s.getD j 0 ∧ s.getD j 0 ≤ 90)
        · simp only [if_pos l1, if_neg (show ¬ (1 : Int32) = 0 by decide)]
          exact nxt (by unfold chr; omega)
        · simp only [if_neg l1, if_true]
          by_cases l2 : 48 ≤ s.getD j 0 ∧ s.getD j 0 ≤ 57
          · simp only [if_pos l2, if_neg (show ¬ (1 : Int32) = 0 by decide)]
            exact nxt (by unfold chr; omega)
          · simp only [if_neg l2, if_true]
            by_cases l3 : s.getD j 0 = 95
            · simp only [l3, if_pos (show nI 95 = 95 from rfl)]
              rw [l3] at nxt
              exact nxt (by unfold chr; omega)
            · simp only [if_neg (show ¬ nI (s.getD j 0) = 95 from fun z => l3 ((nI_eq (b := 95) (by omega) (by decide)).mp z))]
              refine Or.inr ⟨fun z => ?_, trivial⟩
              have := z.2.2.2 j (by omega)
              unfold chr at this
              omega
  have := go sr_fuel 0 (by omega) (by unfold sr_fuel; omega) (fun i hi => absurd hi (Nat.not_lt_zero _))
  rw [nI_0] at this
  exact this
theorem inm_eq (hl : l ≤ 4200) {n : Nat} {s : List Nat} (hn : n < 4200) (hk : K n = 2) (hs : RSt N S Lt l n s) (hb : ∀ v, v ∈ s → v ≤ 255) : (isNm s ∧ m_X9_isName K N S Lt (nI n) = some 1) ∨ (¬ isNm s ∧ m_X9_isName K N S Lt (nI n) = some 0) := by
  obtain ⟨h1, st, h2, h3, h4⟩ := hs
  obtain ⟨f1, hf1⟩ : ∃ f, sr_fuel = f + 1 := ⟨sr_fuel - 1, by unfold sr_fuel; omega⟩
  have hz : m_X9_isName_38 K N S Lt sr_fuel (nI n) 0 0 = some 0 := by rw [hf1]; exact nm0 hn
  simp only [m_X9_isName, bd_go hn (by decide), bd_gc hn (by decide), nI_clamp (show n < 2 ^ 31 by omega), if_pos hk, h1, hz]
  by_cases a1 : 1 ≤ s.length
  case neg =>
    simp only [if_pos (show nI s.length ≤ 0 from nI_le (b := 0) (by omega) (by decide))]
    exact Or.inr ⟨fun z => a1 z.1, trivial⟩
  simp only [if_neg (show ¬ nI s.length ≤ 0 from nI_ge (a := 0) (by omega) (by omega))]
  by_cases a2 : s.length ≤ 32
  case neg =>
    simp only [if_pos (show (33 : Int32) ≤ nI s.length from nI_le (a := 33) (by omega) (by omega))]
    exact Or.inr ⟨fun z => a2 z.2.1, trivial⟩
  simp only [if_neg (show ¬ (33 : Int32) ≤ nI s.length from nI_ge (b := 33) (by omega) (by omega))]
  have go : ∀ (fuel j : Nat), j ≤ s.length → s.length - j < fuel → (∀ i, i < j → chr (s.getD i 0)) → (0 < j → ¬ (48 ≤ s.getD 0 0 ∧ s.getD 0 0 ≤ 57)) → (isNm s ∧ m_X9_isName_38 K N S Lt fuel (nI n) 1 (nI j) = some 1) ∨ (¬ isNm s ∧ m_X9_isName_38 K N S Lt fuel (nI n) 1 (nI j) = some 0) := by
    intro fuel
    induction fuel with
    | zero => intro j _ hf; exact absurd hf (Nat.not_lt_zero _)
    | succ fuel ih =>
      intro j hj hf ha h0
      simp only [m_X9_isName_38, bd_go hn (by decide), bd_gc hn (by decide), nI_clamp (show n < 2 ^ 31 by omega), h1, h2, lN_i, nI_add]
      by_cases c : s.length ≤ j
      · simp only [if_pos (nI_le c (show j < 2 ^ 31 by omega)), if_pos (Or.inr trivial)]
        exact Or.inl ⟨⟨a1, a2, h0 (by omega), fun i hi => ha i (by omega)⟩, trivial⟩
      · have hbj : s.getD j 0 ≤ 255 := by rw [ls_get (show j < s.length by omega)]; exact hb _ (List.getElem_mem _)
        obtain ⟨f2, rfl⟩ : ∃ f2, fuel = f2 + 1 := ⟨fuel - 1, by omega⟩
        have bad : ¬ isNm s → (isNm s ∧ (m_X9_isName_38 K N S Lt (f2 + 1)) (nI n) 0 (nI (j + 1)) = some 1) ∨ (¬ isNm s ∧ (m_X9_isName_38 K N S Lt (f2 + 1)) (nI n) 0 (nI (j + 1)) = some 0) := fun hx => Or.inr ⟨hx, nm0 hn⟩
        have nxt : chr (s.getD j 0) → (j = 0 → ¬ (48 ≤ s.getD 0 0 ∧ s.getD 0 0 ≤ 57)) → (isNm s ∧ (m_X9_isName_38 K N S Lt (f2 + 1)) (nI n) 1 (nI (j + 1)) = some 1) ∨ (¬ isNm s ∧ (m_X9_isName_38 K N S Lt (f2 + 1)) (nI n) 1 (nI (j + 1)) = some 0) := fun hch hd => ih (j + 1) (by omega) (by omega) (fun i hi => by
          by_cases e : i = j
          · rw [e]; exact hch
          · exact ha i (by omega)) (fun _ => by
          by_cases e : j = 0
          · exact hd e
          · exact h0 (by omega))
        have q48 := sb_l (n := s.getD j 0) (c := 48) (by omega) (by decide)
        have q57 := sb_g (n := s.getD j 0) (c := 57) (by omega) (by decide)
        have q97 := sb_l (n := s.getD j 0) (c := 97) (by omega) (by decide)
        have q65 := sb_l (n := s.getD j 0) (c := 65) (by omega) (by decide)
        have q122 : (sbI (s.getD j 0) ≤ 122) ↔ ¬ (s.getD j 0 < 128 ∧ 122 < s.getD j 0) := by
          rw [← sb_g (n := s.getD j 0) (c := 122) (by omega) (by decide), Int32.not_lt]
          exact Iff.rfl
        have q90 : (sbI (s.getD j 0) ≤ 90) ↔ ¬ (s.getD j 0 < 128 ∧ 90 < s.getD j 0) := by
          rw [← sb_g (n := s.getD j 0) (c := 90) (by omega) (by decide), Int32.not_lt]
          exact Iff.rfl
        have q95 := sb_e (n := s.getD j 0) (c := 95) (by omega) (by decide)
        simp only [if_neg (nI_ge (show j < s.length by omega) (by omega)), if_neg (show ¬ (1 : Int32) = 0 by decide), bd_go (show st + j < 4200 by omega) (by decide), bd_gc (show st + j < 4200 by omega) (by decide), nI_clamp (show st + j < 2 ^ 31 by omega), h4 j (by omega), m_X9_isName_86, m_X9_isName_87, m_X9_isName_103, m_X9_isName_117, m_X9_isName_133, nI_1, if_true]
        generalize hcj : s.getD j 0 = cj at *
        have h0j : j = 0 → s.getD 0 0 = cj := fun e => by rw [← hcj, e]
        have e48 : (sbI cj < 48) = (cj = 256 ∨ 128 ≤ cj ∨ cj < 48) := propext q48
        have e57 : (57 < sbI cj) = (cj < 128 ∧ 57 < cj) := propext q57
        have e97 : (sbI cj < 97) = (cj = 256 ∨ 128 ≤ cj ∨ cj < 97) := propext q97
        have e65 : (sbI cj < 65) = (cj = 256 ∨ 128 ≤ cj ∨ cj < 65) := propext q65
        have e122 : (sbI cj ≤ 122) = ¬ (cj < 128 ∧ 122 < cj) := propext q122
        have e90 : (sbI cj ≤ 90) = ¬ (cj < 128 ∧ 90 < cj) := propext q90
        have e95 : (sbI cj = 95) = (cj = 95) := propext q95
        simp only [e48, e57, e97, e65, e122, e90, e95]
        have nob : ¬ chr cj → ¬ isNm s := fun hx z => hx (by have := z.2.2.2 j (by omega); rw [hcj] at this; exact this)
        by_cases r1 : 97 ≤ cj ∧ cj ≤ 122
        · simp only [if_neg (show ¬ (cj = 256 ∨ 128 ≤ cj ∨ cj < 48) by omega), if_pos (show cj < 128 ∧ 57 < cj by omega), if_neg (show ¬ (cj = 256 ∨ 128 ≤ cj ∨ cj < 97) by omega), if_pos (show ¬ (cj < 128 ∧ 122 < cj) by omega)]
          exact nxt (by unfold chr; omega) (fun e => by rw [h0j e]; omega)
        by_cases r2 : 65 ≤ cj ∧ cj ≤ 90
        · simp only [if_neg (show ¬ (cj = 256 ∨ 128 ≤ cj ∨ cj < 48) by omega), if_pos (show cj < 128 ∧ 57 < cj by omega), if_pos (show cj = 256 ∨ 128 ≤ cj ∨ cj < 97 by omega), if_neg (show ¬ (cj = 256 ∨ 128 ≤ cj ∨ cj < 65) by omega), if_pos (show ¬ (cj < 128 ∧ 90 < cj) by omega)]
          exact nxt (by unfold chr; omega) (fun e => by rw [h0j e]; omega)
        by_cases r3 : cj = 95
        · simp only [if_neg (show ¬ (cj = 256 ∨ 128 ≤ cj ∨ cj < 48) by omega), if_pos (show cj < 128 ∧ 57 < cj by omega), if_pos (show cj = 256 ∨ 128 ≤ cj ∨ cj < 97 by omega), if_neg (show ¬ (cj = 256 ∨ 128 ≤ cj ∨ cj < 65) by omega), if_neg (show ¬ ¬ (cj < 128 ∧ 90 < cj) by omega), if_pos r3]
          exact nxt (by unfold chr; omega) (fun e => by rw [h0j e]; omega)
        by_cases r4 : 48 ≤ cj ∧ cj ≤ 57
        · simp only [if_neg (show ¬ (cj = 256 ∨ 128 ≤ cj ∨ cj < 48) by omega), if_neg (show ¬ (cj < 128 ∧ 57 < cj) by omega), if_pos (show cj = 256 ∨ 128 ≤ cj ∨ cj < 97 by omega), if_pos (show cj = 256 ∨ 128 ≤ cj ∨ cj < 65 by omega), if_neg r3, if_neg (show ¬ (1 : Int32) = 0 by decide)]
          by_cases r5 : j = 0
          · simp only [if_pos (show nI j ≤ 0 from nI_le (b := 0) (by omega) (by decide))]
            exact bad (fun z => z.2.2.1 (by rw [h0j r5]; exact r4))
          · simp only [if_neg (show ¬ nI j ≤ 0 from nI_ge (a := 0) (by omega) (by omega))]
            exact nxt (by unfold chr; omega) (fun e => absurd e r5)
        have hno : ¬ chr cj := by unfold chr; omega
        by_cases r6 : cj = 256 ∨ 128 ≤ cj ∨ cj < 48
        · simp only [if_pos r6, if_pos (show cj = 256 ∨ 128 ≤ cj ∨ cj < 97 by omega), if_pos (show cj = 256 ∨ 128 ≤ cj ∨ cj < 65 by omega), if_neg r3]
          exact bad (nob hno)
        · simp only [if_neg r6, if_pos (show cj < 128 ∧ 57 < cj by omega)]
          by_cases r7 : cj < 65
          · simp only [if_pos (show cj = 256 ∨ 128 ≤ cj ∨ cj < 97 by omega), if_pos (show cj = 256 ∨ 128 ≤ cj ∨ cj < 65 by omega), if_neg r3]
            exact bad (nob hno)
          · by_cases r8 : cj < 97
            · simp only [if_pos (show cj = 256 ∨ 128 ≤ cj ∨ cj < 97 by omega), if_neg (show ¬ (cj = 256 ∨ 128 ≤ cj ∨ cj < 65) by omega), if_neg (show ¬ ¬ (cj < 128 ∧ 90 < cj) by omega), if_neg r3]
              exact bad (nob hno)
            · simp only [if_neg (show ¬ (cj = 256 ∨ 128 ≤ cj ∨ cj < 97) by omega), if_neg (show ¬ ¬ (cj < 128 ∧ 122 < cj) by omega), if_neg (show ¬ (cj = 256 ∨ 128 ≤ cj ∨ cj < 65) by omega), if_neg (show ¬ ¬ (cj < 128 ∧ 90 < cj) by omega), if_neg r3]
              exact bad (nob hno)
  have := go sr_fuel 0 (by omega) (by unfold sr_fuel; omega) (fun i hi => absurd hi (Nat.not_lt_zero _)) (fun h => absurd h (Nat.lt_irrefl _))
  rw [nI_0] at this
  exact this
end LEAF2
