-- the reference's strings, as told
/-- as RES, with what the fault is -/
def REX {U V : Type} (x : Gs → Option (Except U (V × U))) (fp : U → Int32 × Int32) (E : Int32 × Int32 → Prop) (P : V → (Gs → U) → Prop) : Prop :=
  (∃ v u, P v u ∧ ∀ g, x g = some (.ok (v, u g))) ∨ (∃ c : Int32 × Int32, E c ∧ ∀ g, ∃ u, x g = some (.error u) ∧ fp u = c)
section REXs
variable {U V U' V' : Type} {fp : U → Int32 × Int32} {fp' : U' → Int32 × Int32} {E E' : Int32 × Int32 → Prop} {P Q : V → (Gs → U) → Prop} {P' : V' → (Gs → U') → Prop}
theorem REX.ok {v : V} {u : Gs → U} (h : P v u) : REX (fun g => some (.ok (v, u g))) fp E P := Or.inl ⟨v, u, h, fun _ => rfl⟩
theorem REX.er {u : Gs → U} {c : Int32 × Int32} (h : ∀ g, fp (u g) = c) (hc : E c) : REX (fun g => some (.error (u g))) fp E P := Or.inr ⟨c, hc, fun g => ⟨u g, rfl, h g⟩⟩
theorem REX.try {x : Gs → Option (Except U (V × U))} {k : Gs → V → U → Option (Except U' (V' × U'))} {e : Gs → U → U'} (h : REX x fp E' P) (hE : ∀ c, E' c → E c) (hk : ∀ v u, P v u → REX (fun g => k g v (u g)) fp' E P') (he : ∀ g u, fp' (e g u) = fp u) : REX (fun g => mr_try (x g) (k g) (e g)) fp' E P' := by
  rcases h with ⟨v, u, h1, h2⟩ | ⟨c, hc0, h⟩
  · rcases hk v u h1 with ⟨v', u', h3, h4⟩ | ⟨c, hc0, h3⟩
    · exact Or.inl ⟨v', u', h3, fun g => by
      show mr_try (x g) (k g) (e g) = _
      rw [h2 g]; exact h4 g⟩
    · refine Or.inr ⟨c, hc0, fun g => ?_⟩
      show ∃ u, mr_try (x g) (k g) (e g) = _ ∧ _
      rw [h2 g]; exact h3 g
  · refine Or.inr ⟨c, hE c hc0, fun g => ?_⟩
    obtain ⟨u, h1, h2⟩ := h g
    exact ⟨e g u, by
      show mr_try (x g) (k g) (e g) = _
      rw [h1]; rfl, by rw [he, h2]⟩
theorem REX.mono {x : Gs → Option (Except U (V × U))} (h : REX x fp E P) (hE : ∀ c, E c → E' c) (hk : ∀ v u, P v u → Q v u) : REX x fp E' Q := by
  rcases h with ⟨v, u, h1, h2⟩ | ⟨c, h1, h2⟩
  · exact Or.inl ⟨v, u, hk v u h1, h2⟩
  · exact Or.inr ⟨c, hE c h1, h2⟩
theorem REX.eq {x y : Gs → Option (Except U (V × U))} (h : REX x fp E P) (e : ∀ g, y g = x g) : REX y fp E P := by
  have : y = x := funext e
  rw [this]; exact h
theorem REX.ite {c : Prop} {i : Decidable c} {x y : Gs → Option (Except U (V × U))} (ht : c → REX x fp E P) (hf : ¬ c → REX y fp E P) : REX (fun g => @ite _ c i (x g) (y g)) fp E P := by
  by_cases h : c
  · simp only [if_pos h]; exact ht h
  · simp only [if_neg h]; exact hf h
end REXs
/-- told wrong at w -/
def EW {α : Type} (s : Nat ⊕ α) (c : Int32 × Int32) : Prop := ∃ w, s = .inl w ∧ c = (1, nI w)
theorem hexr_eq {B : Nat → Int32} {L a : Nat} : m_X9_hex (sbI (cb B L a)) = some (if hexv (cb B L a) = 16 then -1 else nI (hexv (cb B L a))) := by
  have h0 := cb_le B L a
  unfold m_X9_hex m_X9_hex_19 m_X9_hex_41
  simp only [sbl48, sbg57, sbl97, sbg102, sbl65, sbg70]
  generalize cb B L a = n at h0 ⊢
  unfold hexv sbI
  by_cases h1 : 48 ≤ n ∧ n ≤ 57
  · rw [if_neg (show ¬ (n = 256 ∨ 128 ≤ n ∨ n < 48) by omega), if_neg (show ¬ (n < 128 ∧ 57 < n) by omega), if_pos h1, if_neg (show ¬ n - 48 = 16 by omega), if_neg (show ¬ n = 256 by omega), if_pos (show n < 128 by omega), show (48 : Int32) = nI 48 from rfl, pk_sub h1.1]
  · by_cases h2 : 97 ≤ n ∧ n ≤ 102
    · have e : nI n - 97 + 10 = nI (n - 87) := by
        rw [show (97 : Int32) = nI 97 from rfl, pk_sub h2.1, show (10 : Int32) = nI 10 from rfl, nI_add]
        congr 1
        omega
      rw [if_neg h1, if_pos h2, if_neg (show ¬ n - 87 = 16 by omega)]
      rw [if_neg (show ¬ (n = 256 ∨ 128 ≤ n ∨ n < 48) by omega), if_pos (show n < 128 ∧ 57 < n by omega), if_neg (show ¬ (n = 256 ∨ 128 ≤ n ∨ n < 97) by omega), if_neg (show ¬ (n < 128 ∧ 102 < n) by omega), if_neg (show ¬ n = 256 by omega), if_pos (show n < 128 by omega), e]
    · by_cases h3 : 65 ≤ n ∧ n ≤ 70
      · have e : nI n - 65 + 10 = nI (n - 55) := by
          rw [show (65 : Int32) = nI 65 from rfl, pk_sub h3.1, show (10 : Int32) = nI 10 from rfl, nI_add]
          congr 1
          omega
        rw [if_neg h1, if_neg h2, if_pos h3, if_neg (show ¬ n - 55 = 16 by omega)]
        rw [if_neg (show ¬ (n = 256 ∨ 128 ≤ n ∨ n < 48) by omega), if_pos (show n < 128 ∧ 57 < n by omega), if_pos (show n = 256 ∨ 128 ≤ n ∨ n < 97 by omega), if_neg (show ¬ (n = 256 ∨ 128 ≤ n ∨ n < 65) by omega), if_neg (show ¬ (n < 128 ∧ 70 < n) by omega), if_neg (show ¬ n = 256 by omega), if_pos (show n < 128 by omega), e]
      · rw [if_neg h1, if_neg h2, if_neg h3, if_pos rfl]
        by_cases q1 : n = 256 ∨ 128 ≤ n ∨ n < 48
        · rw [if_pos q1, if_pos (show n = 256 ∨ 128 ≤ n ∨ n < 97 by omega), if_pos (show n = 256 ∨ 128 ≤ n ∨ n < 65 by omega)]
        · rw [if_neg q1, if_pos (show n < 128 ∧ 57 < n by omega)]
          by_cases q2 : n = 256 ∨ 128 ≤ n ∨ n < 97
          · rw [if_pos q2]
            by_cases q3 : n = 256 ∨ 128 ≤ n ∨ n < 65
            · rw [if_pos q3]
            · rw [if_neg q3, if_pos (show n < 128 ∧ 70 < n by omega)]
          · rw [if_neg q2, if_pos (show n < 128 ∧ 102 < n by omega), if_neg (show ¬ (n = 256 ∨ 128 ≤ n ∨ n < 65) by omega), if_pos (show n < 128 ∧ 70 < n by omega)]
theorem ixE : ∀ n, n < 128 → m_X20_indexOf 39 (((nI n).toUInt32 % 65536).toInt32) = some (if n = 34 then 0 else if n = 92 then 1 else if n = 47 then 2 else if n = 98 then 3 else if n = 102 then 4 else if n = 110 then 5 else if n = 114 then 6 else if n = 116 then 7 else -1) := by decide +kernel
section RSTR
variable {B : Nat → Int32} {L : Nat}
theorem esx_go (hB : BY B L) (hL : L ≤ 4096) {fl pl : Int32} {from_ : Nat} : ∀ (n i j v : Nat), i ≤ 4 → 4 - i < n → j ≤ L → (v + 1) * 16 ^ (4 - i) ≤ 65536 →
    (∃ w, shex B L from_ (4 - i) j v = .inl w ∧ ∀ g, ∃ b, m_X9_escaped_135 (ov L B g) (nI L) n (nI j) fl pl (nI from_) (nI v) (nI i) = some (.error (b, 1, nI w))) ∨ (∃ x, shex B L from_ (4 - i) j v = .inr x ∧ ∀ g, m_X9_escaped_135 (ov L B g) (nI L) n (nI j) fl pl (nI from_) (nI v) (nI i) = some (.ok (nI x, (nI (j + (4 - i)), fl, pl)))) := by
  intro n
  induction n with
  | zero => intro i j v _ h; exact absurd h (Nat.not_lt_zero _)
  | succ n ih =>
    intro i j v hi hn hj hv
    have hv2 : v + 1 ≤ 65536 := Nat.le_trans (Nat.le_mul_of_pos_right _ (Nat.pow_pos (by decide))) hv
    simp only [m_X9_escaped_135, look_eq hL hj, Option.bind_some]
    by_cases h4 : 4 ≤ i
    · have e : (4 : Int32) ≤ nI i := nI_le (a := 4) h4 (by omega)
      have e0 : 4 - i = 0 := by omega
      simp only [if_pos e, e0, shex]
      by_cases h5 : v ≤ 255
      · have e5 : ¬ (256 : Int32) ≤ nI v := fun z => absurd ((nI_leI (a := 256) (by omega) (by omega)).mp z) (by omega)
        simp only [if_neg e5, if_pos h5, m_X9_escaped_210, need_1, try_o]
        exact Or.inr ⟨v, rfl, fun g => rfl⟩
      · have e5 : (256 : Int32) ≤ nI v := nI_le (a := 256) (by omega) (by omega)
        simp only [if_pos e5, if_neg h5, m_X9_escaped_210, need_0, try_e]
        exact Or.inl ⟨from_, rfl, fun g => ⟨_, rfl⟩⟩
    · have e : ¬ (4 : Int32) ≤ nI i := fun z => absurd ((nI_leI (a := 4) (by omega) (by omega)).mp z) (by omega)
      obtain ⟨k, hk⟩ : ∃ k, 4 - i = k + 1 := ⟨4 - i - 1, by omega⟩
      rw [hk] at hv ⊢
      simp only [if_neg e, rk_sb hB, hexr_eq, Option.bind_some, shex]
      have hx := hexv_le (cb B L j)
      by_cases h6 : hexv (cb B L j) = 16
      · simp only [if_pos h6, show ((-1 : Int32) < 0) = True by decide, if_true, m_X9_escaped_157, need_0, try_e]
        exact Or.inl ⟨j, rfl, fun g => ⟨_, rfl⟩⟩
      · have hlt : j < L := cb_lt (fun z => h6 (by rw [z]; decide))
        have e7 : ¬ nI (hexv (cb B L j)) < 0 := nI_pos (by omega)
        have ev : 16 * nI v + nI (hexv (cb B L j)) = nI (v * 16 + hexv (cb B L j)) := by
          rw [show (16 : Int32) = nI 16 from rfl, pk_mul, nI_add, Nat.mul_comm]
        simp only [if_neg h6, if_neg e7, m_X9_escaped_157, need_1, try_o, look_eq hL hj, Option.bind_some, rk_sb hB, hexr_eq, nI_1, ev]
        have hb2 : (v * 16 + hexv (cb B L j) + 1) * 16 ^ k ≤ 65536 := by
          refine Nat.le_trans (Nat.mul_le_mul_right _ (show v * 16 + hexv (cb B L j) + 1 ≤ (v + 1) * 16 by omega)) ?_
          rw [Nat.mul_assoc, Nat.mul_comm 16, ← Nat.pow_succ]
          exact hv
        have e4 : 4 - (i + 1) = k := by omega
        have := ih (i + 1) (j + 1) (v * 16 + hexv (cb B L j)) (by omega) (by omega) (by omega) (by rw [e4]; exact hb2)
        rw [e4] at this
        rcases this with ⟨w, q1, q2⟩ | ⟨x, q1, q2⟩
        · exact Or.inl ⟨w, q1, q2⟩
        · refine Or.inr ⟨x, q1, fun g => ?_⟩
          rw [q2 g, show j + 1 + k = j + (k + 1) by omega]
theorem esx (hB : BY B L) (hL : L ≤ 4096) {a : Nat} (ha : a < L) {fl pl : Int32} : REX (fun g => m_X9_escaped (ov L B (g.1 6)) (nI L) (nI a) fl pl) fpE (EW (sesc B L a)) (fun v u => ∃ x, sesc B L a = .inr x ∧ v = nI x ∧ u = (fun _ => (nI (a + elen B L a), fl, pl))) := by
  have h0 := cb_le B L (a + 1)
  simp only [m_X9_escaped, nI_1, look_eq hL (show a + 1 ≤ L by omega), Option.bind_some, rk_sb hB]
  have tk : REX (fun g => m_X9_escaped_35 (ov L B (g.1 6)) (nI L) (nI (a + 1)) fl pl (nI a) (-1)) fpE (EW (if cb B L (a + 1) = 117 then shex B L a 4 (a + 2) 0 else .inl (a + 1))) (fun v u => ∃ x, (if cb B L (a + 1) = 117 then shex B L a 4 (a + 2) 0 else .inl (a + 1)) = .inr x ∧ v = nI x ∧ u = (fun _ => (nI (a + 6), fl, pl))) := by
    simp only [m_X9_escaped_35, show ((-1 : Int32) < 0) = True by decide, if_true, take_eq hL (show a + 1 ≤ L by omega), rk_sb hB, sb117]
    by_cases h1 : cb B L (a + 1) = 117
    · have hlt : a + 1 < L := cb_lt (B := B) (by omega)
      simp only [if_pos h1, try_o]
      rcases esx_go hB hL (fl := fl) (pl := pl) (from_ := a) sr_fuel 0 (a + 1 + 1) 0 (by omega) (by unfold sr_fuel; omega) (by omega) (by decide) with ⟨w, q1, q2⟩ | ⟨x, q1, q2⟩
      · refine Or.inr ⟨(1, nI w), ⟨w, q1, rfl⟩, fun g => ?_⟩
        obtain ⟨b, hb⟩ := q2 (g.1 6)
        exact ⟨_, hb, rfl⟩
      · exact Or.inl ⟨nI x, _, ⟨x, q1, rfl, rfl⟩, fun g => q2 (g.1 6)⟩
    · simp only [if_neg h1, try_e]
      exact REX.er (fun g => rfl) ⟨a + 1, rfl, rfl⟩
  by_cases h : cb B L (a + 1) < 128
  · have e1 : sbI (cb B L (a + 1)) = nI (cb B L (a + 1)) := by
      unfold sbI
      rw [if_neg (by omega), if_pos h]
    have e2 : (0 : Int32) ≤ nI (cb B L (a + 1)) := nI_pos' (by omega)
    simp only [e1, if_pos e2, ixE _ h, Option.bind_some]
    unfold sesc
    by_cases c1 : cb B L (a + 1) = 34
    · simp only [if_pos c1, m_X9_escaped_35, nI_1]
      exact REX.ok ⟨34, rfl, rfl, by unfold elen; rw [if_neg (by omega)]⟩
    by_cases c3 : cb B L (a + 1) = 92
    · simp only [if_neg c1, if_pos c3, if_neg (show ¬ cb B L (a + 1) = 47 by omega), m_X9_escaped_35, nI_1]
      exact REX.ok ⟨92, rfl, rfl, by unfold elen; rw [if_neg (by omega)]⟩
    by_cases c2 : cb B L (a + 1) = 47
    · simp only [if_neg c1, if_neg c3, if_pos c2, m_X9_escaped_35, nI_1]
      exact REX.ok ⟨47, rfl, rfl, by unfold elen; rw [if_neg (by omega)]⟩
    by_cases c4 : cb B L (a + 1) = 98
    · simp only [if_neg c1, if_neg c2, if_neg c3, if_pos c4, m_X9_escaped_35, nI_1]
      exact REX.ok ⟨8, rfl, rfl, by unfold elen; rw [if_neg (by omega)]⟩
    by_cases c5 : cb B L (a + 1) = 102
    · simp only [if_neg c1, if_neg c2, if_neg c3, if_neg c4, if_pos c5, m_X9_escaped_35, nI_1]
      exact REX.ok ⟨12, rfl, rfl, by unfold elen; rw [if_neg (by omega)]⟩
    by_cases c6 : cb B L (a + 1) = 110
    · simp only [if_neg c1, if_neg c2, if_neg c3, if_neg c4, if_neg c5, if_pos c6, m_X9_escaped_35, nI_1]
      exact REX.ok ⟨10, rfl, rfl, by unfold elen; rw [if_neg (by omega)]⟩
    by_cases c7 : cb B L (a + 1) = 114
    · simp only [if_neg c1, if_neg c2, if_neg c3, if_neg c4, if_neg c5, if_neg c6, if_pos c7, m_X9_escaped_35, nI_1]
      exact REX.ok ⟨13, rfl, rfl, by unfold elen; rw [if_neg (by omega)]⟩
    by_cases c8 : cb B L (a + 1) = 116
    · simp only [if_neg c1, if_neg c2, if_neg c3, if_neg c4, if_neg c5, if_neg c6, if_neg c7, if_pos c8, m_X9_escaped_35, nI_1]
      exact REX.ok ⟨9, rfl, rfl, by unfold elen; rw [if_neg (by omega)]⟩
    · simp only [if_neg c1, if_neg c2, if_neg c3, if_neg c4, if_neg c5, if_neg c6, if_neg c7, if_neg c8]
      refine tk.mono (fun c hc => hc) ?_
      rintro v u ⟨x, q1, q2, q3⟩
      refine ⟨x, q1, q2, ?_⟩
      by_cases c9 : cb B L (a + 1) = 117
      · unfold elen
        rw [if_pos c9]
        exact q3
      · rw [if_neg c9] at q1
        cases q1
  · have e2 : ¬ (0 : Int32) ≤ sbI (cb B L (a + 1)) := fun z => by
      have := Int32.le_iff_toInt_le.mp z
      rw [sbI_int h0] at this
      by_cases q : cb B L (a + 1) = 256
      · rw [if_pos q] at this
        exact absurd this (by decide)
      · rw [if_neg q, if_neg h] at this
        have e0 : (0 : Int32).toInt = 0 := rfl
        rw [e0] at this
        omega
    simp only [if_neg e2]
    unfold sesc
    simp only [if_neg (show ¬ cb B L (a + 1) = 34 by omega), if_neg (show ¬ cb B L (a + 1) = 47 by omega), if_neg (show ¬ cb B L (a + 1) = 92 by omega), if_neg (show ¬ cb B L (a + 1) = 98 by omega), if_neg (show ¬ cb B L (a + 1) = 102 by omega), if_neg (show ¬ cb B L (a + 1) = 110 by omega), if_neg (show ¬ cb B L (a + 1) = 114 by omega), if_neg (show ¬ cb B L (a + 1) = 116 by omega)]
    refine tk.mono (fun c hc => hc) ?_
    rintro v u ⟨x, q1, q2, q3⟩
    rw [if_neg (show ¬ cb B L (a + 1) = 117 by omega)] at q1
    cases q1
end RSTR
