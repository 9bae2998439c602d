-- the members' strings, exactly
def bkN (o : Nat) (s : List Nat) : Nat := (hsh s + nI o).toBitVec.toNat % 256
/-- x is the greatest index below n whose string lies in bucket b, or -1 -/
def LST (bk : Nat → Nat) (b n : Nat) (x : Int32) : Prop := (x = -1 ∧ ∀ i, i < n → bk i ≠ b) ∨ ∃ i, i < n ∧ x = nI i ∧ bk i = b ∧ ∀ j, i < j → j < n → bk j ≠ b
def KI (Sd Am kh kp ko kn : Nat → Int32) (own plc : Nat → Nat) (str : Nat → List Nat) (c : Nat) : Prop :=
  c ≤ 1024 ∧ (∀ i, i < c → own i < 4096 ∧ ko i = nI (own i) ∧ kp i = nI (plc i) ∧ SAID Sd Am (plc i) (str i)) ∧ (∀ b, b < 256 → LST (fun i => bkN (own i) (str i)) b c (kh b)) ∧ ∀ i, i < c → LST (fun i => bkN (own i) (str i)) (bkN (own i) (str i)) i (kn i)
theorem LST.mono {bk bk' : Nat → Nat} {b n : Nat} {x : Int32} (h : LST bk b n x) (he : ∀ i, i < n → bk' i = bk i) : LST bk' b n x := by
  rcases h with ⟨h1, h2⟩ | ⟨i, h1, h2, h3, h4⟩
  · exact Or.inl ⟨h1, fun i hi => by rw [he i hi]; exact h2 i hi⟩
  · exact Or.inr ⟨i, h1, h2, by rw [he i h1]; exact h3, fun j q1 q2 => by rw [he j q2]; exact h4 j q1 q2⟩
def pset {α : Type} (f : Nat → α) (k : Nat) (x : α) : Nat → α := fun i => if i = k then x else f i
theorem pset_s {α : Type} {f : Nat → α} {k : Nat} {x : α} : pset f k x k = x := if_pos rfl
theorem pset_n {α : Type} {f : Nat → α} {k i : Nat} {x : α} (h : i ≠ k) : pset f k x i = f i := if_neg h
section CKEY
variable {Sd Am kh kp ko kn : Nat → Int32} {own plc : Nat → Nat} {str : Nat → List Nat} {c : Nat}
theorem KI.keep {Sd' Am' : Nat → Int32} (h : KI Sd Am kh kp ko kn own plc str c) (hk : ∀ i, i < c → SAID Sd' Am' (plc i) (str i)) : KI Sd' Am' kh kp ko kn own plc str c :=
  ⟨h.1, fun i hi => ⟨(h.2.1 i hi).1, (h.2.1 i hi).2.1, (h.2.1 i hi).2.2.1, hk i hi⟩, h.2.2.1, h.2.2.2⟩
theorem kadd_90 {o p b : Nat} (hc : c < 1024) (hb : b < 256) : m_X2_add_90 Sd Am kh kp ko kn (nI c) (nI o) (nI p) (nI b) = some (1, (upd kh b (nI c), upd kp c (nI p), upd ko c (nI o), upd kn c (kh b), nI (c + 1))) := by
  unfold m_X2_add_90
  rw [if_neg (show ¬ (1024 : Int32) ≤ nI c from fun q => absurd ((nI_leI (a := 1024) (b := c) (by omega) (by omega)).mp q) (by omega))]
  simp only [bd_go (show c < 1024 by omega) (by decide), bd_gc (show c < 1024 by omega) (by decide), nI_clamp (show c < 2 ^ 31 by omega), bd_go (show b < 256 by omega) (by decide), bd_gc (show b < 256 by omega) (by decide), nI_clamp (show b < 2 ^ 31 by omega), nI_1]
theorem kadd_go (hI : KI Sd Am kh kp ko kn own plc str c) {o p b : Nat} {s : List Nat} (ho : o < 4096) (hs : SAID Sd Am p s) (hb : b < 256) : ∀ (fuel i m : Nat) (x5 : Int32), i ≤ c → c - i < fuel → m + i ≤ c → LST (fun i => bkN (own i) (str i)) b m x5 →
    ((∃ j, j < m ∧ own j = o ∧ str j = s ∧ bkN (own j) (str j) = b) → m_X2_add_25 Sd Am fuel kh kp ko kn (nI c) (nI o) (nI p) (nI b) x5 (nI i) = some (0, (kh, kp, ko, kn, nI c))) ∧ ((¬ ∃ j, j < m ∧ own j = o ∧ str j = s ∧ bkN (own j) (str j) = b) → m_X2_add_25 Sd Am fuel kh kp ko kn (nI c) (nI o) (nI p) (nI b) x5 (nI i) = m_X2_add_90 Sd Am kh kp ko kn (nI c) (nI o) (nI p) (nI b)) := by
  intro fuel
  induction fuel with
  | zero => intro i m x5 _ hf; exact absurd hf (Nat.not_lt_zero _)
  | succ fuel ih =>
    intro i m x5 hi hf hm hl
    have hc := hI.1
    simp only [m_X2_add_25]
    by_cases h : c ≤ i
    · rw [if_pos (nI_le h (by omega))]
      exact ⟨fun ⟨j, hj, _⟩ => by omega, fun _ => rfl⟩
    · rw [if_neg (fun q => h ((nI_leI (by omega) (by omega)).mp q))]
      rcases hl with ⟨e, hn⟩ | ⟨k, hk, e, hkb, hkn⟩
      · subst e
        rw [if_pos (by decide)]
        exact ⟨fun ⟨j, hj, _, _, hjb⟩ => absurd hjb (hn j hj), fun _ => rfl⟩
      · subst e
        obtain ⟨hw1, hw2, hw3, hw4⟩ := hI.2.1 k (by omega)
        rw [if_neg (nI_pos (by omega)), if_neg (show ¬ (1024 : Int32) ≤ nI k from fun q => absurd ((nI_leI (a := 1024) (b := k) (by omega) (by omega)).mp q) (by omega))]
        simp only [bd_go (show k < 1024 by omega) (by decide), bd_gc (show k < 1024 by omega) (by decide), nI_clamp (show k < 2 ^ 31 by omega), m_X2_add_75, nI_1, hw2, hw3]
        have hl2 : LST (fun i => bkN (own i) (str i)) b k (kn k) := by
          have := hI.2.2.2 k (by omega)
          rw [← hkb]
          exact this
        obtain ⟨g1, g2⟩ := ih (i + 1) k (kn k) (by omega) (by omega) (by omega) hl2
        have low : (∃ j, j < m ∧ own j = o ∧ str j = s ∧ bkN (own j) (str j) = b) → ¬ (own k = o ∧ str k = s) → ∃ j, j < k ∧ own j = o ∧ str j = s ∧ bkN (own j) (str j) = b := by
          rintro ⟨j, j1, j2, j3, j4⟩ hne
          refine ⟨j, ?_, j2, j3, j4⟩
          rcases Nat.lt_trichotomy j k with q | q | q
          · exact q
          · exact absurd ⟨by rw [← q]; exact j2, by rw [← q]; exact j3⟩ hne
          · exact absurd j4 (hkn j q j1)
        have up : (¬ ∃ j, j < m ∧ own j = o ∧ str j = s ∧ bkN (own j) (str j) = b) → ¬ ∃ j, j < k ∧ own j = o ∧ str j = s ∧ bkN (own j) (str j) = b := by
          rintro hne ⟨j, j1, j2⟩
          exact hne ⟨j, by omega, j2⟩
        by_cases e1 : own k = o
        · rw [if_pos (by rw [e1]), sasa_eq hw4 hs]
          simp only [Option.bind_some]
          by_cases e2 : str k = s
          · rw [if_pos e2, if_neg (by decide)]
            exact ⟨fun _ => rfl, fun q => absurd ⟨k, hk, e1, e2, hkb⟩ q⟩
          · rw [if_neg e2, if_pos rfl]
            exact ⟨fun q => g1 (low q (fun z => e2 z.2)), fun q => g2 (up q)⟩
        · rw [if_neg (fun q => e1 ((nI_eq (by omega) (by omega)).mp q))]
          exact ⟨fun q => g1 (low q (fun z => e1 z.1)), fun q => g2 (up q)⟩
theorem kadd_eq (hI : KI Sd Am kh kp ko kn own plc str c) {o p : Nat} {s : List Nat} (ho : o < 4096) (hs : SAID Sd Am p s) (hc : c < 1024) :
    ((∃ j, j < c ∧ own j = o ∧ str j = s) → m_X2_add kh kp ko kn (nI c) Sd Am (nI o) (nI p) = some (0, (kh, kp, ko, kn, nI c))) ∧ ((¬ ∃ j, j < c ∧ own j = o ∧ str j = s) → ∃ kh' kp' ko' kn', m_X2_add kh kp ko kn (nI c) Sd Am (nI o) (nI p) = some (1, (kh', kp', ko', kn', nI (c + 1))) ∧ KI Sd Am kh' kp' ko' kn' (pset own c o) (pset plc c p) (pset str c s) (c + 1)) := by
  have hb : bkN o s < 256 := Nat.mod_lt _ (by decide)
  have eb : (hsh s + nI o) &&& 255 = nI (bkN o s) := pk_and (hsh s + nI o) 8 (by decide)
  have hl := hI.2.2.1 (bkN o s) hb
  obtain ⟨g1, g2⟩ := kadd_go hI ho hs hb sr_fuel 0 c (kh (bkN o s)) (Nat.zero_le _) (by unfold sr_fuel; have := hI.1; omega) (by omega) hl
  rw [nI_0] at g1 g2
  have e0 : m_X2_add kh kp ko kn (nI c) Sd Am (nI o) (nI p) = m_X2_add_25 Sd Am sr_fuel kh kp ko kn (nI c) (nI o) (nI p) (nI (bkN o s)) (kh (bkN o s)) 0 := by
    unfold m_X2_add
    rw [hash_eq hs]
    simp only [Option.bind_some, eb]
    rw [bd_go hb (by decide), nI_clamp (by omega)]
  refine ⟨fun ⟨j, j1, j2, j3⟩ => ?_, fun hne => ?_⟩
  · rw [e0]
    exact g1 ⟨j, j1, j2, j3, by rw [j2, j3]⟩
  · refine ⟨_, _, _, _, by rw [e0, g2 (fun ⟨j, j1, j2, j3, _⟩ => hne ⟨j, j1, j2, j3⟩)]; exact kadd_90 hc hb, by omega, fun i hi => ?_, fun b hb2 => ?_, fun i hi => ?_⟩
    · by_cases e : i = c
      · subst e
        rw [pset_s, pset_s, pset_s, pk_us, pk_us]
        exact ⟨ho, rfl, rfl, hs⟩
      · rw [pset_n e, pset_n e, pset_n e, pk_un e, pk_un e]
        exact hI.2.1 i (by omega)
    · by_cases e : b = bkN o s
      · subst e
        rw [pk_us]
        exact Or.inr ⟨c, by omega, rfl, by simp only [pset_s], fun j q1 q2 => by omega⟩
      · rw [pk_un e]
        rcases hI.2.2.1 b hb2 with ⟨h1, h2⟩ | ⟨i, h1, h2, h3, h4⟩
        · refine Or.inl ⟨h1, fun i hi => ?_⟩
          by_cases q : i = c
          · subst q
            simp only [pset_s]
            exact fun z => e z.symm
          · simp only [pset_n q]
            exact h2 i (by omega)
        · refine Or.inr ⟨i, by omega, h2, by simp only [pset_n (show i ≠ c by omega)]; exact h3, fun j q1 q2 => ?_⟩
          by_cases q : j = c
          · subst q
            simp only [pset_s]
            exact fun z => e z.symm
          · simp only [pset_n q]
            exact h4 j q1 (by omega)
    · by_cases e : i = c
      · subst e
        simp only [pset_s, pk_us]
        exact (hI.2.2.1 (bkN o s) hb).mono (fun j hj => by simp only [pset_n (show j ≠ i by omega)])
      · simp only [pset_n e, pk_un e]
        exact (hI.2.2.2 i (by omega)).mono (fun j hj => by simp only [pset_n (show j ≠ c by omega)])
end CKEY
