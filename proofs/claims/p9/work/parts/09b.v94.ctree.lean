-- the class's rows for a value that was read
def CHN (Nx : Nat → Int32) : List (Nat × Nat) → Int32 → Prop
  | [], h => h = -1
  | k :: t, h => h = nI k.1 ∧ CHN Nx t (Nx k.1)
/-- the parts of the group at p, as told -/
def GK (B : Nat → Int32) (L d p : Nat) (l : List (Nat × Nat)) : Prop :=
  (cb B L (sbl B L (p + 1)) = (if cb B L p = 123 then 125 else 93) ∧ l = []) ∨ (cb B L (sbl B L (p + 1)) ≠ (if cb B L p = 123 then 125 else 93) ∧ ∃ q, sgrp (sval B L d) B L (decide (cb B L p = 123)) (if cb B L p = 123 then 125 else 93) (L + 1) (sbl B L (p + 1)) [] = .inr (l, q))
def TRE (B : Nat → Int32) (L : Nat) (Sd In Nx Am : Nat → Int32) : Nat → Nat → Prop
  | 0, _ => True
  | d + 1, p => (cb B L p = 34 → ∃ s q, sstr B L (p + 1) = .inr (s, q) ∧ SAID Sd Am p s) ∧ (cb B L p = 91 ∨ cb B L p = 123 → ∃ l, GK B L d p l ∧ Am p = nI l.length ∧ CHN Nx l (In p) ∧ ∀ k, k ∈ l → TRE B L Sd In Nx Am d k.2 ∧ (cb B L p = 123 → In k.1 = nI k.2 ∧ ∃ s q, sstr B L (k.1 + 1) = .inr (s, q) ∧ SAID Sd Am k.1 s))
theorem CHN.keep {Nx Nx' : Nat → Int32} : ∀ (l : List (Nat × Nat)) (h : Int32), CHN Nx l h → (∀ k, k ∈ l → Nx' k.1 = Nx k.1) → CHN Nx' l h := by
  intro l
  induction l with
  | nil => intro h hc _; exact hc
  | cons k t ih =>
    intro h hc hk
    refine ⟨hc.1, ?_⟩
    rw [hk k List.mem_cons_self]
    exact ih _ hc.2 (fun x hx => hk x (List.mem_cons_of_mem _ hx))
theorem GK.in {B : Nat → Int32} {L d p q : Nat} {l : List (Nat × Nat)} (hd : 0 < d) (hp : cb B L p = 91 ∨ cb B L p = 123) (hq : sval B L (d + 1) p = .inr q) (hg : GK B L d p l) : ∀ k, k ∈ l → gpart (sval B L d) B L (decide (cb B L p = 123)) (p + 1) q k := by
  have hcl : (if cb B L p = 123 then 125 else 93) < 256 := by split <;> omega
  rcases hg with ⟨_, e⟩ | ⟨h1, q', h2⟩
  · intro k hk
    rw [e] at hk
    exact absurd hk List.not_mem_nil
  · have e : q = q' := by
      simp only [sval] at hq
      rw [if_neg (by omega), if_pos hp, if_neg (by omega), if_neg h1, h2] at hq
      cases hq
      rfl
    obtain ⟨_, _, _, _, g⟩ := sgrp_p hcl (sval_p d) _ _ _ _ _ h2
    intro k hk
    obtain ⟨z1, z2, z3, z4, z5⟩ := g k hk
    have hb := sbl_le (B := B) (L := L) (a := p + 1)
    rw [e]
    exact ⟨by omega, z2, z3, z4, z5⟩
theorem TRE.keep {B : Nat → Int32} {L : Nat} {Sd In Nx Am Sd' In' Nx' Am' : Nat → Int32} : ∀ (d p q : Nat), sval B L d p = .inr q → TRE B L Sd In Nx Am d p → (∀ i, p ≤ i → i < q → Sd' i = Sd i ∧ In' i = In i ∧ Am' i = Am i) → (∀ i, p < i → i < q → Nx' i = Nx i) → TRE B L Sd' In' Nx' Am' d p := by
  intro d
  induction d with
  | zero => intro p q h; cases h
  | succ d ih =>
    intro p q hq ht h1 h2
    have hpq := sval_p _ _ _ hq
    refine ⟨fun c => ?_, fun c => ?_⟩
    · obtain ⟨s, b, hs, hsa⟩ := ht.1 c
      have e : b = q := by
        simp only [sval] at hq
        rw [if_pos c, hs] at hq
        cases hq
        rfl
      have hb := sstrf_p _ _ _ _ hs
      refine ⟨s, b, hs, hsa.keep (fun i i1 i2 => (h1 i i1 (by omega)).1) (h1 p (Nat.le_refl _) (by omega)).2.2⟩
    · obtain ⟨l, hg, ha, hc, hk⟩ := ht.2 c
      have hd : 0 < d := by
        apply Nat.pos_of_ne_zero
        intro e
        simp only [sval] at hq
        rw [if_neg (by omega), if_pos c, if_pos e] at hq
        cases hq
      have hin := hg.in hd c hq
      refine ⟨l, hg, ?_, ?_, fun k hk2 => ?_⟩
      · rw [(h1 p (Nat.le_refl _) (by omega)).2.2]; exact ha
      · rw [(h1 p (Nat.le_refl _) (by omega)).2.1]
        refine hc.keep _ _ (fun k hk2 => ?_)
        obtain ⟨z1, z2, ⟨b, _, z3, z4⟩, _⟩ := hin k hk2
        exact h2 k.1 (by omega) (by omega)
      · obtain ⟨t1, t2⟩ := hk k hk2
        obtain ⟨z1, z2, ⟨b, hb, z3, z4⟩, _, z6⟩ := hin k hk2
        refine ⟨ih k.2 b hb t1 (fun i i1 i2 => h1 i (by omega) (by omega)) (fun i i1 i2 => h2 i (by omega) (by omega)), fun c2 => ?_⟩
        obtain ⟨t3, s, b2, t4, t5⟩ := t2 c2
        obtain ⟨s', b3, _, w2, w3, w4⟩ := z6 (by rw [c2]; rfl)
        have es : s' = s ∧ b3 = b2 := by
          rw [t4] at w2
          cases w2
          exact ⟨rfl, rfl⟩
        refine ⟨by rw [(h1 k.1 (by omega) (by omega)).2.1]; exact t3, s, b2, t4, t5.keep (fun i i1 i2 => (h1 i (by omega) (by rw [← es.1] at i2; omega)).1) (h1 k.1 (by omega) (by omega)).2.2⟩
section CRK
variable {T Sd In Nx Am : Nat → Int32} {L : Nat} {kh kp ko kn : Nat → Int32} {own plc : Nat → Nat} {str : Nat → List Nat} {c : Nat}
theorem rkey_eq (hL : L ≤ 4096) (wp : Int32) {p part : Nat} {seen : List (List Nat)} (hI : KI Sd Am kh kp ko kn own plc str c) (hpl : ∀ i, i < c → plc i < part ∧ plc i + (str i).length ≤ part) (hse : ∀ s, s ∈ seen ↔ ∃ j, j < c ∧ own j = p ∧ str j = s) (hc : part < L → c < 1024) (hp : p < 4096) (hpa : part ≤ L) :
    (∃ w Sd' In' Am' kh' kp' ko' kn' kc', skey T L part seen = .inl w ∧ m_X7_readKey T Sd In Am (nI L) wp kh kp ko kn (nI c) (nI p) (nI part) = some (-1, (Sd', In', Am', nI w, kh', kp', ko', kn', kc'))) ∨
    (∃ v s kh' kp' ko' kn', skey T L part seen = .inr (v, s) ∧ m_X7_readKey T Sd In Am (nI L) wp kh kp ko kn (nI c) (nI p) (nI part) = some (nI v, (wrS Sd part s, upd In part (nI v), upd Am part (nI s.length), wp, kh', kp', ko', kn', nI (c + 1))) ∧ SAID (wrS Sd part s) (upd Am part (nI s.length)) part s ∧ KI (wrS Sd part s) (upd Am part (nI s.length)) kh' kp' ko' kn' (pset own c p) (pset plc c part) (pset str c s) (c + 1)) := by
  unfold m_X7_readKey skey
  by_cases c1 : cb T L part = 34
  · have hlt : part < L := cb_lt (B := T) (by omega)
    have e1 : m_X7_isString T (nI L) (nI part) = some 1 := by
      unfold m_X7_isString
      rw [byt_eq hL (by omega)]
      simp only [Option.bind_some, ub34, if_pos c1]
    rw [e1, if_pos c1]
    simp only [Option.bind_some, m_X7_refuse]
    rw [if_neg (show ¬ (1 : Int32) = 0 by decide)]
    rcases rstr_eq (T := T) (Sd := Sd) (Am := Am) hL wp hlt with ⟨w, Sd', g1, g2⟩ | ⟨s, b, g1, g2, g3, g4, g5⟩
    · rw [g2, g1]
      simp only [Option.bind_some, if_true]
      exact Or.inl ⟨w, Sd', In, Am, kh, kp, ko, kn, nI c, rfl, rfl⟩
    · rw [g5, g1]
      simp only [Option.bind_some]
      have hm : ¬ (nI b = -1) := fun z => by
        have := nI_pos' (n := b) (by omega)
        rw [z] at this
        exact absurd this (by decide)
      rw [if_neg hm]
      obtain ⟨w1, w2, w3⟩ := wrS_all s Sd part (sstrf_b _ _ _ _ g1)
      have hS : SAID (wrS Sd part s) (upd Am part (nI s.length)) part s := ⟨by omega, by omega, pk_us, w3⟩
      have hI' : KI (wrS Sd part s) (upd Am part (nI s.length)) kh kp ko kn own plc str c := hI.keep (fun i hi => (hI.2.1 i hi).2.2.2.keep (fun x x1 x2 => w1 x (by have := hpl i hi; omega)) (pk_un (by have := hpl i hi; omega)))
      obtain ⟨k1, k2⟩ := kadd_eq hI' hp hS (hc hlt)
      by_cases c2 : s ∈ seen
      · rw [k1 ((hse s).mp c2), if_pos c2]
        simp only [Option.bind_some, if_true]
        exact Or.inl ⟨part, wrS Sd part s, In, upd Am part (nI s.length), kh, kp, ko, kn, nI c, rfl, rfl⟩
      · obtain ⟨kh', kp', ko', kn', k3, k4⟩ := k2 (fun q => c2 ((hse s).mpr q))
        rw [k3, if_neg c2]
        simp only [Option.bind_some]
        have hb1 := sbl_le2 (B := T) (L := L) (a := b) g3
        rw [if_neg (show ¬ (1 : Int32) = 0 by decide), bbl_eq hL (by omega)]
        simp only [Option.bind_some]
        rw [byt_eq hL (by omega)]
        simp only [Option.bind_some, ub58, nI_1]
        by_cases c3 : cb T L (sbl T L b) = 58
        · rw [if_pos c3, if_pos c3, bbl_eq hL (by omega)]
          simp only [Option.bind_some]
          rw [etr_eq (by decide) (show part < 4096 by omega)]
          exact Or.inr ⟨_, s, kh', kp', ko', kn', rfl, rfl, hS, k4⟩
        · rw [if_neg c3, if_neg c3]
          exact Or.inl ⟨_, wrS Sd part s, In, upd Am part (nI s.length), kh', kp', ko', kn', nI (c + 1), rfl, rfl⟩
  · have e1 : m_X7_isString T (nI L) (nI part) = some 0 := by
      unfold m_X7_isString
      rw [byt_eq hL (by omega)]
      simp only [Option.bind_some, ub34, if_neg c1]
    rw [e1, if_neg c1]
    simp only [Option.bind_some, m_X7_refuse, if_true]
    exact Or.inl ⟨part, Sd, In, Am, kh, kp, ko, kn, nI c, rfl, rfl⟩
end CRK
