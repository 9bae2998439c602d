-- the class's reading of a group, exactly
def FRE (f g : Nat → Int32) (lo hi : Nat) : Prop := ∀ i, i < lo ∨ hi ≤ i → g i = f i
def KB (own plc : Nat → Nat) (str : Nat → List Nat) (c p : Nat) : Prop := 4 * c ≤ p + 1 ∧ ∀ i, i < c → plc i < p ∧ plc i + (str i).length ≤ p ∧ own i < p
def KM (own plc : Nat → Nat) (str : Nat → List Nat) (c : Nat) (own' plc' : Nat → Nat) (str' : Nat → List Nat) (c' lo : Nat) : Prop := c ≤ c' ∧ (∀ i, i < c → own' i = own i ∧ plc' i = plc i ∧ str' i = str i) ∧ ∀ i, c ≤ i → i < c' → lo ≤ own' i ∧ lo < plc' i
theorem KB.mono {own plc : Nat → Nat} {str : Nat → List Nat} {c p q : Nat} (h : KB own plc str c p) (hq : p ≤ q) : KB own plc str c q := ⟨by have := h.1; omega, fun i hi => by have := h.2 i hi; omega⟩
theorem KM.refl {own plc : Nat → Nat} {str : Nat → List Nat} {c lo : Nat} : KM own plc str c own plc str c lo := ⟨Nat.le_refl _, fun _ _ => ⟨rfl, rfl, rfl⟩, fun i h1 h2 => by omega⟩
theorem KM.trans {o1 p1 o2 p2 o3 p3 : Nat → Nat} {s1 s2 s3 : Nat → List Nat} {c1 c2 c3 lo lo' : Nat} (h : KM o1 p1 s1 c1 o2 p2 s2 c2 lo) (h' : KM o2 p2 s2 c2 o3 p3 s3 c3 lo') (hl : lo ≤ lo') : KM o1 p1 s1 c1 o3 p3 s3 c3 lo := by
  obtain ⟨a1, a2, a3⟩ := h
  obtain ⟨b1, b2, b3⟩ := h'
  refine ⟨by omega, fun i hi => ?_, fun i i1 i2 => ?_⟩
  · obtain ⟨x1, x2, x3⟩ := a2 i hi
    obtain ⟨y1, y2, y3⟩ := b2 i (by omega)
    exact ⟨y1.trans x1, y2.trans x2, y3.trans x3⟩
  · by_cases q : i < c2
    · obtain ⟨y1, y2, _⟩ := b2 i q
      have := a3 i i1 q
      omega
    · have := b3 i (by omega) i2
      omega
def RV (T : Nat → Int32) (L d p q : Nat) (Sd In Nx Am Sd' In' Nx' Am' kh' kp' ko' kn' : Nat → Int32) (own plc : Nat → Nat) (str : Nat → List Nat) (c : Nat) (own' plc' : Nat → Nat) (str' : Nat → List Nat) (c' : Nat) : Prop :=
  FRE Sd Sd' p q ∧ FRE In In' p q ∧ FRE Nx Nx' (p + 1) q ∧ FRE Am Am' p q ∧ TRE T L Sd' In' Nx' Am' d p ∧ KI Sd' Am' kh' kp' ko' kn' own' plc' str' c' ∧ KB own' plc' str' c' q ∧ KM own plc str c own' plc' str' c' p ∧ 4 * c' ≤ q
def okC (T : Nat → Int32) (L : Nat) (fv : FP) (d : Nat) : Prop := ∀ (Sd In Nx Am : Nat → Int32) (wp : Int32) (kh kp ko kn : Nat → Int32) (own plc : Nat → Nat) (str : Nat → List Nat) (c p : Nat), p ≤ L → KI Sd Am kh kp ko kn own plc str c → KB own plc str c p →
  (∃ w u, sval T L d p = .inl w ∧ fv T Sd In Nx Am (nI L) wp kh kp ko kn (nI c) (nI p) (nI (25 - d)) = some (-1, u) ∧ u.2.2.2.2.1 = nI w) ∨
  (∃ q Sd' In' Nx' Am' kh' kp' ko' kn' own' plc' str' c', sval T L d p = .inr q ∧ fv T Sd In Nx Am (nI L) wp kh kp ko kn (nI c) (nI p) (nI (25 - d)) = some (nI q, (Sd', In', Nx', Am', wp, kh', kp', ko', kn', nI c')) ∧ RV T L d p q Sd In Nx Am Sd' In' Nx' Am' kh' kp' ko' kn' own plc str c own' plc' str' c')
/-- a part in the rows -/
def PTK (T : Nat → Int32) (L d : Nat) (obj : Bool) (Sd In Nx Am : Nat → Int32) (k : Nat × Nat) : Prop := TRE T L Sd In Nx Am d k.2 ∧ (obj = true → In k.1 = nI k.2 ∧ ∃ s q, sstr T L (k.1 + 1) = .inr (s, q) ∧ SAID Sd Am k.1 s)
theorem nI_m1 {n : Nat} (h : n < 2 ^ 31) : ¬ (nI n = -1) := fun z => by
  have := nI_pos' (n := n) h
  rw [z] at this
  exact absurd this (by decide)
section CGRP
variable {T : Nat → Int32} {L : Nat}
theorem join_eq {In Nx : Nat → Int32} {p part : Nat} {last : Int32} (hp : p < 4096) (hpa : part < 4096) (hl : last = -1 ∨ ∃ la, last = nI la ∧ la < 4096) : m_X7_join In Nx (nI p) last (nI part) = some (if last = -1 then upd In p (nI part) else In, upd (if last = -1 then Nx else upd Nx last.toNatClampNeg (nI part)) part (-1)) := by
  unfold m_X7_join m_X7_join_26
  by_cases h : last = -1
  · rw [if_pos h, if_pos h, if_pos h, etr_eq (by decide) hp]
    simp only [Option.bind_some]
    rw [etr_eq (by decide) hpa]
    rfl
  · rcases hl with e | ⟨la, e, hla⟩
    · exact absurd e h
    · subst e
      rw [if_neg h, if_neg h, if_neg h, etr_eq (by decide) hla]
      simp only [Option.bind_some]
      rw [etr_eq (by decide) hpa, nI_clamp (by omega)]
      rfl
/-- what a loop over the parts from part on leaves -/
def RG (T : Nat → Int32) (L d p part q cnt : Nat) (obj : Bool) (last : Int32) (l : List (Nat × Nat)) (Sd In Nx Am Sd' In' Nx' Am' kh' kp' ko' kn' : Nat → Int32) (own plc : Nat → Nat) (str : Nat → List Nat) (c : Nat) (own' plc' : Nat → Nat) (str' : Nat → List Nat) (c' : Nat) : Prop :=
  FRE Sd Sd' part q ∧ (∀ i, i < part ∨ q ≤ i → In' i = (if last = -1 then upd In p (nI part) else In) i) ∧ (∀ i, i < part ∨ q ≤ i → Nx' i = (if last = -1 then Nx else upd Nx last.toNatClampNeg (nI part)) i) ∧ (∀ i, i < part ∨ q ≤ i → Am' i = upd Am p (nI (cnt - 1 + l.length)) i) ∧ CHN Nx' l (nI part) ∧ (∀ k, k ∈ l → PTK T L d obj Sd' In' Nx' Am' k) ∧ KI Sd' Am' kh' kp' ko' kn' own' plc' str' c' ∧ KB own' plc' str' c' q ∧ KM own plc str c own' plc' str' c' p ∧ 4 * c' ≤ q
theorem rgrp_rest (hL : L ≤ 4096) {fv : FP} {d : Nat} (hd : d ≤ 24) (hfv : okC T L fv d) {p cl : Nat} {obj : Bool} (hcl : cl < 256) (wp : Int32) (n fuel : Nat)
    (ih : ∀ (part cnt : Nat) (last : Int32) (Sd In Nx Am kh kp ko kn : Nat → Int32) (own plc : Nat → Nat) (str : Nat → List Nat) (c : Nat) (seen : List (List Nat)), p < part → part ≤ L → L - part < n → L - part < fuel → 0 < cnt → cnt + p ≤ part → KI Sd Am kh kp ko kn own plc str c → KB own plc str c part → 4 * c ≤ part → (∀ i, i < c → plc i ≠ p) → (obj = true → ∀ s, s ∈ seen ↔ ∃ j, j < c ∧ own j = p ∧ str j = s) → (last = -1 ∨ ∃ la, last = nI la ∧ p < la ∧ la < part) →
      (∃ w u, sgrp (sval T L d) T L obj cl n part seen = .inl w ∧ m_X7_readGroup_76 fv T (nI L) fuel Sd In Nx Am wp kh kp ko kn (nI c) (nI p) (nI (24 - d)) (nI cl) (nI part) last (nI cnt) = some (-1, u) ∧ u.2.2.2.2.1 = nI w) ∨
      (∃ l q Sd' In' Nx' Am' kh' kp' ko' kn' own' plc' str' c', sgrp (sval T L d) T L obj cl n part seen = .inr (l, q) ∧ m_X7_readGroup_76 fv T (nI L) fuel Sd In Nx Am wp kh kp ko kn (nI c) (nI p) (nI (24 - d)) (nI cl) (nI part) last (nI cnt) = some (nI q, (Sd', In', Nx', Am', wp, kh', kp', ko', kn', nI c')) ∧ RG T L d p part q cnt obj last l Sd In Nx Am Sd' In' Nx' Am' kh' kp' ko' kn' own plc str c own' plc' str' c'))
    {part cnt v : Nat} {last : Int32} {Sd In Nx Am Sd1 In1 Am1 kh1 kp1 ko1 kn1 : Nat → Int32} {own plc own1 plc1 : Nat → Nat} {str str1 : Nat → List Nat} {c c1 : Nat} {seen : List (List Nat)} {s : List Nat}
    (hp : p < part) (hpv : part ≤ v) (hvL : v ≤ L) (hn : L - part < n + 1) (hf : L - part < fuel + 1) (hc0 : 0 < cnt) (hcp : cnt + p ≤ part)
    (hI : KI Sd1 Am1 kh1 kp1 ko1 kn1 own1 plc1 str1 c1) (hB : KB own1 plc1 str1 c1 v) (hne : ∀ i, i < c1 → plc1 i ≠ p) (hM : KM own plc str c own1 plc1 str1 c1 p) (hse : obj = true → ∀ x, x ∈ s :: seen ↔ ∃ j, j < c1 ∧ own1 j = p ∧ str1 j = x) (hla : last = -1 ∨ ∃ la, last = nI la ∧ p < la ∧ la < part)
    (f1 : FRE Sd Sd1 part v) (f2 : FRE In In1 part v) (f3 : FRE Am Am1 part v) (hk : obj = true → part + 1 + s.length < v ∧ In1 part = nI v ∧ (∃ b, sstr T L (part + 1) = .inr (s, b)) ∧ SAID Sd1 Am1 part s) (hq : (if obj = true then skey T L part seen else .inr (part, [])) = .inr (v, s)) :
    (∃ w u, sgrp (sval T L d) T L obj cl (n + 1) part seen = .inl w ∧ m_X7_readGroup_105 fv T (nI L) (m_X7_readGroup_76 fv T (nI L) fuel) Sd1 In1 Nx Am1 wp kh1 kp1 ko1 kn1 (nI c1) (nI p) (nI (24 - d)) (nI cl) (nI part) last (nI cnt) (nI v) = some (-1, u) ∧ u.2.2.2.2.1 = nI w) ∨
    (∃ l q Sd' In' Nx' Am' kh' kp' ko' kn' own' plc' str' c', sgrp (sval T L d) T L obj cl (n + 1) part seen = .inr (l, q) ∧ m_X7_readGroup_105 fv T (nI L) (m_X7_readGroup_76 fv T (nI L) fuel) Sd1 In1 Nx Am1 wp kh1 kp1 ko1 kn1 (nI c1) (nI p) (nI (24 - d)) (nI cl) (nI part) last (nI cnt) (nI v) = some (nI q, (Sd', In', Nx', Am', wp, kh', kp', ko', kn', nI c')) ∧ RG T L d p part q cnt obj last l Sd In Nx Am Sd' In' Nx' Am' kh' kp' ko' kn' own plc str c own' plc' str' c') := by
  have ed : nI (24 - d) + 1 = nI (25 - d) := by rw [nI_1]; congr 1; omega
  unfold m_X7_readGroup_105
  rw [if_neg (nI_m1 (by omega)), ed]
  simp only [sgrp, hq]
  rcases hfv Sd1 In1 Nx Am1 wp kh1 kp1 ko1 kn1 own1 plc1 str1 c1 v hvL hI hB with ⟨w, u, g1, g2, g3⟩ | ⟨b, Sd2, In2, Nx2, Am2, kh2, kp2, ko2, kn2, own2, plc2, str2, c2, g1, g2, g3⟩
  · rw [g2, g1]
    simp only [Option.bind_some]
    obtain ⟨u1, u2, u3, u4, u5, u6, u7, u8, u9, u10⟩ := u
    unfold m_X7_readGroup_126
    rw [if_pos rfl]
    exact Or.inl ⟨w, _, rfl, rfl, g3⟩
  · obtain ⟨r1, r2, r3, r4, r5, r6, r7, r8, r9⟩ := g3
    obtain ⟨hvb, hbL⟩ := sval_p _ _ _ g1
    have hb := sbl_le (B := T) (L := L) (a := b)
    have hb2 := sbl_le2 (B := T) (L := L) (a := b) hbL
    have hla2 : last = -1 ∨ ∃ la, last = nI la ∧ la < 4096 := by
      rcases hla with e | ⟨la, e, _, h2⟩
      · exact Or.inl e
      · exact Or.inr ⟨la, e, by omega⟩
    rw [g2, g1]
    simp only [Option.bind_some]
    unfold m_X7_readGroup_126
    rw [if_neg (nI_m1 (by omega)), join_eq (by omega) (by omega) hla2]
    simp only [Option.bind_some]
    rw [etr_eq (by decide) (show p < 4096 by omega)]
    simp only [Option.bind_some]
    rw [bbl_eq hL (by omega)]
    simp only [Option.bind_some]
    rw [byt_eq hL (by omega)]
    simp only [Option.bind_some, ub44, nI_1]
    have hn1 : ∀ i, i < part → In2 i = In i := fun i hi => by rw [r2 i (Or.inl (by omega)), f2 i (Or.inl hi)]
    have hn2 : ∀ i, b ≤ i → In2 i = In i := fun i hi => by rw [r2 i (Or.inr hi), f2 i (Or.inr (by omega))]
    -- the rows behind join
    generalize hIn3 : (if last = -1 then upd In2 p (nI part) else In2) = In3
    generalize hNx0 : (if last = -1 then Nx2 else upd Nx2 last.toNatClampNeg (nI part)) = Nx0
    have hI3 : ∀ i, i ≠ p → In3 i = In2 i := fun i hi => by
      rw [← hIn3]
      by_cases h : last = -1
      · rw [if_pos h, pk_un hi]
      · rw [if_neg h]
    have hI3o : ∀ i, i < part ∨ b ≤ i → In3 i = (if last = -1 then upd In p (nI part) else In) i := fun i hi => by
      rw [← hIn3]
      have e : In2 i = In i := hi.elim (hn1 i) (hn2 i)
      by_cases h : last = -1
      · rw [if_pos h, if_pos h]
        by_cases q : i = p
        · rw [q, pk_us, pk_us]
        · rw [pk_un q, pk_un q, e]
      · rw [if_neg h, if_neg h, e]
    have hN3 : ∀ i, v < i → i < b → Nx0 i = Nx2 i := fun i i1 i2 => by
      rw [← hNx0]
      by_cases h : last = -1
      · rw [if_pos h]
      · rw [if_neg h]
        rcases hla with e | ⟨la, e, l1, l2⟩
        · exact absurd e h
        · subst e
          rw [nI_clamp (by omega), pk_un (by omega)]
    have hN3o : ∀ i, i < part ∨ b ≤ i → Nx0 i = (if last = -1 then Nx else upd Nx last.toNatClampNeg (nI part)) i := fun i hi => by
      rw [← hNx0]
      have e : Nx2 i = Nx i := r3 i (by omega)
      by_cases h : last = -1
      · rw [if_pos h, if_pos h, e]
      · rw [if_neg h, if_neg h]
        by_cases q : i = last.toNatClampNeg
        · rw [q, pk_us, pk_us]
        · rw [pk_un q, pk_un q, e]
    have hA2o : ∀ i, i < part ∨ b ≤ i → Am2 i = Am i := fun i hi => by
      rw [r4 i (by omega), f3 i (by omega)]
    have hM2 : KM own plc str c own2 plc2 str2 c2 p := hM.trans r8 (by omega)
    have hne2 : ∀ i, i < c2 → plc2 i ≠ p := fun i hi => by
      by_cases q : i < c1
      · rw [(r8.2.1 i q).2.1]; exact hne i q
      · have := r8.2.2 i (by omega) hi
        omega
    have hKI : KI Sd2 (upd Am2 p (nI cnt)) kh2 kp2 ko2 kn2 own2 plc2 str2 c2 := r6.keep (fun i hi => (r6.2.1 i hi).2.2.2.keep (fun _ _ _ => rfl) (pk_un (hne2 i hi)))
    -- the part itself, in rows that agree below m
    have part_ok : ∀ (m : Nat) (Sd' In' Nx' Am' : Nat → Int32), b ≤ m → (∀ i, i < m → Sd' i = Sd2 i) → (∀ i, i < m → i ≠ p → In' i = In3 i ∧ Am' i = Am2 i) → (∀ i, v < i → i < m → Nx' i = Nx0 i) → PTK T L d obj Sd' In' Nx' Am' (part, v) := by
      intro m Sd' In' Nx' Am' hm q1 q2 q3
      refine ⟨r5.keep _ _ _ g1 (fun i i1 i2 => ⟨q1 i (by omega), by rw [(q2 i (by omega) (by omega)).1, hI3 i (by omega)], (q2 i (by omega) (by omega)).2⟩) (fun i i1 i2 => by rw [q3 i i1 (by omega), hN3 i i1 i2]), fun ho => ?_⟩
      obtain ⟨k1, k2, ⟨bb, k3⟩, k4⟩ := hk ho
      refine ⟨by rw [(q2 part (by omega) (by omega)).1, hI3 part (by omega), r2 part (Or.inl (by omega))]; exact k2, s, bb, k3, k4.keep (fun i i1 i2 => by rw [q1 i (by omega), r1 i (Or.inl (by omega))]) (by rw [(q2 part (by omega) (by omega)).2, r4 part (Or.inl (by omega))])⟩
    by_cases h1 : cb T L (sbl T L b) = cl
    · have hmL : sbl T L b < L := cb_lt (B := T) (by omega)
      rw [if_pos ((ub_e (cb_le _ _ _) hcl).mpr h1), if_pos h1]
      refine Or.inr ⟨[(part, v)], sbl T L b + 1, Sd2, In3, upd Nx0 part (-1), upd Am2 p (nI cnt), kh2, kp2, ko2, kn2, own2, plc2, str2, c2, rfl, rfl, fun i hi => ?_, fun i hi => hI3o i (by omega), fun i hi => ?_, fun i hi => ?_, ⟨rfl, pk_us⟩, fun k hk2 => ?_, hKI, r7.mono (by omega), hM2, by omega⟩
      · rw [r1 i (by omega), f1 i (by omega)]
      · rw [pk_un (by omega), hN3o i (by omega)]
      · rw [List.length_singleton, show cnt - 1 + 1 = cnt by omega]
        by_cases q : i = p
        · rw [q, pk_us, pk_us]
        · rw [pk_un q, pk_un q, hA2o i (by omega)]
      · rw [List.mem_singleton.mp hk2]
        exact part_ok (sbl T L b + 1) _ _ _ _ (by omega) (fun _ _ => rfl) (fun i _ hi2 => ⟨rfl, pk_un hi2⟩) (fun i i1 i2 => pk_un (by omega))
    · rw [if_neg (fun z => h1 ((ub_e (cb_le _ _ _) hcl).mp z)), if_neg h1]
      by_cases h2 : cb T L (sbl T L b) = 44
      · have hmL : sbl T L b < L := cb_lt (B := T) (by omega)
        have hb3 := sbl_le (B := T) (L := L) (a := sbl T L b + 1)
        have hb4 := sbl_le2 (B := T) (L := L) (a := sbl T L b + 1) (by omega)
        rw [if_pos h2, if_pos h2, bbl_eq hL (by omega)]
        simp only [Option.bind_some]
        have hse2 : obj = true → ∀ x, x ∈ s :: seen ↔ ∃ j, j < c2 ∧ own2 j = p ∧ str2 j = x := by
          intro ho x
          rw [hse ho x]
          constructor
          · rintro ⟨j, j1, j2, j3⟩
            obtain ⟨y1, _, y3⟩ := r8.2.1 j j1
            exact ⟨j, by have := r8.1; omega, y1.trans j2, y3.trans j3⟩
          · rintro ⟨j, j1, j2, j3⟩
            by_cases q : j < c1
            · obtain ⟨y1, _, y3⟩ := r8.2.1 j q
              exact ⟨j, q, y1.symm.trans j2, y3.symm.trans j3⟩
            · have := r8.2.2 j (by omega) j1
              omega
        rcases ih (sbl T L (sbl T L b + 1)) (cnt + 1) (nI part) Sd2 In3 (upd Nx0 part (-1)) (upd Am2 p (nI cnt)) kh2 kp2 ko2 kn2 own2 plc2 str2 c2 (s :: seen) (by omega) hb4 (by omega) (by omega) (by omega) (by omega) hKI (r7.mono (by omega)) (by omega) hne2 hse2 (Or.inr ⟨part, rfl, hp, by omega⟩) with ⟨w, u, e1, e2, e3⟩ | ⟨l, q, Sd', In', Nx', Am', kh', kp', ko', kn', own', plc', str', c', e1, e2, e3⟩
        · rw [e1]
          exact Or.inl ⟨w, u, rfl, e2, e3⟩
        · obtain ⟨z1, z2, z3, z4, z5, z6, z7, z8, z9, z10⟩ := e3
          have hq2 := (sgrp_p hcl (sval_p d) _ _ _ _ _ e1).1
          rw [if_neg (nI_m1 (by omega))] at z2 z3
          rw [nI_clamp (by omega)] at z3
          rw [e1]
          refine Or.inr ⟨(part, v) :: l, q, Sd', In', Nx', Am', kh', kp', ko', kn', own', plc', str', c', rfl, e2, fun i hi => ?_, fun i hi => ?_, fun i hi => ?_, fun i hi => ?_, ⟨rfl, ?_⟩, fun k hk2 => ?_, z7, z8, hM2.trans z9 (Nat.le_refl _), z10⟩
          · rw [z1 i (by omega), r1 i (by omega), f1 i (by omega)]
          · rw [z2 i (by omega), hI3o i (by omega)]
          · rw [z3 i (by omega), pk_un (by omega), pk_un (by omega), hN3o i (by omega)]
          · rw [z4 i (by omega), List.length_cons]
            by_cases q2 : i = p
            · rw [q2, pk_us, pk_us]
              congr 1
              omega
            · rw [pk_un q2, pk_un q2, pk_un q2, hA2o i (by omega)]
          · show CHN Nx' l (Nx' part)
            rw [z3 part (Or.inl (by omega)), pk_us]
            exact z5
          · rcases List.mem_cons.mp hk2 with e | e
            · rw [e]
              exact part_ok (sbl T L (sbl T L b + 1)) _ _ _ _ (by omega) (fun i hi => z1 i (Or.inl hi)) (fun i hi hi2 => ⟨z2 i (Or.inl hi), by rw [z4 i (Or.inl hi), pk_un hi2, pk_un hi2]⟩) (fun i i1 i2 => by rw [z3 i (Or.inl i2), pk_un (by omega), pk_un (by omega)])
            · exact z6 k e
      · rw [if_neg h2, if_neg h2]
        simp only [m_X7_refuse, Option.bind_some]
        exact Or.inl ⟨sbl T L b, _, rfl, rfl, rfl⟩
end CGRP
