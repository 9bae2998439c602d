-- the class's reading of a value and of the whole text, exactly
section CRDV
variable {T : Nat → Int32} {L : Nat}
theorem rgrp_go (hL : L ≤ 4096) {fv : FP} {d : Nat} (hd : d ≤ 24) (hfv : okC T L fv d) {p cl : Nat} {obj : Bool} (hcl : cl < 256) (hob : m_X7_isObject T (nI L) (nI p) = some (if obj = true then 1 else 0)) (wp : Int32) : ∀ (n fuel part cnt : Nat) (last : Int32) (Sd In Nx Am kh kp ko kn : Nat → Int32) (own plc : Nat → Nat) (str : Nat → List Nat) (c : Nat) (seen : List (List Nat)), p < part → part ≤ L → L - part < n → L - part < fuel → 0 < cnt → cnt + p ≤ part → KI Sd Am kh kp ko kn own plc str c → KB own plc str c part → 4 * c ≤ part → (∀ i, i < c → plc i ≠ p) → (obj = true → ∀ s, s ∈ seen ↔ ∃ j, j < c ∧ own j = p ∧ str j = s) → (last = -1 ∨ ∃ la, last = nI la ∧ p < la ∧ la < part) →
      (∃ w u, sgrp (sval T L d) T L obj cl n part seen = .inl w ∧ m_X7_readGroup_76 fv T (nI L) fuel Sd In Nx Am wp kh kp ko kn (nI c) (nI p) (nI (24 - d)) (nI cl) (nI part) last (nI cnt) = some (-1, u) ∧ u.2.2.2.2.1 = nI w) ∨
      (∃ l q Sd' In' Nx' Am' kh' kp' ko' kn' own' plc' str' c', sgrp (sval T L d) T L obj cl n part seen = .inr (l, q) ∧ m_X7_readGroup_76 fv T (nI L) fuel Sd In Nx Am wp kh kp ko kn (nI c) (nI p) (nI (24 - d)) (nI cl) (nI part) last (nI cnt) = some (nI q, (Sd', In', Nx', Am', wp, kh', kp', ko', kn', nI c')) ∧ RG T L d p part q cnt obj last l Sd In Nx Am Sd' In' Nx' Am' kh' kp' ko' kn' own plc str c own' plc' str' c') := by
  intro n
  induction n with
  | zero => intro fuel part cnt last Sd In Nx Am kh kp ko kn own plc str c seen _ _ h; exact absurd h (Nat.not_lt_zero _)
  | succ n ih =>
    intro fuel part cnt last Sd In Nx Am kh kp ko kn own plc str c seen hp hpa hn hf hc0 hcp hI hB h4 hne hse hla
    obtain ⟨fuel, rfl⟩ : ∃ k, fuel = k + 1 := ⟨fuel - 1, by omega⟩
    simp only [m_X7_readGroup_76]
    rw [if_neg (nI_nlt (a := L) (b := cnt) (by omega) (by omega)), hob]
    simp only [Option.bind_some]
    cases obj with
    | false =>
      rw [if_pos (show (if false = true then (1 : Int32) else 0) = 0 by decide)]
      exact rgrp_rest hL hd hfv hcl wp n fuel (ih fuel) (s := []) hp (Nat.le_refl _) hpa hn hf hc0 hcp hI (hB.mono (Nat.le_refl _)) hne KM.refl (fun z => absurd z (by decide)) hla (fun _ _ => rfl) (fun _ _ => rfl) (fun _ _ => rfl) (fun z => absurd z (by decide)) rfl
    | true =>
      rw [if_neg (show ¬ (if true = true then (1 : Int32) else 0) = 0 by decide)]
      rcases rkey_eq (T := T) (In := In) hL wp hI (fun i hi => ⟨(hB.2 i hi).1, (hB.2 i hi).2.1⟩) (hse rfl) (fun h => by omega) (show p < 4096 by omega) hpa with ⟨w, Sd', In', Am', kh', kp', ko', kn', kc', g1, g2⟩ | ⟨v, s, kh', kp', ko', kn', g1, g2, g3, g4⟩
      · rw [g2]
        simp only [Option.bind_some, sgrp, g1, if_true]
        unfold m_X7_readGroup_105
        rw [if_pos rfl]
        unfold m_X7_readGroup_126
        rw [if_pos rfl]
        exact Or.inl ⟨w, _, rfl, rfl, rfl⟩
      · obtain ⟨b, s1, s2, s3, s4, s5, s6, s7, s8⟩ := skey_p g1
        obtain ⟨w1, w2, w3⟩ := wrS_all s Sd part (sstrf_b _ _ _ _ s2)
        rw [g2]
        simp only [Option.bind_some]
        refine rgrp_rest hL hd hfv hcl wp n fuel (ih fuel) (s := s) hp (by omega) (by omega) hn hf hc0 hcp g4 ⟨by omega, fun i hi => ?_⟩ (fun i hi => ?_) ⟨by omega, fun i hi => ?_, fun i i1 i2 => ?_⟩ (fun _ x => ?_) hla (fun i hi => ?_) (fun i hi => pk_un (by omega)) (fun i hi => pk_un (by omega)) (fun _ => ⟨by omega, pk_us, ⟨b, s2⟩, g3⟩) (by rw [if_pos rfl]; exact g1)
        · by_cases q : i = c
          · subst q
            rw [pset_s, pset_s, pset_s]
            omega
          · rw [pset_n q, pset_n q, pset_n q]
            have := hB.2 i (by omega)
            omega
        · by_cases q : i = c
          · subst q
            rw [pset_s]
            omega
          · rw [pset_n q]
            exact hne i (by omega)
        · rw [pset_n (by omega), pset_n (by omega), pset_n (by omega)]
          exact ⟨rfl, rfl, rfl⟩
        · have q : i = c := by omega
          subst q
          rw [pset_s, pset_s]
          omega
        · rw [List.mem_cons, hse rfl x]
          constructor
          · rintro (q | ⟨j, j1, j2, j3⟩)
            · exact ⟨c, by omega, by rw [pset_s], by rw [pset_s, q]⟩
            · exact ⟨j, by omega, by rw [pset_n (by omega)]; exact j2, by rw [pset_n (by omega)]; exact j3⟩
          · rintro ⟨j, j1, j2, j3⟩
            by_cases q : j = c
            · subst q
              rw [pset_s] at j3
              exact Or.inl j3.symm
            · rw [pset_n q] at j2 j3
              exact Or.inr ⟨j, by omega, j2, j3⟩
        · rcases hi with hi | hi
          · exact w1 i hi
          · exact w2 i (by omega)
theorem rgrp_eq (hL : L ≤ 4096) {fv : FP} {d : Nat} (hd : d ≤ 24) (hfv : 0 < d → okC T L fv d) (Sd In Nx Am : Nat → Int32) (wp : Int32) (kh kp ko kn : Nat → Int32) (own plc : Nat → Nat) (str : Nat → List Nat) (c p : Nat) (hI : KI Sd Am kh kp ko kn own plc str c) (hB : KB own plc str c p) (hg : cb T L p = 91 ∨ cb T L p = 123) :
    (∃ w u, sval T L (d + 1) p = .inl w ∧ m_X7_readGroup fv T Sd In Nx Am (nI L) wp kh kp ko kn (nI c) (nI p) (nI (24 - d)) = some (-1, u) ∧ u.2.2.2.2.1 = nI w) ∨
    (∃ q Sd' In' Nx' Am' kh' kp' ko' kn' own' plc' str' c', sval T L (d + 1) p = .inr q ∧ m_X7_readGroup fv T Sd In Nx Am (nI L) wp kh kp ko kn (nI c) (nI p) (nI (24 - d)) = some (nI q, (Sd', In', Nx', Am', wp, kh', kp', ko', kn', nI c')) ∧ RV T L (d + 1) p q Sd In Nx Am Sd' In' Nx' Am' kh' kp' ko' kn' own plc str c own' plc' str' c') := by
  have hpL : p < L := cb_lt (B := T) (by omega)
  unfold m_X7_readGroup
  simp only [sval]
  rw [if_neg (show ¬ cb T L p = 34 by omega), if_pos hg]
  by_cases h0 : d = 0
  · subst h0
    rw [if_neg (show ¬ nI (24 - 0) < 24 from nI_nlt (a := 24) (b := 24) (Nat.le_refl _) (by decide)), if_pos rfl]
    simp only [m_X7_refuse, Option.bind_some]
    exact Or.inl ⟨p, _, rfl, rfl, rfl⟩
  · rw [if_pos (show nI (24 - d) < 24 from nI_lt (b := 24) (by omega) (by decide)), if_neg h0]
    have hob : m_X7_isObject T (nI L) (nI p) = some (if decide (cb T L p = 123) = true then 1 else 0) := by
      unfold m_X7_isObject
      rw [byt_eq hL (by omega)]
      simp only [Option.bind_some, ub123, decide_eq_true_eq]
      by_cases h : cb T L p = 123
      · rw [if_pos h, if_pos h]
      · rw [if_neg h, if_neg h]
    have h27 : ∀ cl, cl = (if cb T L p = 123 then 125 else 93) → (∃ w u, (if cb T L (sbl T L (p + 1)) = cl then .inr (sbl T L (p + 1) + 1) else sM (sgrp (sval T L d) T L (decide (cb T L p = 123)) cl (L + 1) (sbl T L (p + 1)) [])) = (.inl w : Nat ⊕ Nat) ∧ m_X7_readGroup_27 fv T (nI L) Sd In Nx Am wp kh kp ko kn (nI c) (nI p) (nI (24 - d)) (nI cl) = some (-1, u) ∧ u.2.2.2.2.1 = nI w) ∨
        (∃ q Sd' In' Nx' Am' kh' kp' ko' kn' own' plc' str' c', (if cb T L (sbl T L (p + 1)) = cl then .inr (sbl T L (p + 1) + 1) else sM (sgrp (sval T L d) T L (decide (cb T L p = 123)) cl (L + 1) (sbl T L (p + 1)) [])) = (.inr q : Nat ⊕ Nat) ∧ m_X7_readGroup_27 fv T (nI L) Sd In Nx Am wp kh kp ko kn (nI c) (nI p) (nI (24 - d)) (nI cl) = some (nI q, (Sd', In', Nx', Am', wp, kh', kp', ko', kn', nI c')) ∧ RV T L (d + 1) p q Sd In Nx Am Sd' In' Nx' Am' kh' kp' ko' kn' own plc str c own' plc' str' c') := by
      intro cl hcle
      have hcl : cl < 256 := by rw [hcle]; split <;> omega
      have hb1 := sbl_le (B := T) (L := L) (a := p + 1)
      have hb2 := sbl_le2 (B := T) (L := L) (a := p + 1) (by omega)
      have hKI : KI Sd (upd Am p 0) kh kp ko kn own plc str c := hI.keep (fun i hi => (hI.2.1 i hi).2.2.2.keep (fun _ _ _ => rfl) (pk_un (by have := hB.2 i hi; omega)))
      unfold m_X7_readGroup_27
      rw [etr_eq (by decide) (show p < 4096 by omega)]
      simp only [Option.bind_some]
      rw [etr_eq (by decide) (show p < 4096 by omega)]
      simp only [Option.bind_some, nI_1]
      rw [bbl_eq hL (by omega)]
      simp only [Option.bind_some]
      rw [byt_eq hL (by omega)]
      simp only [Option.bind_some, nI_1]
      by_cases h1 : cb T L (sbl T L (p + 1)) = cl
      · have hlt : sbl T L (p + 1) < L := cb_lt (B := T) (by omega)
        rw [if_pos h1, if_pos ((ub_e (cb_le _ _ _) hcl).mpr h1)]
        refine Or.inr ⟨sbl T L (p + 1) + 1, Sd, upd In p (-1), Nx, upd Am p 0, kh, kp, ko, kn, own, plc, str, c, rfl, rfl, fun _ _ => rfl, fun i hi => pk_un (by omega), fun _ _ => rfl, fun i hi => pk_un (by omega), ⟨fun q => by omega, fun _ => ⟨[], Or.inl ⟨by rw [← hcle]; exact h1, rfl⟩, by rw [pk_us]; exact nI_0.symm, pk_us, fun k hk => absurd hk List.not_mem_nil⟩⟩, hKI, hB.mono (by omega), KM.refl, ?_⟩
        have := hB.1
        omega
      · rw [if_neg h1, if_neg (fun z => h1 ((ub_e (cb_le _ _ _) hcl).mp z))]
        have h4 : 4 * c ≤ sbl T L (p + 1) := by have := hB.1; omega
        have g := rgrp_go hL hd (hfv (by omega)) hcl hob wp (L + 1) sr_fuel (sbl T L (p + 1)) 1 (-1) Sd (upd In p (-1)) Nx (upd Am p 0) kh kp ko kn own plc str c [] (by omega) hb2 (by omega) (by unfold sr_fuel; omega) (by decide) (by omega) hKI (hB.mono (by omega)) h4 (fun i hi => by have := hB.2 i hi; omega) (fun _ s => ⟨fun z => absurd z List.not_mem_nil, fun ⟨j, j1, j2, _⟩ => by have := hB.2 j j1; omega⟩) (Or.inl rfl)
        rw [show nI 1 = 1 from rfl] at g
        rcases g with ⟨w, u, e1, e2, e3⟩ | ⟨l, q, Sd', In', Nx', Am', kh', kp', ko', kn', own', plc', str', c', e1, e2, e3⟩
        · rw [e1]
          exact Or.inl ⟨w, u, rfl, e2, e3⟩
        · obtain ⟨z1, z2, z3, z4, z5, z6, z7, z8, z9, z10⟩ := e3
          have hq := sgrp_p hcl (sval_p d) _ _ _ _ _ e1
          rw [if_pos rfl] at z2 z3
          rw [e1]
          refine Or.inr ⟨q, Sd', In', Nx', Am', kh', kp', ko', kn', own', plc', str', c', rfl, e2, fun i hi => z1 i (by omega), fun i hi => ?_, fun i hi => z3 i (by omega), fun i hi => ?_, ⟨fun q => by omega, fun _ => ⟨l, Or.inr ⟨by rw [← hcle]; exact h1, q, by rw [← hcle]; exact e1⟩, ?_, ?_, fun k hk => ?_⟩⟩, z7, z8, z9, z10⟩
          · rw [z2 i (by omega), pk_un (by omega), pk_un (by omega)]
          · rw [z4 i (by omega), pk_un (by omega), pk_un (by omega)]
          · rw [z4 p (Or.inl (by omega)), pk_us]
            congr 1
            omega
          · rw [z2 p (Or.inl (by omega)), pk_us]
            exact z5
          · obtain ⟨t1, t2⟩ := z6 k hk
            exact ⟨t1, fun q => t2 (by rw [q]; rfl)⟩
    rw [hob]
    by_cases h : cb T L p = 123
    · have e1 : (if decide (cb T L p = 123) = true then (1 : Int32) else 0) = 1 := by simp [h]
      rw [e1]
      simp only [Option.bind_some]
      rw [if_neg (show ¬ (1 : Int32) = 0 by decide)]
      have := h27 125 (by rw [if_pos h])
      simp only [if_pos h]
      exact this
    · have e1 : (if decide (cb T L p = 123) = true then (1 : Int32) else 0) = 0 := by simp [h]
      rw [e1]
      simp only [Option.bind_some]
      rw [if_pos trivial]
      have := h27 93 (by rw [if_neg h])
      simp only [if_neg h]
      exact this
end CRDV
