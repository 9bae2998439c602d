-- the class's values and the whole text, exactly
section CVAL
variable {T : Nat → Int32} {L : Nat}
theorem isn_eq (hL : L ≤ 4096) {a : Nat} (ha : a < 2 ^ 31) : m_X7_isNumber T (nI L) (nI a) = some (if cb T L a = 45 ∨ (48 ≤ cb T L a ∧ cb T L a ≤ 57) then 1 else 0) := by
  unfold m_X7_isNumber
  rw [byt_eq hL ha]
  simp only [Option.bind_some, ub45, dig_eq]
  by_cases h : cb T L a = 45
  · rw [if_pos h, if_pos (Or.inl h)]
  · rw [if_neg h]
    by_cases h2 : 48 ≤ cb T L a ∧ cb T L a ≤ 57
    · simp only [if_pos h2, Option.bind_some]
      rw [if_neg (by decide), if_pos (Or.inr h2)]
    · simp only [if_neg h2, Option.bind_some, if_true]
      rw [if_neg (by omega)]
theorem leaf_ok {Sd In Nx Am kh kp ko kn : Nat → Int32} {own plc : Nat → Nat} {str : Nat → List Nat} {c p q d : Nat} (hI : KI Sd Am kh kp ko kn own plc str c) (hB : KB own plc str c p) (hpq : p < q) (h1 : cb T L p ≠ 34) (h2 : cb T L p ≠ 91) (h3 : cb T L p ≠ 123) : RV T L (d + 1) p q Sd In Nx Am Sd In Nx Am kh kp ko kn own plc str c own plc str c := by
  refine ⟨fun _ _ => rfl, fun _ _ => rfl, fun _ _ => rfl, fun _ _ => rfl, ⟨fun z => absurd z h1, fun z => ?_⟩, hI, hB.mono (by omega), KM.refl, by have := hB.1; omega⟩
  rcases z with z | z
  · exact absurd z h2
  · exact absurd z h3
theorem rval_eq (hL : L ≤ 4096) : ∀ (D d : Nat), 0 < d → d ≤ 25 → d ≤ D → okC T L (m_X7_readValue D) d := by
  intro D
  induction D with
  | zero => intro d h1 _ h2; omega
  | succ D ih =>
    intro d h0 h25 hD
    obtain ⟨e, rfl⟩ : ∃ e, d = e + 1 := ⟨d - 1, by omega⟩
    intro Sd In Nx Am wp kh kp ko kn own plc str c p hp hI hB
    have ed : 25 - (e + 1) = 24 - e := by omega
    have hgr := rgrp_eq (T := T) hL (fv := m_X7_readValue D) (d := e) (by omega) (fun h => ih e h (by omega) (by omega)) Sd In Nx Am wp kh kp ko kn own plc str c p hI hB
    simp only [m_X7_readValue]
    rw [byt_eq hL (by omega), ed]
    simp only [Option.bind_some, ub34, ub91, ub102, ub110, ub116, ub123]
    by_cases c1 : cb T L p = 34
    · have hlt : p < L := cb_lt (B := T) (by omega)
      rw [if_pos c1]
      simp only [sval]
      rw [if_pos c1]
      rcases rstr_eq (T := T) (Sd := Sd) (Am := Am) hL wp hlt with ⟨w, Sd', g1, g2⟩ | ⟨s, b, g1, g2, g3, g4, g5⟩
      · rw [g2, g1]
        exact Or.inl ⟨w, _, rfl, rfl, rfl⟩
      · rw [g5, g1]
        obtain ⟨w1, w2, w3⟩ := wrS_all s Sd p (sstrf_b _ _ _ _ g1)
        refine Or.inr ⟨b, wrS Sd p s, In, Nx, upd Am p (nI s.length), kh, kp, ko, kn, own, plc, str, c, rfl, rfl, fun i hi => ?_, fun _ _ => rfl, fun _ _ => rfl, fun i hi => pk_un (by omega), ⟨fun _ => ⟨s, b, g1, by omega, by omega, pk_us, w3⟩, fun z => by omega⟩, hI.keep (fun i hi => (hI.2.1 i hi).2.2.2.keep (fun x x1 x2 => w1 x (by have := hB.2 i hi; omega)) (pk_un (by have := hB.2 i hi; omega))), hB.mono (by omega), KM.refl, by have := hB.1; omega⟩
        rcases hi with hi | hi
        · exact w1 i hi
        · exact w2 i (by omega)
    rw [if_neg c1]
    by_cases c2 : cb T L p = 91
    · rw [if_pos c2]
      rcases hgr (Or.inl c2) with ⟨w, u, g1, g2, g3⟩ | ⟨q, Sd', In', Nx', Am', kh', kp', ko', kn', own', plc', str', c', g1, g2, g3⟩
      · rw [g2]
        exact Or.inl ⟨w, u, g1, rfl, g3⟩
      · rw [g2]
        exact Or.inr ⟨q, Sd', In', Nx', Am', kh', kp', ko', kn', own', plc', str', c', g1, rfl, g3⟩
    rw [if_neg c2]
    by_cases c3 : cb T L p = 102
    · rw [if_pos c3, rwrd_eq hL (w := 1) (by decide) wp hp]
      have hv : sval T L (e + 1) p = swd T L (wdl 1) p := by
        simp only [sval]
        rw [if_neg c1, if_neg (by omega), if_pos c3]
      rw [hv]
      cases hs : swd T L (wdl 1) p with
      | inl w => exact Or.inl ⟨w, _, rfl, rfl, rfl⟩
      | inr q => exact Or.inr ⟨q, Sd, In, Nx, Am, kh, kp, ko, kn, own, plc, str, c, rfl, rfl, leaf_ok hI hB (sval_p (e + 1) p q (hv.trans hs)).1 c1 c2 (by omega)⟩
    rw [if_neg c3]
    by_cases c4 : cb T L p = 110
    · rw [if_pos c4, rwrd_eq hL (w := 2) (by decide) wp hp]
      have hv : sval T L (e + 1) p = swd T L (wdl 2) p := by
        simp only [sval]
        rw [if_neg c1, if_neg (by omega), if_neg c3, if_pos c4]
      rw [hv]
      cases hs : swd T L (wdl 2) p with
      | inl w => exact Or.inl ⟨w, _, rfl, rfl, rfl⟩
      | inr q => exact Or.inr ⟨q, Sd, In, Nx, Am, kh, kp, ko, kn, own, plc, str, c, rfl, rfl, leaf_ok hI hB (sval_p (e + 1) p q (hv.trans hs)).1 c1 c2 (by omega)⟩
    rw [if_neg c4]
    by_cases c5 : cb T L p = 116
    · rw [if_pos c5, rwrd_eq hL (w := 0) (by decide) wp hp]
      have hv : sval T L (e + 1) p = swd T L (wdl 0) p := by
        simp only [sval]
        rw [if_neg c1, if_neg (by omega), if_neg c3, if_neg c4, if_pos c5]
      rw [hv]
      cases hs : swd T L (wdl 0) p with
      | inl w => exact Or.inl ⟨w, _, rfl, rfl, rfl⟩
      | inr q => exact Or.inr ⟨q, Sd, In, Nx, Am, kh, kp, ko, kn, own, plc, str, c, rfl, rfl, leaf_ok hI hB (sval_p (e + 1) p q (hv.trans hs)).1 c1 c2 (by omega)⟩
    rw [if_neg c5]
    by_cases c6 : cb T L p = 123
    · rw [if_pos c6]
      rcases hgr (Or.inr c6) with ⟨w, u, g1, g2, g3⟩ | ⟨q, Sd', In', Nx', Am', kh', kp', ko', kn', own', plc', str', c', g1, g2, g3⟩
      · rw [g2]
        exact Or.inl ⟨w, u, g1, rfl, g3⟩
      · rw [g2]
        exact Or.inr ⟨q, Sd', In', Nx', Am', kh', kp', ko', kn', own', plc', str', c', g1, rfl, g3⟩
    rw [if_neg c6, isn_eq hL (by omega)]
    simp only [Option.bind_some, m_X7_refuse]
    by_cases c7 : cb T L p = 45 ∨ (48 ≤ cb T L p ∧ cb T L p ≤ 57)
    · have hlt : p < L := cb_lt (B := T) (by omega)
      simp only [if_pos c7]
      rw [if_neg (by decide), rnum_eq hL wp hlt]
      have hv : sval T L (e + 1) p = snum T L p := by
        simp only [sval]
        rw [if_neg c1, if_neg (by omega), if_neg c3, if_neg c4, if_neg c5, if_pos c7]
      rw [hv]
      cases hs : snum T L p with
      | inl w => exact Or.inl ⟨w, _, rfl, rfl, rfl⟩
      | inr q => exact Or.inr ⟨q, Sd, In, Nx, Am, kh, kp, ko, kn, own, plc, str, c, rfl, rfl, leaf_ok hI hB (snum_p hs).1 c1 c2 c6⟩
    · simp only [if_neg c7, if_true]
      have hv : sval T L (e + 1) p = .inl p := by
        simp only [sval]
        rw [if_neg c1, if_neg (by omega), if_neg c3, if_neg c4, if_neg c5, if_neg c7]
      exact Or.inl ⟨p, _, hv, rfl, rfl⟩
theorem kclr_eq {kh : Nat → Int32} {kc : Int32} : ∃ kh', m_X2_clear kh kc = some (kh', 0) ∧ ∀ b, b < 256 → kh' b = -1 := by
  have go : ∀ (fuel j : Nat) (row : Nat → Int32), j ≤ 256 → 256 - j < fuel → (∀ b, b < j → row b = -1) → ∃ r, m_X24_fill_5 256 fuel row (-1) (nI j) (nI 256) = some r ∧ ∀ b, b < 256 → r b = -1 := by
    intro fuel
    induction fuel with
    | zero => intro j row _ hf; exact absurd hf (Nat.not_lt_zero _)
    | succ fuel ih =>
      intro j row hj hf hr
      simp only [m_X24_fill_5, nI_1]
      by_cases h : 256 ≤ j
      · rw [if_pos (nI_le h (by omega))]
        exact ⟨row, rfl, fun b hb => hr b (by omega)⟩
      · rw [if_neg (fun q => h ((nI_leI (by omega) (by omega)).mp q)), bd_go (show j < 256 by omega) (by decide), nI_clamp (by omega)]
        refine ih (j + 1) _ (by omega) (by omega) (fun b hb => ?_)
        by_cases q : b = j
        · rw [q, pk_us]
        · rw [pk_un q]; exact hr b (by omega)
  obtain ⟨r, h1, h2⟩ := go sr_fuel 0 kh (Nat.zero_le _) (by unfold sr_fuel; omega) (fun b hb => absurd hb (Nat.not_lt_zero _))
  rw [nI_0] at h1
  refine ⟨r, ?_, h2⟩
  unfold m_X2_clear m_X24_fill
  rw [show (Int32.ofNat 256 : Int32) = nI 256 from rfl, h1]
  rfl
/-- the whole text: where its value begins, or where it is wrong -/
def sread (B : Nat → Int32) (L : Nat) : Nat ⊕ Nat := match sval B L 25 (sbl B L 0) with
  | .inl w => .inl w
  | .inr q => if sbl B L q < L then .inl (sbl B L q) else .inr (sbl B L 0)
theorem read_eq (hL : L ≤ 4096) (Sd In Nx Am : Nat → Int32) (wp : Int32) (kh kp ko kn : Nat → Int32) (kc : Int32) :
    (∃ w u, sread T L = .inl w ∧ m_X7_read T Sd In Nx Am (nI L) wp kh kp ko kn kc = some (-1, u) ∧ u.2.2.2.2.1 = nI w) ∨
    (∃ p u, sread T L = .inr p ∧ m_X7_read T Sd In Nx Am (nI L) wp kh kp ko kn kc = some (nI p, u) ∧ p < L ∧ TRE T L u.1 u.2.1 u.2.2.1 u.2.2.2.1 25 p) := by
  obtain ⟨kh', hk1, hk2⟩ := kclr_eq (kh := kh) (kc := kc)
  have hb := sbl_le2 (B := T) (L := L) (a := 0) (Nat.zero_le _)
  have hI : KI Sd Am kh' kp ko kn (fun _ => 0) (fun _ => 0) (fun _ => []) 0 := ⟨by decide, fun i hi => absurd hi (Nat.not_lt_zero _), fun b hb => Or.inl ⟨hk2 b hb, fun i hi => absurd hi (Nat.not_lt_zero _)⟩, fun i hi => absurd hi (Nat.not_lt_zero _)⟩
  have hB : KB (fun _ => 0) (fun _ => 0) (fun _ => []) 0 (sbl T L 0) := ⟨by omega, fun i hi => absurd hi (Nat.not_lt_zero _)⟩
  have hbb := bbl_eq (T := T) hL (a := 0) (by decide)
  rw [nI_0] at hbb
  unfold m_X7_read sread
  rw [hk1]
  simp only [Option.bind_some]
  rw [hbb]
  simp only [Option.bind_some]
  have hv := rval_eq (T := T) hL 27 25 (by decide) (by decide) (by decide) Sd In Nx Am (-1) kh' kp ko kn _ _ _ 0 (sbl T L 0) hb hI hB
  rw [show nI (25 - 25) = 0 from nI_0] at hv
  rcases hv with ⟨w, u, g1, g2, g3⟩ | ⟨q, Sd', In', Nx', Am', kh2, kp2, ko2, kn2, own', plc', str', c', g1, g2, g3⟩
  · obtain ⟨u1, u2, u3, u4, u5, u6, u7, u8, u9, u10⟩ := u
    rw [g2, g1]
    simp only [Option.bind_some, if_true]
    exact Or.inl ⟨w, _, rfl, rfl, g3⟩
  · obtain ⟨hpq, hqL⟩ := sval_p _ _ _ g1
    rw [g2, g1]
    simp only [Option.bind_some]
    rw [if_neg (nI_m1 (by omega)), bbl_eq hL (by omega)]
    simp only [Option.bind_some, m_X7_refuse]
    have hq2 := sbl_le2 (B := T) (L := L) (a := q) hqL
    by_cases h : sbl T L q < L
    · rw [if_pos h, if_neg (fun z => absurd ((nI_leI (by omega) (by omega)).mp z) (by omega))]
      exact Or.inl ⟨_, _, rfl, rfl, rfl⟩
    · rw [if_neg h, if_pos (nI_le (by omega) (by omega))]
      exact Or.inr ⟨_, _, rfl, rfl, by omega, g3.2.2.2.2.1⟩
end CVAL
