-- the reference's list of pairs that must fit
def MO (sa sb : Nat) (x : Option (Int32 × (Nat → Int32) × (Nat → Int32) × Int32)) : Prop := ∃ (z : Int32) (asked pairs : Nat → Int32) (m : Nat), (z = 0 ∨ z = 1) ∧ x = some (z, (asked, pairs, nI m)) ∧ askI asked pairs m sa sb
section ALLs
variable {KA SA LA SoA NaA WiA KiA kSA kNA kXA KB SB LB SoB NaB WiB KiB FaB kSB kNB kDB kXB : Nat → Int32} {NA NB : Nat → Int64} {nA lA shA kcA rtA wA nB lB shB kcB rtB wB : Nat}
theorem may_23 (hA : txtOK nA lA shA kcA KA NA SA SoA NaA WiA KiA kSA kNA kXA rtA wA) (hB : txtOK nB lB shB kcB KB NB SB SoB NaB WiB KiB kSB kNB kXB rtB wB) {r mk : Nat} {c : Nat → Nat} (hr : r < shB) (hc : ∀ i, i < mk → c i < kcA ∧ kXA (c i) = (if i + 1 = mk then -1 else nI (c (i + 1))) ∧ ∃ x, kSA (c i) = nI x ∧ x < shA) : ∀ (fuel i : Nat) (asked pairs : Nat → Int32) (m : Nat), i ≤ mk → mk - i < fuel → askI asked pairs m shA shB →
    MO shA shB (m_X10_may_23 NA SA LA SoA NaA WiA KiA kSA kNA kXA NB SB LB SoB NaB WiB KiB FaB kSB kNB kDB kXB fuel asked pairs (nI m) (nI r) (if i = mk then -1 else nI (c i))) := by
  obtain ⟨a1, a2, a3, a4, a5, a6, a7, a8⟩ := id hA
  obtain ⟨b1, b2, b3, b4, b5, b6, b7, b8⟩ := id hB
  intro fuel
  induction fuel with
  | zero => intro i asked pairs m _ hf; exact absurd hf (Nat.not_lt_zero _)
  | succ fuel ih =>
    intro i asked pairs m hi hf hI
    by_cases him : i = mk
    · simp only [if_pos him, m_X10_may_23, if_pos (show (-1 : Int32) < 0 by decide)]
      exact ⟨1, asked, pairs, m, Or.inr rfl, rfl, hI⟩
    · obtain ⟨c1, c2, x, c3, c4⟩ := hc i (by omega)
      obtain ⟨asked', pairs', m', h1, h2, h3⟩ := ask_ok hI a4 b4 c4 hr
      simp only [if_neg him, m_X10_may_23, if_neg (nI_pos (show c i < 2 ^ 31 by omega)), bd_go (show c i < 2200 by omega) (by decide), bd_gc (show c i < 2200 by omega) (by decide), nI_clamp (show c i < 2 ^ 31 by omega), c3, h1, Option.bind_some, c2]
      exact ih (i + 1) asked' pairs' m' (by omega) (by omega) h2
theorem may_256 (hA : txtOK nA lA shA kcA KA NA SA SoA NaA WiA KiA kSA kNA kXA rtA wA) (hB : txtOK nB lB shB kcB KB NB SB SoB NaB WiB KiB kSB kNB kXB rtB wB) {w r mk : Nat} {c : Nat → Nat} (hr : r < shB) (h10 : SoB r = 10) (hc : ∀ i, i < mk → c i < kcA ∧ kXA (c i) = (if i + 1 = mk then -1 else nI (c (i + 1))) ∧ ∃ y sy, kNA (c i) = nI y ∧ strN KA NA SA nA lA y sy) {asked pairs : Nat → Int32} {m : Nat} (hI : askI asked pairs m shA shB) : ∀ (fuel i : Nat) (x6 : Int32), i ≤ mk → mk - i < fuel →
    MO shA shB (m_X10_may_256 NA SA LA SoA NaA WiA KiA kSA kNA kXA NB SB LB SoB NaB WiB KiB FaB kSB kNB kDB kXB fuel asked pairs (nI m) (nI r) x6 (if i = mk then -1 else nI (c i))) := by
  obtain ⟨a1, a2, a3, a4, a5, a6, a7, a8⟩ := id hA
  obtain ⟨b1, b2, b3, b4, b5, b6, b7, b8⟩ := id hB
  have r6 := hB.six h10 (Or.inr (Or.inr (Or.inr (Or.inr (Or.inl rfl)))))
  obtain ⟨h', c2, a, b, w', r1, r2, r3, r4, r5⟩ := hB.cre r6 hr
  obtain ⟨-, nx, sz, mb, cb, W, y1, y2, y3, y4, y5, y6, y7⟩ := r5.enm h10
  intro fuel
  induction fuel with
  | zero => intro i x6 _ hf; exact absurd hf (Nat.not_lt_zero _)
  | succ fuel ih =>
    intro i x6 hi hf
    by_cases him : i = mk
    · simp only [if_pos him, m_X10_may_256, if_pos (show (-1 : Int32) < 0 by decide), bd_go (show r < 140 by omega) (by decide), bd_gc (show r < 140 by omega) (by decide), nI_clamp (show r < 2 ^ 31 by omega)]
      by_cases h1 : 0 ≤ FaB r
      · simp only [if_pos h1]; exact ⟨1, asked, pairs, m, Or.inr rfl, rfl, hI⟩
      · simp only [if_neg h1]
        by_cases h2 : x6 = 0
        · simp only [if_pos h2]; exact ⟨0, asked, pairs, m, Or.inl rfl, rfl, hI⟩
        · simp only [if_neg h2]; exact ⟨1, asked, pairs, m, Or.inr rfl, rfl, hI⟩
    · obtain ⟨c1, c2', y, sy, c3, c4⟩ := hc i (by omega)
      obtain ⟨z, hz⟩ := symbol_ok (Lt := LB) (Lt' := LA) (c := cb) (Ki := KiB) (kN := kNB) (kX := kXB) (m := mb) (sh := shB) (kc := kcB) b1 b2 a1 a2 hr (by omega) (by omega) (by omega) c4 (by rw [y4, if_neg (by omega)]) (fun j hj => by
        obtain ⟨d1, d2, d3, y', sy', d4, d5, -⟩ := y7 j hj
        exact ⟨by omega, d3, y', sy', d4, d5⟩)
      have hz' := hz NB NA SB SA LB LA KiB kNB kXB
      simp only [ov_self] at hz'
      simp only [if_neg him, m_X10_may_256, if_neg (nI_pos (show c i < 2 ^ 31 by omega)), m_X10_may_287, m_X10_may_288, bd_go (show c i < 2200 by omega) (by decide), bd_gc (show c i < 2200 by omega) (by decide), nI_clamp (show c i < 2 ^ 31 by omega), c2', c3, hz', Option.bind_some]
      by_cases h2 : x6 = 0
      · simp only [if_pos h2]; exact ih (i + 1) 0 (by omega) (by omega)
      · simp only [if_neg h2]
        by_cases h3 : z < 0
        · simp only [if_pos h3]; exact ih (i + 1) 0 (by omega) (by omega)
        · simp only [if_neg h3]; exact ih (i + 1) 1 (by omega) (by omega)
theorem may_335 (hA : txtOK nA lA shA kcA KA NA SA SoA NaA WiA KiA kSA kNA kXA rtA wA) (hB : txtOK nB lB shB kcB KB NB SB SoB NaB WiB KiB kSB kNB kXB rtB wB) {w mk : Nat} {c : Nat → Nat} (hw : w < shA) (h11 : SoA w = 11) (hc : ∀ i, i < mk → c i < kcB ∧ kXB (c i) = (if i + 1 = mk then -1 else nI (c (i + 1))) ∧ ∃ y sy x, kNB (c i) = nI y ∧ strN KB NB SB nB lB y sy ∧ kSB (c i) = nI x ∧ x < shB) : ∀ (fuel i : Nat) (x6 : Int32) (asked pairs : Nat → Int32) (m : Nat), (x6 = 0 ∨ x6 = 1) → i ≤ mk → mk - i < fuel → askI asked pairs m shA shB →
    MO shA shB (m_X10_may_335 NA SA LA SoA NaA WiA KiA kSA kNA kXA NB SB LB SoB NaB WiB KiB FaB kSB kNB kDB kXB fuel asked pairs (nI m) (nI w) 11 x6 (if i = mk then -1 else nI (c i))) := by
  obtain ⟨a1, a2, a3, a4, a5, a6, a7, a8⟩ := id hA
  obtain ⟨b1, b2, b3, b4, b5, b6, b7, b8⟩ := id hB
  intro fuel
  induction fuel with
  | zero => intro i x6 asked pairs m _ _ hf; exact absurd hf (Nat.not_lt_zero _)
  | succ fuel ih =>
    intro i x6 asked pairs m hx6 hi hf hI
    by_cases him : i = mk
    · simp only [if_pos him, m_X10_may_335, if_pos (show (-1 : Int32) < 0 by decide), if_pos hx6]
      exact ⟨x6, asked, pairs, m, hx6, rfl, hI⟩
    · obtain ⟨c1, c2, y, sy, x, c3, c4, c5, c6⟩ := hc i (by omega)
      obtain ⟨z, hz1, hz2⟩ := fld_like (LA := LA) (LB := LB) hA hB hw h11 c1 c3 c4
      have tail : ∀ (asked pairs : Nat → Int32) (m : Nat) (x8 : Int32), askI asked pairs m shA shB → MO shA shB (m_X10_may_380 NA SA LA SoA NaA WiA KiA kSA kNA kXA NB SB LB SoB NaB WiB KiB FaB kSB kNB kDB kXB (m_X10_may_335 NA SA LA SoA NaA WiA KiA kSA kNA kXA NB SB LB SoB NaB WiB KiB FaB kSB kNB kDB kXB fuel) asked pairs (nI m) (nI w) 11 x6 (nI (c i)) x8) := by
        intro asked pairs m x8 hI
        have i0 := ih (i + 1) 0 asked pairs m (Or.inl rfl) (by omega) (by omega) hI
        have i1 := ih (i + 1) 1 asked pairs m (Or.inr rfl) (by omega) (by omega) hI
        simp only [m_X10_may_380, m_X10_may_404, m_X10_may_400, m_X10_may_405, bd_go (show c i < 2200 by omega) (by decide), bd_gc (show c i < 2200 by omega) (by decide), nI_clamp (show c i < 2 ^ 31 by omega), c2]
        by_cases h1 : x6 = 0
        · simp only [if_pos h1]; exact i0
        · simp only [if_neg h1]
          by_cases h2 : 0 ≤ x8
          · simp only [if_pos h2]; exact i1
          · simp only [if_neg h2]
            by_cases h3 : kDB (c i) < 0
            · simp only [if_pos h3]; exact i0
            · simp only [if_neg h3]; exact i1
      simp only [if_neg him, m_X10_may_335, if_neg (nI_pos (show c i < 2 ^ 31 by omega)), if_true, hz2, Option.bind_some]
      rcases hz1 with rfl | ⟨k, x', k1, rfl, k2, k3⟩
      · simp only [if_pos (show (-1 : Int32) < 0 by decide)]
        exact tail asked pairs m (-1) hI
      · obtain ⟨asked', pairs', m', h1, h2, h3⟩ := ask_ok hI a4 b4 k3 c6
        simp only [if_neg (nI_pos (show k < 2 ^ 31 by omega)), bd_go (show k < 2200 by omega) (by decide), bd_gc (show k < 2200 by omega) (by decide), nI_clamp (show k < 2 ^ 31 by omega), bd_go (show c i < 2200 by omega) (by decide), bd_gc (show c i < 2200 by omega) (by decide), nI_clamp (show c i < 2 ^ 31 by omega), k2, c5, h1, Option.bind_some]
        exact tail asked' pairs' m' (nI k) h2
theorem may_ok (hA : txtOK nA lA shA kcA KA NA SA SoA NaA WiA KiA kSA kNA kXA rtA wA) (hB : txtOK nB lB shB kcB KB NB SB SoB NaB WiB KiB kSB kNB kXB rtB wB) {w r m : Nat} {asked pairs : Nat → Int32} (hI : askI asked pairs m shA shB) (hw : w < shA) (hr : r < shB) : MO shA shB (m_X10_may asked pairs (nI m) NA SA LA SoA NaA WiA KiA kSA kNA kXA NB SB LB SoB NaB WiB KiB FaB kSB kNB kDB kXB (nI w) (nI r)) := by
  obtain ⟨a1, a2, a3, a4, a5, a6, a7, a8⟩ := id hA
  obtain ⟨b1, b2, b3, b4, b5, b6, b7, b8⟩ := id hB
  have st : ∀ z : Int32, (z = 0 ∨ z = 1) → MO shA shB (some (z, (asked, pairs, nI m))) := fun z hz => ⟨z, asked, pairs, m, hz, rfl, hI⟩
  simp only [m_X10_may, bd_go (show w < 140 by omega) (by decide), bd_gc (show w < 140 by omega) (by decide), nI_clamp (show w < 2 ^ 31 by omega), bd_go (show r < 140 by omega) (by decide), bd_gc (show r < 140 by omega) (by decide), nI_clamp (show r < 2 ^ 31 by omega)]
  by_cases e8 : SoA w = 8
  · simp only [if_pos e8]
    have w6 := hA.six e8 (Or.inr (Or.inr (Or.inl rfl)))
    obtain ⟨h', c2, a, b, w', r1, r2, r3, r4, r5⟩ := hA.cre w6 hw
    obtain ⟨mk, c, t, bb, W, y1, y2, y3, y4, y5, y6, y7⟩ := r5.uni e8
    have := may_23 (LA := LA) (LB := LB) (FaB := FaB) (kDB := kDB) hA hB hr (mk := mk) (c := c) (fun i hi => by
      obtain ⟨d1, d2, d3, d4, d5, d6, x, w2, d7, d8, d9, d10⟩ := y7 i hi
      have hx := d8.lt (by omega)
      exact ⟨by omega, d6, x, d7, by omega⟩) sr_fuel 0 asked pairs m (by omega) (by unfold sr_fuel; omega) hI
    rw [if_neg (by omega)] at this
    simp only [y2]
    exact this
  simp only [if_neg e8]
  by_cases e8' : SoB r = 8
  · simp only [if_pos e8']
    obtain ⟨z, hz1, hz2⟩ := bra_ok (LA := LA) (LB := LB) hA hB hw hr e8'
    simp only [hz2, Option.bind_some]
    rcases hz1 with rfl | ⟨k, x, k1, rfl, k2, k3⟩
    · simp only [if_pos (show (-1 : Int32) < 0 by decide)]
      exact st 0 (Or.inl rfl)
    · obtain ⟨asked', pairs', m', h1, h2, h3⟩ := ask_ok hI a4 b4 hw k3
      simp only [if_neg (nI_pos (show k < 2 ^ 31 by omega)), bd_go (show k < 2200 by omega) (by decide), bd_gc (show k < 2200 by omega) (by decide), nI_clamp (show k < 2 ^ 31 by omega), k2, h1, Option.bind_some]
      exact ⟨1, asked', pairs', m', Or.inr rfl, rfl, h2⟩
  simp only [if_neg e8', m_X10_sixOf]
  have h126 : ∀ x5 : Int32, MO shA shB (m_X10_may_126 NA SA LA SoA NaA WiA KiA kSA kNA kXA NB SB LB SoB NaB WiB KiB FaB kSB kNB kDB kXB asked pairs (nI m) (nI r) x5) := by
    intro x5
    unfold m_X10_may_126 m_X10_sixOf m_X10_matchesSix m_X10_matchesSix_15
    simp only [bd_go (show r < 140 by omega) (by decide), bd_gc (show r < 140 by omega) (by decide), nI_clamp (show r < 2 ^ 31 by omega)]
    repeat' (first | exact st 0 (Or.inl rfl) | exact st 1 (Or.inr rfl) | (split; all_goals try simp only [Option.bind_some]))
  by_cases hw6 : 6 ≤ SoA w
  case neg =>
    simp only [if_neg hw6, Option.bind_some, if_neg (show ¬ (1 : Int32) = 0 by decide)]
    exact h126 _
  simp only [if_pos hw6, Option.bind_some, if_true]
  by_cases hr6 : 6 ≤ SoB r
  case neg =>
    simp only [if_neg hr6, Option.bind_some, if_neg (show ¬ (1 : Int32) = 0 by decide)]
    exact h126 _
  simp only [if_pos hr6, Option.bind_some, if_true]
  have w6 := hA.ge hw6
  have r6 := hB.ge hr6
  by_cases heq : SoA w = SoB r
  case neg => simp only [if_neg heq]; exact st 0 (Or.inl rfl)
  simp only [if_pos heq]
  obtain ⟨h', c2, ka, kb, w', r1, r2, r3, r4, r5⟩ := hA.cre w6 hw
  obtain ⟨h2', c2', ka', kb', w2', q1, q2, q3, q4, q5⟩ := hB.cre r6 hr
  have harr : SoA w = 6 ∨ SoA w = 7 → MO shA shB (m_X10_may_196 NA SA LA SoA NaA WiA KiA kSA kNA kXA NB SB LB SoB NaB WiB KiB FaB kSB kNB kDB kXB asked pairs (nI m) (nI w) (nI r)) := by
    intro e67
    obtain ⟨t, w2, y1, y2, y3, y4, y5, -⟩ := r5.arr e67
    obtain ⟨t', w4, x1, x2, x3, x4, x5, -⟩ := q5.arr (by rw [← heq]; exact e67)
    have ht := y5.lt (by omega)
    have ht' := x5.lt (by omega)
    obtain ⟨asked', pairs', m', h1, h2, h3⟩ := ask_ok hI a4 b4 (show t < shA by omega) (show t' < shB by omega)
    simp only [m_X10_may_196, bd_go (show w < 140 by omega) (by decide), bd_gc (show w < 140 by omega) (by decide), nI_clamp (show w < 2 ^ 31 by omega), y1, bd_go (show ka < 2200 by omega) (by decide), bd_gc (show ka < 2200 by omega) (by decide), nI_clamp (show ka < 2 ^ 31 by omega), y4, bd_go (show r < 140 by omega) (by decide), bd_gc (show r < 140 by omega) (by decide), nI_clamp (show r < 2 ^ 31 by omega), x1, bd_go (show ka' < 2200 by omega) (by decide), bd_gc (show ka' < 2200 by omega) (by decide), nI_clamp (show ka' < 2 ^ 31 by omega), x4, h1, Option.bind_some]
    exact ⟨1, asked', pairs', m', Or.inr rfl, rfl, h2⟩
  by_cases e6 : SoA w = 6
  · simp only [if_pos e6]; exact harr (Or.inl e6)
  simp only [if_neg e6]
  by_cases e7 : SoA w = 7
  · simp only [if_pos e7]; exact harr (Or.inr e7)
  simp only [if_neg e7]
  obtain ⟨z, hz1, hz2⟩ := mat150 (LA := LA) (LB := LB) hA hB hw hr
  simp only [hz2, Option.bind_some]
  by_cases h0 : z = 0
  · simp only [if_pos h0]; exact st 0 (Or.inl rfl)
  simp only [if_neg h0]
  by_cases e10 : SoA w = 10
  · simp only [if_pos e10]
    obtain ⟨-, nx, sz, mk, c, W, y1, y2, y3, y4, y5, y6, y7⟩ := r5.enm e10
    have := may_256 (LA := LA) (LB := LB) (FaB := FaB) (kDB := kDB) (w := w) hA hB hr (heq.symm.trans e10) (mk := mk) (c := c) (fun i hi => by
      obtain ⟨d1, d2, d3, y, sy, d4, d5, -⟩ := y7 i hi
      exact ⟨by omega, d3, y, sy, d4, d5⟩) hI sr_fuel 0 1 (by omega) (by unfold sr_fuel; omega)
    rw [if_neg (by omega)] at this
    simp only [y4]
    exact this
  simp only [if_neg e10]
  by_cases e11 : SoA w = 11
  · obtain ⟨nx, sz, mk, c, t, e, W, y1, y2, y3, y4, y5, y6, y7, y8⟩ := q5.rec' (heq.symm.trans e11)
    have hst : (if mk = 0 then (-1 : Int32) else nI (c 0)) = (if 0 = mk then -1 else nI (c 0)) := by
      by_cases h0 : mk = 0
      · rw [if_pos h0, if_pos h0.symm]
      · rw [if_neg h0, if_neg (fun q => h0 q.symm)]
    simp only [e11, y3, hst]
    exact may_335 (LA := LA) (LB := LB) (FaB := FaB) (kDB := kDB) hA hB hw e11 (fun i hi => by
      obtain ⟨d1, d2, d3, d4, d5, d6, y, sy, x, w2, d7, d8, d9, d10, d11⟩ := y8 i hi
      have hx := d10.lt (by omega)
      exact ⟨by omega, d6, y, sy, x, d7, d8, d9, by omega⟩) sr_fuel 0 1 asked pairs m (Or.inr rfl) (by omega) (by unfold sr_fuel; omega) hI
  · have e : ∀ (fuel : Nat) (x7 : Int32), m_X10_may_335 NA SA LA SoA NaA WiA KiA kSA kNA kXA NB SB LB SoB NaB WiB KiB FaB kSB kNB kDB kXB (fuel + 1) asked pairs (nI m) (nI w) (SoA w) 1 x7 = some (1, (asked, pairs, nI m)) := by
      intro fuel x7
      simp only [m_X10_may_335, if_neg e11, or_true, if_true]
      split <;> rfl
    have e' : m_X10_may_335 NA SA LA SoA NaA WiA KiA kSA kNA kXA NB SB LB SoB NaB WiB KiB FaB kSB kNB kDB kXB sr_fuel asked pairs (nI m) (nI w) (SoA w) 1 (KiB r) = some (1, (asked, pairs, nI m)) := e 99999 _
    rw [e']
    exact st 1 (Or.inr rfl)
theorem fa44 (hA : txtOK nA lA shA kcA KA NA SA SoA NaA WiA KiA kSA kNA kXA rtA wA) (hB : txtOK nB lB shB kcB KB NB SB SoB NaB WiB KiB kSB kNB kXB rtB wB) {ra rb : Int32} : ∀ (fuel k : Nat) (x3 : Int32) (asked pairs : Nat → Int32) (m : Nat), (x3 = 0 ∨ x3 = 1) → k ≤ 19600 → 19600 - k < fuel → askI asked pairs m shA shB →
    MO shA shB (m_X10_fitsAll_44 NA SA LA SoA NaA WiA KiA kSA kNA kXA ra NB SB LB SoB NaB WiB KiB FaB kSB kNB kDB kXB rb fuel asked pairs (nI m) x3 (nI k)) := by
  obtain ⟨a1, a2, a3, a4, a5, a6, a7, a8⟩ := id hA
  obtain ⟨b1, b2, b3, b4, b5, b6, b7, b8⟩ := id hB
  intro fuel
  induction fuel with
  | zero => intro k x3 asked pairs m _ _ hf; exact absurd hf (Nat.not_lt_zero _)
  | succ fuel ih =>
    intro k x3 asked pairs m hx3 hk hf hI
    have hm : m ≤ 19600 := by rw [hI.1]; exact cntN_le _ _
    by_cases hc : m ≤ k
    · simp only [m_X10_fitsAll_44, if_pos (nI_le hc (show k < 2 ^ 31 by omega)), if_pos hx3]
      exact ⟨x3, asked, pairs, m, hx3, rfl, hI⟩
    · by_cases h0 : x3 = 0
      · simp only [m_X10_fitsAll_44, if_neg (nI_ge (show k < m by omega) (by omega)), if_pos h0, if_pos hx3]
        exact ⟨x3, asked, pairs, m, hx3, rfl, hI⟩
      · obtain ⟨w, r, hw, hr, hp⟩ := hI.2 k (by omega)
        have e1 : nI (140 * w + r) / 140 = nI w := by
          rw [show (140 : Int32) = nI 140 from rfl, pk_div (by omega) (by omega) (by omega), show (140 * w + r) / 140 = w by omega]
        have e2 : nI (140 * w + r) - nI w * 140 = nI r := by
          have := pk_rem (a := 140 * w + r) (d := 140) (by omega) (by omega) (by omega)
          rw [show nI 140 = (140 : Int32) from rfl, e1, show (140 * w + r) % 140 = r by omega] at this
          exact this
        obtain ⟨z, asked', pairs', m', z1, z2, z3⟩ := may_ok (LA := LA) (LB := LB) (FaB := FaB) (kDB := kDB) hA hB hI hw hr
        simp only [m_X10_fitsAll_44, if_neg (nI_ge (show k < m by omega) (by omega)), if_neg h0, bd_go (show k < 19600 by omega) (by decide), bd_gc (show k < 19600 by omega) (by decide), nI_clamp (show k < 2 ^ 31 by omega), hp, e1, e2, z2, Option.bind_some, nI_1]
        exact ih (k + 1) z asked' pairs' m' z1 (by omega) (by omega) z3
theorem all_ok (hA : txtOK nA lA shA kcA KA NA SA SoA NaA WiA KiA kSA kNA kXA rtA wA) (hB : txtOK nB lB shB kcB KB NB SB SoB NaB WiB KiB kSB kNB kXB rtB wB) (asked pairs : Nat → Int32) (many : Int32) : MO shA shB (m_X10_fitsAll asked pairs many NA SA LA SoA NaA WiA KiA kSA kNA kXA (nI rtA) NB SB LB SoB NaB WiB KiB FaB kSB kNB kDB kXB (nI rtB)) := by
  obtain ⟨a1, a2, a3, a4, a5, a6, a7, a8⟩ := id hA
  obtain ⟨b1, b2, b3, b4, b5, b6, b7, b8⟩ := id hB
  have e0 : vp_nar .boolean 0 = 0 := by decide +kernel
  have go : ∀ (fuel i : Nat), i ≤ 19600 → 19600 - i < fuel → m_X10_fitsAll_2 NA SA LA SoA NaA WiA KiA kSA kNA kXA (nI rtA) NB SB LB SoB NaB WiB KiB FaB kSB kNB kDB kXB (nI rtB) fuel (ov i (fun _ => 0) asked) pairs many (nI i) = m_X10_fitsAll_2 NA SA LA SoA NaA WiA KiA kSA kNA kXA (nI rtA) NB SB LB SoB NaB WiB KiB FaB kSB kNB kDB kXB (nI rtB) 1 (ov 19600 (fun _ => 0) asked) pairs many (nI 19600) := by
    intro fuel
    induction fuel with
    | zero => intro i _ hf; exact absurd hf (Nat.not_lt_zero _)
    | succ fuel ih =>
      intro i hi hf
      by_cases hc : 19600 ≤ i
      · have : i = 19600 := by omega
        subst this
        simp only [m_X10_fitsAll_2, if_pos (show (19600 : Int32) ≤ nI 19600 from nI_le (a := 19600) (by omega) (by omega))]
      · have h2 : upd (ov i (fun _ => (0 : Int32)) asked) i 0 = ov (i + 1) (fun _ => 0) asked := by
          rw [ov_push, upd_self (f := fun _ => (0 : Int32)) rfl]
        rw [← ih (i + 1) (by omega) (by omega)]
        rw [show m_X10_fitsAll_2 NA SA LA SoA NaA WiA KiA kSA kNA kXA (nI rtA) NB SB LB SoB NaB WiB KiB FaB kSB kNB kDB kXB (nI rtB) (fuel + 1) (ov i (fun _ => 0) asked) pairs many (nI i) = m_X10_fitsAll_2 NA SA LA SoA NaA WiA KiA kSA kNA kXA (nI rtA) NB SB LB SoB NaB WiB KiB FaB kSB kNB kDB kXB (nI rtB) fuel (upd (ov i (fun _ => 0) asked) i 0) pairs many (nI i + 1) by
          rw [m_X10_fitsAll_2]
          simp only [if_neg (show ¬ (19600 : Int32) ≤ nI i from nI_ge (b := 19600) (by omega) (by omega)), bd_go (show i < 19600 by omega) (by decide), bd_gc (show i < 19600 by omega) (by decide), nI_clamp (show i < 2 ^ 31 by omega), e0]]
        rw [h2, nI_1]
  have s1 := go sr_fuel 0 (by omega) (by unfold sr_fuel; omega)
  rw [ov_0, nI_0] at s1
  rw [m_X10_fitsAll, s1]
  have hI0 : askI (ov 19600 (fun _ => 0) asked) pairs 0 shA shB := ⟨(cntN_0 19600 (fun i hi => ov_lt hi)).symm, fun j hj => absurd hj (Nat.not_lt_zero _)⟩
  obtain ⟨asked', pairs', m', h1, h2, h3⟩ := ask_ok hI0 a4 b4 (a7.lt (Nat.le_refl _)) (b7.lt (Nat.le_refl _))
  rw [nI_0] at h1
  simp only [m_X10_fitsAll_2, if_pos (show (19600 : Int32) ≤ nI 19600 from nI_le (a := 19600) (by omega) (by omega)), h1, Option.bind_some]
  have := fa44 (LA := LA) (LB := LB) (FaB := FaB) (kDB := kDB) (ra := nI rtA) (rb := nI rtB) hA hB sr_fuel 0 1 asked' pairs' m' (Or.inr rfl) (by omega) (by unfold sr_fuel; omega) h2
  rw [nI_0] at this
  exact this
end ALLs
