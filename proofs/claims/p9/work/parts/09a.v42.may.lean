-- the reference's fits and matches: never stuck
theorem ov_self {α : Type} {n : Nat} {f : Nat → α} : ov n f f = f := funext fun i => by
  show (if i < n then f i else f i) = f i
  split <;> rfl
section MONOT
variable {T T' : Nat → Nat → Prop} {So Na Wi Ki kS kN kX : Nat → Int32}
theorem base.monoT (hT : ∀ x sz, T x sz → T' x sz) {s c c' w : Nat} (h : base T So Na s c c' w) : base T' So Na s c c' w := by
  obtain ⟨b1, b2 | ⟨b2, b3, b4, x, sz, b5, b6, b7⟩⟩ := h
  · exact ⟨b1, Or.inl b2⟩
  · exact ⟨b1, Or.inr ⟨b2, b3, b4, x, sz, b5, hT _ _ b6, b7⟩⟩
theorem Occ.monoT (hT : ∀ x sz, T x sz → T' x sz) : ∀ (h s c c' k0 k1 w : Nat), Occ T So Na Wi Ki kS kN kX h s c c' k0 k1 w → Occ T' So Na Wi Ki kS kN kX h s c c' k0 k1 w := by
  intro h
  induction h with
  | zero => intro s c c' k0 k1 w ho; exact base.monoT hT ho
  | succ h ih =>
    intro s c c' k0 k1 w ho
    rcases ho with ho | ⟨e1, e2, ho⟩
    · exact Or.inl (base.monoT hT ho)
    · refine Or.inr ⟨e1, e2, ?_⟩
      rcases ho with ⟨c1, t, w', c2, c3, c4, c5, c6, c7⟩ | ⟨c1, m, c, t, b, W, c2, c3, c4, c5, c6, c7, c8⟩ | ⟨c1, c2, x, sz, d, c3, c4, c5⟩ | ⟨c1, c2, x, sz, m, c, W, c3, c4, c5, c6, c7, c8, c9⟩ | ⟨c1, x, sz, m, c, t, e, W, c3, c4, c5, c6, c7, c8, c9, c10⟩
      · exact Or.inl ⟨c1, t, w', c2, c3, c4, c5, ih _ _ _ _ _ _ c6, c7⟩
      · refine Or.inr (Or.inl ⟨c1, m, c, t, b, W, c2, c3, c4, c5, c6, c7, fun i hi => ?_⟩)
        obtain ⟨d1, d2, d3, d4, d5, d6, x, w', d7, d8, d9⟩ := c8 i hi
        exact ⟨d1, d2, d3, d4, d5, d6, x, w', d7, ih _ _ _ _ _ _ d8, d9⟩
      · exact Or.inr (Or.inr (Or.inl ⟨c1, c2, x, sz, d, c3, hT _ _ c4, c5⟩))
      · refine Or.inr (Or.inr (Or.inr (Or.inl ⟨c1, c2, x, sz, m, c, W, c3, hT _ _ c4, c5, c6, c7, c8, fun i hi => ?_⟩)))
        obtain ⟨d1, d2, d3, y, sy, d4, d5, d6⟩ := c9 i hi
        exact ⟨d1, d2, d3, y, sy, d4, hT _ _ d5, d6⟩
      · refine Or.inr (Or.inr (Or.inr (Or.inr ⟨c1, x, sz, m, c, t, e, W, c3, ⟨hT _ _ c4.1, c4.2⟩, c5, c6, c7, c8, c9, fun i hi => ?_⟩)))
        obtain ⟨d1, d2, d3, d4, d5, d6, y, sy, z, w', d7, d8, d9, d10, d11⟩ := c10 i hi
        exact ⟨d1, d2, d3, d4, d5, d6, y, sy, z, w', d7, hT _ _ d8, d9, ih _ _ _ _ _ _ d10, d11⟩
end MONOT
/-- the rows as they lie: what is known of a text that was read holds of them -/
theorem txtOK.conc {n l sh kc : Nat} {K S So Na Wi Ki kS kN kX tK tS tSo tNa tWi tKi tkS tkN tkX : Nat → Int32} {N tN : Nat → Int64} {root w : Nat} (h : txtOK n l sh kc K N S So Na Wi Ki kS kN kX root w) :
    txtOK n l sh kc (ov n K tK) (ov n N tN) (ov n S tS) (ov sh So tSo) (ov sh Na tNa) (ow sh Wi tWi) (ov sh Ki tKi) (ov kc kS tkS) (ov kc kN tkN) (ov kc kX tkX) root w := by
  obtain ⟨h1, h2, h3, h4, h5, h6, h7, h8⟩ := h
  have hT : ∀ x sz, strN K N S n l x sz → strN (ov n K tK) (ov n N tN) (ov n S tS) n l x sz := fun x sz ⟨q1, q2, q3, st, q4, q5⟩ => ⟨q1, by rw [ov_lt q1]; exact q2, by rw [ov_lt q1]; exact q3, st, by rw [ov_lt q1]; exact q4, q5⟩
  refine ⟨h1, h2, h3, h4, h5, ⟨fun s hs => by rw [ov_lt (by omega)]; exact h6.1 s hs, fun s s6 hs => ?_⟩, ?_, h8⟩
  · rw [ov_lt hs, ov_lt hs]
    rcases h6.2 s s6 hs with q | ⟨q, x, sz, q1, q2⟩
    · exact Or.inl q
    · exact Or.inr ⟨q, x, sz, q1, hT _ _ q2⟩
  · refine Occ.monoT hT _ _ _ _ _ _ _ (Occ.keep 16 root 6 sh 0 kc w (Nat.le_refl _) h7 (fun i hi => ⟨(ov_lt hi).symm, (ov_lt hi).symm⟩) (fun i i6 hi => ⟨(ow_lt i6 hi).symm, (ov_lt hi).symm⟩) (fun i _ hi => ⟨(ov_lt hi).symm, (ov_lt hi).symm, (ov_lt hi).symm⟩))
section MAYs
variable {KA SA LA SoA NaA WiA KiA kSA kNA kXA KB SB LB SoB NaB WiB KiB FaB kSB kNB kDB kXB : Nat → Int32} {NA NB : Nat → Int64} {nA lA shA kcA rtA wA nB lB shB kcB rtB wB : Nat}
theorem txtOK.cre {n l sh kc : Nat} {K S So Na Wi Ki kS kN kX : Nat → Int32} {N : Nat → Int64} {root w : Nat} (h : txtOK n l sh kc K N S So Na Wi Ki kS kN kX root w) {s : Nat} (h6 : 6 ≤ s) (hs : s < sh) : ∃ h' c2 a b w', h' < 16 ∧ s < c2 ∧ c2 ≤ sh ∧ b ≤ kc ∧ Cre (strN K N S n l) So Na Wi Ki kS kN kX (Occ (strN K N S n l) So Na Wi Ki kS kN kX h') s c2 a b w' := by
  obtain ⟨h', c2, a', b', w', r1, r2, r3, r4, r5, r6⟩ := Occ.all 16 root 6 sh 0 kc w h.2.2.2.2.2.2.1 s h6 hs
  exact ⟨h', c2, a', b', w', r1, r2, r3, r5, r6⟩
theorem txtOK.six {n l sh kc : Nat} {K S So Na Wi Ki kS kN kX : Nat → Int32} {N : Nat → Int64} {root w : Nat} (h : txtOK n l sh kc K N S So Na Wi Ki kS kN kX root w) {s : Nat} {k : Int32} (hk : So s = k) (hk2 : k = 6 ∨ k = 7 ∨ k = 8 ∨ k = 9 ∨ k = 10 ∨ k = 11) : 6 ≤ s := by
  apply Nat.le_of_not_lt
  intro q
  rw [h.2.2.2.2.2.1.1 s q] at hk
  obtain ⟨a1, a2, a3, a4, a5, a6⟩ := six_ne s q
  rcases hk2 with e | e | e | e | e | e <;> rw [e] at hk
  · exact a1 hk
  · exact a2 hk
  · exact a3 hk
  · exact a4 hk
  · exact a5 hk
  · exact a6 hk
theorem txtOK.ge {n l sh kc : Nat} {K S So Na Wi Ki kS kN kX : Nat → Int32} {N : Nat → Int64} {root w : Nat} (h : txtOK n l sh kc K N S So Na Wi Ki kS kN kX root w) {s : Nat} (hk : 6 ≤ So s) : 6 ≤ s := by
  apply Nat.le_of_not_lt
  intro q
  rw [h.2.2.2.2.2.1.1 s q] at hk
  have : ∀ s, s < 6 → ¬ (6 : Int32) ≤ nI s := by decide
  exact this s q hk
theorem m48 {f : (Nat → Int64) → (Nat → Int32) → (Nat → Int32) → (Nat → Int32) → (Nat → Int32) → (Nat → Int32) → (Nat → Int32) → (Nat → Int32) → (Nat → Int64) → (Nat → Int32) → (Nat → Int32) → (Nat → Int32) → (Nat → Int32) → (Nat → Int32) → (Nat → Int32) → (Nat → Int32) → Int32 → Int32 → Option Int32} {x y : Int32} : ∃ z : Int32, (z = 0 ∨ z = 1) ∧ m_X10_matchesT_48 f NA SA LA SoA NaA WiA KiA kSA NB SB LB SoB NaB WiB KiB kSB x y = some z := by
  unfold m_X10_matchesT_48 m_X10_sixOf m_X10_matchesSix m_X10_matchesSix_15
  repeat' (first | exact ⟨0, Or.inl rfl, rfl⟩ | exact ⟨1, Or.inr rfl, rfl⟩ | (split; all_goals try simp only [Option.bind_some]))
theorem mat_ok (hA : txtOK nA lA shA kcA KA NA SA SoA NaA WiA KiA kSA kNA kXA rtA wA) (hB : txtOK nB lB shB kcB KB NB SB SoB NaB WiB KiB kSB kNB kXB rtB wB) : ∀ (D w r : Nat), w < shA → r < shB → 0 < D → (w < 6 ∨ (SoA w = 9 ∨ SoA w = 10 ∨ SoA w = 11) ∨ ∃ h c' a b w', h + 1 < D ∧ c' ≤ shA ∧ b ≤ kcA ∧ Cre (strN KA NA SA nA lA) SoA NaA WiA KiA kSA kNA kXA (Occ (strN KA NA SA nA lA) SoA NaA WiA KiA kSA kNA kXA h) w c' a b w') →
    ∃ z : Int32, (z = 0 ∨ z = 1) ∧ m_X10_matchesT D NA SA LA SoA NaA WiA KiA kSA NB SB LB SoB NaB WiB KiB kSB (nI w) (nI r) = some z := by
  intro D
  induction D with
  | zero => intro w r _ _ hf; exact absurd hf (Nat.not_lt_zero _)
  | succ D ih =>
    intro w r hw hr _ hwh
    obtain ⟨a1, a2, a3, a4, a5, a6, a7, a8⟩ := id hA
    obtain ⟨b1, b2, b3, b4, b5, b6, b7, b8⟩ := id hB
    simp only [m_X10_matchesT, bd_go (show w < 140 by omega) (by decide), bd_gc (show w < 140 by omega) (by decide), nI_clamp (show w < 2 ^ 31 by omega), bd_go (show r < 140 by omega) (by decide), bd_gc (show r < 140 by omega) (by decide), nI_clamp (show r < 2 ^ 31 by omega)]
    by_cases e8 : SoA w = 8
    · simp only [if_pos e8]; exact ⟨1, Or.inr rfl, rfl⟩
    simp only [if_neg e8]
    by_cases e8' : SoB r = 8
    · simp only [if_pos e8']; exact ⟨1, Or.inr rfl, rfl⟩
    simp only [if_neg e8', m_X10_sixOf]
    by_cases hw6 : 6 ≤ SoA w
    case neg =>
      simp only [if_neg hw6, Option.bind_some, if_neg (show ¬ (1 : Int32) = 0 by decide)]
      exact m48
    simp only [if_pos hw6, Option.bind_some, if_true]
    by_cases hr6 : 6 ≤ SoB r
    case neg =>
      simp only [if_neg hr6, Option.bind_some, if_neg (show ¬ (1 : Int32) = 0 by decide)]
      exact m48
    simp only [if_pos hr6, Option.bind_some, if_true]
    have w6 := hA.ge hw6
    have r6 := hB.ge hr6
    by_cases heq : SoA w = SoB r
    case neg => simp only [if_neg heq]; exact ⟨0, Or.inl rfl, rfl⟩
    simp only [if_pos heq]
    have harr : SoA w = 6 ∨ SoA w = 7 → ∃ z : Int32, (z = 0 ∨ z = 1) ∧ m_X10_matchesT_103 (m_X10_matchesT D) NA SA LA SoA NaA WiA KiA kSA NB SB LB SoB NaB WiB KiB kSB (nI w) (nI r) = some z := by
      intro e67
      obtain ⟨h, c', ka, kb, w', q0, q1, q2, hcre⟩ : ∃ h c' a b w', h + 1 < D + 1 ∧ c' ≤ shA ∧ b ≤ kcA ∧ Cre (strN KA NA SA nA lA) SoA NaA WiA KiA kSA kNA kXA (Occ (strN KA NA SA nA lA) SoA NaA WiA KiA kSA kNA kXA h) w c' a b w' := by
        rcases hwh with q | q | q
        · omega
        · rcases e67 with e | e <;> rw [e] at q <;> exact absurd q (by decide)
        · exact q
      obtain ⟨t, w2, y1, y2, y3, y4, y5, -⟩ := hcre.arr e67
      obtain ⟨h', c2, ka', kb', w3, z1, z2, z3, z4, hcre'⟩ := hB.cre r6 hr
      obtain ⟨t', w4, x1, x2, x3, x4, x5, -⟩ := hcre'.arr (by rw [← heq]; exact e67)
      have ht := y5.lt (by omega)
      have ht' := x5.lt (by omega)
      simp only [m_X10_matchesT_103, bd_go (show w < 140 by omega) (by decide), bd_gc (show w < 140 by omega) (by decide), nI_clamp (show w < 2 ^ 31 by omega), y1, bd_go (show ka < 2200 by omega) (by decide), bd_gc (show ka < 2200 by omega) (by decide), nI_clamp (show ka < 2 ^ 31 by omega), y4, bd_go (show r < 140 by omega) (by decide), bd_gc (show r < 140 by omega) (by decide), nI_clamp (show r < 2 ^ 31 by omega), x1, bd_go (show ka' < 2200 by omega) (by decide), bd_gc (show ka' < 2200 by omega) (by decide), nI_clamp (show ka' < 2 ^ 31 by omega), x4]
      have hnext : t < 6 ∨ (SoA t = 9 ∨ SoA t = 10 ∨ SoA t = 11) ∨ ∃ h c' a b w', h + 1 < D ∧ c' ≤ shA ∧ b ≤ kcA ∧ Cre (strN KA NA SA nA lA) SoA NaA WiA KiA kSA kNA kXA (Occ (strN KA NA SA nA lA) SoA NaA WiA KiA kSA kNA kXA h) t c' a b w' := by
        have hb : base (strN KA NA SA nA lA) SoA NaA t (w + 1) c' w2 → t < 6 ∨ (SoA t = 9 ∨ SoA t = 10 ∨ SoA t = 11) := by
          rintro ⟨-, ⟨q, -⟩ | ⟨-, -, q, -⟩⟩
          · exact Or.inl q
          · exact Or.inr q
        cases h with
        | zero => exact (hb y5).imp id Or.inl
        | succ h =>
          rcases y5 with q | ⟨-, -, q2'⟩
          · exact (hb q).imp id Or.inl
          · exact Or.inr (Or.inr ⟨h, c', ka + 1, kb, w2, by omega, q1, q2, q2'⟩)
      obtain ⟨z, hz1, hz2⟩ := ih t t' (by omega) (by omega) (by omega) hnext
      refine ⟨z, hz1, ?_⟩
      simp only [hz2, Option.bind_some, if_pos hz1]
    by_cases e6 : SoA w = 6
    · simp only [if_pos e6]; exact harr (Or.inl e6)
    simp only [if_neg e6]
    by_cases e7 : SoA w = 7
    · simp only [if_pos e7]; exact harr (Or.inr e7)
    simp only [if_neg e7]
    have hnA : ∃ x sz, NaA w = nI x ∧ strN KA NA SA nA lA x sz := by
      rcases a6.2 w w6 hw with ⟨q | q | q, -⟩ | ⟨-, q⟩
      · exact absurd q e6
      · exact absurd q e7
      · exact absurd q e8
      · exact q
    have hnB : ∃ x sz, NaB r = nI x ∧ strN KB NB SB nB lB x sz := by
      rcases b6.2 r r6 hr with ⟨q | q | q, -⟩ | ⟨-, q⟩
      · exact absurd (heq.trans q) e6
      · exact absurd (heq.trans q) e7
      · exact absurd q e8'
      · exact q
    obtain ⟨x, sx, hx, hx2⟩ := hnA
    obtain ⟨y, sy, hy, hy2⟩ := hnB
    obtain ⟨z, -, hz⟩ := same_ok (Lt := LA) (Lt' := LB) a1 a2 b1 b2 hx2 hy2
    have hz' := hz NA NB SA SB LA LB
    simp only [ov_self] at hz'
    simp only [hx, hy, hz', Option.bind_some]
    repeat' split
    all_goals first | exact ⟨0, Or.inl rfl, rfl⟩ | exact ⟨1, Or.inr rfl, rfl⟩
theorem mat150 (hA : txtOK nA lA shA kcA KA NA SA SoA NaA WiA KiA kSA kNA kXA rtA wA) (hB : txtOK nB lB shB kcB KB NB SB SoB NaB WiB KiB kSB kNB kXB rtB wB) {w r : Nat} (hw : w < shA) (hr : r < shB) : ∃ z : Int32, (z = 0 ∨ z = 1) ∧ m_X10_matchesT 150 NA SA LA SoA NaA WiA KiA kSA NB SB LB SoB NaB WiB KiB kSB (nI w) (nI r) = some z := by
  refine mat_ok hA hB 150 w r hw hr (by omega) ?_
  by_cases h6 : w < 6
  · exact Or.inl h6
  · obtain ⟨h', c2, a, b, w', r1, r2, r3, r4, r5⟩ := hA.cre (by omega) hw
    exact Or.inr (Or.inr ⟨h', c2, a, b, w', by omega, r3, r4, r5⟩)
theorem bra_ok (hA : txtOK nA lA shA kcA KA NA SA SoA NaA WiA KiA kSA kNA kXA rtA wA) (hB : txtOK nB lB shB kcB KB NB SB SoB NaB WiB KiB kSB kNB kXB rtB wB) {w r : Nat} (hw : w < shA) (hr : r < shB) (h8 : SoB r = 8) : ∃ z : Int32, (z = -1 ∨ ∃ k x, k < kcB ∧ z = nI k ∧ kSB k = nI x ∧ x < shB) ∧ m_X10_branchFor NA SA LA SoA NaA WiA KiA kSA NB SB LB SoB NaB WiB KiB kSB kXB (nI w) (nI r) = some z := by
  obtain ⟨b1, b2, b3, b4, b5, b6, b7, b8⟩ := id hB
  have r6 := hB.six h8 (Or.inr (Or.inr (Or.inl rfl)))
  obtain ⟨h', c2, a, b, w', r1, r2, r3, r4, r5⟩ := hB.cre r6 hr
  obtain ⟨m, c, t, bb, W, y1, y2, y3, y4, y5, y6, y7⟩ := r5.uni h8
  have go : ∀ (fuel i : Nat), i ≤ m → m - i < fuel → ∃ z : Int32, (z = -1 ∨ ∃ k x, k < kcB ∧ z = nI k ∧ kSB k = nI x ∧ x < shB) ∧ m_X10_branchFor_8 NA SA LA SoA NaA WiA KiA kSA NB SB LB SoB NaB WiB KiB kSB kXB fuel (nI w) (if i = m then -1 else nI (c i)) = some z := by
    intro fuel
    induction fuel with
    | zero => intro i _ hf; exact absurd hf (Nat.not_lt_zero _)
    | succ fuel ih =>
      intro i hi hf
      by_cases him : i = m
      · simp only [if_pos him, m_X10_branchFor_8, if_pos (show (-1 : Int32) < 0 by decide)]
        exact ⟨-1, Or.inl rfl, rfl⟩
      · obtain ⟨d1, d2, d3, d4, d5, d6, x, w2, d7, d8, d9, d10⟩ := y7 i (by omega)
        have hx := d8.lt (by omega)
        obtain ⟨z, hz1, hz2⟩ := mat150 (LA := LA) (LB := LB) hA hB hw (show x < shB by omega)
        simp only [if_neg him, m_X10_branchFor_8, if_neg (nI_pos (show c i < 2 ^ 31 by omega)), bd_go (show c i < 2200 by omega) (by decide), bd_gc (show c i < 2200 by omega) (by decide), nI_clamp (show c i < 2 ^ 31 by omega), d7, hz2, Option.bind_some, d6]
        by_cases h0 : z = 0
        · simp only [if_pos h0]
          exact ih (i + 1) (by omega) (by omega)
        · simp only [if_neg h0]
          exact ⟨_, Or.inr ⟨c i, x, by omega, rfl, d7, by omega⟩, rfl⟩
  simp only [m_X10_branchFor, bd_go (show r < 140 by omega) (by decide), bd_gc (show r < 140 by omega) (by decide), nI_clamp (show r < 2 ^ 31 by omega), y2]
  have := go sr_fuel 0 (by omega) (by unfold sr_fuel; omega)
  rw [if_neg (by omega)] at this
  exact this
theorem fld_like (hA : txtOK nA lA shA kcA KA NA SA SoA NaA WiA KiA kSA kNA kXA rtA wA) (hB : txtOK nB lB shB kcB KB NB SB SoB NaB WiB KiB kSB kNB kXB rtB wB) {w k y sy : Nat} (hw : w < shA) (h11 : SoA w = 11) (hk : k < kcB) (hy : kNB k = nI y) (hsy : strN KB NB SB nB lB y sy) : ∃ z : Int32, (z = -1 ∨ ∃ k x, k < kcA ∧ z = nI k ∧ kSA k = nI x ∧ x < shA) ∧ m_X10_fieldLike NA SA LA KiA kNA kXA NB SB LB kNB (nI w) (nI k) = some z := by
  obtain ⟨a1, a2, a3, a4, a5, a6, a7, a8⟩ := id hA
  obtain ⟨b1, b2, b3, b4, b5, b6, b7, b8⟩ := id hB
  have w6 := hA.six h11 (Or.inr (Or.inr (Or.inr (Or.inr (Or.inr rfl)))))
  obtain ⟨h', c2, a, b, w', r1, r2, r3, r4, r5⟩ := hA.cre w6 hw
  obtain ⟨nx, sz, m, c, t, e, W, y1, y2, y3, y4, y5, y6, y7, y8⟩ := r5.rec' h11
  have go : ∀ (fuel i : Nat), i ≤ m → m - i < fuel → ∃ z : Int32, (z = -1 ∨ ∃ k x, k < kcA ∧ z = nI k ∧ kSA k = nI x ∧ x < shA) ∧ m_X10_fieldLike_8 NA SA LA KiA kNA kXA NB SB LB kNB fuel (nI k) (if i = m then -1 else nI (c i)) = some z := by
    intro fuel
    induction fuel with
    | zero => intro i _ hf; exact absurd hf (Nat.not_lt_zero _)
    | succ fuel ih =>
      intro i hi hf
      by_cases him : i = m
      · simp only [if_pos him, m_X10_fieldLike_8, if_pos (show (-1 : Int32) < 0 by decide)]
        exact ⟨-1, Or.inl rfl, rfl⟩
      · obtain ⟨d1, d2, d3, d4, d5, d6, ny, sny, x, w2, d7, d8, d9, d10, d11⟩ := y8 i (by omega)
        have hx := d10.lt (by omega)
        obtain ⟨z, -, hz⟩ := same_ok (Lt := LA) (Lt' := LB) a1 a2 b1 b2 d8 hsy
        have hz' := hz NA NB SA SB LA LB
        simp only [ov_self] at hz'
        simp only [if_neg him, m_X10_fieldLike_8, if_neg (nI_pos (show c i < 2 ^ 31 by omega)), bd_go (show c i < 2200 by omega) (by decide), bd_gc (show c i < 2200 by omega) (by decide), nI_clamp (show c i < 2 ^ 31 by omega), bd_go (show k < 2200 by omega) (by decide), bd_gc (show k < 2200 by omega) (by decide), nI_clamp (show k < 2 ^ 31 by omega), d7, hy, hz', Option.bind_some, d6]
        by_cases h0 : z = 0
        · simp only [if_pos h0]
          exact ih (i + 1) (by omega) (by omega)
        · simp only [if_neg h0]
          exact ⟨_, Or.inr ⟨c i, x, by omega, rfl, d9, by omega⟩, rfl⟩
  have hst : (if m = 0 then (-1 : Int32) else nI (c 0)) = (if 0 = m then -1 else nI (c 0)) := by
    by_cases h0 : m = 0
    · rw [if_pos h0, if_pos h0.symm]
    · rw [if_neg h0, if_neg (fun q => h0 q.symm)]
  simp only [m_X10_fieldLike, bd_go (show w < 140 by omega) (by decide), bd_gc (show w < 140 by omega) (by decide), nI_clamp (show w < 2 ^ 31 by omega), y3, hst]
  exact go sr_fuel 0 (by omega) (by unfold sr_fuel; omega)
end MAYs
/-- how many are not 0 -/
def cntN (f : Nat → Int32) : Nat → Nat
  | 0 => 0
  | n + 1 => cntN f n + (if f n = 0 then 0 else 1)
theorem cntN_le (f : Nat → Int32) : ∀ n, cntN f n ≤ n := by
  intro n
  induction n with
  | zero => exact Nat.le_refl _
  | succ n ih =>
    show cntN f n + (if f n = 0 then 0 else 1) ≤ n + 1
    split <;> omega
theorem cntN_lt {f : Nat → Int32} {k : Nat} (hk : f k = 0) : ∀ n, k < n → cntN f n < n := by
  intro n
  induction n with
  | zero => intro h; omega
  | succ n ih =>
    intro h
    show cntN f n + (if f n = 0 then 0 else 1) < n + 1
    by_cases e : k = n
    · subst e
      have := cntN_le f k
      rw [if_pos hk]; omega
    · have := ih (by omega)
      split <;> omega
theorem cntN_upd {f : Nat → Int32} {k : Nat} (hk : f k = 0) : ∀ n, cntN (upd f k 1) n = cntN f n + (if k < n then 1 else 0) := by
  intro n
  induction n with
  | zero => rfl
  | succ n ih =>
    show cntN (upd f k 1) n + (if upd f k 1 n = 0 then 0 else 1) = cntN f n + (if f n = 0 then 0 else 1) + (if k < n + 1 then 1 else 0)
    rw [ih]
    by_cases e : n = k
    · subst e
      have h1 : ¬ n < n := by omega
      have h2 : n < n + 1 := by omega
      rw [pk_us, hk]
      simp only [if_neg h1, if_pos h2, if_neg (show ¬ (1 : Int32) = 0 by decide), if_true]
    · rw [pk_un e]
      by_cases q : k < n
      · have h2 : k < n + 1 := by omega
        simp only [if_pos q, if_pos h2]
        omega
      · have h2 : ¬ k < n + 1 := by omega
        simp only [if_neg q, if_neg h2]
        omega
theorem cntN_0 {f : Nat → Int32} : ∀ n, (∀ i, i < n → f i = 0) → cntN f n = 0 := by
  intro n
  induction n with
  | zero => intro _; rfl
  | succ n ih =>
    intro h
    show cntN f n + (if f n = 0 then 0 else 1) = 0
    rw [ih (fun i hi => h i (by omega)), if_pos (h n (by omega))]
def askI (asked pairs : Nat → Int32) (m sa sb : Nat) : Prop := m = cntN asked 19600 ∧ ∀ j, j < m → ∃ w r, w < sa ∧ r < sb ∧ pairs j = nI (140 * w + r)
theorem nI_mul (a b : Nat) : nI a * nI b = nI (a * b) := (Int32.ofNat_mul a b).symm
theorem ask_ok {asked pairs : Nat → Int32} {m sa sb w r : Nat} (hI : askI asked pairs m sa sb) (hsa : sa ≤ 134) (hsb : sb ≤ 134) (hw : w < sa) (hr : r < sb) : ∃ (asked' pairs' : Nat → Int32) (m' : Nat), m_X10_ask asked pairs (nI m) (nI w) (nI r) = some (asked', pairs', nI m') ∧ askI asked' pairs' m' sa sb ∧ m ≤ m' := by
  have e : (140 : Int32) * nI w + nI r = nI (140 * w + r) := by
    rw [show (140 : Int32) = nI 140 from rfl, nI_mul, nI_add]
  have e1 : vp_nar .boolean 1 = 1 := by decide +kernel
  have hlt : 140 * w + r < 19600 := by omega
  simp only [m_X10_ask, e, bd_go (show 140 * w + r < 19600 by omega) (by decide), bd_gc (show 140 * w + r < 19600 by omega) (by decide), nI_clamp (show 140 * w + r < 2 ^ 31 by omega)]
  by_cases h0 : asked (140 * w + r) = 0
  · have hm : m < 19600 := by rw [hI.1]; exact cntN_lt h0 19600 hlt
    simp only [if_pos h0, bd_go (show m < 19600 by omega) (by decide), bd_gc (show m < 19600 by omega) (by decide), nI_clamp (show m < 2 ^ 31 by omega), e1, nI_1]
    refine ⟨_, _, m + 1, rfl, ⟨?_, fun j hj => ?_⟩, by omega⟩
    · rw [cntN_upd h0, if_pos hlt, ← hI.1]
    · by_cases q : j = m
      · subst q; exact ⟨w, r, hw, hr, pk_us⟩
      · rw [pk_un q]; exact hI.2 j (by omega)
  · simp only [if_neg h0]
    exact ⟨asked, pairs, m, rfl, hI, Nat.le_refl _⟩
