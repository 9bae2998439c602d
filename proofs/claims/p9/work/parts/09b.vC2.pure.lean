-- what looking leaves as it was, by the telling alone
def dul (fi : List (Nat × Nat × Option Nat)) : List (Nat × Nat) := fi.filterMap (fun x => x.2.2.map (fun p => (x.2.1, p)))
theorem dul_1 (fi : List (Nat × Nat × Option Nat)) (x : Nat × Nat × Option Nat) : (dul (fi ++ [x])).length ≤ (dul fi).length + 1 := by
  unfold dul
  rw [List.filterMap_append, List.length_append]
  obtain ⟨a, b, o⟩ := x
  cases o <;> simp
def DOK (D : List Nat → Option Nat) (G : Nat → Nod) (sc : Nat) : Prop := ∀ w d, D w = some d → d < sc ∧ n_me (G d) = d ∧ 8 ≤ n_kd (G d) ∧ n_kd (G d) ≤ 10
theorem DOK.up {D : List Nat → Option Nat} {G : Nat → Nod} {sc i : Nat} {x : Nod} (h : DOK D G sc) (h1 : n_kd x = n_kd (G i)) (h2 : n_me x = n_me (G i)) : DOK D (upG G i x) sc := by
  intro w d hd
  obtain ⟨a, b, c, e⟩ := h w d hd
  by_cases q : d = i
  · subst q
    rw [upG_s, h1, h2]
    exact ⟨a, b, c, e⟩
  · rw [upG_n q]
    exact ⟨a, b, c, e⟩
def WFs : LSt → Prop
  | (sc, _, _, _, D, fi, G) => DOK D G sc ∧ (dul fi).length ≤ sc
def FQ (s : Nat) : LSt → LSt → Prop
  | (sc, sh, kc, pl, D, fi, G), (sc', sh', kc', pl', D', fi', G') => sc ≤ sc' ∧ sh ≤ sh' ∧ kc ≤ kc' ∧ (∃ t, pl' = pl ++ t) ∧ (∀ i, i < sc → i ≠ s → G' i = G i) ∧ (∀ w i, D w = some i → D' w = some i) ∧ (∀ w i, D' w = some i → D w = some i ∨ sc ≤ i) ∧ (dul fi').length + sc ≤ (dul fi).length + sc' ∧ DOK D' G' sc' ∧ n_kd (G' s) = n_kd (G s) ∧ n_me (G' s) = n_me (G s) ∧ n_sg (G' s) = n_sg (G s) ∧ n_pa (G' s) = n_pa (G s)
def FPs (br : Bool) : LSt → LSt → Prop
  | (sc, sh, kc, pl, D, fi, G), (sc', sh', kc', pl', D', fi', G') => sc < sc' ∧ sh ≤ sh' ∧ kc ≤ kc' ∧ (∃ t, pl' = pl ++ t) ∧ (∀ i, i < sc → G' i = G i) ∧ (∀ w i, D w = some i → D' w = some i) ∧ (∀ w i, D' w = some i → D w = some i ∨ sc ≤ i) ∧ (dul fi').length + sc + 1 ≤ (dul fi).length + sc' ∧ DOK D' G' sc' ∧ n_pa (G' sc) = 999 ∧ (n_me (G' sc) < sc' ∧ n_me (G' (n_me (G' sc))) = n_me (G' sc)) ∧ n_kd (G' (n_me (G' sc))) ≤ 11 ∧ (br = true → n_kd (G' (n_me (G' sc))) ≤ 10)
theorem FQ.refl {s : Nat} {st : LSt} (h : WFs st) : FQ s st st := by
  obtain ⟨sc, sh, kc, pl, D, fi, G⟩ := st
  exact ⟨Nat.le_refl _, Nat.le_refl _, Nat.le_refl _, ⟨[], (List.append_nil _).symm⟩, fun _ _ _ => rfl, fun _ _ h => h, fun _ _ h => Or.inl h, Nat.le_refl _, h.1, rfl, rfl, rfl, rfl⟩
theorem FQ.trans {s : Nat} {a b c : LSt} (h1 : FQ s a b) (h2 : FQ s b c) : FQ s a c := by
  obtain ⟨sc, sh, kc, pl, D, fi, G⟩ := a
  obtain ⟨sc', sh', kc', pl', D', fi', G'⟩ := b
  obtain ⟨sc2, sh2, kc2, pl2, D2, fi2, G2⟩ := c
  obtain ⟨a1, a2, a3, ⟨t, a4⟩, a5, a6, a7, a8, a9, a10, a11, a12, a13⟩ := h1
  obtain ⟨b1, b2, b3, ⟨u, b4⟩, b5, b6, b7, b8, b9, b10, b11, b12, b13⟩ := h2
  refine ⟨by omega, by omega, by omega, ⟨t ++ u, by rw [b4, a4, List.append_assoc]⟩, fun i h1 h2 => (b5 i (by omega) h2).trans (a5 i h1 h2), fun w i h => b6 w i (a6 w i h), fun w i h => ?_, by omega, b9, b10.trans a10, b11.trans a11, b12.trans a12, b13.trans a13⟩
  rcases b7 w i h with q | q
  · exact a7 w i q
  · exact Or.inr (by omega)
theorem FPs.q {br : Bool} {s : Nat} {a b : LSt} (h : FPs br a b) (hs : s < a.1) : FQ s a b := by
  obtain ⟨sc, sh, kc, pl, D, fi, G⟩ := a
  obtain ⟨sc', sh', kc', pl', D', fi', G'⟩ := b
  obtain ⟨a1, a2, a3, a4, a5, a6, a7, a8, a9, a10, a11, a12, a13⟩ := h
  have e := a5 s hs
  exact ⟨by omega, a2, a3, a4, fun i h _ => a5 i h, a6, a7, by omega, a9, by rw [e], by rw [e], by rw [e], by rw [e]⟩
theorem FQ.wf {s : Nat} {a b : LSt} (h : FQ s a b) (hw : WFs a) : WFs b := by
  obtain ⟨sc, sh, kc, pl, D, fi, G⟩ := a
  obtain ⟨sc', sh', kc', pl', D', fi', G'⟩ := b
  obtain ⟨a1, a2, a3, a4, a5, a6, a7, a8, a9, a10, a11, a12, a13⟩ := h
  have := hw.2
  exact ⟨a9, by omega⟩
theorem FQ.wrt {s : Nat} {a b : LSt} (h : FQ s a b) (t : List Nat) : FQ s a (wrt t b) := by
  obtain ⟨sc, sh, kc, pl, D, fi, G⟩ := a
  obtain ⟨sc', sh', kc', pl', D', fi', G'⟩ := b
  obtain ⟨a1, a2, a3, ⟨u, a4⟩, a5⟩ := h
  exact ⟨a1, a2, a3, ⟨u ++ t, by rw [a4, List.append_assoc]⟩, a5⟩
/-- nodes changed at the open slot and at new ones alone -/
theorem FQ.jon {s c : Nat} {a b : LSt} (h : FQ s a b) (hs : s < a.1) (hc : a.1 ≤ c) : FQ s a (jon s c b) := by
  obtain ⟨sc, sh, kc, pl, D, fi, G⟩ := a
  obtain ⟨sc', sh', kc', pl', D', fi', G'⟩ := b
  have hs : s < sc := hs
  have hc : sc ≤ c := hc
  obtain ⟨a1, a2, a3, a4, a5, a6, a7, a8, a9, a10, a11, a12, a13⟩ := h
  refine ⟨a1, a2, a3, a4, fun i h1 h2 => ?_, a6, a7, a8, ?_, ?_⟩
  · rw [upG_n (show i ≠ c by omega), upG_n h2]
    exact a5 i h1 h2
  · exact DOK.up (x := paN (G' c) s) (DOK.up (x := chN (G' s) c) a9 rfl rfl) (congrArg n_kd (upG_n (show c ≠ s by omega))).symm (congrArg n_me (upG_n (show c ≠ s by omega))).symm
  · rw [upG_n (show s ≠ c by omega), upG_s]
    exact ⟨a10, a11, a12, a13⟩
theorem FQ.kid {s : Nat} {a b : LSt} (h : FQ s a b) : FQ s a (kid s b) := by
  obtain ⟨sc, sh, kc, pl, D, fi, G⟩ := a
  obtain ⟨sc', sh', kc', pl', D', fi', G'⟩ := b
  obtain ⟨a1, a2, a3, a4, a5, a6, a7, a8, a9, a10, a11, a12, a13⟩ := h
  refine ⟨a1, a2, by omega, a4, fun i h1 h2 => ?_, a6, a7, a8, DOK.up (x := klN (G' s) kc') a9 rfl rfl, ?_⟩
  · rw [upG_n h2]
    exact a5 i h1 h2
  · rw [upG_s]
    exact ⟨a10, a11, a12, a13⟩
section PURE
variable {T : Nat → Int32} {L : Nat} {Sd In Nx Am K F S I X Lt : Nat → Int32} {N : Nat → Int64} {l : Nat}
theorem VV.two {n p q : Nat} (h : VV T L Sd In Nx Am K F N S I X Lt l n p q) (hc : cb T L p = 91 ∨ cb T L p = 123) : p + 2 ≤ q := by
  obtain ⟨d, m, h1, h2, h3, h4, h5, h25⟩ := h
  cases d with
  | zero => cases h1
  | succ d =>
    have hb := sbl_le (B := T) (L := L) (a := p + 1)
    simp only [sval] at h1
    rw [if_neg (by omega), if_pos hc] at h1
    by_cases c3 : d = 0
    · rw [if_pos c3] at h1; cases h1
    rw [if_neg c3] at h1
    by_cases c4 : cb T L (sbl T L (p + 1)) = (if cb T L p = 123 then 125 else 93)
    · rw [if_pos c4] at h1
      have := Sum.inr.inj h1
      omega
    · rw [if_neg c4] at h1
      cases hs : sgrp (sval T L d) T L (decide (cb T L p = 123)) (if cb T L p = 123 then 125 else 93) (L + 1) (sbl T L (p + 1)) [] with
      | inl w => rw [hs] at h1; cases h1
      | inr r =>
        rw [hs] at h1
        have hz := sgrp_p (by split <;> decide) (sval_p d) _ _ _ _ _ hs
        have := Sum.inr.inj h1
        omega
def okSp (T : Nat → Int32) (L : Nat) (Sd In Nx Am K F : Nat → Int32) (N : Nat → Int64) (S I X Lt : Nat → Int32) (l : Nat) (f : Nat → Bool → LSt → LRs) : Prop := ∀ (p : Nat) (br : Bool) (st st' : LSt) (n q : Nat), VV T L Sd In Nx Am K F N S I X Lt l n p q → WFs st → f p br st = .inr st' → FPs br st st' ∧ st'.2.2.2.1.length ≤ st.2.2.2.1.length + (q - p)
theorem lun_p {f : Nat → Bool → LSt → LRs} (hf : okSp T L Sd In Nx Am K F N S I X Lt l f) {s : Nat} : ∀ (ks : List (Nat × Nat)) (i lo hi : Nat) (st st' : LSt) (hc hr : Int32), s < st.1 → WFs st → LCH T L Sd In Nx Am K F N S I X Lt l ks lo hi hc hr → lun f s ks i st = .inr st' → FQ s st st' ∧ st'.2.2.2.1.length ≤ st.2.2.2.1.length + (hi - lo) + 1 := by
  intro ks
  induction ks with
  | nil =>
    intro i lo hi st st' hc hr hs hw hl h
    simp only [lun] at h
    have e := Sum.inr.inj h
    rw [← e]
    refine ⟨(FQ.refl hw).wrt _, ?_⟩
    obtain ⟨sc, sh, kc, pl, D, fi, G⟩ := st
    show (pl ++ [93]).length ≤ pl.length + (hi - lo) + 1
    rw [List.length_append, List.length_singleton]
    omega
  | cons k t ih =>
    intro i lo hi st st' hc hr hs hw hl h
    obtain ⟨c, b, c1, c2, c3, c4, c5, c6⟩ := hl
    have hb := c4.base
    simp only [lun] at h
    have hw1 := ((FQ.refl (s := s) hw).wrt [if i = 0 then 91 else 44]).wf hw
    cases hv : f k.2 true (wrt [if i = 0 then 91 else 44] st) with
    | inl e => rw [hv] at h; cases h
    | inr st1 =>
      rw [hv] at h
      simp only at h
      obtain ⟨g1, g2⟩ := hf _ _ _ _ _ _ c4 hw1 hv
      by_cases ha : hlk s st.1 st1 = true
      · rw [if_pos ha] at h; cases h
      · rw [if_neg ha] at h
        have hs1 : s < (wrt [if i = 0 then 91 else 44] st).1 := by
          obtain ⟨sc, sh, kc, pl, D, fi, G⟩ := st
          exact hs
        have q1 : FQ s st st1 := ((FQ.refl hw).wrt _).trans (g1.q hs1)
        have q2 := (q1.kid).jon (c := st.1) hs (Nat.le_refl _)
        have hl2 : (jon s st.1 (kid s st1)).2.2.2.1.length ≤ st.2.2.2.1.length + 1 + (b - k.2) := by
          obtain ⟨sc, sh, kc, pl, D, fi, G⟩ := st
          obtain ⟨sc', sh', kc', pl', D', fi', G'⟩ := st1
          have g2 : pl'.length ≤ (pl ++ [if i = 0 then 91 else 44]).length + (b - k.2) := g2
          rw [List.length_append] at g2
          exact g2
        obtain ⟨r1, r2⟩ := ih (i + 1) _ _ _ _ _ _ (by
          obtain ⟨sc, sh, kc, pl, D, fi, G⟩ := st
          obtain ⟨sc', sh', kc', pl', D', fi', G'⟩ := st1
          have := q2.1
          show s < sc'
          have hs : s < sc := hs
          omega) (q2.wf hw) c6 h
        exact ⟨q2.trans r1, by omega⟩
theorem lit_p (hL : L ≤ 4096) (hl : l ≤ 4200) {f : Nat → Bool → LSt → LRs} (hf : okSp T L Sd In Nx Am K F N S I X Lt l f) {s k n p q t0 : Nat} (hk : k = 6 ∨ k = 7) {sc sh kc : Nat} {pl : List Nat} {D : List Nat → Option Nat} {fi : List (Nat × Nat × Option Nat)} {G : Nat → Nod} {st' : LSt} (hs : s + 1 = sc) (hG : G s = mkN 12 s 0 0 [] []) (hw : WFs (sc, sh, kc, pl, D, fi, G)) (hD : ∀ w d, D w = some d → d < s) (hv : VV T L Sd In Nx Am K F N S I X Lt l n p q) (hc : cb T L p = 123) (h0 : mbr T L p (litN 15) = some t0) (h1 : ts T L t0 = litN (3 + k)) (h1' : cb T L t0 = 34) (h : lit T L f s p k (sc, sh, kc, pl, D, fi, G) = .inr st') : FQ s (sc, sh, kc, pl, D, fi, upG G s (mkN k s sh 0 [] [kc])) st' ∧ st'.2.2.2.1.length ≤ pl.length + (q - p) := by
  simp only [lit] at h
  have h15 : (litN 15).length = 4 := by decide
  have h3k : (litN (3 + k)).length = (if k = 6 then 5 else 3) := by rcases hk with e | e <;> (subst e; decide)
  have hwl : (litN (if k = 6 then 16 else 19)).length = (if k = 6 then 5 else 6) := by rcases hk with e | e <;> (subst e; decide)
  have htl : (litN (if k = 6 then 17 else 18)).length = (if k = 6 then 24 else 23) := by rcases hk with e | e <;> (subst e; decide)
  have hne : litN 15 ≠ litN (if k = 6 then 16 else 19) := by rcases hk with e | e <;> (subst e; decide)
  rcases mbc hL hl hv hc (w := 15) (by decide) with ⟨e, _⟩ | ⟨v0, kp0, c0, b0, e0, _, x1, x2, x3, x4, x5, x6⟩
  · rw [h0] at e; cases e
  rw [h0] at e0
  cases e0
  obtain ⟨s0, y1, y2, y3, y4, y5, y6⟩ := x1.str h1'
  rw [y2] at h1
  subst h1
  rcases mbc hL hl hv hc (w := if k = 6 then 16 else 19) (by split <;> decide) with ⟨e, _⟩ | ⟨v, kp, c, b, e, _, z1, z2, z3, z4, z5, z6⟩
  · rw [e] at h; cases h
  rw [e] at h
  simp only at h
  have hap := mb2 hv hc x5 z5 x1 z1 (by rw [x6, z6]; exact hne)
  have hb := z1.base
  have hw1 : WFs (sc, sh + 1, kc + 1, pl ++ litN (if k = 6 then 17 else 18), D, fi, upG G s (mkN k s sh 0 [] [kc])) := by
    refine ⟨fun w d hd => ?_, hw.2⟩
    have := hD w d hd
    rw [upG_n (by omega)]
    exact hw.1 w d hd
  cases hr : f v false (sc, sh + 1, kc + 1, pl ++ litN (if k = 6 then 17 else 18), D, fi, upG G s (mkN k s sh 0 [] [kc])) with
  | inl e => rw [hr] at h; cases h
  | inr st1 =>
    rw [hr] at h
    have e := Sum.inr.inj h
    obtain ⟨g1, g2⟩ := hf _ _ _ _ _ _ z1 hw1 hr
    have q1 := g1.q (s := s) (show s < sc by omega)
    have q0 : FQ s (sc, sh, kc, pl, D, fi, upG G s (mkN k s sh 0 [] [kc])) st1 := by
      obtain ⟨sc', sh', kc', pl', D', fi', G'⟩ := st1
      obtain ⟨a1, a2, a3, ⟨t, a4⟩, a5⟩ := q1
      exact ⟨a1, by omega, by omega, ⟨litN (if k = 6 then 17 else 18) ++ t, by rw [a4, List.append_assoc]⟩, a5⟩
    rw [← e]
    refine ⟨(q0.jon (c := sc) (show s < sc by omega) (Nat.le_refl _)).wrt _, ?_⟩
    obtain ⟨sc', sh', kc', pl', D', fi', G'⟩ := st1
    have g2 : pl'.length ≤ (pl ++ litN (if k = 6 then 17 else 18)).length + (b - v) := g2
    show (pl' ++ [125]).length ≤ pl.length + (q - p)
    rw [List.length_append] at g2 ⊢
    rw [List.length_singleton]
    rcases hk with ek | ek
    · simp only [if_pos ek] at hwl htl h3k z3 g2 ⊢
      omega
    · have e6 : ¬ k = 6 := by omega
      simp only [if_neg e6] at hwl htl h3k z3 g2 ⊢
      omega
end PURE
