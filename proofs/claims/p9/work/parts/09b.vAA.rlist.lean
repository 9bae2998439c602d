-- the reference's lists, as told
def okX (B : Nat → Int32) (L : Nat) (fv : FV) (d D : Nat) : Prop :=
  ∀ (a n l : Nat) (K F : Nat → Int32) (N : Nat → Int64) (S I X Lt : Nat → Int32) (fl pl : Int32), a ≤ L → n ≤ a → l ≤ a →
    PX (fv B (nI L) (nI a) (nI d) fl pl (nI n) K F N S I X Lt (nI l)) (fun u => EW (sval B L D a) (fpV u))
      (fun v u => ∃ (b n' l' : Nat) (K' F' : Nat → Int32) (N' : Nat → Int64) (S' I' X' Lt' : Nat → Int32), sval B L D a = .inr b ∧ v = nI n ∧ u = (nI b, nI d, fl, pl, nI n', K', F', N', S', I', X', Lt', nI l') ∧ n < n' ∧ n' + a ≤ n + b ∧ l ≤ l' ∧ l' + a ≤ l + b ∧ agR n K F N S I X K' F' N' S' I' X' ∧ ag l Lt Lt' ∧ X' n = -1 ∧ RT B L K' F' N' S' I' X' Lt' l' D n n' a)
theorem sgrp_f {fv : Nat → Nat ⊕ Nat} {B : Nat → Int32} {L cl n a : Nat} {seen : List (List Nat)} : sgrp fv B L false cl (n + 1) a seen = match fv a with
    | .inl w => .inl w
    | .inr b => if cb B L (sbl B L b) = cl then .inr ([(a, a)], sbl B L b + 1) else if cb B L (sbl B L b) = 44 then
          (match sgrp fv B L false cl n (sbl B L (sbl B L b + 1)) ([] :: seen) with
          | .inl w => .inl w
          | .inr (l, q) => .inr ((a, a) :: l, q)) else .inl (sbl B L b) := rfl
section RLST
variable {B : Nat → Int32} {L : Nat}
theorem lsx_go (hB : BY B L) (hL : L ≤ 4096) {fv : FV} {d D : Nat} (hv : okX B L fv d D) {n0 : Nat} {fl pl : Int32} : ∀ (nn fuel a n l sz : Nat) (last : Int32) (K F : Nat → Int32) (N : Nat → Int64) (S I X Lt : Nat → Int32) (seen : List (List Nat)), a ≤ L → L - a < nn → n ≤ a → l ≤ a → n0 < n → S n0 = nI sz → (last = -1 ∨ ∃ la, last = nI la ∧ n0 < la ∧ la < n) →
    PX (m_X9_list_37 fv B (nI L) fuel (nI a) (nI d) fl pl (nI n) K F N S I X Lt (nI l) (nI n0) last 1) (fun u => EW (sgrp (sval B L D) B L false 93 nn a seen) (fpV u))
      (fun v u => ∃ (ks : List (Nat × Nat)) (q n' l' : Nat) (K' F' : Nat → Int32) (N' : Nat → Int64) (S' I' X' Lt' : Nat → Int32), sgrp (sval B L D) B L false 93 nn a seen = .inr (ks, q) ∧ v = nI n0 ∧ u = (nI q, nI d, fl, pl, nI n', K', F', N', S', I', X', Lt', nI l') ∧ n < n' ∧ n' + a ≤ n + q ∧ l ≤ l' ∧ l' + a ≤ l + q ∧ ag n K K' ∧ ag n F F' ∧ ag n N N' ∧ (∀ i, i < n → S' i = upd S n0 (nI (sz + ks.length)) i) ∧ (∀ i, i < n → I' i = (if last = -1 then upd I n0 (nI n) else I) i) ∧ (∀ i, i < n → X' i = (if last = -1 then X else upd X last.toNatClampNeg (nI n)) i) ∧ ag l Lt Lt' ∧ RTL (RT B L K' F' N' S' I' X' Lt' l' D) X' n' ks n (nI n)) := by
  intro nn
  induction nn with
  | zero => intro fuel a n l sz last K F N S I X Lt seen _ h; exact absurd h (Nat.not_lt_zero _)
  | succ nn ih =>
    intro fuel a n l sz last K F N S I X Lt seen ha hnn hn hl hn0 hS hlast
    cases fuel with
    | zero => exact PX.none
    | succ fuel =>
    simp only [m_X9_list_37, if_neg (show ¬ (1 : Int32) = 0 by decide)]
    refine PX.try (hv a n l K F N S I X Lt fl pl ha hn hl) ?_ ?_
    · rintro u ⟨w, h1, h2⟩
      exact ⟨w, by rw [sgrp_f, h1], h2⟩
    rintro _ _ ⟨b, n1, l1, K1, F1, N1, S1, I1, X1, Lt1, hb, rfl, rfl, h1, h2, h3, h4, ⟨gK, gF, gN, gS, gI, gX⟩, gL, hXn, hRT⟩
    obtain ⟨hab, hbL⟩ := sval_p _ _ _ hb
    dsimp only
    have hS1 : S1 n0 = nI sz := by rw [← gS n0 hn0]; exact hS
    have tail : ∀ (I2 X2 : Nat → Int32), (∀ i, i < n → I2 i = (if last = -1 then upd I n0 (nI n) else I) i) → (∀ i, n ≤ i → I2 i = I1 i) → (∀ i, i < n → X2 i = (if last = -1 then X else upd X last.toNatClampNeg (nI n)) i) → (∀ i, n ≤ i → X2 i = X1 i) →
        PX (m_X9_list_70 fv B (nI L) (m_X9_list_37 fv B (nI L) fuel) (nI b) (nI d) fl pl (nI n1) K1 F1 N1 S1 I2 X2 Lt1 (nI l1) (nI n0) (nI n)) (fun u => EW (sgrp (sval B L D) B L false 93 (nn + 1) a seen) (fpV u))
          (fun v u => ∃ (ks : List (Nat × Nat)) (q n' l' : Nat) (K' F' : Nat → Int32) (N' : Nat → Int64) (S' I' X' Lt' : Nat → Int32), sgrp (sval B L D) B L false 93 (nn + 1) a seen = .inr (ks, q) ∧ v = nI n0 ∧ u = (nI q, nI d, fl, pl, nI n', K', F', N', S', I', X', Lt', nI l') ∧ n < n' ∧ n' + a ≤ n + q ∧ l ≤ l' ∧ l' + a ≤ l + q ∧ ag n K K' ∧ ag n F F' ∧ ag n N N' ∧ (∀ i, i < n → S' i = upd S n0 (nI (sz + ks.length)) i) ∧ (∀ i, i < n → I' i = (if last = -1 then upd I n0 (nI n) else I) i) ∧ (∀ i, i < n → X' i = (if last = -1 then X else upd X last.toNatClampNeg (nI n)) i) ∧ ag l Lt Lt' ∧ RTL (RT B L K' F' N' S' I' X' Lt' l' D) X' n' ks n (nI n)) := by
      intro I2 X2 i1 i2 x1 x2
      have hb1 := sbl_le (B := B) (L := L) (a := b)
      have hb2 := sbl_le2 (B := B) (L := L) (a := b) hbL
      simp only [m_X9_list_70, bd_go (show n0 < 4200 by omega) (by decide), bd_gc (show n0 < 4200 by omega) (by decide), nI_clamp (show n0 < 2 ^ 31 by omega), hS1, blk_r hB hL hbL, Option.bind_some, look_r hB hL hb2, nI_1, sb44]
      refine PX.ite (fun h44 => ?_) (fun h44 => ?_)
      · have hlt : sbl B L b < L := cb_lt (B := B) (by omega)
        have hc1 := sbl_le (B := B) (L := L) (a := sbl B L b + 1)
        have hc2 := sbl_le2 (B := B) (L := L) (a := sbl B L b + 1) (by omega)
        simp only [m_X9_list_101, if_neg (show ¬ (1 : Int32) = 0 by decide), nI_1, blk_r hB hL (show sbl B L b + 1 ≤ L by omega), Option.bind_some]
        refine (ih fuel (sbl B L (sbl B L b + 1)) n1 l1 (sz + 1) (nI n) K1 F1 N1 (upd S1 n0 (nI (sz + 1))) I2 X2 Lt1 ([] :: seen) hc2 (by omega) (by omega) (by omega) (by omega) pk_us (Or.inr ⟨n, rfl, hn0, h1⟩)).mono ?_ ?_
        · rintro u ⟨w, q1, q2⟩
          refine ⟨w, ?_, q2⟩
          rw [sgrp_f, hb]
          simp only
          rw [if_neg (by omega), if_pos h44, q1]
        · rintro v u ⟨ks, q, n', l', K', F', N', S', I', X', Lt', z1, z2, z3, z4, z5, z6, z7, z8, z9, z10, z11, z12, z13, z14, z15⟩
          rw [if_neg (nI_m1 (by omega))] at z12 z13
          rw [nI_clamp (by omega)] at z13
          refine ⟨(a, a) :: ks, q, n', l', K', F', N', S', I', X', Lt', ?_, z2, z3, by omega, by omega, by omega, by omega, gK.trans z8 (by omega), gF.trans z9 (by omega), gN.trans z10 (by omega), fun i hi => ?_, fun i hi => ?_, fun i hi => ?_, gL.trans z14 (by omega), n, n1, rfl, Nat.le_refl _, h1, by omega, ?_, ?_⟩
          · rw [sgrp_f, hb]
            simp only
            rw [if_neg (by omega), if_pos h44, z1]
          · rw [z11 i (by omega), upd_upd, List.length_cons, show sz + 1 + ks.length = sz + (ks.length + 1) by omega]
            by_cases e : i = n0
            · rw [e, pk_us, pk_us]
            · rw [pk_un e, pk_un e]; exact (gS i hi).symm
          · rw [z12 i (by omega)]; exact i1 i hi
          · rw [z13 i (by omega), pk_un (by omega)]; exact x1 i hi
          · refine RT.keep z6 z14 _ _ _ _ hRT (fun i j1 j2 => ⟨(z8 i j2).symm, (z9 i j2).symm, (z10 i j2).symm, ?_, ?_⟩) (fun i j1 j2 => ?_)
            · rw [z11 i j2, pk_un (by omega), pk_un (by omega)]
            · rw [z12 i j2]; exact i2 i j1
            · rw [z13 i j2, pk_un (by omega)]; exact x2 i (by omega)
          · rw [z13 n h1, pk_us]
            exact z15
      · simp only [m_X9_list_101, if_pos (rfl : (0 : Int32) = 0)]
        cases fuel with
        | zero => exact PX.none
        | succ fuel =>
        simp only [m_X9_list_37, if_pos (rfl : (0 : Int32) = 0), take_r hB hL hb2, sb93]
        by_cases h93 : cb B L (sbl B L b) = 93
        · simp only [if_pos h93, try_o]
          have hlt : sbl B L b < L := cb_lt (B := B) (by omega)
          refine PX.ok ⟨[(a, a)], sbl B L b + 1, n1, l1, K1, F1, N1, upd S1 n0 (nI (sz + 1)), I2, X2, Lt1, ?_, rfl, rfl, h1, by omega, h3, by omega, gK, gF, gN, fun i hi => ?_, i1, x1, gL, n, n1, rfl, Nat.le_refl _, h1, Nat.le_refl _, ?_, ?_⟩
          · rw [sgrp_f, hb]
            simp only
            rw [if_pos h93]
          · show upd S1 n0 (nI (sz + 1)) i = upd S n0 (nI (sz + 1)) i
            by_cases e : i = n0
            · rw [e, pk_us, pk_us]
            · rw [pk_un e, pk_un e]; exact (gS i hi).symm
          · refine RT.keep (Nat.le_refl _) ag.rfl' _ _ _ _ hRT (fun i j1 j2 => ⟨rfl, rfl, rfl, pk_un (by omega), i2 i j1⟩) (fun i j1 j2 => x2 i (by omega))
          · show X2 n = -1
            rw [x2 n (Nat.le_refl _)]
            exact hXn
        · simp only [if_neg h93, try_e]
          refine PX.er ⟨sbl B L b, ?_, rfl⟩
          rw [sgrp_f, hb]
          simp only
          rw [if_neg h93, if_neg h44]
    rcases hlast with e | ⟨la, e, l1', l2'⟩
    · subst e
      rw [if_neg (show ¬ (0 : Int32) ≤ -1 by decide), bd_go (show n0 < 4200 by omega) (by decide), nI_clamp (show n0 < 2 ^ 31 by omega)]
      refine tail (upd I1 n0 (nI n)) X1 (fun i hi => ?_) (fun i hi => pk_un (by omega)) (fun i hi => ?_) (fun _ _ => rfl)
      · rw [if_pos rfl]
        by_cases e : i = n0
        · rw [e, pk_us, pk_us]
        · rw [pk_un e, pk_un e]; exact (gI i hi).symm
      · rw [if_pos rfl]; exact (gX i hi).symm
    · subst e
      have hm := nI_m1 (n := la) (by omega)
      rw [if_pos (nI_pos' (show la < 2 ^ 31 by omega)), bd_go (show la < 4200 by omega) (by decide), nI_clamp (show la < 2 ^ 31 by omega)]
      rw [nI_clamp (show la < 2 ^ 31 by omega)] at tail
      refine tail I1 (upd X1 la (nI n)) (fun i hi => ?_) (fun _ _ => rfl) (fun i hi => ?_) (fun i hi => pk_un (by omega))
      · rw [if_neg hm]; exact (gI i hi).symm
      · rw [if_neg hm]
        by_cases e : i = la
        · rw [e, pk_us, pk_us]
        · rw [pk_un e, pk_un e]; exact (gX i hi).symm
/-- a list, from its bracket on -/
theorem lsx (hB : BY B L) (hL : L ≤ 4096) {fv : FV} {d D : Nat} (hD : 0 < D) (hv : okX B L fv d D) {a n l : Nat} {K F S I X Lt : Nat → Int32} {N : Nat → Int64} {fl pl : Int32} (ha : cb B L a = 91) (hn : n ≤ a) (hl : l ≤ a) :
    PX (m_X9_list fv B (nI L) (nI a) (nI d) fl pl (nI n) K F N S I X Lt (nI l)) (fun u => EW (sval B L (D + 1) a) (fpV u))
      (fun v u => ∃ (b n' l' : Nat) (K' F' : Nat → Int32) (N' : Nat → Int64) (S' I' X' Lt' : Nat → Int32), sval B L (D + 1) a = .inr b ∧ v = nI n ∧ u = (nI b, nI d, fl, pl, nI n', K', F', N', S', I', X', Lt', nI l') ∧ n < n' ∧ n' + a ≤ n + b ∧ l ≤ l' ∧ l' + a ≤ l + b ∧ agR n K F N S I X K' F' N' S' I' X' ∧ ag l Lt Lt' ∧ X' n = -1 ∧ RT B L K' F' N' S' I' X' Lt' l' (D + 1) n n' a) := by
  have haL : a < L := cb_lt (B := B) (by omega)
  have hb1 := sbl_le (B := B) (L := L) (a := a + 1)
  have hb2 := sbl_le2 (B := B) (L := L) (a := a + 1) (by omega)
  have hv0 : sval B L (D + 1) a = if cb B L (sbl B L (a + 1)) = 93 then .inr (sbl B L (a + 1) + 1) else sM (sgrp (sval B L D) B L false 93 (L + 1) (sbl B L (a + 1)) []) := by
    simp only [sval]
    rw [if_neg (by omega), if_pos (Or.inl ha), if_neg (by omega), if_neg (show ¬ cb B L a = 123 by omega), show decide (cb B L a = 123) = false from decide_eq_false (by omega)]
  simp only [m_X9_list, node_r (show n < 4200 by omega), Option.bind_some, nI_1, blk_r hB hL (show a + 1 ≤ L by omega), look_r hB hL hb2, sb93]
  refine PX.ite (fun h => ?_) (fun h => ?_)
  · obtain ⟨f, hf⟩ : ∃ f, sr_fuel = f + 1 := ⟨sr_fuel - 1, by unfold sr_fuel; omega⟩
    have hlt : sbl B L (a + 1) < L := cb_lt (B := B) (by omega)
    simp only [hf, m_X9_list_37, if_pos (rfl : (0 : Int32) = 0), take_r hB hL hb2, sb93, if_pos h, try_o]
    refine PX.ok ⟨sbl B L (a + 1) + 1, n + 1, l, _, _, _, _, _, _, Lt, by rw [hv0, if_pos h], rfl, rfl, by omega, by omega, Nat.le_refl _, by omega, ⟨ag.rfl'.upd (Nat.le_refl _), ag.rfl'.upd (Nat.le_refl _), ag.rfl'.updL (Nat.le_refl _), ag.rfl'.upd (Nat.le_refl _), ag.rfl'.upd (Nat.le_refl _), ag.rfl'.upd (Nat.le_refl _)⟩, ag.rfl', pk_us, by omega, pk_us, Or.inr (Or.inl ⟨ha, pk_us, [], Or.inl ⟨?_, rfl⟩, pk_us, pk_us⟩)⟩
    rw [if_neg (show ¬ cb B L a = 123 by omega)]
    exact h
  · refine (lsx_go hB hL hv (n0 := n) (L + 1) sr_fuel (sbl B L (a + 1)) (n + 1) l 0 (-1) _ _ _ _ _ _ Lt [] hb2 (by omega) (by omega) (by omega) (by omega) pk_us (Or.inl rfl)).mono ?_ ?_
    · rintro u ⟨w, q1, q2⟩
      exact ⟨w, by rw [hv0, if_neg h, q1]; rfl, q2⟩
    · rintro v u ⟨ks, q, n', l', K', F', N', S', I', X', Lt', z1, z2, z3, z4, z5, z6, z7, z8, z9, z10, z11, z12, z13, z14, z15⟩
      rw [if_pos rfl] at z12 z13
      refine ⟨q, n', l', K', F', N', S', I', X', Lt', by rw [hv0, if_neg h, z1]; rfl, z2, z3, by omega, by omega, z6, by omega, ⟨fun i hi => ?_, fun i hi => ?_, fun i hi => ?_, fun i hi => ?_, fun i hi => ?_, fun i hi => ?_⟩, z14, ?_, by omega, ?_, Or.inr (Or.inl ⟨ha, ?_, ks, Or.inr ⟨?_, q, ?_⟩, ?_, ?_⟩)⟩
      · rw [← z8 i (by omega), pk_un (by omega)]
      · rw [← z9 i (by omega), pk_un (by omega)]
      · rw [← z10 i (by omega), pk_uLn (by omega)]
      · rw [z11 i (by omega), pk_un (by omega), pk_un (by omega)]
      · rw [z12 i (by omega), pk_un (by omega), pk_un (by omega)]
      · rw [z13 i (by omega), pk_un (by omega)]
      · rw [z13 n (by omega), pk_us]
      · rw [← z9 n (by omega), pk_us]
      · rw [← z8 n (by omega), pk_us]
      · rw [if_neg (show ¬ cb B L a = 123 by omega)]
        exact h
      · rw [if_neg (show ¬ cb B L a = 123 by omega), show decide (cb B L a = 123) = false from decide_eq_false (by omega)]
        exact z1
      · rw [z11 n (by omega), pk_us, Nat.zero_add]
      · rw [z12 n (by omega), pk_us]
        exact z15
end RLST
