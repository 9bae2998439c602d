-- the reference's values and the whole text, as told
section RVAL
variable {B : Nat → Int32} {L : Nat}
theorem obx (hB : BY B L) (hL : L ≤ 4096) {fv : FV} {d D : Nat} (hD : 0 < D) (hv : okX B L fv d D) {a n l : Nat} {K F S I X Lt : Nat → Int32} {N : Nat → Int64} {fl pl : Int32} (ha : cb B L a = 123) (hn : n ≤ a) (hl : l ≤ a) :
    PX (m_X9_object fv B (nI L) (nI a) (nI d) fl pl (nI n) K F N S I X Lt (nI l)) (fun u => EW (sval B L (D + 1) a) (fpV u))
      (fun v u => ∃ (b n' l' : Nat) (K' F' : Nat → Int32) (N' : Nat → Int64) (S' I' X' Lt' : Nat → Int32), sval B L (D + 1) a = .inr b ∧ v = nI n ∧ u = (nI b, nI d, fl, pl, nI n', K', F', N', S', I', X', Lt', nI l') ∧ n < n' ∧ n' + a ≤ n + b ∧ l ≤ l' ∧ l' + a ≤ l + b ∧ agR n K F N S I X K' F' N' S' I' X' ∧ ag l Lt Lt' ∧ X' n = -1 ∧ RT B L K' F' N' S' I' X' Lt' l' (D + 1) n n' a) := by
  have haL : a < L := cb_lt (B := B) (by omega)
  have hb1 := sbl_le (B := B) (L := L) (a := a + 1)
  have hb2 := sbl_le2 (B := B) (L := L) (a := a + 1) (by omega)
  have hv0 : sval B L (D + 1) a = if cb B L (sbl B L (a + 1)) = 125 then .inr (sbl B L (a + 1) + 1) else sM (sgrp (sval B L D) B L true 125 (L + 1) (sbl B L (a + 1)) []) := by
    simp only [sval]
    rw [if_neg (by omega), if_pos (Or.inr ha), if_neg (by omega), if_pos ha, show decide (cb B L a = 123) = true from decide_eq_true ha]
  simp only [m_X9_object, node_r (show n < 4200 by omega), Option.bind_some, nI_1, blk_r hB hL (show a + 1 ≤ L by omega), look_r hB hL hb2, sb125]
  refine PX.ite (fun h => ?_) (fun h => ?_)
  · obtain ⟨f, hf⟩ : ∃ f, sr_fuel = f + 1 := ⟨sr_fuel - 1, by unfold sr_fuel; omega⟩
    have hlt : sbl B L (a + 1) < L := cb_lt (B := B) (by omega)
    simp only [hf, m_X9_object_37, if_pos (rfl : (0 : Int32) = 0), take_r hB hL hb2, sb125, if_pos h, try_o]
    refine PX.ok ⟨sbl B L (a + 1) + 1, n + 1, l, _, _, _, _, _, _, Lt, by rw [hv0, if_pos h], rfl, rfl, by omega, by omega, Nat.le_refl _, by omega, ⟨ag.rfl'.upd (Nat.le_refl _), ag.rfl'.upd (Nat.le_refl _), ag.rfl'.updL (Nat.le_refl _), ag.rfl'.upd (Nat.le_refl _), ag.rfl'.upd (Nat.le_refl _), ag.rfl'.upd (Nat.le_refl _)⟩, ag.rfl', pk_us, by omega, pk_us, Or.inr (Or.inr (Or.inl ⟨ha, pk_us, [], Or.inl ⟨?_, rfl⟩, pk_us⟩))⟩
    rw [if_pos ha]
    exact h
  · have hgo := obx_go hB hL hv (n0 := n) (fl := fl) (pl := pl) (L + 1) sr_fuel (sbl B L (a + 1)) (n + 1) l 0 id (fun _ => []) (upd K n 0) (upd F n (nI a)) (vp_updL N n 0) (upd S n 0) (upd I n (-1)) (upd X n (-1)) Lt [] hb2 (by omega) (by omega) (by omega) (by omega) ⟨fun i hi => absurd hi (Nat.not_lt_zero _), fun i j _ hj => absurd hj (Nat.not_lt_zero _), pk_us⟩ (fun s => ⟨fun q => absurd q List.not_mem_nil, fun ⟨i, hi, _⟩ => absurd hi (Nat.not_lt_zero _)⟩)
    rw [if_pos rfl] at hgo
    refine hgo.mono ?_ ?_
    · rintro u ⟨w, q1, q2⟩
      exact ⟨w, by rw [hv0, if_neg h, q1]; rfl, q2⟩
    · rintro v u ⟨ks, q, n', l', K', F', N', S', I', X', Lt', z1, z2, z3, z4, z5, z6, z7, z8, z9, z10, z11, z12, z13, z14, z15⟩
      rw [if_pos rfl] at z12 z13
      refine ⟨q, n', l', K', F', N', S', I', X', Lt', by rw [hv0, if_neg h, z1]; rfl, z2, z3, by omega, by omega, z6, by omega, ⟨fun i hi => ?_, fun i hi => ?_, fun i hi => ?_, fun i hi => ?_, fun i hi => ?_, fun i hi => ?_⟩, z14, ?_, by omega, ?_, Or.inr (Or.inr (Or.inl ⟨ha, ?_, ks, Or.inr ⟨?_, q, ?_⟩, ?_⟩))⟩
      · rw [← z8 i (by omega), pk_un (by omega)]
      · rw [← z9 i (by omega), pk_un (by omega)]
      · rw [← z10 i (by omega), pk_uLn (by omega)]
      · rw [← z11 i (by omega), pk_un (by omega)]
      · rw [z12 i (by omega), pk_un (by omega), pk_un (by omega)]
      · rw [z13 i (by omega), pk_un (by omega)]
      · rw [z13 n (by omega), pk_us]
      · rw [← z9 n (by omega), pk_us]
      · rw [← z8 n (by omega), pk_us]
      · rw [if_pos ha]
        exact h
      · rw [if_pos ha, show decide (cb B L a = 123) = true from decide_eq_true ha]
        exact z1
      · rw [z12 n (by omega), pk_us]
        exact z15
theorem wdl_s : ∀ w, w < 3 → ∀ j, j < lenS.getD (40 + w) 0 → (wdl w).length = lenS.getD (40 + w) 0 ∧ (bytS.getD (40 + w) []).getD j 0 = nI ((wdl w).getD j 0) ∧ (wdl w).getD j 0 < 128 := by decide +kernel
theorem len40 : ∀ w, w < 3 → 0 < lenS.getD (40 + w) 0 := by decide +kernel
theorem wrx_go (hB : BY B L) (hL : L ≤ 4096) {fv : FV} {d n l w : Nat} {K F S I X Lt : Nat → Int32} {N : Nat → Int64} {fl pl x2 : Int32} (hw : w < 3) : ∀ (t : List Nat) (fuel j a : Nat), (wdl w).drop j = t → j ≤ (wdl w).length → a ≤ L →
    PX (m_X9_value_169 fv B (nI L) fuel (nI a) (nI d) fl pl (nI n) K F N S I X Lt (nI l) x2 (40 + w) (nI j)) (fun u => EW (swd B L t a) (fpV u))
      (fun v u => ∃ b, swd B L t a = .inr b ∧ v = x2 ∧ u = (nI b, nI d, fl, pl, nI n, K, F, N, S, I, X, Lt, nI l)) := by
  have hlen : lenS.getD (40 + w) 0 = (wdl w).length := ((wdl_s w hw 0 (len40 w hw)).1).symm
  have h8 : (wdl w).length < 8 := by
    have : ∀ w, w < 3 → (wdl w).length < 8 := by decide +kernel
    exact this w hw
  intro t
  induction t with
  | nil =>
    intro fuel j a hd hj ha
    cases fuel with
    | zero => exact PX.none
    | succ fuel =>
    have hj2 : (wdl w).length ≤ j := List.drop_eq_nil_iff.mp hd
    simp only [m_X9_value_169, if_neg (show ¬ nS ≤ 40 + w by unfold nS; omega), len_eq (40 + w) (by omega), hlen, Option.bind_some]
    rw [if_pos (nI_le hj2 (by omega))]
    exact PX.ok ⟨a, rfl, rfl, rfl⟩
  | cons c t ih =>
    intro fuel j a hd hj ha
    cases fuel with
    | zero => exact PX.none
    | succ fuel =>
    have hj2 : j < (wdl w).length := by
      apply Nat.lt_of_not_le
      intro q
      rw [List.drop_eq_nil_iff.mpr q] at hd
      cases hd
    have hd2 := List.drop_eq_getElem_cons hj2
    rw [hd, ← ls_get hj2] at hd2
    have hc : c = (wdl w).getD j 0 := (List.cons.inj hd2).1
    obtain ⟨-, w2, w3⟩ := wdl_s w hw j (by omega)
    simp only [m_X9_value_169, if_neg (show ¬ nS ≤ 40 + w by unfold nS; omega), len_eq (40 + w) (by omega), hlen, Option.bind_some]
    rw [if_neg (nI_ge hj2 (by omega)), chr_eq (40 + w) (by omega) j (by omega)]
    simp only [Option.bind_some, w2, take_r hB hL ha, swd]
    have hbe : (sbI (cb B L a) = nI ((wdl w).getD j 0)) ↔ cb B L a = c := by
      rw [hc]
      exact sb_e (cb_le B L a) w3
    by_cases h : cb B L a = c
    · have hlt : a < L := cb_lt (B := B) (by rw [h, hc]; omega)
      rw [if_pos (hbe.mpr h), if_pos h, try_o, nI_1]
      exact ih fuel (j + 1) (a + 1) (List.cons.inj hd2).2.symm (by omega) (by omega)
    · rw [if_neg (fun q => h (hbe.mp q)), if_neg h, try_e]
      exact PX.er ⟨a, rfl, rfl⟩
theorem valx (hB : BY B L) (hL : L ≤ 4096) : ∀ (D d : Nat), d ≤ 24 → okX B L (m_X9_value D) d (25 - d) := by
  intro D
  induction D with
  | zero => intro d _ a n l K F N S I X Lt fl pl _ _ _; exact PX.none
  | succ D ih =>
    intro d hd a n l K F N S I X Lt fl pl ha hn hl
    obtain ⟨e, he⟩ : ∃ e, 25 - d = e + 1 := ⟨24 - d, by omega⟩
    rw [he]
    have h0 := cb_le B L a
    simp only [m_X9_value, look_r hB hL ha, Option.bind_some, sb123, sb91, sb34, sb45, sbl48, sbg57]
    have brk : (cb B L a = 91 ∨ cb B L a = 123) → PX (m_X9_value_17 (m_X9_value D) B (nI L) (nI a) (nI d) fl pl (nI n) K F N S I X Lt (nI l) (sbI (cb B L a))) (fun u => EW (sval B L (e + 1) a) (fpV u))
      (fun v u => ∃ (b n' l' : Nat) (K' F' : Nat → Int32) (N' : Nat → Int64) (S' I' X' Lt' : Nat → Int32), sval B L (e + 1) a = .inr b ∧ v = nI n ∧ u = (nI b, nI d, fl, pl, nI n', K', F', N', S', I', X', Lt', nI l') ∧ n < n' ∧ n' + a ≤ n + b ∧ l ≤ l' ∧ l' + a ≤ l + b ∧ agR n K F N S I X K' F' N' S' I' X' ∧ ag l Lt Lt' ∧ X' n = -1 ∧ RT B L K' F' N' S' I' X' Lt' l' (e + 1) n n' a) := by
      intro hc
      have hlt : a < L := cb_lt (B := B) (by omega)
      by_cases h24 : 24 ≤ d
      · simp only [m_X9_value_17, if_pos (show (24 : Int32) ≤ nI d from nI_le (a := 24) h24 (by omega)), m_X9_value_32, need_0, try_e]
        refine PX.er ⟨a, ?_, rfl⟩
        simp only [sval]
        rw [if_neg (by omega), if_pos hc, if_pos (by omega)]
      · simp only [m_X9_value_17, if_neg (show ¬ (24 : Int32) ≤ nI d from nI_ge (b := 24) (by omega) (by omega)), m_X9_value_32, need_1, try_o, nI_1, sb123]
        have hv := ih (d + 1) (by omega)
        rw [show 25 - (d + 1) = e by omega] at hv
        refine PX.ite (fun h => ?_) (fun h => ?_)
        · refine PX.try (obx hB hL (by omega) hv h hn hl) (fun u hu => hu) ?_
          rintro _ _ ⟨b, n', l', K', F', N', S', I', X', Lt', z1, rfl, rfl, z⟩
          exact PX.ok ⟨b, n', l', K', F', N', S', I', X', Lt', z1, rfl, by rw [nI_pred], z⟩
        · refine PX.try (lsx hB hL (by omega) hv (hc.resolve_right h) hn hl) (fun u hu => hu) ?_
          rintro _ _ ⟨b, n', l', K', F', N', S', I', X', Lt', z1, rfl, rfl, z⟩
          exact PX.ok ⟨b, n', l', K', F', N', S', I', X', Lt', z1, rfl, by rw [nI_pred], z⟩
    have hagn : ∀ (k y : Int32) (z : Int64), agR n K F N S I X (upd K n k) (upd F n (nI a)) (vp_updL N n z) (upd S n y) (upd I n (-1)) (upd X n (-1)) := fun k y z => ⟨ag.rfl'.upd (Nat.le_refl _), ag.rfl'.upd (Nat.le_refl _), ag.rfl'.updL (Nat.le_refl _), ag.rfl'.upd (Nat.le_refl _), ag.rfl'.upd (Nat.le_refl _), ag.rfl'.upd (Nat.le_refl _)⟩
    have hnum : (cb B L a = 45 ∨ (48 ≤ cb B L a ∧ cb B L a ≤ 57)) → PX (mr_try (m_X9_number B (nI L) (nI a) fl pl (nI n) K F N S I X) (fun r (x : Int32 × Int32 × Int32 × Int32 × (Nat → Int32) × (Nat → Int32) × (Nat → Int64) × (Nat → Int32) × (Nat → Int32) × (Nat → Int32)) => some (Except.ok (r, (x.1, nI d, x.2.1, x.2.2.1, x.2.2.2.1, x.2.2.2.2.1, x.2.2.2.2.2.1, x.2.2.2.2.2.2.1, x.2.2.2.2.2.2.2.1, x.2.2.2.2.2.2.2.2.1, x.2.2.2.2.2.2.2.2.2, Lt, nI l)))) (fun x => (x.1, nI d, x.2.1, x.2.2.1, x.2.2.2.1, x.2.2.2.2.1, x.2.2.2.2.2.1, x.2.2.2.2.2.2.1, x.2.2.2.2.2.2.2.1, x.2.2.2.2.2.2.2.2.1, x.2.2.2.2.2.2.2.2.2, Lt, nI l))) (fun u => EW (sval B L (e + 1) a) (fpV u))
      (fun v u => ∃ (b n' l' : Nat) (K' F' : Nat → Int32) (N' : Nat → Int64) (S' I' X' Lt' : Nat → Int32), sval B L (e + 1) a = .inr b ∧ v = nI n ∧ u = (nI b, nI d, fl, pl, nI n', K', F', N', S', I', X', Lt', nI l') ∧ n < n' ∧ n' + a ≤ n + b ∧ l ≤ l' ∧ l' + a ≤ l + b ∧ agR n K F N S I X K' F' N' S' I' X' ∧ ag l Lt Lt' ∧ X' n = -1 ∧ RT B L K' F' N' S' I' X' Lt' l' (e + 1) n n' a) := by
      intro hc
      have hlt : a < L := cb_lt (B := B) (by omega)
      have hv : sval B L (e + 1) a = snum B L a := by
        simp only [sval]
        rw [if_neg (by omega), if_neg (by omega), if_neg (by omega), if_neg (by omega), if_neg (by omega), if_pos hc]
      refine PX.try (num_r hB hL hlt hn) ?_ ?_
      · rintro u ⟨w, q1, q2⟩
        exact ⟨w, hv.trans q1, q2⟩
      · rintro _ _ ⟨b, sz, q1, rfl, rfl⟩
        have hq := snum_p q1
        exact PX.ok ⟨b, n + 1, l, _, _, _, _, _, _, Lt, hv.trans q1, rfl, rfl, by omega, by omega, Nat.le_refl _, by omega, hagn _ _ _, ag.rfl', pk_us, by omega, pk_us, Or.inr (Or.inr (Or.inr (Or.inl ⟨hc, pk_us, pk_uLs⟩)))⟩
    have hwrd : ¬ cb B L a = 34 → ¬ (cb B L a = 91 ∨ cb B L a = 123) → ¬ (cb B L a = 45 ∨ (48 ≤ cb B L a ∧ cb B L a ≤ 57)) → PX (m_X9_value_114 (m_X9_value D) B (nI L) (nI a) (nI d) fl pl (nI n) K F N S I X Lt (nI l) (sbI (cb B L a))) (fun u => EW (sval B L (e + 1) a) (fpV u))
      (fun v u => ∃ (b n' l' : Nat) (K' F' : Nat → Int32) (N' : Nat → Int64) (S' I' X' Lt' : Nat → Int32), sval B L (e + 1) a = .inr b ∧ v = nI n ∧ u = (nI b, nI d, fl, pl, nI n', K', F', N', S', I', X', Lt', nI l') ∧ n < n' ∧ n' + a ≤ n + b ∧ l ≤ l' ∧ l' + a ≤ l + b ∧ agR n K F N S I X K' F' N' S' I' X' ∧ ag l Lt Lt' ∧ X' n = -1 ∧ RT B L K' F' N' S' I' X' Lt' l' (e + 1) n n' a) := by
      intro c1 c2 c3
      have go : ∀ (w : Nat) (kd : Int32), w < 3 → sval B L (e + 1) a = swd B L (wdl w) a → (∀ b, swd B L (wdl w) a = .inr b → a < b ∧ ((cb B L a = 116 ∧ kd = 4) ∨ (cb B L a = 102 ∧ kd = 5) ∨ (cb B L a = 110 ∧ kd = 6))) → PX (m_X9_value_169 (m_X9_value D) B (nI L) sr_fuel (nI a) (nI d) fl pl (nI (n + 1)) (upd K n kd) (upd F n (nI a)) (vp_updL N n 0) (upd S n 0) (upd I n (-1)) (upd X n (-1)) Lt (nI l) (nI n) (40 + w) (nI 0)) (fun u => EW (sval B L (e + 1) a) (fpV u))
          (fun v u => ∃ (b n' l' : Nat) (K' F' : Nat → Int32) (N' : Nat → Int64) (S' I' X' Lt' : Nat → Int32), sval B L (e + 1) a = .inr b ∧ v = nI n ∧ u = (nI b, nI d, fl, pl, nI n', K', F', N', S', I', X', Lt', nI l') ∧ n < n' ∧ n' + a ≤ n + b ∧ l ≤ l' ∧ l' + a ≤ l + b ∧ agR n K F N S I X K' F' N' S' I' X' ∧ ag l Lt Lt' ∧ X' n = -1 ∧ RT B L K' F' N' S' I' X' Lt' l' (e + 1) n n' a) := by
        intro w kd hw hs hcl
        refine (wrx_go hB hL hw (wdl w) sr_fuel 0 a rfl (Nat.zero_le _) ha).mono ?_ ?_
        · rintro u ⟨x, q1, q2⟩
          exact ⟨x, hs.trans q1, q2⟩
        · rintro _ _ ⟨b, q1, rfl, rfl⟩
          obtain ⟨p1, p2⟩ := hcl b q1
          refine ⟨b, n + 1, l, _, _, _, _, _, _, Lt, hs.trans q1, rfl, rfl, by omega, by omega, Nat.le_refl _, by omega, hagn _ _ _, ag.rfl', pk_us, by omega, pk_us, Or.inr (Or.inr (Or.inr (Or.inr ?_)))⟩
          rw [pk_us]
          exact p2
      have e116 : (sbI (cb B L a) = 116) = (cb B L a = 116) := sb116
      have e102 : (sbI (cb B L a) = 102) = (cb B L a = 102) := sb102
      have hz : (0 : Int32) = nI 0 := nI_0.symm
      simp only [m_X9_value_114, m_X9_value_137, node_r (show n < 4200 by omega), Option.bind_some, e116, e102]
      by_cases c4 : cb B L a = 116
      · simp only [if_pos c4]
        refine go 0 4 (by decide) ?_ (fun b hb => ?_)
        · simp only [sval]
          rw [if_neg c1, if_neg c2, if_neg (by omega), if_neg (by omega), if_pos c4]
        · have := swd_p _ _ _ (wdl_b 0 (by decide)) ha hb
          have e4 : (wdl 0).length = 4 := rfl
          exact ⟨by omega, Or.inl ⟨c4, rfl⟩⟩
      · by_cases c5 : cb B L a = 102
        · simp only [if_neg c4, if_pos c5]
          refine go 1 5 (by decide) ?_ (fun b hb => ?_)
          · simp only [sval]
            rw [if_neg c1, if_neg c2, if_pos c5]
          · have := swd_p _ _ _ (wdl_b 1 (by decide)) ha hb
            have e4 : (wdl 1).length = 5 := rfl
            exact ⟨by omega, Or.inr (Or.inl ⟨c5, rfl⟩)⟩
        · simp only [if_neg c4, if_neg c5]
          have hw2 : wdl 2 = [110, 117, 108, 108] := rfl
          refine go 2 6 (by decide) ?_ (fun b hb => ?_)
          · simp only [sval]
            rw [if_neg c1, if_neg c2, if_neg c5]
            by_cases c6 : cb B L a = 110
            · rw [if_pos c6]
            · rw [if_neg c6, if_neg c4, if_neg c3, hw2]
              simp only [swd]
              rw [if_neg c6]
          · have := swd_p _ _ _ (wdl_b 2 (by decide)) ha hb
            have e4 : (wdl 2).length = 4 := rfl
            refine ⟨by omega, Or.inr (Or.inr ⟨?_, rfl⟩)⟩
            by_cases c6 : cb B L a = 110
            · exact c6
            · rw [hw2] at hb
              simp only [swd] at hb
              rw [if_neg c6] at hb
              cases hb
    refine PX.ite (fun h => brk (Or.inr h)) (fun h123 => PX.ite (fun h => brk (Or.inl h)) (fun h91 => PX.ite (fun h => ?_) (fun h34 => PX.ite (fun h => hnum (Or.inl h)) (fun h45 => PX.ite (fun h => hwrd h34 (by omega) (by omega)) (fun h48 => PX.ite (fun h => hwrd h34 (by omega) (by omega)) (fun h57 => hnum (by omega)))))))
    have hlt : a < L := cb_lt (B := B) (by omega)
    have hv : sval B L (e + 1) a = sM (sstr B L (a + 1)) := by
      simp only [sval]
      rw [if_pos h]
    refine PX.try (str_r hB hL hlt hn hl) ?_ ?_
    · rintro u ⟨w, q1, q2⟩
      exact ⟨w, by rw [hv, q1]; rfl, q2⟩
    · rintro _ _ ⟨b, s, Lt', q1, rfl, rfl, q2, q3⟩
      have hq := sstrf_p _ _ _ _ q1
      exact PX.ok ⟨b, n + 1, l + s.length, _, _, _, _, _, _, Lt', by rw [hv, q1]; rfl, rfl, rfl, by omega, by omega, by omega, by omega, hagn _ _ _, q2, pk_us, by omega, pk_us, Or.inl ⟨h, pk_us, s, b, q1, pk_us, l, pk_uLs, Nat.le_refl _, q3⟩⟩
end RVAL
