-- the reference's values
theorem wrd_go {B : Nat → Int32} {L : Nat} (hL : L ≤ 4096) {fv : FV} {d n l w len : Nat} {K F S I X Lt : Nat → Int32} {N : Nat → Int64} {fl pl x2 : Int32} (hw : w < 75) (hlen : lenS.getD w 0 = len) (hl8 : len < 8) (hb : ∀ j, j < len → ¬ (bytS.getD w []).getD j 0 = -1) : ∀ (fuel j a : Nat), j ≤ len → len - j < fuel → a ≤ L →
    RES (fun g => m_X9_value_169 fv (ov L B (g.1 6)) (nI L) fuel (nI a) (nI d) fl pl (nI n) (ov n K (g.1 0)) (ov n F (g.1 1)) (ov n N g.2) (ov n S (g.1 2)) (ov n I (g.1 3)) (ov n X (g.1 4)) (ov l Lt (g.1 5)) (nI l) x2 w (nI j)) fpV
      (fun v u => v = x2 ∧ u = (fun g => (nI (a + (len - j)), nI d, fl, pl, nI n, ov n K (g.1 0), ov n F (g.1 1), ov n N g.2, ov n S (g.1 2), ov n I (g.1 3), ov n X (g.1 4), ov l Lt (g.1 5), nI l)) ∧ a + (len - j) ≤ L) := by
  intro fuel
  induction fuel with
  | zero => intro j a _ hf; exact absurd hf (Nat.not_lt_zero _)
  | succ fuel ih =>
    intro j a hj hf ha
    simp only [m_X9_value_169, if_neg (show ¬ nS ≤ w by unfold nS; omega), len_eq w hw, hlen, Option.bind_some]
    by_cases hc : len ≤ j
    · simp only [if_pos (nI_le hc (by omega))]
      exact RES.ok ⟨rfl, by rw [show len - j = 0 by omega]; rfl, by omega⟩
    · simp only [if_neg (nI_ge (show j < len by omega) (by omega)), chr_eq w hw j (by omega), Option.bind_some, take_eq hL ha]
      by_cases hq : rk B L a = (bytS.getD w []).getD j 0
      · have hlt : a < L := rk_lt hq (hb j (by omega))
        simp only [if_pos hq, try_o, nI_1]
        refine (ih (j + 1) (a + 1) (by omega) (by omega) (by omega)).mono ?_
        rintro v u ⟨h1, h2, h3⟩
        rw [show a + 1 + (len - (j + 1)) = a + (len - j) by omega] at h2 h3
        exact ⟨h1, h2, h3⟩
      · simp only [if_neg hq, try_e]
        exact RES.er (fun g => rfl)
theorem val_ok {B : Nat → Int32} {L : Nat} (hL : L ≤ 4096) : ∀ (D d : Nat), d ≤ 24 → 24 - d < D → okV B L (m_X9_value D) d (24 - d) := by
  intro D
  induction D with
  | zero => intro d _ hf; exact absurd hf (Nat.not_lt_zero _)
  | succ D ih =>
    intro d hd hf a n l K F N S I X Lt fl pl ha hn hl
    simp only [m_X9_value, look_eq hL ha, Option.bind_some]
    have brk : ∀ x1 : Int32, a < L → RES (fun g => m_X9_value_17 (m_X9_value D) (ov L B (g.1 6)) (nI L) (nI a) (nI d) fl pl (nI n) (ov n K (g.1 0)) (ov n F (g.1 1)) (ov n N g.2) (ov n S (g.1 2)) (ov n I (g.1 3)) (ov n X (g.1 4)) (ov l Lt (g.1 5)) (nI l) x1) fpV (postV L (24 - d) a n l d fl pl K F N S I X Lt) := by
      intro x1 hlt
      by_cases h24 : 24 ≤ d
      · simp only [m_X9_value_17, if_pos (show (24 : Int32) ≤ nI d from nI_le (a := 24) h24 (by omega)), m_X9_value_32, need_0, try_e]
        exact RES.er (fun g => rfl)
      · simp only [m_X9_value_17, if_neg (show ¬ (24 : Int32) ≤ nI d from nI_ge (b := 24) (by omega) (by omega)), m_X9_value_32, need_1, try_o, nI_1]
        have hv := ih (d + 1) (by omega) (by omega)
        have he : 24 - d = 24 - (d + 1) + 1 := by omega
        have fin : ∀ (v : Int32) (u : Gs → TV), postV L (24 - (d + 1) + 1) a n l (d + 1) fl pl K F N S I X Lt v u → RES (fun g => some (.ok (v, ((u g).1, (u g).2.1 - 1, (u g).2.2.1, (u g).2.2.2.1, (u g).2.2.2.2.1, (u g).2.2.2.2.2.1, (u g).2.2.2.2.2.2.1, (u g).2.2.2.2.2.2.2.1, (u g).2.2.2.2.2.2.2.2.1, (u g).2.2.2.2.2.2.2.2.2.1, (u g).2.2.2.2.2.2.2.2.2.2.1, (u g).2.2.2.2.2.2.2.2.2.2.2.1, (u g).2.2.2.2.2.2.2.2.2.2.2.2)))) fpV (postV L (24 - d) a n l d fl pl K F N S I X Lt) := by
          rintro _ _ ⟨b, n', l', K', F', N', S', I', X', Lt', rfl, rfl, h⟩
          rw [← he] at h
          dsimp only
          exact RES.ok ⟨b, n', l', K', F', N', S', I', X', Lt', rfl, by simp only [nI_pred], h⟩
        refine RES.ite (fun _ => ?_) (fun _ => ?_)
        · exact RES.try (obj_ok hL hv hlt hn hl) fin (fun g u => rfl)
        · exact RES.try (lst_ok hL hv hlt hn hl) fin (fun g u => rfl)
    have hnum : a < L → RES (fun g => mr_try (m_X9_number (ov L B (g.1 6)) (nI L) (nI a) fl pl (nI n) (ov n K (g.1 0)) (ov n F (g.1 1)) (ov n N g.2) (ov n S (g.1 2)) (ov n I (g.1 3)) (ov n X (g.1 4))) (fun r (x : Int32 × Int32 × Int32 × Int32 × (Nat → Int32) × (Nat → Int32) × (Nat → Int64) × (Nat → Int32) × (Nat → Int32) × (Nat → Int32)) => some (Except.ok (r, (x.1, nI d, x.2.1, x.2.2.1, x.2.2.2.1, x.2.2.2.2.1, x.2.2.2.2.2.1, x.2.2.2.2.2.2.1, x.2.2.2.2.2.2.2.1, x.2.2.2.2.2.2.2.2.1, x.2.2.2.2.2.2.2.2.2, ov l Lt (g.1 5), nI l)))) (fun x => (x.1, nI d, x.2.1, x.2.2.1, x.2.2.2.1, x.2.2.2.2.1, x.2.2.2.2.2.1, x.2.2.2.2.2.2.1, x.2.2.2.2.2.2.2.1, x.2.2.2.2.2.2.2.2.1, x.2.2.2.2.2.2.2.2.2, ov l Lt (g.1 5), nI l))) fpV (postV L (24 - d) a n l d fl pl K F N S I X Lt) := by
      intro hlt
      refine RES.try (num_ok hL hlt hn) ?_ (fun g u => rfl)
      rintro _ _ ⟨b, sz, z, rfl, rfl, h1, h2, h3⟩
      dsimp only
      refine RES.ok ⟨b, n + 1, l, _, _, _, _, _, _, Lt, rfl, rfl, h1, h2, by omega, Nat.le_refl _, by omega, ⟨ag.rfl'.upd (Nat.le_refl _), ag.rfl'.upd (Nat.le_refl _), ag.rfl'.updL (Nat.le_refl _), ag.rfl'.upd (Nat.le_refl _), ag.rfl'.upd (Nat.le_refl _), ag.rfl'.upd (Nat.le_refl _)⟩, ag.rfl', pk_us, Val.leaf ⟨rfl, h1, pk_us, Or.inr (Or.inl ⟨pk_us, ?_⟩)⟩⟩
      rw [pk_uLs]; exact h3
    have hwrd : RES (fun g => m_X9_value_114 (m_X9_value D) (ov L B (g.1 6)) (nI L) (nI a) (nI d) fl pl (nI n) (ov n K (g.1 0)) (ov n F (g.1 1)) (ov n N g.2) (ov n S (g.1 2)) (ov n I (g.1 3)) (ov n X (g.1 4)) (ov l Lt (g.1 5)) (nI l) (rk B L a)) fpV (postV L (24 - d) a n l d fl pl K F N S I X Lt) := by
      have go : ∀ (w len : Nat) (kd : Int32), w < 75 → lenS.getD w 0 = len → 0 < len → len < 8 → (∀ j, j < len → ¬ (bytS.getD w []).getD j 0 = -1) → (kd = 4 ∨ kd = 5 ∨ kd = 6) → RES (fun g => m_X9_value_169 (m_X9_value D) (ov L B (g.1 6)) (nI L) sr_fuel (nI a) (nI d) fl pl (nI (n + 1)) (ov (n + 1) (upd K n kd) (g.1 0)) (ov (n + 1) (upd F n (nI a)) (g.1 1)) (ov (n + 1) (vp_updL N n 0) g.2) (ov (n + 1) (upd S n 0) (g.1 2)) (ov (n + 1) (upd I n (-1)) (g.1 3)) (ov (n + 1) (upd X n (-1)) (g.1 4)) (ov l Lt (g.1 5)) (nI l) (nI n) w 0) fpV (postV L (24 - d) a n l d fl pl K F N S I X Lt) := by
        intro w len kd hw hlen h0 h8 hb hkd
        refine (wrd_go hL hw hlen h8 hb sr_fuel 0 a (by omega) (by unfold sr_fuel; omega) ha).mono ?_
        rintro _ _ ⟨rfl, rfl, h1⟩
        refine ⟨a + (len - 0), n + 1, l, _, _, _, _, _, _, Lt, rfl, rfl, by omega, h1, by omega, Nat.le_refl _, by omega, ⟨ag.rfl'.upd (Nat.le_refl _), ag.rfl'.upd (Nat.le_refl _), ag.rfl'.updL (Nat.le_refl _), ag.rfl'.upd (Nat.le_refl _), ag.rfl'.upd (Nat.le_refl _), ag.rfl'.upd (Nat.le_refl _)⟩, ag.rfl', pk_us, Val.leaf ⟨rfl, by omega, pk_us, Or.inr (Or.inr ?_)⟩⟩
        rw [pk_us]; exact hkd
      have g40 : ∀ kd : Int32, (kd = 4 ∨ kd = 5 ∨ kd = 6) → _ := fun kd hk => go 40 4 kd (by decide) (by decide +kernel) (by decide) (by decide) (by decide +kernel) hk
      have g41 : ∀ kd : Int32, (kd = 4 ∨ kd = 5 ∨ kd = 6) → _ := fun kd hk => go 41 5 kd (by decide) (by decide +kernel) (by decide) (by decide) (by decide +kernel) hk
      have g42 : ∀ kd : Int32, (kd = 4 ∨ kd = 5 ∨ kd = 6) → _ := fun kd hk => go 42 4 kd (by decide) (by decide +kernel) (by decide) (by decide) (by decide +kernel) hk
      simp only [m_X9_value_114, m_X9_value_137, node_eq (show n < 4200 by omega), Option.bind_some]
      refine RES.ite (fun _ => ?_) (fun _ => RES.ite (fun _ => ?_) (fun _ => ?_))
      · exact RES.ite (fun _ => g40 4 (Or.inl rfl)) (fun _ => RES.ite (fun _ => g41 4 (Or.inl rfl)) (fun _ => g42 4 (Or.inl rfl)))
      · exact RES.ite (fun _ => g40 5 (Or.inr (Or.inl rfl))) (fun _ => RES.ite (fun _ => g41 5 (Or.inr (Or.inl rfl))) (fun _ => g42 5 (Or.inr (Or.inl rfl))))
      · exact RES.ite (fun _ => g40 6 (Or.inr (Or.inr rfl))) (fun _ => RES.ite (fun _ => g41 6 (Or.inr (Or.inr rfl))) (fun _ => g42 6 (Or.inr (Or.inr rfl))))
    refine RES.ite (fun h => brk _ (rk_lt h (by decide))) (fun _ => RES.ite (fun h => brk _ (rk_lt h (by decide))) (fun _ => RES.ite (fun h => ?_) (fun _ => RES.ite (fun h => hnum (rk_lt h (by decide))) (fun _ => RES.ite (fun h => hwrd) (fun h1 => RES.ite (fun h => hwrd) (fun h2 => hnum ?_))))))
    · have hlt : a < L := rk_lt h (by decide)
      refine RES.try (str_ok hL hlt hn hl) ?_ (fun g u => rfl)
      rintro _ _ ⟨b, sz, Lt', rfl, rfl, h1, h2, h3⟩
      dsimp only
      refine RES.ok ⟨b, n + 1, l + sz, _, _, _, _, _, _, Lt', rfl, rfl, by omega, h2, by omega, by omega, by omega, ⟨ag.rfl'.upd (Nat.le_refl _), ag.rfl'.upd (Nat.le_refl _), ag.rfl'.updL (Nat.le_refl _), ag.rfl'.upd (Nat.le_refl _), ag.rfl'.upd (Nat.le_refl _), ag.rfl'.upd (Nat.le_refl _)⟩, h3, pk_us, Val.leaf ⟨rfl, by omega, pk_us, Or.inl ⟨pk_us, l, sz, pk_us, pk_uLs, Nat.le_refl _, h1⟩⟩⟩
    · apply Nat.lt_of_not_le
      intro h3
      rw [rk_end h3] at h1
      exact h1 (by decide)
