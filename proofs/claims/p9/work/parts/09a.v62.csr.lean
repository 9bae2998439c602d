-- the class's reading of a schema, its print, its tape
theorem and255 (x : Int32) : ∃ k, k < 256 ∧ x &&& 255 = nI k := by
  refine ⟨(x &&& 255).toBitVec.toNat, ?_, ?_⟩
  · rw [Int32.toBitVec_and, BitVec.toNat_and]
    exact Nat.lt_of_le_of_lt Nat.and_le_right (by decide)
  · apply Int32.toBitVec_inj.mp
    show _ = BitVec.ofNat 32 _
    rw [BitVec.ofNat_toNat, BitVec.setWidth_eq]
section CSR
variable {T Sd In Tn Tm Pl Kd Me Fi Nx Na Fn Am Fd Ed : Nat → Int32} {lc sc : Int32} {Cf Cs : Nat → Int32} {cc : Int32} {kh kp ko kn : Nat → Int32} {kc : Int32} {L : Nat}
abbrev TRC : Type := (Nat → Int32) × (Nat → Int32) × (Nat → Int32) × (Nat → Int32) × Int32 × (Nat → Int32) × (Nat → Int32) × (Nat → Int32) × (Nat → Int32) × (Nat → Int32) × (Nat → Int32) × (Nat → Int32) × (Nat → Int32) × (Nat → Int32) × (Nat → Int32) × Int32 × Int32 × (Nat → Int32) × (Nat → Int32) × Int32 × (Nat → Int32) × (Nat → Int32) × (Nat → Int32) × (Nat → Int32) × Int32
/-- what holds of the text's amounts and of a schema after a reading -/
def rdPc (r : TRC) : Prop := match r with
  | (_, _, _, Tm', _, _, _, _, Fi', _, Na', Fn', Am', _, _, lc', sc', _, _, cc', _) => AM Tm' ∧ SI Fi' Na' Fn' Am' lc' sc' cc'
theorem crd_sp (hL : L ≤ 4096) (hA : AM Tm) (hf : PS Fi) (hn : PS Na) (hfn : PS Fn) (hm : AS Am) (wp lf lp : Int32) : SP (m_X4_read lf lp T Sd In Tn Tm (nI L) wp Pl Kd Me Fi Nx Na Fn Am Fd Ed lc sc Cf Cs cc kh kp ko kn kc) (fun r => rdPc r.2.2.2) := by
  have hI0 : SI Fi Na Fn Am 0 0 0 := ⟨hf, hn, hfn, hm, ⟨0, by omega, by rw [nI_0]⟩, ⟨0, by omega, by rw [nI_0]⟩, ⟨0, by omega, by rw [nI_0]⟩⟩
  unfold m_X4_read
  simp only [m_X6_clear, m_X11_clear, m_X4_refuse, m_X7_wrongPlace, Option.bind_some]
  refine SP.bind (trd_sp hL hA wp) ?_
  rintro ⟨r3, Sd3, In3, Tn3, Tm3, wp3, kh3, kp3, ko3, kn3, kc3⟩ ⟨hA3, -⟩
  dsimp only at hA3 ⊢
  refine SP.ite (fun _ => SP.ok ⟨hA3, hI0⟩) (fun _ => ?_)
  have hlk := look_sp (T := T) (Sd := Sd3) (In := In3) (Tn := Tn3) hL hA3 18 0 (by omega) (by omega) lf lp Pl Kd Me Fi Nx Na Fn Am Fd Ed 0 0 Cf Cs 0 r3 0 0 (by omega) (by rw [nI_0]) hI0
  rw [nI_0] at hlk
  refine SP.bind hlk ?_
  rintro ⟨r5, lf5, lp5, Pl5, Kd5, Me5, Fi5, Nx5, Na5, Fn5, Am5, Fd5, Ed5, lc5, sc5, Cf5, Cs5, cc5⟩ ⟨-, ⟨h5, -⟩, -⟩
  dsimp only at h5 ⊢
  refine SP.ite (fun _ => SP.ok ⟨hA3, h5⟩) (fun _ => ?_)
  exact SP.bind (cdf_sp hL hA3 h5.1 h5.2.2.2.1 h5.2.2.2.2.1 h5.2.2.2.2.2.2) (fun _ _ => SP.ok ⟨hA3, h5⟩)
theorem csm_sp (hL : L ≤ 4096) (hA : AM Tm) (hf : PS Fi) (hn : PS Na) (hfn : PS Fn) (hm : AS Am) (wp xh xp : Int32) : SP (m_X8_schema xh xp T Sd In Tn Tm (nI L) wp Pl Kd Me Fi Nx Na Fn Am Fd Ed lc sc Cf Cs cc kh kp ko kn kc) (fun r => b01 r.2.1 ∧ rdPc r.2.2.2) := by
  unfold m_X8_schema
  refine SP.bind (crd_sp hL hA hf hn hfn hm wp 0 (-1)) ?_
  rintro ⟨r1, nf, np, u⟩ h
  simp only [m_X8_schema_35, m_X4_faultPlace, Option.bind_some]
  exact SP.ite (fun _ => SP.bb (Or.inr rfl) (SP.ok ⟨Or.inr rfl, h⟩)) (fun _ => SP.bb (Or.inl rfl) (SP.ok ⟨Or.inl rfl, h⟩))
theorem cpr_sp {ps : Nat → Int64} (xh : Int32) (hl : LC lc) : SP (m_X8_print ps xh Pl lc) (fun _ => True) := by
  obtain ⟨k, hk, rfl⟩ := hl
  have go : ∀ (fuel j : Nat) (x1 : Int64), j ≤ k → k - j < fuel → SP (m_X8_print_15 ps xh Pl (nI k) fuel x1 (nI j)) (fun _ => True) := by
    intro fuel
    induction fuel with
    | zero => intro j x1 _ hf; exact absurd hf (Nat.not_lt_zero _)
    | succ fuel ih =>
      intro j x1 hj hf
      simp only [m_X8_print_15, m_X6_letterCount, Option.bind_some, nI_1]
      refine SP.ite (fun _ => SP.ok trivial) (fun hc => ?_)
      have hlt : j < k := Nat.lt_of_not_le (fun q => hc (nI_le q (by omega)))
      refine SP.bind (lat_sp ⟨k, hk, rfl⟩ _) (fun r4 _ => ?_)
      obtain ⟨i, hi, e⟩ := and255 ((x1 ^^^ r4.toInt64).toInt32)
      rw [e, bd_go hi (by decide)]
      exact ih (j + 1) _ (by omega) (by omega)
  unfold m_X8_print
  refine SP.ite (fun _ => SP.ok trivial) (fun _ => ?_)
  have := go sr_fuel 0 (-4513414715797952619) (Nat.zero_le _) (by unfold sr_fuel; omega)
  rw [nI_0] at this
  exact this
theorem csz_sp (xh : Int32) : SP (m_X8_size xh lc) (fun _ => True) := by
  unfold m_X8_size m_X6_letterCount
  exact SP.ite (fun _ => SP.ok trivial) (fun _ => SP.ok trivial)
theorem app_sp (hL : L + 4 ≤ 4096) (a : Int32) : SP (m_X7_append T (nI L) a) (fun r => r.2 = nI (L + 4)) := by
  have e0 : (24 : Int32) + -8 = 16 := by decide +kernel
  have e1 : (16 : Int32) + -8 = 8 := by decide +kernel
  have e2 : (8 : Int32) + -8 = 0 := by decide +kernel
  have e3 : (0 : Int32) + -8 = -8 := by decide +kernel
  have step : ∀ (f : Nat) (T : Nat → Int32) (i : Nat) (x : Int32), i < 4096 → ¬ x < 0 → ∃ T', m_X7_append_3 (f + 1) T (nI i) a x = m_X7_append_3 f T' (nI (i + 1)) a (x + -8) := by
    intro f T i x hi hx
    simp only [m_X7_append_3, if_neg hx, nI_1]
    rw [if_neg (show ¬ Int32.ofNat 4096 ≤ nI i from nI_ge (b := 4096) hi (by omega)), bd_go hi (by decide)]
    exact ⟨_, rfl⟩
  unfold m_X7_append
  obtain ⟨f, hf⟩ : ∃ f, sr_fuel = f + 1 + 1 + 1 + 1 + 1 := ⟨99995, rfl⟩
  rw [hf]
  obtain ⟨T1, h1⟩ := step (f + 1 + 1 + 1 + 1) T L 24 (by omega) (by decide)
  obtain ⟨T2, h2⟩ := step (f + 1 + 1 + 1) T1 (L + 1) 16 (by omega) (by decide)
  obtain ⟨T3, h3⟩ := step (f + 1 + 1) T2 (L + 1 + 1) 8 (by omega) (by decide)
  obtain ⟨T4, h4⟩ := step (f + 1) T3 (L + 1 + 1 + 1) 0 (by omega) (by decide)
  rw [h1, e0, h2, e1, h3, e2, h4, e3]
  simp only [m_X7_append_3, if_pos (show (-8 : Int32) < 0 by decide)]
  exact SP.ok rfl
theorem cfe_ok (hL : L + 20 ≤ 4096) (a0 a1 a2 a3 a4 : Int32) : ∃ T', m_X8_feed T (nI L) a0 a1 a2 a3 a4 = some (.ok (nI (L + 20), (T', nI (L + 20)))) := by
  have e20 : nI L + 20 = nI (L + 20) := nI_add L 20
  have h : SP (m_X8_feed T (nI L) a0 a1 a2 a3 a4) (fun r => ∃ T', r = .ok (nI (L + 20), (T', nI (L + 20)))) := by
    unfold m_X8_feed
    simp only [m_X7_length, Option.bind_some]
    rw [e20, if_pos (show nI (L + 20) ≤ 4096 from nI_le (b := 4096) hL (by omega))]
    refine SP.bind (app_sp (by omega) a0) ?_
    rintro ⟨T1, l1⟩ h1
    dsimp only at h1; subst h1
    refine SP.bind (app_sp (by omega) a1) ?_
    rintro ⟨T2, l2⟩ h2
    dsimp only at h2; subst h2
    refine SP.bind (app_sp (by omega) a2) ?_
    rintro ⟨T3, l3⟩ h3
    dsimp only at h3; subst h3
    refine SP.bind (app_sp (by omega) a3) ?_
    rintro ⟨T4, l4⟩ h4
    dsimp only at h4; subst h4
    refine SP.bind (app_sp (by omega) a4) ?_
    rintro ⟨T5, l5⟩ h5
    dsimp only at h5; subst h5
    exact SP.ok ⟨T5, rfl⟩
  obtain ⟨r, h1, T', h2⟩ := h
  exact ⟨T', by rw [h1, h2]⟩
theorem cfe_no (h0 : L ≤ 4096) (hL : ¬ L + 20 ≤ 4096) (a0 a1 a2 a3 a4 : Int32) : m_X8_feed T (nI L) a0 a1 a2 a3 a4 = some (.error (T, nI L)) := by
  have e20 : nI L + 20 = nI (L + 20) := nI_add L 20
  unfold m_X8_feed
  simp only [m_X7_length, Option.bind_some]
  rw [e20, if_neg (show ¬ nI (L + 20) ≤ 4096 from nI_ge (a := 4096) (by omega) (by omega))]
theorem cen_ok {a : Nat} (h0 : L ≤ 4096) (ha : a ≤ L) : m_X8_end (nI L) (nI a) = some (.ok ((), nI a)) := by
  have e1 : ¬ nI a < 0 := nI_pos (by omega)
  have e2 : nI a ≤ nI L := nI_le ha (by omega)
  unfold m_X8_end m_X7_length m_X7_cut
  simp only [Option.bind_some, if_neg e1, if_pos e2, if_neg (show ¬ nI L < nI a from Int32.not_lt.mpr e2)]
theorem cen_no {x : Int32} (h0 : L ≤ 4096) (hx : ∀ a, a ≤ L → x ≠ nI a) : m_X8_end (nI L) x = some (.error (nI L)) := by
  unfold m_X8_end m_X7_length m_X8_end_15
  by_cases h : x < 0
  · rw [if_pos h]
  · obtain ⟨i, hi, rfl⟩ := nI_of h
    rw [if_neg h, Option.bind_some, if_neg]
    exact fun q => absurd rfl (hx i (Nat.le_of_not_lt (fun z => nI_ge z hi q)))
theorem cle_sp (hl : LC lc) (xh a : Int32) : SP (m_X8_letter xh Pl lc a) (fun _ => True) := by
  unfold m_X8_letter m_X8_letter_22 m_X6_letterCount
  exact SP.ite (fun _ => SP.ok trivial) (fun _ => SP.ite (fun _ => SP.ok trivial) (fun _ => SP.ite (fun _ => SP.bind (lat_sp hl _) (fun _ _ => SP.ok trivial)) (fun _ => SP.ok trivial)))
end CSR
