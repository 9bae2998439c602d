-- defaults: the reference's
def rO (fl pp : Int32) : Option Nat → Option (Except (Int32 × Int32) (Unit × (Int32 × Int32)))
  | none => some (.ok ((), (fl, pp)))
  | some z => some (.error (12, nI z))
section RFIT
variable {T : Nat → Int32} {L : Nat} {Sd In Nx Am K F S I X Lt : Nat → Int32} {N : Nat → Int64} {l : Nat} {So Wi Kd kS kN kX : Nat → Int32} {sh kc k0 : Nat} {G : Nat → Nod}
theorem VV.kw {n p q : Nat} (h : VV T L Sd In Nx Am K F N S I X Lt l n p q) : (K n = 4 ↔ cb T L p = 116) ∧ (K n = 5 ↔ cb T L p = 102) ∧ (K n = 6 ↔ cb T L p = 110) := by
  have hk := h.kn
  unfold kdn at hk
  rcases h.any with x | x | x | x | x | x | x
  · rw [if_pos x] at hk
    rw [hk]
    exact ⟨⟨fun z => absurd z (by decide), fun z => by omega⟩, ⟨fun z => absurd z (by decide), fun z => by omega⟩, ⟨fun z => absurd z (by decide), fun z => by omega⟩⟩
  · rw [if_neg (by omega), if_pos x] at hk
    rw [hk]
    exact ⟨⟨fun z => absurd z (by decide), fun z => by omega⟩, ⟨fun z => absurd z (by decide), fun z => by omega⟩, ⟨fun z => absurd z (by decide), fun z => by omega⟩⟩
  · rw [if_neg (by omega), if_neg (by omega), if_pos x] at hk
    rw [hk]
    exact ⟨⟨fun z => absurd z (by decide), fun z => by omega⟩, ⟨fun z => absurd z (by decide), fun z => by omega⟩, ⟨fun z => absurd z (by decide), fun z => by omega⟩⟩
  · rw [if_neg (by omega), if_neg (by omega), if_neg (by omega), if_pos x] at hk
    rw [hk]
    exact ⟨⟨fun z => absurd z (by decide), fun z => by omega⟩, ⟨fun z => absurd z (by decide), fun z => by omega⟩, ⟨fun z => absurd z (by decide), fun z => by omega⟩⟩
  · rw [if_neg (by omega), if_neg (by omega), if_neg (by omega), if_neg (by omega), if_pos x] at hk
    rw [hk]
    exact ⟨⟨fun _ => x, fun _ => rfl⟩, ⟨fun z => absurd z (by decide), fun z => by omega⟩, ⟨fun z => absurd z (by decide), fun z => by omega⟩⟩
  · rw [if_neg (by omega), if_neg (by omega), if_neg (by omega), if_neg (by omega), if_neg (by omega), if_pos x] at hk
    rw [hk]
    exact ⟨⟨fun z => absurd z (by decide), fun z => by omega⟩, ⟨fun _ => x, fun _ => rfl⟩, ⟨fun z => absurd z (by decide), fun z => by omega⟩⟩
  · rw [if_neg (by omega), if_neg (by omega), if_neg (by omega), if_neg (by omega), if_neg (by omega), if_neg (by omega)] at hk
    rw [hk]
    exact ⟨⟨fun z => absurd z (by decide), fun z => by omega⟩, ⟨fun z => absurd z (by decide), fun z => by omega⟩, ⟨fun _ => x, fun _ => rfl⟩⟩
/-- inner values are less deep -/
theorem sv_el {k p q : Nat} (h : sval T L (k + 1) p = .inr q) (hc : cb T L p = 91 ∨ cb T L p = 123) : ∀ v, v ∈ prt T L p → ∃ b, sval T L k v.2 = .inr b := by
  simp only [sval] at h
  rw [if_neg (by omega), if_pos hc] at h
  by_cases c3 : k = 0
  · rw [if_pos c3] at h; cases h
  rw [if_neg c3] at h
  by_cases c4 : cb T L (sbl T L (p + 1)) = (if cb T L p = 123 then 125 else 93)
  · intro v hv
    rw [prt_eq ⟨k, Or.inl ⟨c4, rfl⟩⟩] at hv
    exact absurd hv List.not_mem_nil
  · rw [if_neg c4] at h
    cases hs : sgrp (sval T L k) T L (decide (cb T L p = 123)) (if cb T L p = 123 then 125 else 93) (L + 1) (sbl T L (p + 1)) [] with
    | inl w => rw [hs] at h; cases h
    | inr r =>
      obtain ⟨ks, q'⟩ := r
      have hz := sgrp_p (by split <;> decide) (sval_p k) _ _ _ _ _ hs
      intro v hv
      rw [prt_eq ⟨k, Or.inr ⟨c4, q', hs⟩⟩] at hv
      obtain ⟨_, _, ⟨b, hb, _⟩, _⟩ := hz.2.2.2.2 v hv
      exact ⟨b, hb⟩
theorem tf_mem {w : List Nat} {k : Nat × Nat} : ∀ (ks : List (Nat × Nat)), tfind T L w ks = some k → k ∈ ks := by
  intro ks
  induction ks with
  | nil => intro h; cases h
  | cons k0 t ih =>
    intro h
    simp only [tfind] at h
    by_cases e : ts T L k0.1 = w
    · rw [if_pos e] at h
      cases h
      exact List.mem_cons_self
    · rw [if_neg e] at h
      exact List.mem_cons_of_mem _ (ih h)
theorem mlr_go (hl : l ≤ 4200) {m : Nat} {w : List Nat} (hm : m < 4200) (hw : RSt N S Lt l m w) (hwb : ∀ v, v ∈ w → v ≤ 255) : ∀ (ks : List (Nat × Nat)) (fuel lo hi : Nat) (hc hr : Int32), ks.length < fuel → OCH T L Sd In Nx Am K F N S I X Lt l ks lo hi hc hr → (tfind T L w ks = none ∧ m_X9_memberLike_7 N S I X Lt fuel (nI m) hr = some (-1)) ∨ (∃ k c b, tfind T L w ks = some k ∧ m_X9_memberLike_7 N S I X Lt fuel (nI m) hr = some (nI c) ∧ VV T L Sd In Nx Am K F N S I X Lt l c k.2 b) := by
  intro ks
  induction ks with
  | nil =>
    intro fuel lo hi hc hr hf h
    obtain ⟨f, rfl⟩ : ∃ f, fuel = f + 1 := ⟨fuel - 1, by omega⟩
    refine Or.inl ⟨rfl, ?_⟩
    simp only [m_X9_memberLike_7]
    rw [h.2.2, if_pos (show (-1 : Int32) < 0 by decide)]
  | cons k t ih =>
    intro fuel lo hi hc hr hf h
    obtain ⟨f, rfl⟩ : ∃ f, fuel = f + 1 := ⟨fuel - 1, by omega⟩
    simp only [List.length_cons] at hf
    obtain ⟨c, b, s, h1, h2, h3, ⟨k1, k2, k3, k4, k5, k6, k7, k8, k9, k10⟩, h5, h6, h7⟩ := h
    simp only [m_X9_memberLike_7]
    rw [h3, if_neg (nI_pos (show c < 2 ^ 31 by omega)), same_r (show c < 4200 by omega) hm hl hl k6 hw k10 hwb]
    simp only [Option.bind_some, tfind, k4]
    by_cases e : s = w
    · simp only [if_pos e, if_neg (show ¬ (1 : Int32) = 0 by decide), bd_go (show c < 4200 by omega) (by decide), bd_gc (show c < 4200 by omega) (by decide), nI_clamp (show c < 2 ^ 31 by omega), k2]
      exact Or.inr ⟨k, c + 1, b, rfl, rfl, h5⟩
    · simp only [if_neg e, if_true, bd_go (show c < 4200 by omega) (by decide), bd_gc (show c < 4200 by omega) (by decide), nI_clamp (show c < 2 ^ 31 by omega), k2, bd_go (show c + 1 < 4200 by omega) (by decide), bd_gc (show c + 1 < 4200 by omega) (by decide), nI_clamp (show c + 1 < 2 ^ 31 by omega)]
      exact ih f _ _ _ _ (by omega) h7
theorem r_fit (hl : l ≤ 4200) (h0 : k0 ≤ 128) (hsh : sh ≤ 140) (h6 : 6 ≤ sh) (hkc : kc ≤ 2200) (hS : ∀ t, t < 6 → So t = nI t) (hR : RLs N S Lt l So Wi Kd kS kN kX sh kc k0 G) (hO : ∀ i, i < k0 → OKS G k0 i) (hW : ∀ i, i < k0 → n_me (G i) = i → n_kd (G i) = 8 → n_wd (G i) ≤ 64) (hL : L ≤ 4096) : ∀ (k M : Nat), 2 * k + 2 ≤ M → ∀ (s p n q : Nat) (fl pp : Int32), s < k0 → VV T L Sd In Nx Am K F N S I X Lt l n p q → (∃ q', sval T L k p = .inr q') → m_X9_fit M fl pp K F N S I X Lt So Wi Kd kS kN kX (nI n) (nI (n_sg (G s))) = rO fl pp (fto T L G k s p) := by
  have nrm : ∀ x, x < k0 → n_sg (G x) = n_sg (G (n_me (G x))) ∧ n_me (G x) < k0 ∧ n_sg (G x) < sh ∧ So (n_sg (G x)) = nI (srt (n_kd (G (n_me (G x))))) := by
    intro x hx
    obtain ⟨o1, o2, o3, o4, o5⟩ := hO x hx
    have e1 : n_sg (G x) = n_sg (G (n_me (G x))) := by
      by_cases q : n_me (G x) = x
      · rw [q]
      · exact (hR x hx).2.2.1 q
    obtain ⟨t1, t2, t3⟩ := (hR _ o3).2.2.2 o1
    by_cases q : n_kd (G (n_me (G x))) ≤ 5
    · have e2 := t1 q
      have hs : srt (n_kd (G (n_me (G x)))) = n_kd (G (n_me (G x))) := by unfold srt; rw [if_neg (by omega), if_neg (by omega), if_neg (by omega), if_neg (by omega)]
      rw [e1, e2]
      refine ⟨rfl, o3, by omega, ?_⟩
      rw [hs, hS _ (by omega)]
    · obtain ⟨c1, c2, c3, _⟩ := t3 (by omega) o2
      rw [e1]
      exact ⟨rfl, o3, c2, c3⟩
  have kids : ∀ x, x < k0 → 6 ≤ n_kd (G (n_me (G x))) → n_kd (G (n_me (G x))) ≠ 9 → ICH kX (Kd (n_sg (G x))) (n_ch (G (n_me (G x)))).length (fun j => (n_kl (G (n_me (G x)))).getD j 0) kc ∧ (∀ j, j < (n_ch (G (n_me (G x)))).length → kS ((n_kl (G (n_me (G x)))).getD j 0) = nI (n_sg (G ((n_ch (G (n_me (G x)))).getD j 0))) ∧ (n_kd (G (n_me (G x))) = 10 → RNm N S Lt l (kN ((n_kl (G (n_me (G x)))).getD j 0)) (n_fn (G ((n_ch (G (n_me (G x)))).getD j 0)))) ∧ (n_ch (G (n_me (G x)))).getD j 0 < k0) := by
    intro x hx h1 h2
    obtain ⟨o1, o2, o3, o4, o5⟩ := hO x hx
    obtain ⟨p1, p2, p3, p4, p5⟩ := hO _ o3
    obtain ⟨t1, t2, t3⟩ := (hR _ o3).2.2.2 o1
    obtain ⟨c1, c2, c3, c4, c5, c6, c7, c8⟩ := t3 h1 o2
    have hlen := (p5 o1).2.2 h2
    rw [(nrm x hx).1]
    rw [hlen] at c4
    exact ⟨c4, fun j hj => ⟨(c6 j hj).1, (c6 j hj).2, (p4 _ (ch_mem hj)).1⟩⟩
  intro k
  induction k with
  | zero =>
    intro M hM s p n q fl pp hs hv ⟨q', h⟩
    cases h
  | succ k ih =>
    intro M hM s p n q fl pp hs hv ⟨q', hsv⟩
    have hb := hv.base
    obtain ⟨kk2, kk1, kk0, kk3⟩ := hv.kk
    obtain ⟨kw4, kw5, kw6'⟩ := hv.kw
    have body : ∀ (M c : Nat) (fl pp : Int32), 2 * k + 3 ≤ M → c < k0 → n_kd (G (n_me (G c))) ≤ 10 → m_X9_fit M fl pp K F N S I X Lt So Wi Kd kS kN kX (nI n) (nI (n_sg (G c))) = rO fl pp (ftb T L G (fto T L G k) (n_me (G c)) p) := by
      intro M c fl pp hM hc h10
      obtain ⟨M, rfl⟩ : ∃ z, M = z + 1 := ⟨M - 1, by omega⟩
      have ih2 := ih M (by omega)
      obtain ⟨r1, r2, r3, r4⟩ := nrm c hc
      obtain ⟨o1, o2, o3, o4, o5⟩ := hO c hc
      have kd0 := kids c hc
      have sg140 : n_sg (G c) < 140 := by omega
      simp only [m_X9_fit, bd_go (show n < 4200 by omega) (by decide), bd_gc (show n < 4200 by omega) (by decide), nI_clamp (show n < 2 ^ 31 by omega), bd_go sg140 (by decide), bd_gc sg140 (by decide), nI_clamp (show n_sg (G c) < 2 ^ 31 by omega), r4, hb.2.2.2, m_X9_fit_89, m_X9_fit_119, m_X9_fit_124, m_X9_fit_166, m_X9_fit_167, m_X9_fit_192, m_X9_fit_217, m_X9_fit_256, m_X9_fit_257, m_X9_fit_291, m_X9_fit_292, m_X9_fit_336, m_X9_fit_402, m_X9_fit_478]
      generalize hm : n_me (G c) = m at *
      have ns : ∀ j, j < 100 → (nI (srt (n_kd (G m))) = nI j ↔ srt (n_kd (G m)) = j) := fun j hj => nI_eq (by have := (srt_6 _ o2).2.2.2; omega) (by omega)
      unfold ftb
      have good : ∀ {r : Option Nat}, okd T L G m p → n_kd (G m) ≠ 6 → n_kd (G m) ≠ 7 → n_kd (G m) ≠ 10 → rO fl pp (if dec (okd T L G m p) = true then (if n_kd (G m) = 6 ∨ n_kd (G m) = 7 then r else if n_kd (G m) = 10 then ftr T L G (fto T L G k) p (n_ch (G m)) else none) else some p) = some (.ok ((), (fl, pp))) := fun h a b c => by rw [dec_t h, bT, if_neg (fun z => z.elim a b), if_neg c]; rfl
      have bad : ∀ {r : Option Nat}, ¬ okd T L G m p → rO fl pp (if dec (okd T L G m p) = true then r else some p) = some (.error (12, nI p)) := fun h => by rw [dec_f h, bF]; rfl
      by_cases q0 : n_kd (G m) = 0
      · rw [if_pos (show nI (srt (n_kd (G m))) = 0 by rw [q0]; rfl)]
        have ok : okd T L G m p ↔ K n = 6 := by unfold okd; rw [if_pos q0]; exact kw6'.symm
        by_cases z : K n = 6
        · rw [if_pos z, nd1, trO, good (ok.mpr z) (by omega) (by omega) (by omega)]
        · rw [if_neg z, nd0, trE, bad (fun w => z (ok.mp w))]
      rw [if_neg (show ¬ nI (srt (n_kd (G m))) = 0 from fun z => by have := (ns 0 (by decide)).mp z; rw [show (0 : Nat) = srt 0 from rfl] at this; exact q0 (srt_i _ o2 0 (by decide) this))]
      by_cases q1 : n_kd (G m) = 1
      · rw [if_pos (show nI (srt (n_kd (G m))) = 1 by rw [q1]; rfl)]
        have ok : okd T L G m p ↔ (K n = 4 ∨ K n = 5) := by unfold okd; rw [if_neg q0, if_pos q1, kw4, kw5]
        by_cases z : K n = 4
        · rw [if_pos z, nd1, trO, good (ok.mpr (Or.inl z)) (by omega) (by omega) (by omega)]
        · rw [if_neg z]
          by_cases z2 : K n = 5
          · rw [if_pos z2, nd1, trO, good (ok.mpr (Or.inr z2)) (by omega) (by omega) (by omega)]
          · rw [if_neg z2, nd0, trE, bad (fun w => (ok.mp w).elim z z2)]
      rw [if_neg (show ¬ nI (srt (n_kd (G m))) = 1 from fun z => by have := (ns 1 (by decide)).mp z; rw [show (1 : Nat) = srt 1 from rfl] at this; exact q1 (srt_i _ o2 1 (by decide) this))]
      by_cases q2 : n_kd (G m) = 2
      · rw [if_pos (show nI (srt (n_kd (G m))) = 2 by rw [q2]; rfl)]
        by_cases cn : cb T L p = 45 ∨ (48 ≤ cb T L p ∧ cb T L p ≤ 57)
        · rw [if_pos (kk3.mpr cn), (hv.num cn).1]
          have ok : okd T L G m p ↔ lg_cmp (snv T L p) (snv T L p).toInt32.toInt64 = 0 := by unfold okd; rw [if_neg q0, if_neg q1, if_pos q2]; exact ⟨fun z => z.2, fun z => ⟨cn, z⟩⟩
          by_cases z : lg_cmp (snv T L p) (snv T L p).toInt32.toInt64 = 0
          · rw [if_pos z, nd1, trO, good (ok.mpr z) (by omega) (by omega) (by omega)]
          · rw [if_neg z, nd0, trE, bad (fun w => z (ok.mp w))]
        · rw [if_neg (fun z => cn (kk3.mp z)), nd0, trE, bad (fun w => by unfold okd at w; rw [if_neg q0, if_neg q1, if_pos q2] at w; exact cn w.1)]
      rw [if_neg (show ¬ nI (srt (n_kd (G m))) = 2 from fun z => by have := (ns 2 (by decide)).mp z; rw [show (2 : Nat) = srt 2 from rfl] at this; exact q2 (srt_i _ o2 2 (by decide) this))]
      by_cases q3 : n_kd (G m) = 3
      · rw [if_pos (show nI (srt (n_kd (G m))) = 3 by rw [q3]; rfl)]
        have ok : okd T L G m p ↔ K n = 3 := by unfold okd; rw [if_neg q0, if_neg q1, if_neg q2, if_pos q3]; exact kk3.symm
        by_cases z : K n = 3
        · rw [if_pos z, nd1, trO, good (ok.mpr z) (by omega) (by omega) (by omega)]
        · rw [if_neg z, nd0, trE, bad (fun w => z (ok.mp w))]
      rw [if_neg (show ¬ nI (srt (n_kd (G m))) = 3 from fun z => by have := (ns 3 (by decide)).mp z; rw [show (3 : Nat) = srt 3 from rfl] at this; exact q3 (srt_i _ o2 3 (by decide) this))]
      by_cases q4 : n_kd (G m) = 4
      · rw [if_pos (show nI (srt (n_kd (G m))) = 4 by rw [q4]; rfl)]
        have ok : okd T L G m p ↔ K n = 2 := by unfold okd; rw [if_neg q0, if_neg q1, if_neg q2, if_neg q3, if_pos q4]; exact kk2.symm
        by_cases z : K n = 2
        · rw [if_pos z, nd1, trO, good (ok.mpr z) (by omega) (by omega) (by omega)]
        · rw [if_neg z, nd0, trE, bad (fun w => z (ok.mp w))]
      rw [if_neg (show ¬ nI (srt (n_kd (G m))) = 4 from fun z => by have := (ns 4 (by decide)).mp z; rw [show (4 : Nat) = srt 4 from rfl] at this; exact q4 (srt_i _ o2 4 (by decide) this))]
      by_cases q5 : n_kd (G m) = 5
      · rw [if_pos (show nI (srt (n_kd (G m))) = 5 by rw [q5]; rfl)]
        have ok : okd T L G m p ↔ K n = 2 := by unfold okd; rw [if_neg q0, if_neg q1, if_neg q2, if_neg q3, if_neg q4, if_pos q5]; exact kk2.symm
        by_cases z : K n = 2
        · rw [if_pos z, nd1, trO, good (ok.mpr z) (by omega) (by omega) (by omega)]
        · rw [if_neg z, nd0, trE, bad (fun w => z (ok.mp w))]
      rw [if_neg (show ¬ nI (srt (n_kd (G m))) = 5 from fun z => by have := (ns 5 (by decide)).mp z; rw [show (5 : Nat) = srt 5 from rfl] at this; exact q5 (srt_i _ o2 5 (by decide) this))]
      by_cases q6 : n_kd (G m) = 6
      · rw [if_pos (show nI (srt (n_kd (G m))) = 6 by rw [q6]; rfl)]
        have ok : okd T L G m p ↔ K n = 1 := by unfold okd; rw [if_neg q0, if_neg q1, if_neg q2, if_neg q3, if_neg q4, if_neg q5, if_pos q6]; exact kk1.symm
        by_cases z : K n = 1
        · have c91 := kk1.mp z
          rw [if_pos z, nd1, trO, dec_t (ok.mpr z), bT, if_pos (Or.inl q6)]
          obtain ⟨ch1, ch2⟩ := kd0 (by omega) (by omega)
          have hlen := ((hO m o3).2.2.2.2 o1).1 (Or.inl q6)
          obtain ⟨w1, w2, w3⟩ := ch2 0 (by omega)
          have hk0 := (ch1.1 0 (by omega)).1
          have hk0 : (n_kl (G m)).getD 0 0 < kc := hk0
          have hKd : Kd (n_sg (G c)) = nI ((n_kl (G m)).getD 0 0) := by rw [ch1.2.2, if_neg (by omega)]
          obtain ⟨a1, a2, a3, a4⟩ := hv.lst c91
          have hel := sv_el hsv (Or.inl c91)
          have go : ∀ (ks : List (Nat × Nat)) (fuel lo hi : Nat) (hcp hr : Int32) (fl pp : Int32), ks.length < fuel → (∀ v, v ∈ ks → ∃ b, sval T L k v.2 = .inr b) → LCH T L Sd In Nx Am K F N S I X Lt l ks lo hi hcp hr → m_X9_fit_350 (m_X9_fit M) K F N S I X Lt So Wi Kd kS kN kX fuel fl pp (nI (n_sg (G c))) hr = rO fl pp (ftl (fto T L G k (fst1 G m)) ks) := by
            intro ks
            induction ks with
            | nil =>
              intro fuel lo hi hcp hr fl pp hfu _ h
              obtain ⟨fu, rfl⟩ : ∃ z, fuel = z + 1 := ⟨fuel - 1, by omega⟩
              simp only [m_X9_fit_350]
              rw [h.2.2, if_pos (show (-1 : Int32) < 0 by decide)]
              rfl
            | cons v t ihk =>
              intro fuel lo hi hcp hr fl pp hfu hsb h
              obtain ⟨fu, rfl⟩ : ∃ z, fuel = z + 1 := ⟨fuel - 1, by omega⟩
              simp only [List.length_cons] at hfu
              obtain ⟨c', b', c1, c2, c3, c4, c5, c6⟩ := h
              have hcb := c4.base
              simp only [m_X9_fit_350]
              rw [c3, if_neg (nI_pos (show c' < 2 ^ 31 by omega))]
              simp only [bd_go sg140 (by decide), bd_gc sg140 (by decide), nI_clamp (show n_sg (G c) < 2 ^ 31 by omega), hKd, bd_go (show (n_kl (G m)).getD 0 0 < 2200 by omega) (by decide), bd_gc (show (n_kl (G m)).getD 0 0 < 2200 by omega) (by decide), nI_clamp (show (n_kl (G m)).getD 0 0 < 2 ^ 31 by omega), w1]
              rw [show (n_ch (G m)).getD 0 0 = fst1 G m from rfl, ih2 (fst1 G m) v.2 c' b' fl pp w3 c4 (hsb v List.mem_cons_self)]
              simp only [ftl]
              cases hft : fto T L G k (fst1 G m) v.2 with
              | none =>
                simp only [rO, trO, bd_go (show c' < 4200 by omega) (by decide), bd_gc (show c' < 4200 by omega) (by decide), nI_clamp (show c' < 2 ^ 31 by omega)]
                exact ihk fu _ _ _ _ fl pp (by omega) (fun v hv => hsb v (List.mem_cons_of_mem _ hv)) c6
              | some z => rfl
          exact go (prt T L p) sr_fuel _ _ _ _ fl pp (by unfold sr_fuel; omega) hel a4
        · rw [if_neg z, nd0, trE, bad (fun w => z (ok.mp w))]
      rw [if_neg (show ¬ nI (srt (n_kd (G m))) = 6 from fun z => by have := (ns 6 (by decide)).mp z; rw [show (6 : Nat) = srt 6 from rfl] at this; exact q6 (srt_i _ o2 6 (by decide) this))]
      by_cases q7 : n_kd (G m) = 7
      · rw [if_pos (show nI (srt (n_kd (G m))) = 7 by rw [q7]; rfl)]
        have ok : okd T L G m p ↔ K n = 0 := by unfold okd; rw [if_neg q0, if_neg q1, if_neg q2, if_neg q3, if_neg q4, if_neg q5, if_neg q6, if_pos q7]; exact kk0.symm
        by_cases z : K n = 0
        · have c123 := kk0.mp z
          rw [if_pos z, nd1, trO, dec_t (ok.mpr z), bT, if_pos (Or.inr q7)]
          obtain ⟨ch1, ch2⟩ := kd0 (by omega) (by omega)
          have hlen := ((hO m o3).2.2.2.2 o1).1 (Or.inr q7)
          obtain ⟨w1, w2, w3⟩ := ch2 0 (by omega)
          have hk0 := (ch1.1 0 (by omega)).1
          have hk0 : (n_kl (G m)).getD 0 0 < kc := hk0
          have hKd : Kd (n_sg (G c)) = nI ((n_kl (G m)).getD 0 0) := by rw [ch1.2.2, if_neg (by omega)]
          obtain ⟨a1, a3, a4⟩ := hv.oc c123
          have hel := sv_el hsv (Or.inr c123)
          have go : ∀ (ks : List (Nat × Nat)) (fuel lo hi : Nat) (hcp hr : Int32) (fl pp : Int32), ks.length < fuel → (∀ v, v ∈ ks → ∃ b, sval T L k v.2 = .inr b) → OCH T L Sd In Nx Am K F N S I X Lt l ks lo hi hcp hr → m_X9_fit_416 (m_X9_fit M) K F N S I X Lt So Wi Kd kS kN kX fuel fl pp (nI (n_sg (G c))) hr = rO fl pp (ftl (fto T L G k (fst1 G m)) ks) := by
            intro ks
            induction ks with
            | nil =>
              intro fuel lo hi hcp hr fl pp hfu _ h
              obtain ⟨fu, rfl⟩ : ∃ z, fuel = z + 1 := ⟨fuel - 1, by omega⟩
              simp only [m_X9_fit_416]
              rw [h.2.2, if_pos (show (-1 : Int32) < 0 by decide)]
              rfl
            | cons v t ihk =>
              intro fuel lo hi hcp hr fl pp hfu hsb h
              obtain ⟨fu, rfl⟩ : ∃ z, fuel = z + 1 := ⟨fuel - 1, by omega⟩
              simp only [List.length_cons] at hfu
              obtain ⟨c', b', s', h1, h2, h3, ⟨y1, y2, y3, y4, y5, y6, y7, y8, y9, y10⟩, h5, h6', h7⟩ := h
              have hcb := h5.base
              simp only [m_X9_fit_416]
              rw [h3, if_neg (nI_pos (show c' < 2 ^ 31 by omega))]
              simp only [bd_go (show c' < 4200 by omega) (by decide), bd_gc (show c' < 4200 by omega) (by decide), nI_clamp (show c' < 2 ^ 31 by omega), y2, bd_go (show c' + 1 < 4200 by omega) (by decide), bd_gc (show c' + 1 < 4200 by omega) (by decide), nI_clamp (show c' + 1 < 2 ^ 31 by omega), bd_go sg140 (by decide), bd_gc sg140 (by decide), nI_clamp (show n_sg (G c) < 2 ^ 31 by omega), hKd, bd_go (show (n_kl (G m)).getD 0 0 < 2200 by omega) (by decide), bd_gc (show (n_kl (G m)).getD 0 0 < 2200 by omega) (by decide), nI_clamp (show (n_kl (G m)).getD 0 0 < 2 ^ 31 by omega), w1]
              rw [show (n_ch (G m)).getD 0 0 = fst1 G m from rfl, ih2 (fst1 G m) v.2 (c' + 1) b' fl pp w3 h5 (hsb v List.mem_cons_self)]
              simp only [ftl]
              cases hft : fto T L G k (fst1 G m) v.2 with
              | none =>
                simp only [rO, trO]
                exact ihk fu _ _ _ _ fl pp (by omega) (fun v hv => hsb v (List.mem_cons_of_mem _ hv)) h7
              | some z => rfl
          exact go (prt T L p) sr_fuel _ _ _ _ fl pp (by unfold sr_fuel; omega) hel a4
        · rw [if_neg z, nd0, trE, bad (fun w => z (ok.mp w))]
      rw [if_neg (show ¬ nI (srt (n_kd (G m))) = 7 from fun z => by have := (ns 7 (by decide)).mp z; rw [show (7 : Nat) = srt 7 from rfl] at this; exact q7 (srt_i _ o2 7 (by decide) this)), if_neg (show ¬ nI (srt (n_kd (G m))) = 8 from fun z => by have := (ns 8 (by decide)).mp z; rw [show (8 : Nat) = srt 11 from rfl] at this; have := srt_i _ o2 11 (by decide) this; omega)]
      by_cases q8 : n_kd (G m) = 8
      · rw [if_pos (show nI (srt (n_kd (G m))) = 9 by rw [q8]; rfl)]
        by_cases c34 : cb T L p = 34
        · obtain ⟨s0, y1, y2, y3, y4, y5, y6⟩ := hv.str c34
          obtain ⟨t1, t2, t3⟩ := (hR _ o3).2.2.2 o1
          have hwi := (t3 (by omega) o2).2.2.2.2.2.2.1 q8
          have hwd := hW m o3 o1 q8
          rw [if_pos (kk2.mpr c34), y4.1, r1, hwi]
          have ok : okd T L G m p ↔ s0.length = n_wd (G m) := by unfold okd; rw [if_neg q0, if_neg q1, if_neg q2, if_neg q3, if_neg q4, if_neg q5, if_neg q6, if_neg q7, if_pos q8, y2]; exact ⟨fun z => z.2, fun z => ⟨c34, z⟩⟩
          by_cases z : s0.length = n_wd (G m)
          · rw [if_pos (by rw [z]), nd1, trO, good (ok.mpr z) (by omega) (by omega) (by omega)]
          · rw [if_neg (fun w => z ((nI_eq (by omega) (by omega)).mp w)), nd0, trE, bad (fun w => z (ok.mp w))]
        · rw [if_neg (fun z => c34 (kk2.mp z)), nd0, trE, bad (fun w => by unfold okd at w; rw [if_neg q0, if_neg q1, if_neg q2, if_neg q3, if_neg q4, if_neg q5, if_neg q6, if_neg q7, if_pos q8] at w; exact c34 w.1)]
      rw [if_neg (show ¬ nI (srt (n_kd (G m))) = 9 from fun z => by have := (ns 9 (by decide)).mp z; rw [show (9 : Nat) = srt 8 from rfl] at this; exact q8 (srt_i _ o2 8 (by decide) this))]
      by_cases q9 : n_kd (G m) = 9
      · rw [if_pos (show nI (srt (n_kd (G m))) = 10 by rw [q9]; rfl)]
        by_cases c34 : cb T L p = 34
        · obtain ⟨s0, y1, y2, y3, y4, y5, y6⟩ := hv.str c34
          obtain ⟨t1, t2, t3⟩ := (hR _ o3).2.2.2 o1
          obtain ⟨e1, e2, e3, e4, e5, e6, e7, e8⟩ := t3 (by omega) o2
          obtain ⟨e9, e10⟩ := e8 q9
          rw [if_pos (kk2.mpr c34)]
          have hch : ICH kX (Kd (n_sg (G c))) (n_kl (G m)).length (fun j => (n_kl (G m)).getD j 0) kc := by rw [r1]; exact e4
          have hkl : (n_kl (G m)).length < 90000 := by
            have hmono : ∀ j, j < (n_kl (G m)).length → j ≤ (n_kl (G m)).getD j 0 := by
              intro j
              induction j with
              | zero => intro _; omega
              | succ j ihj =>
                intro hj
                have := ihj (by omega)
                have := e4.2.1 j (j + 1) (by omega) hj
                simp only at this
                omega
            by_cases z : (n_kl (G m)).length = 0
            · omega
            · have := hmono ((n_kl (G m)).length - 1) (by omega)
              have hx := (e4.1 ((n_kl (G m)).length - 1) (by omega)).1
              simp only at hx
              omega
          have ok : okd T L G m p ↔ s0 ∈ n_sy (G m) := by unfold okd; rw [if_neg q0, if_neg q1, if_neg q2, if_neg q3, if_neg q4, if_neg q5, if_neg q6, if_neg q7, if_neg q8, if_pos q9, y2]; exact ⟨fun z => z.2, fun z => ⟨c34, z⟩⟩
          rcases rsy_eq (N := N) (S := S) (Lt := Lt) hl sg140 hkc hch e10 (u := s0) (n := n) ⟨n, rfl, hb.2.2.1, y4, y6⟩ hb.2.2.1 hkl with ⟨⟨j, j1, j2⟩, j', j3, j4⟩ | ⟨j1, j2⟩
          · rw [j4]
            simp only [Option.bind_some]
            rw [if_neg (nI_pos (show j' < 2 ^ 31 by omega)), nd1, trO, good (ok.mpr (sy_mem.mp ⟨j, by omega, j2⟩)) (by omega) (by omega) (by omega)]
          · rw [j2]
            simp only [Option.bind_some]
            rw [if_pos (show (-1 : Int32) < 0 by decide), nd0, trE, bad (fun w => by
              obtain ⟨i', h1, h2⟩ := sy_mem.mpr (ok.mp w)
              exact j1 ⟨i', by omega, h2⟩)]
        · rw [if_neg (fun z => c34 (kk2.mp z)), nd0, trE, bad (fun w => by unfold okd at w; rw [if_neg q0, if_neg q1, if_neg q2, if_neg q3, if_neg q4, if_neg q5, if_neg q6, if_neg q7, if_neg q8, if_pos q9] at w; exact c34 w.1)]
      rw [if_neg (show ¬ nI (srt (n_kd (G m))) = 10 from fun z => by have := (ns 10 (by decide)).mp z; rw [show (10 : Nat) = srt 9 from rfl] at this; exact q9 (srt_i _ o2 9 (by decide) this))]
      have q10 : n_kd (G m) = 10 := by omega
      have ok : okd T L G m p ↔ K n = 0 := by unfold okd; rw [if_neg q0, if_neg q1, if_neg q2, if_neg q3, if_neg q4, if_neg q5, if_neg q6, if_neg q7, if_neg q8, if_neg q9, if_pos q10]; exact kk0.symm
      by_cases z : K n = 0
      rotate_left
      · rw [if_neg z, nd0, trE, bad (fun w => z (ok.mp w))]
      have c123 := kk0.mp z
      rw [if_pos z, nd1, trO, dec_t (ok.mpr z), bT, if_neg (fun w => w.elim q6 q7), if_pos q10]
      obtain ⟨ch1, ch2⟩ := kd0 (by omega) (by omega)
      obtain ⟨a1, a3, a4⟩ := hv.oc c123
      have hel := sv_el hsv (Or.inr c123)
      have hlen32 : (n_ch (G m)).length < 90000 := by
        have hmono : ∀ j, j < (n_ch (G m)).length → j ≤ (n_kl (G m)).getD j 0 := by
          intro j
          induction j with
          | zero => intro _; omega
          | succ j ihj =>
            intro hj
            have := ihj (by omega)
            have := ch1.2.1 j (j + 1) (by omega) hj
            simp only at this
            omega
        by_cases z : (n_ch (G m)).length = 0
        · omega
        · have := hmono ((n_ch (G m)).length - 1) (by omega)
          have hx := (ch1.1 ((n_ch (G m)).length - 1) (by omega)).1
          simp only at hx
          omega
      have go : ∀ (fuel j : Nat) (fl pp : Int32), j ≤ (n_ch (G m)).length → (n_ch (G m)).length - j < fuel → m_X9_fit_492 (m_X9_fit M) K F N S I X Lt So Wi Kd kS kN kX fuel fl pp (nI n) (nI p) (if j = (n_ch (G m)).length then -1 else nI ((n_kl (G m)).getD j 0)) = rO fl pp (ftr T L G (fto T L G k) p ((n_ch (G m)).drop j)) := by
        intro fuel
        induction fuel with
        | zero => intro j _ _ _ hf; exact absurd hf (Nat.not_lt_zero _)
        | succ fuel ihf =>
          intro j fl pp hj hfu
          simp only [m_X9_fit_492]
          by_cases ej : j = (n_ch (G m)).length
          · rw [if_pos ej, if_pos (show (-1 : Int32) < 0 by decide), ej, List.drop_length]
            rfl
          · have hjl : j < (n_ch (G m)).length := by omega
            obtain ⟨d1, d2⟩ := ch1.1 j hjl
            have d1 : (n_kl (G m)).getD j 0 < kc := d1
            obtain ⟨w1, w2, w3⟩ := ch2 j hjl
            obtain ⟨mm, m1, m2, m3, m4⟩ := w2 q10
            have edr : (n_ch (G m)).drop j = (n_ch (G m)).getD j 0 :: (n_ch (G m)).drop (j + 1) := by rw [ls_get hjl]; exact List.drop_eq_getElem_cons hjl
            rw [if_neg ej, if_neg (nI_pos (show (n_kl (G m)).getD j 0 < 2 ^ 31 by omega)), edr]
            simp only [bd_go (show (n_kl (G m)).getD j 0 < 2200 by omega) (by decide), bd_gc (show (n_kl (G m)).getD j 0 < 2200 by omega) (by decide), nI_clamp (show (n_kl (G m)).getD j 0 < 2 ^ 31 by omega), m1, m_X9_memberLike, bd_go (show n < 4200 by omega) (by decide), bd_gc (show n < 4200 by omega) (by decide), nI_clamp (show n < 2 ^ 31 by omega), m_X9_fit_522, w1, d2, ftr, mbr]
            rcases mlr_go hl m2 m3 m4 (prt T L p) sr_fuel _ _ _ _ (by unfold sr_fuel; omega) a4 with ⟨g1, g2⟩ | ⟨kk, c', b', g1, g2, g3⟩
            · rw [g1, g2]
              simp only [Option.bind_some, if_pos (show (-1 : Int32) < 0 by decide)]
              rw [nd0, trE]
              rfl
            · rw [g1, g2]
              have hgb := g3.base
              simp only [Option.bind_some, if_neg (nI_pos (show c' < 2 ^ 31 by omega))]
              rw [nd1, trO, ih2 ((n_ch (G m)).getD j 0) kk.2 c' b' fl pp w3 g3 (hel kk (tf_mem _ g1))]
              simp only [Option.map_some]
              cases hft : fto T L G k ((n_ch (G m)).getD j 0) kk.2 with
              | none =>
                simp only [rO, trO]
                exact ihf (j + 1) fl pp (by omega) (by omega)
              | some z => rfl
      have := go sr_fuel 0 fl pp (by omega) (by unfold sr_fuel; omega)
      rw [← ch1.ptr, List.drop_zero] at this
      exact this
    obtain ⟨M, rfl⟩ : ∃ z, M = z + 1 := ⟨M - 1, by omega⟩
    obtain ⟨o1, o2, o3, o4, o5⟩ := hO s hs
    by_cases q11 : n_kd (G (n_me (G s))) = 11
    · obtain ⟨r1, r2, r3, r4⟩ := nrm s hs
      obtain ⟨ch1, ch2⟩ := kids s hs (by omega) (by omega)
      obtain ⟨b1, b2⟩ := ((hO _ o3).2.2.2.2 o1).2.1 q11
      obtain ⟨w1, w2, w3⟩ := ch2 0 b1
      have hk0 := (ch1.1 0 b1).1
      have hk0 : (n_kl (G (n_me (G s)))).getD 0 0 < kc := hk0
      have hKd : Kd (n_sg (G s)) = nI ((n_kl (G (n_me (G s)))).getD 0 0) := by rw [ch1.2.2, if_neg (by omega)]
      have sg140 : n_sg (G s) < 140 := by omega
      have hs8 : nI (srt (n_kd (G (n_me (G s))))) = 8 := by rw [q11]; rfl
      simp only [m_X9_fit, bd_go (show n < 4200 by omega) (by decide), bd_gc (show n < 4200 by omega) (by decide), nI_clamp (show n < 2 ^ 31 by omega), bd_go sg140 (by decide), bd_gc sg140 (by decide), nI_clamp (show n_sg (G s) < 2 ^ 31 by omega), r4, hs8, hKd, bd_go (show (n_kl (G (n_me (G s)))).getD 0 0 < 2200 by omega) (by decide), bd_gc (show (n_kl (G (n_me (G s)))).getD 0 0 < 2200 by omega) (by decide), nI_clamp (show (n_kl (G (n_me (G s)))).getD 0 0 < 2 ^ 31 by omega), w1, if_neg (show ¬ (8 : Int32) = 0 by decide), if_neg (show ¬ (8 : Int32) = 1 by decide), if_neg (show ¬ (8 : Int32) = 2 by decide), if_neg (show ¬ (8 : Int32) = 3 by decide), if_neg (show ¬ (8 : Int32) = 4 by decide), if_neg (show ¬ (8 : Int32) = 5 by decide), if_neg (show ¬ (8 : Int32) = 6 by decide), if_neg (show ¬ (8 : Int32) = 7 by decide), if_true]
      rw [show (n_ch (G (n_me (G s)))).getD 0 0 = fst1 G (n_me (G s)) from rfl, body M (fst1 G (n_me (G s))) fl pp (by omega) w3 (b2 _ (ch_mem b1))]
      simp only [fto, if_pos q11]
      cases ftb T L G (fto T L G k) (n_me (G (fst1 G (n_me (G s))))) p with
      | none => rfl
      | some z => rfl
    · rw [body (M + 1) s fl pp (by omega) hs (by omega)]
      simp only [fto, if_neg q11]
end RFIT
