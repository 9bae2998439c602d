-- the reference's writing of a node against the telling
theorem dig_w : ∀ w, w ≤ 64 → nI w / 10 = nI (w / 10) ∧ nI w - nI w / 10 * 10 = nI (w % 10) ∧ (nI w ≤ 9 ↔ w ≤ 9) := by decide +kernel
theorem kl_go {c : Nat → Nat} {n : Nat} (h : ∀ i j, i < j → j < n → c i < c j) : ∀ i, i < n → i ≤ c i := by
  intro i
  induction i with
  | zero => intro _; exact Nat.zero_le _
  | succ i ih =>
    intro hi
    have h1 := ih (by omega)
    have h2 := h i (i + 1) (by omega) hi
    omega
theorem kl_le {kX : Nat → Int32} {kl : List Nat} (hkl : ∀ j, j < kl.length → kl.getD j 0 < 2200 ∧ kX (kl.getD j 0) = (if j + 1 = kl.length then -1 else nI (kl.getD (j + 1) 0))) (h : ∀ i j, i < j → j < kl.length → (fun j => kl.getD j 0) i < (fun j => kl.getD j 0) j) : kl.length ≤ 2200 := by
  by_cases z : kl.length = 0
  · omega
  · have h1 := kl_go h (kl.length - 1) (by omega)
    have h2 := (hkl (kl.length - 1) (by omega)).1
    have h1 : kl.length - 1 ≤ kl.getD (kl.length - 1) 0 := h1
    omega
section WRC
variable {N : Nat → Int64} {S Lt So Nm Wi Kd kS kN kX : Nat → Int32} {l sh kc k : Nat} {D : List Nat → Option Nat} {G : Nat → Nod} {nm : Nat → List Nat}
theorem w86_a {f : (Nat → Int64) → (Nat → Int32) → (Nat → Int32) → (Nat → Int32) → (Nat → Int32) → (Nat → Int32) → (Nat → Int32) → (Nat → Int32) → (Nat → Int32) → (Nat → Int32) → (Nat → Int32) → Int32 → (Nat → Int32) → Int32 → Option ((Nat → Int32) × Int32 × (Nat → Int32))} {s w : Nat} (hs : s < 140) (hw : w ≤ 64) (hW : Wi s = nI w) {Pl To : Nat → Int32} {pl : List Nat} (h : PLI Pl pl) (hb : pl.length + 2 ≤ 4200) : EWr (m_X9_writeNamed_86 f N S Lt So Nm Wi Kd kS kN kX Pl (nI pl.length) To (nI s)) (pl ++ ([48 + w % 10] ++ [125])) (fun To' => To' = To) := by
  have h9 : w % 10 < 10 := Nat.mod_lt _ (by decide)
  obtain ⟨P1, e1, h1⟩ := fig_a (v := w % 10) (by omega) h (by omega)
  obtain ⟨P2, e2, h2⟩ := put_b (w := 63) (by decide) lit_w.2.2.1 h1 (show _ + 1 ≤ 4200 by rw [len_sn]; omega)
  simp only [m_X9_writeNamed_86, bd_go (show s < 140 by omega) (by decide), bd_gc (show s < 140 by omega) (by decide), nI_clamp (show s < 2 ^ 31 by omega), hW, (dig_w w hw).2.1, e1, e2, Option.bind_some]
  rw [List.append_assoc] at h2 ⊢
  exact ⟨P2, To, rfl, h2, rfl⟩
theorem nmd_a {n d : Nat} (hf : WQ N S Lt So Nm Wi Kd kS kN kX k D G nm n) (H : WRH N S Lt So Nm Wi Kd kS kN kX l sh kc k D G) (hd : d < k) (hm : n_me (G d) = d) (h8 : 8 ≤ n_kd (G d)) (h10 : n_kd (G d) ≤ 10) {to to' : Nat → Bool} {bs pl : List Nat} {Pl To : Nat → Int32} (hw : (if to d = true then some (qt (nm d), to)
    else if n_kd (G d) = 8 then some (litN 21 ++ (qt (nm d) ++ (litN 70 ++ (dgs (n_wd (G d)) ++ [125]))), upB to d)
    else if n_kd (G d) = 9 then some (litN 21 ++ (qt (nm d) ++ (litN 71 ++ (jnS (n_sy (G d)) ++ litN 27))), upB to d)
    else match gS (wS G nm n) (fpre G) [125] (n_ch (G d)) (upB to d) with
      | none => none
      | some r => some (litN 21 ++ (qt (nm d) ++ (litN 72 ++ (r.1 ++ litN 27))), r.2)) = some (bs, to')) (h : PLI Pl pl) (hb : pl.length + bs.length ≤ 4200) (hT : TOL G k To to) (hN : ∀ d, to' d = true → D (nm d) = some d) : EWr (m_X9_writeNamed (m_X9_write n) N S Lt So Nm Wi Kd kS kN kX Pl (nI pl.length) To (nI (n_sg (G d)))) (pl ++ bs) (fun To' => TOL G k To' to') := by
  obtain ⟨hl, hsh, hkc, h6, hN1, hR, hSG, hO, hW⟩ := H
  have hDd : D (nm d) = some d := hN d (by
    by_cases ht : to d = true
    · rw [if_pos ht] at hw
      rw [← (Prod.mk.inj (Option.some.inj hw)).2]; exact ht
    rw [if_neg ht] at hw
    by_cases c5 : n_kd (G d) = 8
    · rw [if_pos c5] at hw
      rw [← (Prod.mk.inj (Option.some.inj hw)).2]; exact if_pos rfl
    rw [if_neg c5] at hw
    by_cases c6 : n_kd (G d) = 9
    · rw [if_pos c6] at hw
      rw [← (Prod.mk.inj (Option.some.inj hw)).2]; exact if_pos rfl
    rw [if_neg c6] at hw
    cases hg : gS (wS G nm n) (fpre G) [125] (n_ch (G d)) (upB to d) with
    | none => rw [hg] at hw; cases hw
    | some r =>
      rw [hg] at hw
      rw [← (Prod.mk.inj (Option.some.inj hw)).2]
      exact gS_mono (wS_mono n) _ _ r.1 r.2 hg d (if_pos rfl))
  obtain ⟨q6, qsh, hnm⟩ := hN1.2 (nm d) d hDd
  obtain ⟨-, -, -, r4⟩ := hR d hd
  obtain ⟨-, b2, b3⟩ := r4 hm
  obtain ⟨-, -, so, ich, hlen, hks, hwd, hsy⟩ := b3 (by omega) (by omega)
  obtain ⟨-, -, -, c1, c2⟩ := hO d hd
  obtain ⟨-, -, ck⟩ := c2 hm
  have hTd := hT d hd hm h8 h10
  have hTu := hT.up hSG hd hm h8 h10
  have hkl : ∀ j, j < (n_kl (G d)).length → (n_kl (G d)).getD j 0 < 2200 ∧ kX ((n_kl (G d)).getD j 0) = (if j + 1 = (n_kl (G d)).length then -1 else nI ((n_kl (G d)).getD (j + 1) 0)) := fun j hj => by
    obtain ⟨i1, i2⟩ := ich.1 j hj
    exact ⟨Nat.lt_of_lt_of_le i1 hkc, i2⟩
  have hK0 := ich.2.2
  generalize hsg : n_sg (G d) = s at q6 qsh hnm so hK0 hwd hTd hTu ⊢
  have n10 : ¬ (1 : Int32) = 0 := by decide
  by_cases ht : to d = true
  · rw [if_pos ht] at hw hTd
    obtain ⟨rfl, rfl⟩ := Prod.mk.inj (Option.some.inj hw)
    obtain ⟨P1, e1, h1⟩ := pnm_a hl hnm h hb
    simp only [m_X9_writeNamed, bd_go (show s < 140 by omega) (by decide), bd_gc (show s < 140 by omega) (by decide), nI_clamp (show s < 2 ^ 31 by omega), hTd, if_neg n10, e1, Option.bind_some]
    exact ⟨P1, To, rfl, h1, hT⟩
  rw [if_neg ht] at hw hTd
  have e21 := lit_w.2.2.2.2.2.2.2.2.1
  rcases (show n_kd (G d) = 8 ∨ n_kd (G d) = 9 ∨ n_kd (G d) = 10 by omega) with e | e | e
  · rw [if_pos e] at hw
    obtain ⟨rfl, rfl⟩ := Prod.mk.inj (Option.some.inj hw)
    have hw64 := hW d hd hm e
    have hWs := hwd e
    rw [e] at so
    have so9 : So s = 9 := so.trans (by decide)
    generalize n_wd (G d) = w at hw64 hWs hb ⊢
    simp only [List.length_append, List.length_singleton] at hb
    have hdg : (dgs w).length ≤ 2 ∧ 1 ≤ (dgs w).length ∧ (¬ w ≤ 9 → (dgs w).length = 2) := by
      unfold dgs
      by_cases q : 10 ≤ w
      · rw [if_pos q]; exact ⟨Nat.le_refl 2, show 1 ≤ 2 by decide, fun _ => rfl⟩
      · rw [if_neg q]; exact ⟨show 1 ≤ 2 by decide, Nat.le_refl 1, fun z => absurd (show w ≤ 9 by omega) z⟩
    obtain ⟨P1, e1, h1⟩ := put_b (w := 69) (by decide) e21 h (by omega)
    obtain ⟨P2, e2, h2⟩ := pnm_a hl hnm h1 (by simp only [List.length_append]; omega)
    obtain ⟨P3, e3, h3⟩ := put_a (w := 70) (by decide) h2 (by simp only [List.length_append]; omega)
    simp only [m_X9_writeNamed, bd_go (show s < 140 by omega) (by decide), bd_gc (show s < 140 by omega) (by decide), nI_clamp (show s < 2 ^ 31 by omega), hTd, if_true, e1, e2, e3, Option.bind_some, so9, hWs]
    by_cases q : w ≤ 9
    · rw [if_pos ((dig_w w hw64).2.2.mpr q)]
      obtain ⟨P4, T4, e4, h4, t4⟩ := w86_a (f := m_X9_write n) (N := N) (S := S) (Lt := Lt) (So := So) (Nm := Nm) (Kd := Kd) (kS := kS) (kN := kN) (kX := kX) (To := upd To s (vp_nar .boolean 1)) (show s < 140 by omega) hw64 hWs h3 (by simp only [List.length_append]; omega)
      rw [e4, t4]
      have ed : dgs w = [48 + w % 10] := if_neg (by omega)
      rw [ed]
      simp only [List.append_assoc] at h4 ⊢
      exact ⟨P4, _, rfl, h4, hTu⟩
    · rw [if_neg (fun z => q ((dig_w w hw64).2.2.mp z)), (dig_w w hw64).1]
      have hd2 := hdg.2.2 q
      obtain ⟨P4, e4, h4⟩ := fig_a (v := w / 10) (by omega) h3 (by simp only [List.length_append]; omega)
      rw [e4, Option.bind_some]
      dsimp only
      obtain ⟨P5, T5, e5, h5, t5⟩ := w86_a (f := m_X9_write n) (N := N) (S := S) (Lt := Lt) (So := So) (Nm := Nm) (Kd := Kd) (kS := kS) (kN := kN) (kX := kX) (To := upd To s (vp_nar .boolean 1)) (show s < 140 by omega) hw64 hWs h4 (by simp only [List.length_append, List.length_singleton]; omega)
      rw [e5, t5]
      have ed : dgs w = [48 + w / 10] ++ [48 + w % 10] := if_pos (by omega)
      rw [ed]
      simp only [List.append_assoc] at h5 ⊢
      exact ⟨P5, _, rfl, h5, hTu⟩
  · rw [if_neg (show ¬ n_kd (G d) = 8 by omega), if_pos e] at hw
    obtain ⟨rfl, rfl⟩ := Prod.mk.inj (Option.some.inj hw)
    obtain ⟨hsl, hsn⟩ := hsy e
    rw [e] at so
    have so10 : So s = 10 := so.trans (by decide)
    have l27 : (litN 27).length = 2 := by decide +kernel
    simp only [List.length_append, l27] at hb
    obtain ⟨P1, e1, h1⟩ := put_b (w := 69) (by decide) e21 h (by omega)
    obtain ⟨P2, e2, h2⟩ := pnm_a hl hnm h1 (by simp only [List.length_append]; omega)
    obtain ⟨P3, e3, h3⟩ := put_a (w := 71) (by decide) h2 (by simp only [List.length_append]; omega)
    simp only [m_X9_writeNamed, m_X9_writeNamed_128, bd_go (show s < 140 by omega) (by decide), bd_gc (show s < 140 by omega) (by decide), nI_clamp (show s < 2 ^ 31 by omega), hTd, if_true, e1, e2, e3, Option.bind_some, so10, if_neg (show ¬ (10 : Int32) = 9 by decide)]
    have hgo := w138_e (n := n) (N := N) (S := S) (Lt := Lt) (Nm := Nm) (Wi := Wi) (Kd := Kd) (kS := kS) hl (show s < 140 by omega) so10 hsl hkl hsn (n_sy (G d)) [] sr_fuel _ P3 (upd To s (vp_nar .boolean 1)) rfl (by rw [hsl]; have := kl_le hkl ich.2.1; unfold sr_fuel; omega) h3 (by simp only [List.length_append]; omega)
    have hx0 : Kd s = (if n_sy (G d) = [] then -1 else nI ((n_kl (G d)).getD ([] : List (List Nat)).length 0)) := by
      rw [hK0]
      by_cases z : n_sy (G d) = []
      · rw [if_pos z, if_pos (by rw [← hsl, z]; rfl)]
      · rw [if_neg z, if_neg (fun y => z (List.eq_nil_of_length_eq_zero (hsl.trans y)))]
        rfl
    rw [← hx0] at hgo
    obtain ⟨P4, T4, e4, h4, t4⟩ := hgo
    rw [e4, t4]
    simp only [List.append_assoc] at h4 ⊢
    exact ⟨P4, _, rfl, h4, hTu⟩
  · rw [if_neg (show ¬ n_kd (G d) = 8 by omega), if_neg (show ¬ n_kd (G d) = 9 by omega)] at hw
    cases hg : gS (wS G nm n) (fpre G) [125] (n_ch (G d)) (upB to d) with
    | none => rw [hg] at hw; cases hw
    | some r =>
      rw [hg] at hw
      obtain ⟨rfl, rfl⟩ := Prod.mk.inj (Option.some.inj hw)
      have hcl := ck (by omega)
      rw [e] at so
      have so11 : So s = 11 := so.trans (by decide)
      have l27 : (litN 27).length = 2 := by decide +kernel
      simp only [List.length_append, l27] at hb
      obtain ⟨P1, e1, h1⟩ := put_b (w := 69) (by decide) e21 h (by omega)
      obtain ⟨P2, e2, h2⟩ := pnm_a hl hnm h1 (by simp only [List.length_append]; omega)
      obtain ⟨P3, e3, h3⟩ := put_a (w := 72) (by decide) h2 (by simp only [List.length_append]; omega)
      simp only [m_X9_writeNamed, m_X9_writeNamed_128, bd_go (show s < 140 by omega) (by decide), bd_gc (show s < 140 by omega) (by decide), nI_clamp (show s < 2 ^ 31 by omega), hTd, if_true, e1, e2, e3, Option.bind_some, so11, if_neg (show ¬ (11 : Int32) = 9 by decide), if_neg (show ¬ (11 : Int32) = 10 by decide)]
      have hgo := w138_r hf hl (show s < 140 by omega) so11 hcl hkl (fun j hj => ⟨(hks j hj).1, (hks j hj).2 e⟩) (fun c hc => (c1 c hc).1) (n_ch (G d)) [] sr_fuel _ r.1 P3 (upd To s (vp_nar .boolean 1)) (upB to d) r.2 rfl (by rw [← hcl]; have := kl_le hkl ich.2.1; unfold sr_fuel; omega) hg h3 (by simp only [List.length_append]; omega) hTu hN
      have hx0 : Kd s = (if n_ch (G d) = [] then -1 else nI ((n_kl (G d)).getD ([] : List Nat).length 0)) := by
        rw [hK0]
        by_cases z : n_ch (G d) = []
        · rw [if_pos z, if_pos (by rw [hcl, z]; rfl)]
        · rw [if_neg z, if_neg (fun y => z (List.eq_nil_of_length_eq_zero (hcl.symm.trans y)))]
          rfl
      rw [← hx0] at hgo
      obtain ⟨P4, T4, e4, h4, t4⟩ := hgo
      rw [e4]
      simp only [List.append_assoc] at h4 ⊢
      exact ⟨P4, _, rfl, h4, t4⟩
theorem wri_b (H : WRH N S Lt So Nm Wi Kd kS kN kX l sh kc k D G) : ∀ n, WQ N S Lt So Nm Wi Kd kS kN kX k D G nm n := by
  intro n
  induction n with
  | zero => intro i to to' bs pl Pl To hi h; cases h
  | succ n ih =>
    intro i to to' bs pl Pl To hi h hp hb hT hN
    have H0 := H
    obtain ⟨hl, hsh, hkc, h6, hN1, hR, hSG, hO, hW⟩ := H
    obtain ⟨o1, o2, o3, -, -⟩ := hO i hi
    have hsg : n_sg (G i) = n_sg (G (n_me (G i))) := by
      by_cases e : n_me (G i) = i
      · rw [e]
      · exact (hR i hi).2.2.1 e
    rw [hsg]
    unfold wS at h
    generalize n_me (G i) = d at o1 o2 o3 h ⊢
    obtain ⟨-, -, -, r4⟩ := hR d o3
    obtain ⟨b1, b2, b3⟩ := r4 o1
    obtain ⟨-, -, -, c1, c2⟩ := hO d o3
    obtain ⟨ca, -, ck⟩ := c2 o1
    by_cases k5 : n_kd (G d) ≤ 5
    · rw [if_pos k5] at h
      obtain ⟨rfl, rfl⟩ := Prod.mk.inj (Option.some.inj h)
      rw [b1 k5]
      obtain ⟨P1, T1, e1, h1, t1⟩ := wri_w (n := n) (N := N) (S := S) (Lt := Lt) (Nm := Nm) (Wi := Wi) (Kd := Kd) (kS := kS) (kN := kN) (kX := kX) (To := To) k5 h6 hp hb
      exact ⟨P1, T1, e1, h1, by rw [t1]; exact hT⟩
    rw [if_neg k5] at h
    obtain ⟨s6, ssh, so, ich, hlen, hks, hwd, hsy⟩ := b3 (by omega) o2
    have hs140 : n_sg (G d) < 140 := by omega
    have hK0 := ich.2.2
    have hkl : ∀ j, j < (n_kl (G d)).length → (n_kl (G d)).getD j 0 < 2200 ∧ kX ((n_kl (G d)).getD j 0) = (if j + 1 = (n_kl (G d)).length then -1 else nI ((n_kl (G d)).getD (j + 1) 0)) := fun j hj => by
      obtain ⟨i1, i2⟩ := ich.1 j hj
      exact ⟨Nat.lt_of_lt_of_le i1 hkc, i2⟩
    by_cases k67 : n_kd (G d) = 6 ∨ n_kd (G d) = 7
    · rw [if_pos k67] at h
      have hc1 := ca k67
      have hk1 := ck (by omega)
      obtain ⟨c, hc⟩ : ∃ c, n_ch (G d) = [c] := List.length_eq_one_iff.mp hc1
      rw [hc1] at hk1
      obtain ⟨a, hka⟩ : ∃ a, n_kl (G d) = [a] := List.length_eq_one_iff.mp hk1
      have ha := (hkl 0 (by omega)).1
      have hks0 := (hks 0 (by omega)).1
      rw [hka] at ha hks0
      rw [hc] at hks0
      have ha : a < 2200 := ha
      have hks0 : kS a = nI (n_sg (G c)) := hks0
      have hKa : Kd (n_sg (G d)) = nI a := by
        rw [hK0, if_neg (by omega), hka]
        rfl
      have hcm := (c1 c (by rw [hc]; exact List.mem_cons_self)).1
      rw [hc] at h
      dsimp only at h
      cases hw : wS G nm n c to with
      | none => rw [hw] at h; cases h
      | some r =>
        rw [hw] at h
        obtain ⟨rfl, rfl⟩ := Prod.mk.inj (Option.some.inj h)
        rcases k67 with e | e
        · rw [e] at so
          have so6 : So (n_sg (G d)) = 6 := so.trans (by decide)
          rw [if_pos e, ← lit_w.1] at hb ⊢
          simp only [m_X9_write, bd_go (show n_sg (G d) < 140 by omega) (by decide), bd_gc (show n_sg (G d) < 140 by omega) (by decide), nI_clamp (show n_sg (G d) < 2 ^ 31 by omega), so6, if_true]
          exact w65_a ih hs140 ha hKa hks0 hcm (by decide) hw hp hb hT hN
        · rw [e] at so
          have so7 : So (n_sg (G d)) = 7 := so.trans (by decide)
          rw [if_neg (show ¬ n_kd (G d) = 6 by omega), ← lit_w.2.1] at hb ⊢
          simp only [m_X9_write, bd_go (show n_sg (G d) < 140 by omega) (by decide), bd_gc (show n_sg (G d) < 140 by omega) (by decide), nI_clamp (show n_sg (G d) < 2 ^ 31 by omega), so7, if_neg (show ¬ (7 : Int32) = 6 by decide), if_true]
          exact w65_a ih hs140 ha hKa hks0 hcm (by decide) hw hp hb hT hN
    rw [if_neg k67] at h
    by_cases k11 : n_kd (G d) = 11
    · rw [if_pos k11] at h
      cases hg : gS (wS G nm n) (fun _ => []) [] (n_ch (G d)) to with
      | none => rw [hg] at h; cases h
      | some r =>
        rw [hg] at h
        obtain ⟨rfl, rfl⟩ := Prod.mk.inj (Option.some.inj h)
        have hcl := ck (by omega)
        rw [k11] at so
        have so8 : So (n_sg (G d)) = 8 := so.trans (by decide)
        simp only [List.length_append, List.length_singleton] at hb
        obtain ⟨P1, e1, h1⟩ := put_b (w := 64) (by decide) lit_w.2.2.2.1 hp (show _ + 1 ≤ 4200 by omega)
        simp only [m_X9_write, bd_go (show n_sg (G d) < 140 by omega) (by decide), bd_gc (show n_sg (G d) < 140 by omega) (by decide), nI_clamp (show n_sg (G d) < 2 ^ 31 by omega), so8, if_neg (show ¬ (8 : Int32) = 6 by decide), if_neg (show ¬ (8 : Int32) = 7 by decide), if_true, e1, Option.bind_some]
        have hgo := w107_a ih hcl hkl (fun j hj => (hks j hj).1) (fun c hc => (c1 c hc).1) (n_ch (G d)) [] sr_fuel _ r.1 P1 To to r.2 rfl (by rw [← hcl]; have := kl_le hkl ich.2.1; unfold sr_fuel; omega) hg h1 (by simp only [List.length_append, List.length_singleton]; omega) hT hN
        have hx0 : Kd (n_sg (G d)) = (if n_ch (G d) = [] then -1 else nI ((n_kl (G d)).getD ([] : List Nat).length 0)) := by
          rw [hK0]
          by_cases z : n_ch (G d) = []
          · rw [if_pos z, if_pos (by rw [hcl, z]; rfl)]
          · rw [if_neg z, if_neg (fun y => z (List.eq_nil_of_length_eq_zero (hcl.symm.trans y)))]
            rfl
        rw [← hx0, List.append_assoc] at hgo
        exact hgo
    rw [if_neg k11] at h
    have h8 : 8 ≤ n_kd (G d) := by omega
    have h10 : n_kd (G d) ≤ 10 := by omega
    have hgo := nmd_a ih H0 o3 o1 h8 h10 h hp hb hT hN
    obtain ⟨P1, T1, e1, h1, t1⟩ := hgo
    rcases (show n_kd (G d) = 8 ∨ n_kd (G d) = 9 ∨ n_kd (G d) = 10 by omega) with e | e | e
    · rw [e] at so
      have so9 : So (n_sg (G d)) = 9 := so.trans (by decide)
      simp only [m_X9_write, bd_go (show n_sg (G d) < 140 by omega) (by decide), bd_gc (show n_sg (G d) < 140 by omega) (by decide), nI_clamp (show n_sg (G d) < 2 ^ 31 by omega), so9, if_neg (show ¬ (9 : Int32) = 6 by decide), if_neg (show ¬ (9 : Int32) = 7 by decide), if_neg (show ¬ (9 : Int32) = 8 by decide), if_true, e1, Option.bind_some]
      exact ⟨P1, T1, rfl, h1, t1⟩
    · rw [e] at so
      have so9 : So (n_sg (G d)) = 10 := so.trans (by decide)
      simp only [m_X9_write, bd_go (show n_sg (G d) < 140 by omega) (by decide), bd_gc (show n_sg (G d) < 140 by omega) (by decide), nI_clamp (show n_sg (G d) < 2 ^ 31 by omega), so9, if_neg (show ¬ (10 : Int32) = 6 by decide), if_neg (show ¬ (10 : Int32) = 7 by decide), if_neg (show ¬ (10 : Int32) = 8 by decide), if_neg (show ¬ (10 : Int32) = 9 by decide), if_true, e1, Option.bind_some]
      exact ⟨P1, T1, rfl, h1, t1⟩
    · rw [e] at so
      have so9 : So (n_sg (G d)) = 11 := so.trans (by decide)
      simp only [m_X9_write, bd_go (show n_sg (G d) < 140 by omega) (by decide), bd_gc (show n_sg (G d) < 140 by omega) (by decide), nI_clamp (show n_sg (G d) < 2 ^ 31 by omega), so9, if_neg (show ¬ (11 : Int32) = 6 by decide), if_neg (show ¬ (11 : Int32) = 7 by decide), if_neg (show ¬ (11 : Int32) = 8 by decide), if_neg (show ¬ (11 : Int32) = 9 by decide), if_neg (show ¬ (11 : Int32) = 10 by decide), if_true, e1, Option.bind_some]
      exact ⟨P1, T1, rfl, h1, t1⟩
end WRC
