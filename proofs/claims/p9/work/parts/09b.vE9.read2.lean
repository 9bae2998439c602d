-- the whole text, in both programs
section RDR
variable {B : Nat → Int32} {L : Nat}
theorem rda_unf (hB : BY B L) (hL : L ≤ 4096) {e0 shI lkI kcI dnI rt : Int32} {K F S I X Lt So Nm Wi Kd Ma Fa kS kN kD kX Fi : Nat → Int32} {N : Nat → Int64} {r : Except TR (Unit × TR)} (h : m_X9_readAll B (nI L) (nI 0) (nI 0) 0 (-1) e0 (nI 0) K F N S I X Lt (nI 0) shI lkI So Nm Wi Kd Ma Fa kcI kS kN kD kX dnI Fi rt = some r) :
    (∃ w u, sread B L = .inl w ∧ r = .error u ∧ fpR u = (1, nI w)) ∨ (∃ (p n' l' b : Nat) (K' F' : Nat → Int32) (N' : Nat → Int64) (S' I' X' Lt' : Nat → Int32), sread B L = .inr p ∧ l' ≤ 4200 ∧ n' ≤ 4200 ∧ RT B L K' F' N' S' I' X' Lt' l' 25 0 n' p ∧ sval B L 25 p = .inr b ∧ ¬ (48 ≤ cb B L b ∧ cb B L b ≤ 57) ∧ m_X9_readAll_38 B (nI L) (nI L) (nI 0) 0 (-1) (nI b) (nI n') K' F' N' S' I' X' Lt' (nI l') shI lkI So Nm Wi Kd Ma Fa kcI kS kN kD kX dnI Fi rt (nI 0) 1 = some r) := by
  have hb0 := sbl_le2 (B := B) (L := L) (a := 0) (Nat.zero_le _)
  unfold m_X9_readAll at h
  rw [blk_r hB hL (Nat.zero_le _)] at h
  simp only [Option.bind_some] at h
  have hv := valx hB hL 27 0 (by decide) (sbl B L 0) 0 0 K F N S I X Lt 0 (-1) hb0 (Nat.zero_le _) (Nat.zero_le _)
  cases hx : m_X9_value 27 B (nI L) (nI (sbl B L 0)) (nI 0) 0 (-1) (nI 0) K F N S I X Lt (nI 0) with
  | none => rw [hx, trN] at h; cases h
  | some x =>
    cases x with
    | error u =>
      rw [hx, trE] at h
      obtain ⟨w, w1, w2⟩ := (hv _ hx).1 u rfl
      obtain ⟨u1, u2, u3, u4, u5, u6, u7, u8, u9, u10, u11, u12, u13⟩ := u
      refine Or.inl ⟨w, _, ?_, (Option.some.inj h).symm, w2⟩
      unfold sread
      rw [show sval B L 25 (sbl B L 0) = .inl w from w1]
    | ok vu =>
      obtain ⟨v, u⟩ := vu
      rw [hx, trO] at h
      obtain ⟨b, n', l', K', F', N', S', I', X', Lt', w1, w2, w3, w4, w5, w6, w7, w8, w9, w10, w11⟩ := (hv _ hx).2 v u rfl
      have w1 : sval B L 25 (sbl B L 0) = .inr b := w1
      have hsp := sval_p _ _ _ w1
      subst w2
      subst w3
      dsimp only at h
      have hb2 := sbl_le2 (B := B) (L := L) (a := b) hsp.2
      have hb3 := sbl_le (B := B) (L := L) (a := b)
      rw [blk_r hB hL hsp.2] at h
      simp only [Option.bind_some] at h
      by_cases c : sbl B L b = L
      · rw [if_pos (by rw [c]), c] at h
        refine Or.inr ⟨sbl B L 0, n', l', b, K', F', N', S', I', X', Lt', ?_, by omega, by omega, w11, w1, fun hd => ?_, h⟩
        · unfold sread
          rw [w1]
          dsimp only
          rw [if_neg (by omega)]
        · rw [sbl_s, if_neg (by omega)] at c
          rw [c, cb_end (Nat.le_refl _)] at hd
          omega
      · rw [if_neg (fun z => c ((nI_eq (by omega) (by omega)).mp z))] at h
        unfold m_X9_readAll_38 at h
        rw [nd0, trE] at h
        refine Or.inl ⟨sbl B L b, _, ?_, (Option.some.inj h).symm, rfl⟩
        unfold sread
        rw [w1]
        dsimp only
        rw [if_pos (by omega)]
theorem cg_sread {T : Nat → Int32} (h : cb B L = cb T L) : sread B L = sread T L := by
  unfold sread
  rw [cg_sval h, cg_sbl h]
/-- the class's rows of a good text, from any rows -/
theorem tre_ex {T : Nat → Int32} (hL : L ≤ 4096) {p : Nat} (h : sread T L = .inr p) : ∃ Sd In Nx Am, TRE T L Sd In Nx Am 25 p := by
  rcases read_eq (T := T) hL (fun _ => 0) (fun _ => 0) (fun _ => 0) (fun _ => 0) 0 (fun _ => 0) (fun _ => 0) (fun _ => 0) (fun _ => 0) 0 with ⟨w, u, h1, _⟩ | ⟨p', u, h1, _, _, h2⟩
  · rw [h] at h1; cases h1
  · rw [h] at h1
    cases h1
    exact ⟨_, _, _, _, h2⟩
end RDR
section RDX
variable {T : Nat → Int32} {L : Nat} {Sd In Nx Am K F S I X Lt : Nat → Int32} {N : Nat → Int64} {l : Nat}
theorem rda_59 (hL : L ≤ 4096) (hl : l ≤ 4200) {B So Nm Wi Kd Ma Fa kS kN kD kX Fi : Nat → Int32} {k0 sh kc : Nat} {pl : List Nat} {D : List Nat → Option Nat} {fi : List (Nat × Nat × Option Nat)} {G : Nat → Nod} (hI : RI T L Sd In Nx Am K F N S I X Lt l So Nm Wi Kd (nI sh) (nI k0) (nI kc) kS kN kD kX (nI fi.length) Fi (k0, sh, kc, pl, D, fi, G)) (hO : ∀ i, i < k0 → OKS G k0 i) (hW : ∀ i, i < k0 → n_me (G i) = i → n_kd (G i) = 8 → n_wd (G i) ≤ 64) {a1 a2 a5 a6 a14 rt : Int32} : ∀ (fuel j : Nat) (fl pp : Int32), j ≤ fi.length → fi.length - j < fuel →
    (∃ u, fdf T L G (fi.drop j) = none ∧ m_X9_readAll_59 B (nI L) fuel a1 a2 fl pp a5 a6 K F N S I X Lt a14 (nI sh) (nI k0) So Nm Wi Kd Ma Fa (nI kc) kS kN kD kX (nI fi.length) Fi rt (nI j) = some (.ok ((), u))) ∨ (∃ z u, fdf T L G (fi.drop j) = some z ∧ m_X9_readAll_59 B (nI L) fuel a1 a2 fl pp a5 a6 K F N S I X Lt a14 (nI sh) (nI k0) So Nm Wi Kd Ma Fa (nI kc) kS kN kD kX (nI fi.length) Fi rt (nI j) = some (.error u) ∧ fpR u = (12, nI z)) := by
  obtain ⟨i1, i2, i3, i4, i5, i6, i7, i8, i9, i10, i11, i12, i13, i14⟩ := hI
  intro fuel
  induction fuel with
  | zero => intro j fl pp _ hf; exact absurd hf (Nat.not_lt_zero _)
  | succ fuel ih =>
    intro j fl pp hj hf
    simp only [m_X9_readAll_59, nI_1]
    by_cases e : j = fi.length
    · rw [if_pos (nI_le (show fi.length ≤ j by omega) (by omega)), e, List.drop_length]
      exact Or.inl ⟨_, rfl, rfl⟩
    · have hjl : j < fi.length := by omega
      obtain ⟨f1, f2, ⟨s, i, b1, b2, b3, b4, b5, b6, b7⟩, f4⟩ := i14 j hjl
      have eg : fi.getD j (0, 0, none) = fi[j] := by simp only [List.getD, List.getElem?_eq_getElem hjl, Option.getD_some]
      rw [eg] at f1 f2 b6 b7 f4
      rw [if_neg (nI_ge hjl (by omega)), List.drop_eq_getElem_cons hjl]
      simp only [bd_go (show j < 2200 by omega) (by decide), bd_gc (show j < 2200 by omega) (by decide), nI_clamp (show j < 2 ^ 31 by omega), f1, bd_go (show (fi[j]).1 < 2200 by omega) (by decide), bd_gc (show (fi[j]).1 < 2200 by omega) (by decide), nI_clamp (show (fi[j]).1 < 2 ^ 31 by omega), fdf]
      obtain ⟨t1, t2, t3⟩ := (i12 s b1).2.2.2 b2
      obtain ⟨c1, c2, c3, c4, c5, c6, c7, c8⟩ := t3 (by omega) (by omega)
      have hks := (c6 i b4).1
      have hcc := (t2 _ (ch_mem b4)).1
      rw [b7] at hks hcc
      rw [b6] at hks
      cases ho : (fi[j]).2.2 with
      | none =>
        rw [ho] at f4
        have f4 : kD (fi[j]).1 = -1 := f4
        rw [f4, if_pos (show (-1 : Int32) < 0 by decide)]
        exact ih (j + 1) fl pp (by omega) (by omega)
      | some p =>
        rw [ho] at f4
        obtain ⟨n, q, g1, g2⟩ := f4
        have hgb := g2.base
        have hfit := r_fit hl i5 (show sh ≤ 140 by omega) i2 i7 i10 i12 hO hW hL 25 60 (by decide) (fi[j]).2.1 p n q fl pp hcc g2 g2.sv
        rw [g1, if_neg (nI_pos (show n < 2 ^ 31 by omega)), hks, hfit]
        dsimp only
        cases hft : fto T L G 25 (fi[j]).2.1 p with
        | none =>
          simp only [rO, trO]
          exact ih (j + 1) fl pp (by omega) (by omega)
        | some z =>
          simp only [rO, trE]
          exact Or.inr ⟨z, _, rfl, rfl, rfl⟩
theorem VV.mk {B : Nat → Int32} (h : cb B L = cb T L) {p n' b : Nat} (hT : TRE T L Sd In Nx Am 25 p) (hR : RT B L K F N S I X Lt l 25 0 n' p) (hs : sval B L 25 p = .inr b) (hn : n' ≤ 4200) (hd : ¬ (48 ≤ cb B L b ∧ cb B L b ≤ 57)) : VV T L Sd In Nx Am K F N S I X Lt l 0 p b := by
  rw [cg_RT h] at hR
  rw [cg_sval h] at hs
  rw [h] at hd
  exact ⟨25, n', hs, hT, hR, hn, hd, Nat.le_refl _⟩
end RDX
