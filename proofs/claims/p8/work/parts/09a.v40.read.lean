section
-- the reference's reading of a text, whole
theorem ov_0 {α : Type} {f g : Nat → α} : ov 0 f g = g := funext fun _ => if_neg (Nat.not_lt_zero _)
theorem ow_6 {α : Type} {f g : Nat → α} : ow 6 f g = g := funext fun _ => if_neg (fun h => by omega)
abbrev TR : Type := Int32 × Int32 × Int32 × Int32 × Int32 × Int32 × (Nat → Int32) × (Nat → Int32) × (Nat → Int64) × (Nat → Int32) × (Nat → Int32) × (Nat → Int32) × (Nat → Int32) × Int32 × Int32 × Int32 × (Nat → Int32) × (Nat → Int32) × (Nat → Int32) × (Nat → Int32) × (Nat → Int32) × (Nat → Int32) × Int32 × (Nat → Int32) × (Nat → Int32) × (Nat → Int32) × (Nat → Int32) × Int32 × (Nat → Int32) × Int32
def fpR : TR → Int32 × Int32 := fun u => (u.2.2.1, u.2.2.2.1)
/-- what is known of a text that has been read: its rows, its shapes, its plain form's length -/
def txtOK (n l sh kc : Nat) (K : Nat → Int32) (N : Nat → Int64) (S : Nat → Int32) (So Na Wi Ki kS kN kX : Nat → Int32) (root w : Nat) : Prop :=
  n ≤ 4200 ∧ l ≤ 4200 ∧ 6 ≤ sh ∧ sh ≤ 134 ∧ kc ≤ 2100 ∧ shOK (strN K N S n l) So Na sh ∧ Occ (strN K N S n l) So Na Wi Ki kS kN kX 16 root 6 sh 0 kc w ∧ w ≤ 4096
theorem r59 {K F S I X Lt : Nat → Int32} {N : Nat → Int64} {n l : Nat} {So Na Wi Ki Ma Fa kS kN kD kX Fi B : Nat → Int32} {L a e sh lk kc dn root w : Nat} (hT : txtOK n l sh kc K N S So Na Wi Ki kS kN kX root w) (hpre : preS (strN K N S n l) (valN K F N S I X n l) sh lk kc dn So Na kD Fi kS) : ∀ (fuel i : Nat), i ≤ dn → dn - i < fuel →
    RES (fun g => m_X9_readAll_59 (ov L B (g.1 6)) (nI L) fuel (nI a) (nI 0) 0 (-1) (nI e) (nI n) (ov n K (g.1 0)) (ov n F (g.1 1)) (ov n N g.2) (ov n S (g.1 2)) (ov n I (g.1 3)) (ov n X (g.1 4)) (ov l Lt (g.1 5)) (nI l) (nI sh) (nI lk) (ov sh So (g.1 7)) (ov sh Na (g.1 8)) (ow sh Wi (g.1 9)) (ov sh Ki (g.1 10)) (ow sh Ma (g.1 11)) (ow sh Fa (g.1 12)) (nI kc) (ov kc kS (g.1 13)) (ov kc kN (g.1 14)) (ov kc kD (g.1 15)) (ov kc kX (g.1 16)) (nI dn) (ov dn Fi (g.1 17)) (nI root) (nI i)) fpR (fun (_ : Unit) u => u = fun g => (nI a, nI 0, 0, -1, nI e, nI n, ov n K (g.1 0), ov n F (g.1 1), ov n N g.2, ov n S (g.1 2), ov n I (g.1 3), ov n X (g.1 4), ov l Lt (g.1 5), nI l, nI sh, nI lk, ov sh So (g.1 7), ov sh Na (g.1 8), ow sh Wi (g.1 9), ov sh Ki (g.1 10), ow sh Ma (g.1 11), ow sh Fa (g.1 12), nI kc, ov kc kS (g.1 13), ov kc kN (g.1 14), ov kc kD (g.1 15), ov kc kX (g.1 16), nI dn, ov dn Fi (g.1 17), nI root)) := by
  obtain ⟨hn, hl, h6, hsh, hkc, hshOK, hocc, hw⟩ := hT
  obtain ⟨p1, p2, p3, p4, p5, p6, p7⟩ := hpre
  intro fuel
  induction fuel with
  | zero => intro i _ hf; exact absurd hf (Nat.not_lt_zero _)
  | succ fuel ih =>
    intro i hi hf
    by_cases hc : dn ≤ i
    · simp only [m_X9_readAll_59, if_pos (nI_le hc (show i < 2 ^ 31 by omega))]
      exact RES.ok rfl
    · obtain ⟨k, t, k1, k2, k3, k4⟩ := p7 i (by omega)
      have ih1 := ih (i + 1) (by omega) (by omega)
      simp only [m_X9_readAll_59, if_neg (nI_ge (show i < dn by omega) (by omega)), bd_go (show i < 2200 by omega) (by decide), bd_gc (show i < 2200 by omega) (by decide), nI_clamp (show i < 2 ^ 31 by omega), ov_lt (show i < dn by omega), k2, bd_go (show k < 2200 by omega) (by decide), bd_gc (show k < 2200 by omega) (by decide), nI_clamp (show k < 2 ^ 31 by omega), ov_lt k1, k3, nI_1]
      rcases p6 k k1 with hd | ⟨x, hd, hv, m, p, q, hhv, hm, hpq, hV⟩
      · simp only [hd, if_pos (show (-1 : Int32) < 0 by decide)]
        exact ih1
      · have hx := hV.basic.1
        simp only [hd, if_neg (nI_pos (show x < 2 ^ 31 by omega))]
        refine RES.try (fit_ok (Na := Na) hn hl (by omega) (by omega) hshOK.1 (fun s s6 hs => ?_) 60 hv x m p q t 0 (-1) hm (by omega) hV k4 ?_) ?_ (fun g u => rfl)
        · obtain ⟨h', c2, a', b', w', -, r2, r3, r4, r5, r6⟩ := Occ.all 16 root 6 sh 0 kc w hocc s s6 hs
          exact ⟨h', c2, a', b', w', r2, r3, r5, r6⟩
        · split <;> omega
        · rintro _ _ rfl
          exact ih1
theorem readAll_ok (B : Nat → Int32) {L : Nat} (hL : L ≤ 4096) (e0 r0 : Gs → Int32) : RES (fun g => m_X9_readAll (ov L B (g.1 6)) (nI L) (nI 0) (nI 0) 0 (-1) (e0 g) (nI 0) (g.1 0) (g.1 1) g.2 (g.1 2) (g.1 3) (g.1 4) (g.1 5) (nI 0) (nI 6) (nI 0) (ov 6 (fun s => nI s) (g.1 7)) (ov 6 (fun _ => -1) (g.1 8)) (g.1 9) (ov 6 (fun _ => -1) (g.1 10)) (g.1 11) (g.1 12) (nI 0) (g.1 13) (g.1 14) (g.1 15) (g.1 16) (nI 0) (g.1 17) (r0 g)) fpR
    (fun (_ : Unit) u => ∃ (a e n l sh lk kc dn root w : Nat) (K F : Nat → Int32) (N : Nat → Int64) (S I X Lt So Na Wi Ki Ma Fa kS kN kD kX Fi : Nat → Int32), txtOK n l sh kc K N S So Na Wi Ki kS kN kX root w ∧ u = fun g => (nI a, nI 0, 0, -1, nI e, nI n, ov n K (g.1 0), ov n F (g.1 1), ov n N g.2, ov n S (g.1 2), ov n I (g.1 3), ov n X (g.1 4), ov l Lt (g.1 5), nI l, nI sh, nI lk, ov sh So (g.1 7), ov sh Na (g.1 8), ow sh Wi (g.1 9), ov sh Ki (g.1 10), ow sh Ma (g.1 11), ow sh Fa (g.1 12), nI kc, ov kc kS (g.1 13), ov kc kN (g.1 14), ov kc kD (g.1 15), ov kc kX (g.1 16), nI dn, ov dn Fi (g.1 17), nI root)) := by
  obtain ⟨a, ha1, ha2, ha3⟩ := blanks_ok B hL (Nat.zero_le L)
  simp only [m_X9_readAll, ha3, Option.bind_some]
  have hval := val_ok (B := B) hL 27 0 (by omega) (by omega) a 0 0 (fun _ => 0) (fun _ => 0) (fun _ => 0) (fun _ => 0) (fun _ => 0) (fun _ => 0) (fun _ => 0) 0 (-1) ha2 (Nat.zero_le _) (Nat.zero_le _)
  simp only [ov_0] at hval
  refine RES.try hval ?_ (fun g u => rfl)
  rintro _ _ ⟨b, n, l, K, F, N, S, I, X, Lt, rfl, rfl, h1, h2, h4, h5, h6, -, -, hXn, hVal⟩
  dsimp only
  obtain ⟨b2, hb1, hb2, hb3⟩ := blanks_ok B hL h2
  have hn : n ≤ 4200 := by omega
  have hl : l ≤ 4200 := by omega
  simp only [hb3, Option.bind_some, m_X9_readAll_38, need_0, need_1, try_e, try_o]
  refine RES.ite (fun _ => ?_) (fun _ => RES.er (fun g => rfl))
  have hsch := sch_ok (Lt := Lt) hn hl 18 0 (by omega) (by omega) (24 - 0) 0 n a b 6 0 0 0 (fun s => nI s) (fun _ => -1) (fun _ => 0) (fun _ => -1) (fun _ => 0) (fun _ => 0) (fun _ => 0) (fun _ => 0) (fun _ => 0) (fun _ => 0) (fun _ => 0) 0 (-1) 0 (by omega) (Nat.le_refl _) hVal ⟨Nat.le_refl _, by omega, by omega, Nat.le_refl _, ⟨fun s _ => rfl, fun s s6 hs => absurd hs (by omega)⟩, fun k hk => absurd hk (Nat.not_lt_zero _), fun i hi => absurd hi (Nat.not_lt_zero _)⟩ (by omega) (Or.inl rfl)
  simp only [ov_0, ow_6] at hsch
  refine RES.try hsch ?_ (fun g u => rfl)
  rintro _ _ ⟨root, sh, lk, kc, dn, w, So, Na, Wi, Ki, Ma, Fa, kS, kN, kD, kX, Fi, rfl, rfl, r1, r2, r3, r4, r5, hpre, r7, hocc, hw, -⟩
  dsimp only
  have hT : txtOK n l sh kc K N S So Na Wi Ki kS kN kX root w := ⟨hn, hl, r1, by have := hpre.2.1; have := hpre.2.2.1; omega, by omega, hpre.2.2.2.2.1, hocc, by omega⟩
  refine (r59 hT hpre sr_fuel 0 (Nat.zero_le _) (by have := hpre.2.2.2.1; unfold sr_fuel; omega)).mono ?_
  rintro _ _ rfl
  exact ⟨b2, b, n, l, sh, lk, kc, dn, root, w, K, F, N, S, I, X, Lt, So, Na, Wi, Ki, Ma, Fa, kS, kN, kD, kX, Fi, hT, rfl⟩
theorem r3 {tB tK tF tS tI tX tL tSo tNa tWi tKi tMa tFa tkS tkN tkD tkX tFi tPn tTo row : Nat → Int32} {tN : Nat → Int64} {tLen tAt tDe tFl tPl tEn tNo tLd tSh tLk tKc tDn tRo tPs : Int32} {B : Nat → Int32} {rn st L : Nat} (hL : L ≤ 4096) (hrn : st + L ≤ rn) (hrn2 : rn < 2 ^ 31) (hB : ∀ i, i < L → vp_nar .byte (row (st + i)) = B i) : ∀ (fuel i : Nat), i ≤ L → L - i < fuel →
    m_X9_read_3 rn row fuel (ov i B tB) tLen tAt tDe tFl tPl tEn tNo tK tF tN tS tI tX tL tLd tSh tLk tSo tNa tWi tKi tMa tFa tKc tkS tkN tkD tkX tDn tFi tRo tPn tPs tTo (nI st) (nI L) (nI i) = m_X9_read_62 rn row sr_fuel (ov L B tB) (nI L) 0 0 tFl tPl tEn 0 tK tF tN tS tI tX tL 0 6 tLk tSo tNa tWi tKi tMa tFa tKc tkS tkN tkD tkX tDn tFi tRo tPn tPs tTo 0 := by
  intro fuel
  induction fuel with
  | zero => intro i _ hf; exact absurd hf (Nat.not_lt_zero _)
  | succ fuel ih =>
    intro i hi hf
    by_cases hc : L ≤ i
    · have : i = L := by omega
      subst this
      simp only [m_X9_read_3, if_pos (nI_le hc (show i < 2 ^ 31 by omega))]
    · have hup : upd (ov i B tB) i (B i) = ov (i + 1) B tB := by
        rw [ov_push]
        have : upd B i (B i) = B := upd_self rfl
        rw [this]
      simp only [m_X9_read_3, if_neg (nI_ge (show i < L by omega) (by omega)), nI_add, bd_go (show st + i < rn by omega) hrn2, bd_gc (show st + i < rn by omega) hrn2, nI_clamp (show st + i < 2 ^ 31 by omega), hB i (by omega), bd_go (show i < 4096 by omega) (by decide), bd_gc (show i < 4096 by omega) (by decide), nI_clamp (show i < 2 ^ 31 by omega), hup, nI_1]
      exact ih (i + 1) (by omega) (by omega)
theorem r62 {tB tK tF tS tI tX tL tSo tNa tWi tKi tMa tFa tkS tkN tkD tkX tFi tPn tTo row : Nat → Int32} {tN : Nat → Int64} {tLen tAt tDe tFl tPl tEn tNo tLd tSh tLk tKc tDn tRo tPs : Int32} {rn : Nat} : ∀ (fuel i : Nat), i ≤ 6 → 6 - i < fuel →
    m_X9_read_62 rn row fuel tB tLen tAt tDe tFl tPl tEn tNo tK tF tN tS tI tX tL tLd tSh tLk (ov i (fun s => nI s) tSo) (ov i (fun _ => -1) tNa) tWi (ov i (fun _ => -1) tKi) tMa tFa tKc tkS tkN tkD tkX tDn tFi tRo tPn tPs tTo (nI i) = m_X9_read_62 rn row 1 tB tLen tAt tDe tFl tPl tEn tNo tK tF tN tS tI tX tL tLd tSh tLk (ov 6 (fun s => nI s) tSo) (ov 6 (fun _ => -1) tNa) tWi (ov 6 (fun _ => -1) tKi) tMa tFa tKc tkS tkN tkD tkX tDn tFi tRo tPn tPs tTo (nI 6) := by
  intro fuel
  induction fuel with
  | zero => intro i _ hf; exact absurd hf (Nat.not_lt_zero _)
  | succ fuel ih =>
    intro i hi hf
    by_cases hc : 6 ≤ i
    · have : i = 6 := by omega
      subst this
      simp only [m_X9_read_62, if_pos (show (6 : Int32) ≤ nI 6 from nI_le (a := 6) (by omega) (by omega))]
    · have h1 : upd (ov i (fun s => nI s) tSo) i (nI i) = ov (i + 1) (fun s => nI s) tSo := by
        rw [ov_push, upd_self (f := fun s => nI s) rfl]
      have h2 : ∀ t : Nat → Int32, upd (ov i (fun _ => -1) t) i (-1) = ov (i + 1) (fun _ => -1) t := fun t => by
        rw [ov_push, upd_self (f := fun _ => -1) rfl]
      rw [← ih (i + 1) (by omega) (by omega)]
      rw [show m_X9_read_62 rn row (fuel + 1) tB tLen tAt tDe tFl tPl tEn tNo tK tF tN tS tI tX tL tLd tSh tLk (ov i (fun s => nI s) tSo) (ov i (fun _ => -1) tNa) tWi (ov i (fun _ => -1) tKi) tMa tFa tKc tkS tkN tkD tkX tDn tFi tRo tPn tPs tTo (nI i) = m_X9_read_62 rn row fuel tB tLen tAt tDe tFl tPl tEn tNo tK tF tN tS tI tX tL tLd tSh tLk (upd (ov i (fun s => nI s) tSo) i (nI i)) (upd (ov i (fun _ => -1) tNa) i (-1)) tWi (upd (ov i (fun _ => -1) tKi) i (-1)) tMa tFa tKc tkS tkN tkD tkX tDn tFi tRo tPn tPs tTo (nI i + 1) by
        rw [m_X9_read_62]
        simp only [if_neg (show ¬ (6 : Int32) ≤ nI i from nI_ge (b := 6) (by omega) (by omega)), bd_go (show i < 140 by omega) (by decide), bd_gc (show i < 140 by omega) (by decide), nI_clamp (show i < 2 ^ 31 by omega)]]
      rw [h1, h2, h2, nI_1]
theorem r147 {tB tK tF tS tI tX tL tSo tNa tWi tKi tMa tFa tkS tkN tkD tkX tFi tPn tTo row : Nat → Int32} {tN : Nat → Int64} {tLen tAt tDe tFl tPl tEn tNo tLd tSh tLk tKc tDn tRo tPs : Int32} {rn sh : Nat} (hsh : sh ≤ 140) (hS : tSh = nI sh) : ∀ (fuel i : Nat), i ≤ sh → sh - i < fuel →
    m_X9_read_147 rn row fuel tB tLen tAt tDe tFl tPl tEn tNo tK tF tN tS tI tX tL tLd tSh tLk tSo tNa tWi tKi tMa tFa tKc tkS tkN tkD tkX tDn tFi tRo tPn tPs (ov i (fun _ => 0) tTo) (nI i) = m_X9_read_147 rn row 1 tB tLen tAt tDe tFl tPl tEn tNo tK tF tN tS tI tX tL tLd tSh tLk tSo tNa tWi tKi tMa tFa tKc tkS tkN tkD tkX tDn tFi tRo tPn tPs (ov sh (fun _ => 0) tTo) (nI sh) := by
  subst hS
  have e0 : vp_nar .boolean 0 = 0 := by decide +kernel
  intro fuel
  induction fuel with
  | zero => intro i _ hf; exact absurd hf (Nat.not_lt_zero _)
  | succ fuel ih =>
    intro i hi hf
    by_cases hc : sh ≤ i
    · have : i = sh := by omega
      subst this
      simp only [m_X9_read_147, if_pos (nI_le (Nat.le_refl i) (show i < 2 ^ 31 by omega))]
    · have h2 : upd (ov i (fun _ => (0 : Int32)) tTo) i 0 = ov (i + 1) (fun _ => 0) tTo := by
        rw [ov_push, upd_self (f := fun _ => (0 : Int32)) rfl]
      rw [← ih (i + 1) (by omega) (by omega)]
      rw [show m_X9_read_147 rn row (fuel + 1) tB tLen tAt tDe tFl tPl tEn tNo tK tF tN tS tI tX tL tLd (nI sh) tLk tSo tNa tWi tKi tMa tFa tKc tkS tkN tkD tkX tDn tFi tRo tPn tPs (ov i (fun _ => 0) tTo) (nI i) = m_X9_read_147 rn row fuel tB tLen tAt tDe tFl tPl tEn tNo tK tF tN tS tI tX tL tLd (nI sh) tLk tSo tNa tWi tKi tMa tFa tKc tkS tkN tkD tkX tDn tFi tRo tPn tPs (upd (ov i (fun _ => 0) tTo) i 0) (nI i + 1) by
        rw [m_X9_read_147]
        simp only [if_neg (nI_ge (show i < sh by omega) (by omega)), bd_go (show i < 140 by omega) (by decide), bd_gc (show i < 140 by omega) (by decide), nI_clamp (show i < 2 ^ 31 by omega), e0]]
      rw [h2, nI_1]
/-- what one text is read as: all in it that later calls look at hangs on its bytes alone -/
def rdOK (B : Nat → Int32) (L : Nat) (a e n l sh lk kc dn root w : Nat) (K F : Nat → Int32) (N : Nat → Int64) (S I X Lt So Na Wi Ki Ma Fa kS kN kD kX Fi Pl To : Nat → Int32) : Prop :=
  txtOK n l sh kc K N S So Na Wi Ki kS kN kX root w ∧
  ∀ (tB tK tF tS tI tX tL tSo tNa tWi tKi tMa tFa tkS tkN tkD tkX tFi tPn tTo row : Nat → Int32) (tN : Nat → Int64) (tLen tAt tDe tFl tPl tEn tNo tLd tSh tLk tKc tDn tRo tPs : Int32) (rn st : Nat), st + L ≤ rn → rn < 2 ^ 31 → (∀ i, i < L → vp_nar .byte (row (st + i)) = B i) →
    m_X9_read tB tLen tAt tDe tFl tPl tEn tNo tK tF tN tS tI tX tL tLd tSh tLk tSo tNa tWi tKi tMa tFa tKc tkS tkN tkD tkX tDn tFi tRo tPn tPs tTo row rn (nI st) (nI L) = some (0, (ov L B tB, nI L, nI a, 0, 0, -1, nI e, nI n, ov n K tK, ov n F tF, ov n N tN, ov n S tS, ov n I tI, ov n X tX, ov l Lt tL, nI l, nI sh, nI lk, ov sh So tSo, ov sh Na tNa, ow sh Wi tWi, ov sh Ki tKi, ow sh Ma tMa, ow sh Fa tFa, nI kc, ov kc kS tkS, ov kc kN tkN, ov kc kD tkD, ov kc kX tkX, nI dn, ov dn Fi tFi, nI root, ov w Pl tPn, nI w, ov sh To tTo))
/-- a text with a fault -/
def rdBad (B : Nat → Int32) (L : Nat) (c p : Int32) : Prop :=
  c ≠ 0 ∧ ∀ (tB tK tF tS tI tX tL tSo tNa tWi tKi tMa tFa tkS tkN tkD tkX tFi tPn tTo row : Nat → Int32) (tN : Nat → Int64) (tLen tAt tDe tFl tPl tEn tNo tLd tSh tLk tKc tDn tRo tPs : Int32) (rn st : Nat), st + L ≤ rn → rn < 2 ^ 31 → (∀ i, i < L → vp_nar .byte (row (st + i)) = B i) →
    ∃ u, m_X9_read tB tLen tAt tDe tFl tPl tEn tNo tK tF tN tS tI tX tL tLd tSh tLk tSo tNa tWi tKi tMa tFa tKc tkS tkN tkD tkX tDn tFi tRo tPn tPs tTo row rn (nI st) (nI L) = some (c, u) ∧ u.1 = ov L B tB ∧ u.2.1 = nI L ∧ u.2.2.2.2.2.1 = p
theorem nI_6 : nI 6 = 6 := by decide +kernel
theorem read_out (B : Nat → Int32) {L : Nat} (hL : L ≤ 4096) : (∃ (a e n l sh lk kc dn root w : Nat) (K F : Nat → Int32) (N : Nat → Int64) (S I X Lt So Na Wi Ki Ma Fa kS kN kD kX Fi Pl To : Nat → Int32), rdOK B L a e n l sh lk kc dn root w K F N S I X Lt So Na Wi Ki Ma Fa kS kN kD kX Fi Pl To) ∨ (∃ c p, rdBad B L c p) := by
  rcases readAll_ok B hL (fun g => g.1 20 0) (fun g => g.1 21 0) with ⟨_, _, ⟨a, e, n, l, sh, lk, kc, dn, root, w, K, F, N, S, I, X, Lt, So, Na, Wi, Ki, Ma, Fa, kS, kN, kD, kX, Fi, hT, rfl⟩, hok⟩ | ⟨⟨c, p⟩, hc, hbad⟩
  · obtain ⟨hn, hl, h6, hsh, hkc, hshOK, hocc, hw⟩ := id hT
    obtain ⟨_, ⟨Pl, To, rfl, -⟩, hwr⟩ := wri_ok (Lt := Lt) hn hl (show sh ≤ 140 by omega) (show kc ≤ 2200 by omega) hshOK.1 40 16 (by omega) root 6 sh 0 kc w 0 (fun _ => 0) (fun _ => 0) (Nat.le_refl _) (Nat.le_refl _) (Nat.le_refl _) hocc (by omega) (fun x x6 _ _ => by rw [if_neg (by omega)])
    refine Or.inl ⟨a, e, n, l, sh, lk, kc, dn, root, w, K, F, N, S, I, X, Lt, So, Na, Wi, Ki, Ma, Fa, kS, kN, kD, kX, Fi, Pl, To, hT, ?_⟩
    intro tB tK tF tS tI tX tL tSo tNa tWi tKi tMa tFa tkS tkN tkD tkX tFi tPn tTo row tN tLen tAt tDe tFl tPl tEn tNo tLd tSh tLk tKc tDn tRo tPs rn st hrn hrn2 hB
    have g1 := hok (fun j => match j with | 0 => tK | 1 => tF | 2 => tS | 3 => tI | 4 => tX | 5 => tL | 6 => tB | 7 => tSo | 8 => tNa | 9 => tWi | 10 => tKi | 11 => tMa | 12 => tFa | 13 => tkS | 14 => tkN | 15 => tkD | 16 => tkX | 17 => tFi | 18 => tPn | 19 => tTo | 20 => fun _ => tEn | _ => fun _ => tRo, tN)
    have g2 := hwr (fun j => match j with | 0 => tK | 1 => tF | 2 => tS | 3 => tI | 4 => tX | 5 => tL | 6 => tB | 7 => tSo | 8 => tNa | 9 => tWi | 10 => tKi | 11 => tMa | 12 => tFa | 13 => tkS | 14 => tkN | 15 => tkD | 16 => tkX | 17 => tFi | 18 => tPn | 19 => tTo | 20 => fun _ => tEn | _ => fun _ => tRo, tN)
    dsimp only at g1 g2
    simp only [nI_0, nI_6] at g1
    simp only [ov_0, nI_0, Nat.zero_add] at g2
    have s1 := r3 (tB := tB) (tK := tK) (tF := tF) (tS := tS) (tI := tI) (tX := tX) (tL := tL) (tSo := tSo) (tNa := tNa) (tWi := tWi) (tKi := tKi) (tMa := tMa) (tFa := tFa) (tkS := tkS) (tkN := tkN) (tkD := tkD) (tkX := tkX) (tFi := tFi) (tPn := tPn) (tTo := tTo) (row := row) (tN := tN) (tLen := tLen) (tAt := tAt) (tDe := tDe) (tFl := tFl) (tPl := tPl) (tEn := tEn) (tNo := tNo) (tLd := tLd) (tSh := tSh) (tLk := tLk) (tKc := tKc) (tDn := tDn) (tRo := tRo) (tPs := tPs) (B := B) (rn := rn) (st := st) hL hrn hrn2 hB sr_fuel 0 (Nat.zero_le _) (by unfold sr_fuel; omega)
    have s2 := r62 (tB := ov L B tB) (tK := tK) (tF := tF) (tS := tS) (tI := tI) (tX := tX) (tL := tL) (tSo := tSo) (tNa := tNa) (tWi := tWi) (tKi := tKi) (tMa := tMa) (tFa := tFa) (tkS := tkS) (tkN := tkN) (tkD := tkD) (tkX := tkX) (tFi := tFi) (tPn := tPn) (tTo := tTo) (row := row) (tN := tN) (tLen := nI L) (tAt := 0) (tDe := 0) (tFl := tFl) (tPl := tPl) (tEn := tEn) (tNo := 0) (tLd := 0) (tSh := 6) (tLk := tLk) (tKc := tKc) (tDn := tDn) (tRo := tRo) (tPs := tPs) (rn := rn) sr_fuel 0 (Nat.zero_le _) (by unfold sr_fuel; omega)
    simp only [ov_0, nI_0, nI_6] at s1 s2
    rw [m_X9_read, s1, s2]
    simp only [m_X9_read_62, if_pos (show (6 : Int32) ≤ 6 by decide), g1, mr_tc]
    have s3 := r147 (tB := ov L B tB) (tK := ov n K tK) (tF := ov n F tF) (tS := ov n S tS) (tI := ov n I tI) (tX := ov n X tX) (tL := ov l Lt tL) (tSo := ov sh So tSo) (tNa := ov sh Na tNa) (tWi := ow sh Wi tWi) (tKi := ov sh Ki tKi) (tMa := ow sh Ma tMa) (tFa := ow sh Fa tFa) (tkS := ov kc kS tkS) (tkN := ov kc kN tkN) (tkD := ov kc kD tkD) (tkX := ov kc kX tkX) (tFi := ov dn Fi tFi) (tPn := tPn) (tTo := tTo) (row := row) (tN := ov n N tN) (tLen := nI L) (tAt := nI a) (tDe := 0) (tFl := 0) (tPl := -1) (tEn := nI e) (tNo := nI n) (tLd := nI l) (tSh := nI sh) (tLk := nI lk) (tKc := nI kc) (tDn := nI dn) (tRo := nI root) (tPs := 0) (rn := rn) (sh := sh) (by omega) rfl sr_fuel 0 (Nat.zero_le _) (by unfold sr_fuel; omega)
    simp only [ov_0, nI_0] at s3
    rw [s3]
    simp only [m_X9_read_147, if_pos (nI_le (Nat.le_refl sh) (show sh < 2 ^ 31 by omega)), g2, Option.bind_some]
  · refine Or.inr ⟨c, p, hc, ?_⟩
    intro tB tK tF tS tI tX tL tSo tNa tWi tKi tMa tFa tkS tkN tkD tkX tFi tPn tTo row tN tLen tAt tDe tFl tPl tEn tNo tLd tSh tLk tKc tDn tRo tPs rn st hrn hrn2 hB
    obtain ⟨u, g1, gfp⟩ := hbad (fun j => match j with | 0 => tK | 1 => tF | 2 => tS | 3 => tI | 4 => tX | 5 => tL | 6 => tB | 7 => tSo | 8 => tNa | 9 => tWi | 10 => tKi | 11 => tMa | 12 => tFa | 13 => tkS | 14 => tkN | 15 => tkD | 16 => tkX | 17 => tFi | 18 => tPn | 19 => tTo | 20 => fun _ => tEn | _ => fun _ => tRo, tN)
    dsimp only at g1
    simp only [nI_0, nI_6] at g1
    have s1 := r3 (tB := tB) (tK := tK) (tF := tF) (tS := tS) (tI := tI) (tX := tX) (tL := tL) (tSo := tSo) (tNa := tNa) (tWi := tWi) (tKi := tKi) (tMa := tMa) (tFa := tFa) (tkS := tkS) (tkN := tkN) (tkD := tkD) (tkX := tkX) (tFi := tFi) (tPn := tPn) (tTo := tTo) (row := row) (tN := tN) (tLen := tLen) (tAt := tAt) (tDe := tDe) (tFl := tFl) (tPl := tPl) (tEn := tEn) (tNo := tNo) (tLd := tLd) (tSh := tSh) (tLk := tLk) (tKc := tKc) (tDn := tDn) (tRo := tRo) (tPs := tPs) (B := B) (rn := rn) (st := st) hL hrn hrn2 hB sr_fuel 0 (Nat.zero_le _) (by unfold sr_fuel; omega)
    have s2 := r62 (tB := ov L B tB) (tK := tK) (tF := tF) (tS := tS) (tI := tI) (tX := tX) (tL := tL) (tSo := tSo) (tNa := tNa) (tWi := tWi) (tKi := tKi) (tMa := tMa) (tFa := tFa) (tkS := tkS) (tkN := tkN) (tkD := tkD) (tkX := tkX) (tFi := tFi) (tPn := tPn) (tTo := tTo) (row := row) (tN := tN) (tLen := nI L) (tAt := 0) (tDe := 0) (tFl := tFl) (tPl := tPl) (tEn := tEn) (tNo := 0) (tLd := 0) (tSh := 6) (tLk := tLk) (tKc := tKc) (tDn := tDn) (tRo := tRo) (tPs := tPs) (rn := rn) sr_fuel 0 (Nat.zero_le _) (by unfold sr_fuel; omega)
    simp only [ov_0, nI_0, nI_6] at s1 s2
    have hf1 : u.2.2.1 = c := congrArg Prod.fst gfp
    have hf2 : u.2.2.2.1 = p := congrArg Prod.snd gfp
    refine ⟨_, by
      rw [m_X9_read, s1, s2]
      simp only [m_X9_read_62, if_pos (show (6 : Int32) ≤ 6 by decide), g1, mr_tc]
      rw [hf1], rfl, rfl, hf2⟩
end
section
-- the reference's fits and matches: never stuck
theorem ov_self {α : Type} {n : Nat} {f : Nat → α} : ov n f f = f := funext fun i => by
  show (if i < n then f i else f i) = f i
  split <;> rfl
section MONOT
variable {T T' : Nat → Nat → Prop} {So Na Wi Ki kS kN kX : Nat → Int32}
theorem base.monoT (hT : ∀ x sz, T x sz → T' x sz) {s c c' w : Nat} (h : base T So Na s c c' w) : base T' So Na s c c' w := by
  obtain ⟨b1, b2 | ⟨b2, b3, b4, x, sz, b5, b6, b7⟩⟩ := h
  · exact ⟨b1, Or.inl b2⟩
  · exact ⟨b1, Or.inr ⟨b2, b3, b4, x, sz, b5, hT _ _ b6, b7⟩⟩
theorem Occ.monoT (hT : ∀ x sz, T x sz → T' x sz) : ∀ (h s c c' k0 k1 w : Nat), Occ T So Na Wi Ki kS kN kX h s c c' k0 k1 w → Occ T' So Na Wi Ki kS kN kX h s c c' k0 k1 w := by
  intro h
  induction h with
  | zero => intro s c c' k0 k1 w ho; exact base.monoT hT ho
  | succ h ih =>
    intro s c c' k0 k1 w ho
    rcases ho with ho | ⟨e1, e2, ho⟩
    · exact Or.inl (base.monoT hT ho)
    · refine Or.inr ⟨e1, e2, ?_⟩
      rcases ho with ⟨c1, t, w', c2, c3, c4, c5, c6, c7⟩ | ⟨c1, m, c, t, b, W, c2, c3, c4, c5, c6, c7, c8⟩ | ⟨c1, c2, x, sz, d, c3, c4, c5⟩ | ⟨c1, c2, x, sz, m, c, W, c3, c4, c5, c6, c7, c8, c9⟩ | ⟨c1, x, sz, m, c, t, e, W, c3, c4, c5, c6, c7, c8, c9, c10⟩
      · exact Or.inl ⟨c1, t, w', c2, c3, c4, c5, ih _ _ _ _ _ _ c6, c7⟩
      · refine Or.inr (Or.inl ⟨c1, m, c, t, b, W, c2, c3, c4, c5, c6, c7, fun i hi => ?_⟩)
        obtain ⟨d1, d2, d3, d4, d5, d6, x, w', d7, d8, d9⟩ := c8 i hi
        exact ⟨d1, d2, d3, d4, d5, d6, x, w', d7, ih _ _ _ _ _ _ d8, d9⟩
      · exact Or.inr (Or.inr (Or.inl ⟨c1, c2, x, sz, d, c3, hT _ _ c4, c5⟩))
      · refine Or.inr (Or.inr (Or.inr (Or.inl ⟨c1, c2, x, sz, m, c, W, c3, hT _ _ c4, c5, c6, c7, c8, fun i hi => ?_⟩)))
        obtain ⟨d1, d2, d3, y, sy, d4, d5, d6⟩ := c9 i hi
        exact ⟨d1, d2, d3, y, sy, d4, hT _ _ d5, d6⟩
      · refine Or.inr (Or.inr (Or.inr (Or.inr ⟨c1, x, sz, m, c, t, e, W, c3, ⟨hT _ _ c4.1, c4.2⟩, c5, c6, c7, c8, c9, fun i hi => ?_⟩)))
        obtain ⟨d1, d2, d3, d4, d5, d6, y, sy, z, w', d7, d8, d9, d10, d11⟩ := c10 i hi
        exact ⟨d1, d2, d3, d4, d5, d6, y, sy, z, w', d7, hT _ _ d8, d9, ih _ _ _ _ _ _ d10, d11⟩
end MONOT
/-- the rows as they lie: what is known of a text that was read holds of them -/
theorem txtOK.conc {n l sh kc : Nat} {K S So Na Wi Ki kS kN kX tK tS tSo tNa tWi tKi tkS tkN tkX : Nat → Int32} {N tN : Nat → Int64} {root w : Nat} (h : txtOK n l sh kc K N S So Na Wi Ki kS kN kX root w) :
    txtOK n l sh kc (ov n K tK) (ov n N tN) (ov n S tS) (ov sh So tSo) (ov sh Na tNa) (ow sh Wi tWi) (ov sh Ki tKi) (ov kc kS tkS) (ov kc kN tkN) (ov kc kX tkX) root w := by
  obtain ⟨h1, h2, h3, h4, h5, h6, h7, h8⟩ := h
  have hT : ∀ x sz, strN K N S n l x sz → strN (ov n K tK) (ov n N tN) (ov n S tS) n l x sz := fun x sz ⟨q1, q2, q3, st, q4, q5⟩ => ⟨q1, by rw [ov_lt q1]; exact q2, by rw [ov_lt q1]; exact q3, st, by rw [ov_lt q1]; exact q4, q5⟩
  refine ⟨h1, h2, h3, h4, h5, ⟨fun s hs => by rw [ov_lt (by omega)]; exact h6.1 s hs, fun s s6 hs => ?_⟩, ?_, h8⟩
  · rw [ov_lt hs, ov_lt hs]
    rcases h6.2 s s6 hs with q | ⟨q, x, sz, q1, q2⟩
    · exact Or.inl q
    · exact Or.inr ⟨q, x, sz, q1, hT _ _ q2⟩
  · refine Occ.monoT hT _ _ _ _ _ _ _ (Occ.keep 16 root 6 sh 0 kc w (Nat.le_refl _) h7 (fun i hi => ⟨(ov_lt hi).symm, (ov_lt hi).symm⟩) (fun i i6 hi => ⟨(ow_lt i6 hi).symm, (ov_lt hi).symm⟩) (fun i _ hi => ⟨(ov_lt hi).symm, (ov_lt hi).symm, (ov_lt hi).symm⟩))
section MAYs
variable {KA SA LA SoA NaA WiA KiA kSA kNA kXA KB SB LB SoB NaB WiB KiB FaB kSB kNB kDB kXB : Nat → Int32} {NA NB : Nat → Int64} {nA lA shA kcA rtA wA nB lB shB kcB rtB wB : Nat}
theorem txtOK.cre {n l sh kc : Nat} {K S So Na Wi Ki kS kN kX : Nat → Int32} {N : Nat → Int64} {root w : Nat} (h : txtOK n l sh kc K N S So Na Wi Ki kS kN kX root w) {s : Nat} (h6 : 6 ≤ s) (hs : s < sh) : ∃ h' c2 a b w', h' < 16 ∧ s < c2 ∧ c2 ≤ sh ∧ b ≤ kc ∧ Cre (strN K N S n l) So Na Wi Ki kS kN kX (Occ (strN K N S n l) So Na Wi Ki kS kN kX h') s c2 a b w' := by
  obtain ⟨h', c2, a', b', w', r1, r2, r3, r4, r5, r6⟩ := Occ.all 16 root 6 sh 0 kc w h.2.2.2.2.2.2.1 s h6 hs
  exact ⟨h', c2, a', b', w', r1, r2, r3, r5, r6⟩
theorem txtOK.six {n l sh kc : Nat} {K S So Na Wi Ki kS kN kX : Nat → Int32} {N : Nat → Int64} {root w : Nat} (h : txtOK n l sh kc K N S So Na Wi Ki kS kN kX root w) {s : Nat} {k : Int32} (hk : So s = k) (hk2 : k = 6 ∨ k = 7 ∨ k = 8 ∨ k = 9 ∨ k = 10 ∨ k = 11) : 6 ≤ s := by
  apply Nat.le_of_not_lt
  intro q
  rw [h.2.2.2.2.2.1.1 s q] at hk
  obtain ⟨a1, a2, a3, a4, a5, a6⟩ := six_ne s q
  rcases hk2 with e | e | e | e | e | e <;> rw [e] at hk
  · exact a1 hk
  · exact a2 hk
  · exact a3 hk
  · exact a4 hk
  · exact a5 hk
  · exact a6 hk
theorem txtOK.ge {n l sh kc : Nat} {K S So Na Wi Ki kS kN kX : Nat → Int32} {N : Nat → Int64} {root w : Nat} (h : txtOK n l sh kc K N S So Na Wi Ki kS kN kX root w) {s : Nat} (hk : 6 ≤ So s) : 6 ≤ s := by
  apply Nat.le_of_not_lt
  intro q
  rw [h.2.2.2.2.2.1.1 s q] at hk
  have : ∀ s, s < 6 → ¬ (6 : Int32) ≤ nI s := by decide
  exact this s q hk
theorem m48 {f : (Nat → Int64) → (Nat → Int32) → (Nat → Int32) → (Nat → Int32) → (Nat → Int32) → (Nat → Int32) → (Nat → Int32) → (Nat → Int32) → (Nat → Int64) → (Nat → Int32) → (Nat → Int32) → (Nat → Int32) → (Nat → Int32) → (Nat → Int32) → (Nat → Int32) → (Nat → Int32) → Int32 → Int32 → Option Int32} {x y : Int32} : ∃ z : Int32, (z = 0 ∨ z = 1) ∧ m_X10_matchesT_48 f NA SA LA SoA NaA WiA KiA kSA NB SB LB SoB NaB WiB KiB kSB x y = some z := by
  unfold m_X10_matchesT_48 m_X10_sixOf m_X10_matchesSix m_X10_matchesSix_15
  repeat' (first | exact ⟨0, Or.inl rfl, rfl⟩ | exact ⟨1, Or.inr rfl, rfl⟩ | (split; all_goals try simp only [Option.bind_some]))
theorem mat_ok (hA : txtOK nA lA shA kcA KA NA SA SoA NaA WiA KiA kSA kNA kXA rtA wA) (hB : txtOK nB lB shB kcB KB NB SB SoB NaB WiB KiB kSB kNB kXB rtB wB) : ∀ (D w r : Nat), w < shA → r < shB → 0 < D → (w < 6 ∨ (SoA w = 9 ∨ SoA w = 10 ∨ SoA w = 11) ∨ ∃ h c' a b w', h + 1 < D ∧ c' ≤ shA ∧ b ≤ kcA ∧ Cre (strN KA NA SA nA lA) SoA NaA WiA KiA kSA kNA kXA (Occ (strN KA NA SA nA lA) SoA NaA WiA KiA kSA kNA kXA h) w c' a b w') →
    ∃ z : Int32, (z = 0 ∨ z = 1) ∧ m_X10_matchesT D NA SA LA SoA NaA WiA KiA kSA NB SB LB SoB NaB WiB KiB kSB (nI w) (nI r) = some z := by
  intro D
  induction D with
  | zero => intro w r _ _ hf; exact absurd hf (Nat.not_lt_zero _)
  | succ D ih =>
    intro w r hw hr _ hwh
    obtain ⟨a1, a2, a3, a4, a5, a6, a7, a8⟩ := id hA
    obtain ⟨b1, b2, b3, b4, b5, b6, b7, b8⟩ := id hB
    simp only [m_X10_matchesT, bd_go (show w < 140 by omega) (by decide), bd_gc (show w < 140 by omega) (by decide), nI_clamp (show w < 2 ^ 31 by omega), bd_go (show r < 140 by omega) (by decide), bd_gc (show r < 140 by omega) (by decide), nI_clamp (show r < 2 ^ 31 by omega)]
    by_cases e8 : SoA w = 8
    · simp only [if_pos e8]; exact ⟨1, Or.inr rfl, rfl⟩
    simp only [if_neg e8]
    by_cases e8' : SoB r = 8
    · simp only [if_pos e8']; exact ⟨1, Or.inr rfl, rfl⟩
    simp only [if_neg e8', m_X10_sixOf]
    by_cases hw6 : 6 ≤ SoA w
    case neg =>
      simp only [if_neg hw6, Option.bind_some, if_neg (show ¬ (1 : Int32) = 0 by decide)]
      exact m48
    simp only [if_pos hw6, Option.bind_some, if_true]
    by_cases hr6 : 6 ≤ SoB r
    case neg =>
      simp only [if_neg hr6, Option.bind_some, if_neg (show ¬ (1 : Int32) = 0 by decide)]
      exact m48
    simp only [if_pos hr6, Option.bind_some, if_true]
    have w6 := hA.ge hw6
    have r6 := hB.ge hr6
    by_cases heq : SoA w = SoB r
    case neg => simp only [if_neg heq]; exact ⟨0, Or.inl rfl, rfl⟩
    simp only [if_pos heq]
    have harr : SoA w = 6 ∨ SoA w = 7 → ∃ z : Int32, (z = 0 ∨ z = 1) ∧ m_X10_matchesT_103 (m_X10_matchesT D) NA SA LA SoA NaA WiA KiA kSA NB SB LB SoB NaB WiB KiB kSB (nI w) (nI r) = some z := by
      intro e67
      obtain ⟨h, c', ka, kb, w', q0, q1, q2, hcre⟩ : ∃ h c' a b w', h + 1 < D + 1 ∧ c' ≤ shA ∧ b ≤ kcA ∧ Cre (strN KA NA SA nA lA) SoA NaA WiA KiA kSA kNA kXA (Occ (strN KA NA SA nA lA) SoA NaA WiA KiA kSA kNA kXA h) w c' a b w' := by
        rcases hwh with q | q | q
        · omega
        · rcases e67 with e | e <;> rw [e] at q <;> exact absurd q (by decide)
        · exact q
      obtain ⟨t, w2, y1, y2, y3, y4, y5, -⟩ := hcre.arr e67
      obtain ⟨h', c2, ka', kb', w3, z1, z2, z3, z4, hcre'⟩ := hB.cre r6 hr
      obtain ⟨t', w4, x1, x2, x3, x4, x5, -⟩ := hcre'.arr (by rw [← heq]; exact e67)
      have ht := y5.lt (by omega)
      have ht' := x5.lt (by omega)
      simp only [m_X10_matchesT_103, bd_go (show w < 140 by omega) (by decide), bd_gc (show w < 140 by omega) (by decide), nI_clamp (show w < 2 ^ 31 by omega), y1, bd_go (show ka < 2200 by omega) (by decide), bd_gc (show ka < 2200 by omega) (by decide), nI_clamp (show ka < 2 ^ 31 by omega), y4, bd_go (show r < 140 by omega) (by decide), bd_gc (show r < 140 by omega) (by decide), nI_clamp (show r < 2 ^ 31 by omega), x1, bd_go (show ka' < 2200 by omega) (by decide), bd_gc (show ka' < 2200 by omega) (by decide), nI_clamp (show ka' < 2 ^ 31 by omega), x4]
      have hnext : t < 6 ∨ (SoA t = 9 ∨ SoA t = 10 ∨ SoA t = 11) ∨ ∃ h c' a b w', h + 1 < D ∧ c' ≤ shA ∧ b ≤ kcA ∧ Cre (strN KA NA SA nA lA) SoA NaA WiA KiA kSA kNA kXA (Occ (strN KA NA SA nA lA) SoA NaA WiA KiA kSA kNA kXA h) t c' a b w' := by
        have hb : base (strN KA NA SA nA lA) SoA NaA t (w + 1) c' w2 → t < 6 ∨ (SoA t = 9 ∨ SoA t = 10 ∨ SoA t = 11) := by
          rintro ⟨-, ⟨q, -⟩ | ⟨-, -, q, -⟩⟩
          · exact Or.inl q
          · exact Or.inr q
        cases h with
        | zero => exact (hb y5).imp id Or.inl
        | succ h =>
          rcases y5 with q | ⟨-, -, q2'⟩
          · exact (hb q).imp id Or.inl
          · exact Or.inr (Or.inr ⟨h, c', ka + 1, kb, w2, by omega, q1, q2, q2'⟩)
      obtain ⟨z, hz1, hz2⟩ := ih t t' (by omega) (by omega) (by omega) hnext
      refine ⟨z, hz1, ?_⟩
      simp only [hz2, Option.bind_some, if_pos hz1]
    by_cases e6 : SoA w = 6
    · simp only [if_pos e6]; exact harr (Or.inl e6)
    simp only [if_neg e6]
    by_cases e7 : SoA w = 7
    · simp only [if_pos e7]; exact harr (Or.inr e7)
    simp only [if_neg e7]
    have hnA : ∃ x sz, NaA w = nI x ∧ strN KA NA SA nA lA x sz := by
      rcases a6.2 w w6 hw with ⟨q | q | q, -⟩ | ⟨-, q⟩
      · exact absurd q e6
      · exact absurd q e7
      · exact absurd q e8
      · exact q
    have hnB : ∃ x sz, NaB r = nI x ∧ strN KB NB SB nB lB x sz := by
      rcases b6.2 r r6 hr with ⟨q | q | q, -⟩ | ⟨-, q⟩
      · exact absurd (heq.trans q) e6
      · exact absurd (heq.trans q) e7
      · exact absurd q e8'
      · exact q
    obtain ⟨x, sx, hx, hx2⟩ := hnA
    obtain ⟨y, sy, hy, hy2⟩ := hnB
    obtain ⟨z, -, hz⟩ := same_ok (Lt := LA) (Lt' := LB) a1 a2 b1 b2 hx2 hy2
    have hz' := hz NA NB SA SB LA LB
    simp only [ov_self] at hz'
    simp only [hx, hy, hz', Option.bind_some]
    repeat' split
    all_goals first | exact ⟨0, Or.inl rfl, rfl⟩ | exact ⟨1, Or.inr rfl, rfl⟩
theorem mat150 (hA : txtOK nA lA shA kcA KA NA SA SoA NaA WiA KiA kSA kNA kXA rtA wA) (hB : txtOK nB lB shB kcB KB NB SB SoB NaB WiB KiB kSB kNB kXB rtB wB) {w r : Nat} (hw : w < shA) (hr : r < shB) : ∃ z : Int32, (z = 0 ∨ z = 1) ∧ m_X10_matchesT 150 NA SA LA SoA NaA WiA KiA kSA NB SB LB SoB NaB WiB KiB kSB (nI w) (nI r) = some z := by
  refine mat_ok hA hB 150 w r hw hr (by omega) ?_
  by_cases h6 : w < 6
  · exact Or.inl h6
  · obtain ⟨h', c2, a, b, w', r1, r2, r3, r4, r5⟩ := hA.cre (by omega) hw
    exact Or.inr (Or.inr ⟨h', c2, a, b, w', by omega, r3, r4, r5⟩)
theorem bra_ok (hA : txtOK nA lA shA kcA KA NA SA SoA NaA WiA KiA kSA kNA kXA rtA wA) (hB : txtOK nB lB shB kcB KB NB SB SoB NaB WiB KiB kSB kNB kXB rtB wB) {w r : Nat} (hw : w < shA) (hr : r < shB) (h8 : SoB r = 8) : ∃ z : Int32, (z = -1 ∨ ∃ k x, k < kcB ∧ z = nI k ∧ kSB k = nI x ∧ x < shB) ∧ m_X10_branchFor NA SA LA SoA NaA WiA KiA kSA NB SB LB SoB NaB WiB KiB kSB kXB (nI w) (nI r) = some z := by
  obtain ⟨b1, b2, b3, b4, b5, b6, b7, b8⟩ := id hB
  have r6 := hB.six h8 (Or.inr (Or.inr (Or.inl rfl)))
  obtain ⟨h', c2, a, b, w', r1, r2, r3, r4, r5⟩ := hB.cre r6 hr
  obtain ⟨m, c, t, bb, W, y1, y2, y3, y4, y5, y6, y7⟩ := r5.uni h8
  have go : ∀ (fuel i : Nat), i ≤ m → m - i < fuel → ∃ z : Int32, (z = -1 ∨ ∃ k x, k < kcB ∧ z = nI k ∧ kSB k = nI x ∧ x < shB) ∧ m_X10_branchFor_8 NA SA LA SoA NaA WiA KiA kSA NB SB LB SoB NaB WiB KiB kSB kXB fuel (nI w) (if i = m then -1 else nI (c i)) = some z := by
    intro fuel
    induction fuel with
    | zero => intro i _ hf; exact absurd hf (Nat.not_lt_zero _)
    | succ fuel ih =>
      intro i hi hf
      by_cases him : i = m
      · simp only [if_pos him, m_X10_branchFor_8, if_pos (show (-1 : Int32) < 0 by decide)]
        exact ⟨-1, Or.inl rfl, rfl⟩
      · obtain ⟨d1, d2, d3, d4, d5, d6, x, w2, d7, d8, d9, d10⟩ := y7 i (by omega)
        have hx := d8.lt (by omega)
        obtain ⟨z, hz1, hz2⟩ := mat150 (LA := LA) (LB := LB) hA hB hw (show x < shB by omega)
        simp only [if_neg him, m_X10_branchFor_8, if_neg (nI_pos (show c i < 2 ^ 31 by omega)), bd_go (show c i < 2200 by omega) (by decide), bd_gc (show c i < 2200 by omega) (by decide), nI_clamp (show c i < 2 ^ 31 by omega), d7, hz2, Option.bind_some, d6]
        by_cases h0 : z = 0
        · simp only [if_pos h0]
          exact ih (i + 1) (by omega) (by omega)
        · simp only [if_neg h0]
          exact ⟨_, Or.inr ⟨c i, x, by omega, rfl, d7, by omega⟩, rfl⟩
  simp only [m_X10_branchFor, bd_go (show r < 140 by omega) (by decide), bd_gc (show r < 140 by omega) (by decide), nI_clamp (show r < 2 ^ 31 by omega), y2]
  have := go sr_fuel 0 (by omega) (by unfold sr_fuel; omega)
  rw [if_neg (by omega)] at this
  exact this
theorem fld_like (hA : txtOK nA lA shA kcA KA NA SA SoA NaA WiA KiA kSA kNA kXA rtA wA) (hB : txtOK nB lB shB kcB KB NB SB SoB NaB WiB KiB kSB kNB kXB rtB wB) {w k y sy : Nat} (hw : w < shA) (h11 : SoA w = 11) (hk : k < kcB) (hy : kNB k = nI y) (hsy : strN KB NB SB nB lB y sy) : ∃ z : Int32, (z = -1 ∨ ∃ k x, k < kcA ∧ z = nI k ∧ kSA k = nI x ∧ x < shA) ∧ m_X10_fieldLike NA SA LA KiA kNA kXA NB SB LB kNB (nI w) (nI k) = some z := by
  obtain ⟨a1, a2, a3, a4, a5, a6, a7, a8⟩ := id hA
  obtain ⟨b1, b2, b3, b4, b5, b6, b7, b8⟩ := id hB
  have w6 := hA.six h11 (Or.inr (Or.inr (Or.inr (Or.inr (Or.inr rfl)))))
  obtain ⟨h', c2, a, b, w', r1, r2, r3, r4, r5⟩ := hA.cre w6 hw
  obtain ⟨nx, sz, m, c, t, e, W, y1, y2, y3, y4, y5, y6, y7, y8⟩ := r5.rec' h11
  have go : ∀ (fuel i : Nat), i ≤ m → m - i < fuel → ∃ z : Int32, (z = -1 ∨ ∃ k x, k < kcA ∧ z = nI k ∧ kSA k = nI x ∧ x < shA) ∧ m_X10_fieldLike_8 NA SA LA KiA kNA kXA NB SB LB kNB fuel (nI k) (if i = m then -1 else nI (c i)) = some z := by
    intro fuel
    induction fuel with
    | zero => intro i _ hf; exact absurd hf (Nat.not_lt_zero _)
    | succ fuel ih =>
      intro i hi hf
      by_cases him : i = m
      · simp only [if_pos him, m_X10_fieldLike_8, if_pos (show (-1 : Int32) < 0 by decide)]
        exact ⟨-1, Or.inl rfl, rfl⟩
      · obtain ⟨d1, d2, d3, d4, d5, d6, ny, sny, x, w2, d7, d8, d9, d10, d11⟩ := y8 i (by omega)
        have hx := d10.lt (by omega)
        obtain ⟨z, -, hz⟩ := same_ok (Lt := LA) (Lt' := LB) a1 a2 b1 b2 d8 hsy
        have hz' := hz NA NB SA SB LA LB
        simp only [ov_self] at hz'
        simp only [if_neg him, m_X10_fieldLike_8, if_neg (nI_pos (show c i < 2 ^ 31 by omega)), bd_go (show c i < 2200 by omega) (by decide), bd_gc (show c i < 2200 by omega) (by decide), nI_clamp (show c i < 2 ^ 31 by omega), bd_go (show k < 2200 by omega) (by decide), bd_gc (show k < 2200 by omega) (by decide), nI_clamp (show k < 2 ^ 31 by omega), d7, hy, hz', Option.bind_some, d6]
        by_cases h0 : z = 0
        · simp only [if_pos h0]
          exact ih (i + 1) (by omega) (by omega)
        · simp only [if_neg h0]
          exact ⟨_, Or.inr ⟨c i, x, by omega, rfl, d9, by omega⟩, rfl⟩
  have hst : (if m = 0 then (-1 : Int32) else nI (c 0)) = (if 0 = m then -1 else nI (c 0)) := by
    by_cases h0 : m = 0
    · rw [if_pos h0, if_pos h0.symm]
    · rw [if_neg h0, if_neg (fun q => h0 q.symm)]
  simp only [m_X10_fieldLike, bd_go (show w < 140 by omega) (by decide), bd_gc (show w < 140 by omega) (by decide), nI_clamp (show w < 2 ^ 31 by omega), y3, hst]
  exact go sr_fuel 0 (by omega) (by unfold sr_fuel; omega)
end MAYs
/-- how many are not 0 -/
def cntN (f : Nat → Int32) : Nat → Nat
  | 0 => 0
  | n + 1 => cntN f n + (if f n = 0 then 0 else 1)
theorem cntN_le (f : Nat → Int32) : ∀ n, cntN f n ≤ n := by
  intro n
  induction n with
  | zero => exact Nat.le_refl _
  | succ n ih =>
    show cntN f n + (if f n = 0 then 0 else 1) ≤ n + 1
    split <;> omega
theorem cntN_lt {f : Nat → Int32} {k : Nat} (hk : f k = 0) : ∀ n, k < n → cntN f n < n := by
  intro n
  induction n with
  | zero => intro h; omega
  | succ n ih =>
    intro h
    show cntN f n + (if f n = 0 then 0 else 1) < n + 1
    by_cases e : k = n
    · subst e
      have := cntN_le f k
      rw [if_pos hk]; omega
    · have := ih (by omega)
      split <;> omega
theorem cntN_upd {f : Nat → Int32} {k : Nat} (hk : f k = 0) : ∀ n, cntN (upd f k 1) n = cntN f n + (if k < n then 1 else 0) := by
  intro n
  induction n with
  | zero => rfl
  | succ n ih =>
    show cntN (upd f k 1) n + (if upd f k 1 n = 0 then 0 else 1) = cntN f n + (if f n = 0 then 0 else 1) + (if k < n + 1 then 1 else 0)
    rw [ih]
    by_cases e : n = k
    · subst e
      have h1 : ¬ n < n := by omega
      have h2 : n < n + 1 := by omega
      rw [pk_us, hk]
      simp only [if_neg h1, if_pos h2, if_neg (show ¬ (1 : Int32) = 0 by decide), if_true]
    · rw [pk_un e]
      by_cases q : k < n
      · have h2 : k < n + 1 := by omega
        simp only [if_pos q, if_pos h2]
        omega
      · have h2 : ¬ k < n + 1 := by omega
        simp only [if_neg q, if_neg h2]
        omega
theorem cntN_0 {f : Nat → Int32} : ∀ n, (∀ i, i < n → f i = 0) → cntN f n = 0 := by
  intro n
  induction n with
  | zero => intro _; rfl
  | succ n ih =>
    intro h
    show cntN f n + (if f n = 0 then 0 else 1) = 0
    rw [ih (fun i hi => h i (by omega)), if_pos (h n (by omega))]
def askI (asked pairs : Nat → Int32) (m sa sb : Nat) : Prop := m = cntN asked 19600 ∧ ∀ j, j < m → ∃ w r, w < sa ∧ r < sb ∧ pairs j = nI (140 * w + r)
theorem nI_mul (a b : Nat) : nI a * nI b = nI (a * b) := (Int32.ofNat_mul a b).symm
theorem ask_ok {asked pairs : Nat → Int32} {m sa sb w r : Nat} (hI : askI asked pairs m sa sb) (hsa : sa ≤ 134) (hsb : sb ≤ 134) (hw : w < sa) (hr : r < sb) : ∃ (asked' pairs' : Nat → Int32) (m' : Nat), m_X10_ask asked pairs (nI m) (nI w) (nI r) = some (asked', pairs', nI m') ∧ askI asked' pairs' m' sa sb ∧ m ≤ m' := by
  have e : (140 : Int32) * nI w + nI r = nI (140 * w + r) := by
    rw [show (140 : Int32) = nI 140 from rfl, nI_mul, nI_add]
  have e1 : vp_nar .boolean 1 = 1 := by decide +kernel
  have hlt : 140 * w + r < 19600 := by omega
  simp only [m_X10_ask, e, bd_go (show 140 * w + r < 19600 by omega) (by decide), bd_gc (show 140 * w + r < 19600 by omega) (by decide), nI_clamp (show 140 * w + r < 2 ^ 31 by omega)]
  by_cases h0 : asked (140 * w + r) = 0
  · have hm : m < 19600 := by rw [hI.1]; exact cntN_lt h0 19600 hlt
    simp only [if_pos h0, bd_go (show m < 19600 by omega) (by decide), bd_gc (show m < 19600 by omega) (by decide), nI_clamp (show m < 2 ^ 31 by omega), e1, nI_1]
    refine ⟨_, _, m + 1, rfl, ⟨?_, fun j hj => ?_⟩, by omega⟩
    · rw [cntN_upd h0, if_pos hlt, ← hI.1]
    · by_cases q : j = m
      · subst q; exact ⟨w, r, hw, hr, pk_us⟩
      · rw [pk_un q]; exact hI.2 j (by omega)
  · simp only [if_neg h0]
    exact ⟨asked, pairs, m, rfl, hI, Nat.le_refl _⟩
end
section
-- the reference's list of pairs that must fit
def MO (sa sb : Nat) (x : Option (Int32 × (Nat → Int32) × (Nat → Int32) × Int32)) : Prop := ∃ (z : Int32) (asked pairs : Nat → Int32) (m : Nat), (z = 0 ∨ z = 1) ∧ x = some (z, (asked, pairs, nI m)) ∧ askI asked pairs m sa sb
section ALLs
variable {KA SA LA SoA NaA WiA KiA kSA kNA kXA KB SB LB SoB NaB WiB KiB FaB kSB kNB kDB kXB : Nat → Int32} {NA NB : Nat → Int64} {nA lA shA kcA rtA wA nB lB shB kcB rtB wB : Nat}
theorem may_23 (hA : txtOK nA lA shA kcA KA NA SA SoA NaA WiA KiA kSA kNA kXA rtA wA) (hB : txtOK nB lB shB kcB KB NB SB SoB NaB WiB KiB kSB kNB kXB rtB wB) {r mk : Nat} {c : Nat → Nat} (hr : r < shB) (hc : ∀ i, i < mk → c i < kcA ∧ kXA (c i) = (if i + 1 = mk then -1 else nI (c (i + 1))) ∧ ∃ x, kSA (c i) = nI x ∧ x < shA) : ∀ (fuel i : Nat) (asked pairs : Nat → Int32) (m : Nat), i ≤ mk → mk - i < fuel → askI asked pairs m shA shB →
    MO shA shB (m_X10_may_23 NA SA LA SoA NaA WiA KiA kSA kNA kXA NB SB LB SoB NaB WiB KiB FaB kSB kNB kDB kXB fuel asked pairs (nI m) (nI r) (if i = mk then -1 else nI (c i))) := by
  obtain ⟨a1, a2, a3, a4, a5, a6, a7, a8⟩ := id hA
  obtain ⟨b1, b2, b3, b4, b5, b6, b7, b8⟩ := id hB
  intro fuel
  induction fuel with
  | zero => intro i asked pairs m _ hf; exact absurd hf (Nat.not_lt_zero _)
  | succ fuel ih =>
    intro i asked pairs m hi hf hI
    by_cases him : i = mk
    · simp only [if_pos him, m_X10_may_23, if_pos (show (-1 : Int32) < 0 by decide)]
      exact ⟨1, asked, pairs, m, Or.inr rfl, rfl, hI⟩
    · obtain ⟨c1, c2, x, c3, c4⟩ := hc i (by omega)
      obtain ⟨asked', pairs', m', h1, h2, h3⟩ := ask_ok hI a4 b4 c4 hr
      simp only [if_neg him, m_X10_may_23, if_neg (nI_pos (show c i < 2 ^ 31 by omega)), bd_go (show c i < 2200 by omega) (by decide), bd_gc (show c i < 2200 by omega) (by decide), nI_clamp (show c i < 2 ^ 31 by omega), c3, h1, Option.bind_some, c2]
      exact ih (i + 1) asked' pairs' m' (by omega) (by omega) h2
theorem may_256 (hA : txtOK nA lA shA kcA KA NA SA SoA NaA WiA KiA kSA kNA kXA rtA wA) (hB : txtOK nB lB shB kcB KB NB SB SoB NaB WiB KiB kSB kNB kXB rtB wB) {w r mk : Nat} {c : Nat → Nat} (hr : r < shB) (h10 : SoB r = 10) (hc : ∀ i, i < mk → c i < kcA ∧ kXA (c i) = (if i + 1 = mk then -1 else nI (c (i + 1))) ∧ ∃ y sy, kNA (c i) = nI y ∧ strN KA NA SA nA lA y sy) {asked pairs : Nat → Int32} {m : Nat} (hI : askI asked pairs m shA shB) : ∀ (fuel i : Nat) (x6 : Int32), i ≤ mk → mk - i < fuel →
    MO shA shB (m_X10_may_256 NA SA LA SoA NaA WiA KiA kSA kNA kXA NB SB LB SoB NaB WiB KiB FaB kSB kNB kDB kXB fuel asked pairs (nI m) (nI r) x6 (if i = mk then -1 else nI (c i))) := by
  obtain ⟨a1, a2, a3, a4, a5, a6, a7, a8⟩ := id hA
  obtain ⟨b1, b2, b3, b4, b5, b6, b7, b8⟩ := id hB
  have r6 := hB.six h10 (Or.inr (Or.inr (Or.inr (Or.inr (Or.inl rfl)))))
  obtain ⟨h', c2, a, b, w', r1, r2, r3, r4, r5⟩ := hB.cre r6 hr
  obtain ⟨-, nx, sz, mb, cb, W, y1, y2, y3, y4, y5, y6, y7⟩ := r5.enm h10
  intro fuel
  induction fuel with
  | zero => intro i x6 _ hf; exact absurd hf (Nat.not_lt_zero _)
  | succ fuel ih =>
    intro i x6 hi hf
    by_cases him : i = mk
    · simp only [if_pos him, m_X10_may_256, if_pos (show (-1 : Int32) < 0 by decide), bd_go (show r < 140 by omega) (by decide), bd_gc (show r < 140 by omega) (by decide), nI_clamp (show r < 2 ^ 31 by omega)]
      by_cases h1 : 0 ≤ FaB r
      · simp only [if_pos h1]; exact ⟨1, asked, pairs, m, Or.inr rfl, rfl, hI⟩
      · simp only [if_neg h1]
        by_cases h2 : x6 = 0
        · simp only [if_pos h2]; exact ⟨0, asked, pairs, m, Or.inl rfl, rfl, hI⟩
        · simp only [if_neg h2]; exact ⟨1, asked, pairs, m, Or.inr rfl, rfl, hI⟩
    · obtain ⟨c1, c2', y, sy, c3, c4⟩ := hc i (by omega)
      obtain ⟨z, hz⟩ := symbol_ok (Lt := LB) (Lt' := LA) (c := cb) (Ki := KiB) (kN := kNB) (kX := kXB) (m := mb) (sh := shB) (kc := kcB) b1 b2 a1 a2 hr (by omega) (by omega) (by omega) c4 (by rw [y4, if_neg (by omega)]) (fun j hj => by
        obtain ⟨d1, d2, d3, y', sy', d4, d5, -⟩ := y7 j hj
        exact ⟨by omega, d3, y', sy', d4, d5⟩)
      have hz' := hz NB NA SB SA LB LA KiB kNB kXB
      simp only [ov_self] at hz'
      simp only [if_neg him, m_X10_may_256, if_neg (nI_pos (show c i < 2 ^ 31 by omega)), m_X10_may_287, m_X10_may_288, bd_go (show c i < 2200 by omega) (by decide), bd_gc (show c i < 2200 by omega) (by decide), nI_clamp (show c i < 2 ^ 31 by omega), c2', c3, hz', Option.bind_some]
      by_cases h2 : x6 = 0
      · simp only [if_pos h2]; exact ih (i + 1) 0 (by omega) (by omega)
      · simp only [if_neg h2]
        by_cases h3 : z < 0
        · simp only [if_pos h3]; exact ih (i + 1) 0 (by omega) (by omega)
        · simp only [if_neg h3]; exact ih (i + 1) 1 (by omega) (by omega)
theorem may_335 (hA : txtOK nA lA shA kcA KA NA SA SoA NaA WiA KiA kSA kNA kXA rtA wA) (hB : txtOK nB lB shB kcB KB NB SB SoB NaB WiB KiB kSB kNB kXB rtB wB) {w mk : Nat} {c : Nat → Nat} (hw : w < shA) (h11 : SoA w = 11) (hc : ∀ i, i < mk → c i < kcB ∧ kXB (c i) = (if i + 1 = mk then -1 else nI (c (i + 1))) ∧ ∃ y sy x, kNB (c i) = nI y ∧ strN KB NB SB nB lB y sy ∧ kSB (c i) = nI x ∧ x < shB) : ∀ (fuel i : Nat) (x6 : Int32) (asked pairs : Nat → Int32) (m : Nat), (x6 = 0 ∨ x6 = 1) → i ≤ mk → mk - i < fuel → askI asked pairs m shA shB →
    MO shA shB (m_X10_may_335 NA SA LA SoA NaA WiA KiA kSA kNA kXA NB SB LB SoB NaB WiB KiB FaB kSB kNB kDB kXB fuel asked pairs (nI m) (nI w) 11 x6 (if i = mk then -1 else nI (c i))) := by
  obtain ⟨a1, a2, a3, a4, a5, a6, a7, a8⟩ := id hA
  obtain ⟨b1, b2, b3, b4, b5, b6, b7, b8⟩ := id hB
  intro fuel
  induction fuel with
  | zero => intro i x6 asked pairs m _ _ hf; exact absurd hf (Nat.not_lt_zero _)
  | succ fuel ih =>
    intro i x6 asked pairs m hx6 hi hf hI
    by_cases him : i = mk
    · simp only [if_pos him, m_X10_may_335, if_pos (show (-1 : Int32) < 0 by decide), if_pos hx6]
      exact ⟨x6, asked, pairs, m, hx6, rfl, hI⟩
    · obtain ⟨c1, c2, y, sy, x, c3, c4, c5, c6⟩ := hc i (by omega)
      obtain ⟨z, hz1, hz2⟩ := fld_like (LA := LA) (LB := LB) hA hB hw h11 c1 c3 c4
      have tail : ∀ (asked pairs : Nat → Int32) (m : Nat) (x8 : Int32), askI asked pairs m shA shB → MO shA shB (m_X10_may_380 NA SA LA SoA NaA WiA KiA kSA kNA kXA NB SB LB SoB NaB WiB KiB FaB kSB kNB kDB kXB (m_X10_may_335 NA SA LA SoA NaA WiA KiA kSA kNA kXA NB SB LB SoB NaB WiB KiB FaB kSB kNB kDB kXB fuel) asked pairs (nI m) (nI w) 11 x6 (nI (c i)) x8) := by
        intro asked pairs m x8 hI
        have i0 := ih (i + 1) 0 asked pairs m (Or.inl rfl) (by omega) (by omega) hI
        have i1 := ih (i + 1) 1 asked pairs m (Or.inr rfl) (by omega) (by omega) hI
        simp only [m_X10_may_380, m_X10_may_404, m_X10_may_400, m_X10_may_405, bd_go (show c i < 2200 by omega) (by decide), bd_gc (show c i < 2200 by omega) (by decide), nI_clamp (show c i < 2 ^ 31 by omega), c2]
        by_cases h1 : x6 = 0
        · simp only [if_pos h1]; exact i0
        · simp only [if_neg h1]
          by_cases h2 : 0 ≤ x8
          · simp only [if_pos h2]; exact i1
          · simp only [if_neg h2]
            by_cases h3 : kDB (c i) < 0
            · simp only [if_pos h3]; exact i0
            · simp only [if_neg h3]; exact i1
      simp only [if_neg him, m_X10_may_335, if_neg (nI_pos (show c i < 2 ^ 31 by omega)), if_true, hz2, Option.bind_some]
      rcases hz1 with rfl | ⟨k, x', k1, rfl, k2, k3⟩
      · simp only [if_pos (show (-1 : Int32) < 0 by decide)]
        exact tail asked pairs m (-1) hI
      · obtain ⟨asked', pairs', m', h1, h2, h3⟩ := ask_ok hI a4 b4 k3 c6
        simp only [if_neg (nI_pos (show k < 2 ^ 31 by omega)), bd_go (show k < 2200 by omega) (by decide), bd_gc (show k < 2200 by omega) (by decide), nI_clamp (show k < 2 ^ 31 by omega), bd_go (show c i < 2200 by omega) (by decide), bd_gc (show c i < 2200 by omega) (by decide), nI_clamp (show c i < 2 ^ 31 by omega), k2, c5, h1, Option.bind_some]
        exact tail asked' pairs' m' (nI k) h2
theorem may_ok (hA : txtOK nA lA shA kcA KA NA SA SoA NaA WiA KiA kSA kNA kXA rtA wA) (hB : txtOK nB lB shB kcB KB NB SB SoB NaB WiB KiB kSB kNB kXB rtB wB) {w r m : Nat} {asked pairs : Nat → Int32} (hI : askI asked pairs m shA shB) (hw : w < shA) (hr : r < shB) : MO shA shB (m_X10_may asked pairs (nI m) NA SA LA SoA NaA WiA KiA kSA kNA kXA NB SB LB SoB NaB WiB KiB FaB kSB kNB kDB kXB (nI w) (nI r)) := by
  obtain ⟨a1, a2, a3, a4, a5, a6, a7, a8⟩ := id hA
  obtain ⟨b1, b2, b3, b4, b5, b6, b7, b8⟩ := id hB
  have st : ∀ z : Int32, (z = 0 ∨ z = 1) → MO shA shB (some (z, (asked, pairs, nI m))) := fun z hz => ⟨z, asked, pairs, m, hz, rfl, hI⟩
  simp only [m_X10_may, bd_go (show w < 140 by omega) (by decide), bd_gc (show w < 140 by omega) (by decide), nI_clamp (show w < 2 ^ 31 by omega), bd_go (show r < 140 by omega) (by decide), bd_gc (show r < 140 by omega) (by decide), nI_clamp (show r < 2 ^ 31 by omega)]
  by_cases e8 : SoA w = 8
  · simp only [if_pos e8]
    have w6 := hA.six e8 (Or.inr (Or.inr (Or.inl rfl)))
    obtain ⟨h', c2, a, b, w', r1, r2, r3, r4, r5⟩ := hA.cre w6 hw
    obtain ⟨mk, c, t, bb, W, y1, y2, y3, y4, y5, y6, y7⟩ := r5.uni e8
    have := may_23 (LA := LA) (LB := LB) (FaB := FaB) (kDB := kDB) hA hB hr (mk := mk) (c := c) (fun i hi => by
      obtain ⟨d1, d2, d3, d4, d5, d6, x, w2, d7, d8, d9, d10⟩ := y7 i hi
      have hx := d8.lt (by omega)
      exact ⟨by omega, d6, x, d7, by omega⟩) sr_fuel 0 asked pairs m (by omega) (by unfold sr_fuel; omega) hI
    rw [if_neg (by omega)] at this
    simp only [y2]
    exact this
  simp only [if_neg e8]
  by_cases e8' : SoB r = 8
  · simp only [if_pos e8']
    obtain ⟨z, hz1, hz2⟩ := bra_ok (LA := LA) (LB := LB) hA hB hw hr e8'
    simp only [hz2, Option.bind_some]
    rcases hz1 with rfl | ⟨k, x, k1, rfl, k2, k3⟩
    · simp only [if_pos (show (-1 : Int32) < 0 by decide)]
      exact st 0 (Or.inl rfl)
    · obtain ⟨asked', pairs', m', h1, h2, h3⟩ := ask_ok hI a4 b4 hw k3
      simp only [if_neg (nI_pos (show k < 2 ^ 31 by omega)), bd_go (show k < 2200 by omega) (by decide), bd_gc (show k < 2200 by omega) (by decide), nI_clamp (show k < 2 ^ 31 by omega), k2, h1, Option.bind_some]
      exact ⟨1, asked', pairs', m', Or.inr rfl, rfl, h2⟩
  simp only [if_neg e8', m_X10_sixOf]
  have h126 : ∀ x5 : Int32, MO shA shB (m_X10_may_126 NA SA LA SoA NaA WiA KiA kSA kNA kXA NB SB LB SoB NaB WiB KiB FaB kSB kNB kDB kXB asked pairs (nI m) (nI r) x5) := by
    intro x5
    unfold m_X10_may_126 m_X10_sixOf m_X10_matchesSix m_X10_matchesSix_15
    simp only [bd_go (show r < 140 by omega) (by decide), bd_gc (show r < 140 by omega) (by decide), nI_clamp (show r < 2 ^ 31 by omega)]
    repeat' (first | exact st 0 (Or.inl rfl) | exact st 1 (Or.inr rfl) | (split; all_goals try simp only [Option.bind_some]))
  by_cases hw6 : 6 ≤ SoA w
  case neg =>
    simp only [if_neg hw6, Option.bind_some, if_neg (show ¬ (1 : Int32) = 0 by decide)]
    exact h126 _
  simp only [if_pos hw6, Option.bind_some, if_true]
  by_cases hr6 : 6 ≤ SoB r
  case neg =>
    simp only [if_neg hr6, Option.bind_some, if_neg (show ¬ (1 : Int32) = 0 by decide)]
    exact h126 _
  simp only [if_pos hr6, Option.bind_some, if_true]
  have w6 := hA.ge hw6
  have r6 := hB.ge hr6
  by_cases heq : SoA w = SoB r
  case neg => simp only [if_neg heq]; exact st 0 (Or.inl rfl)
  simp only [if_pos heq]
  obtain ⟨h', c2, ka, kb, w', r1, r2, r3, r4, r5⟩ := hA.cre w6 hw
  obtain ⟨h2', c2', ka', kb', w2', q1, q2, q3, q4, q5⟩ := hB.cre r6 hr
  have harr : SoA w = 6 ∨ SoA w = 7 → MO shA shB (m_X10_may_196 NA SA LA SoA NaA WiA KiA kSA kNA kXA NB SB LB SoB NaB WiB KiB FaB kSB kNB kDB kXB asked pairs (nI m) (nI w) (nI r)) := by
    intro e67
    obtain ⟨t, w2, y1, y2, y3, y4, y5, -⟩ := r5.arr e67
    obtain ⟨t', w4, x1, x2, x3, x4, x5, -⟩ := q5.arr (by rw [← heq]; exact e67)
    have ht := y5.lt (by omega)
    have ht' := x5.lt (by omega)
    obtain ⟨asked', pairs', m', h1, h2, h3⟩ := ask_ok hI a4 b4 (show t < shA by omega) (show t' < shB by omega)
    simp only [m_X10_may_196, bd_go (show w < 140 by omega) (by decide), bd_gc (show w < 140 by omega) (by decide), nI_clamp (show w < 2 ^ 31 by omega), y1, bd_go (show ka < 2200 by omega) (by decide), bd_gc (show ka < 2200 by omega) (by decide), nI_clamp (show ka < 2 ^ 31 by omega), y4, bd_go (show r < 140 by omega) (by decide), bd_gc (show r < 140 by omega) (by decide), nI_clamp (show r < 2 ^ 31 by omega), x1, bd_go (show ka' < 2200 by omega) (by decide), bd_gc (show ka' < 2200 by omega) (by decide), nI_clamp (show ka' < 2 ^ 31 by omega), x4, h1, Option.bind_some]
    exact ⟨1, asked', pairs', m', Or.inr rfl, rfl, h2⟩
  by_cases e6 : SoA w = 6
  · simp only [if_pos e6]; exact harr (Or.inl e6)
  simp only [if_neg e6]
  by_cases e7 : SoA w = 7
  · simp only [if_pos e7]; exact harr (Or.inr e7)
  simp only [if_neg e7]
  obtain ⟨z, hz1, hz2⟩ := mat150 (LA := LA) (LB := LB) hA hB hw hr
  simp only [hz2, Option.bind_some]
  by_cases h0 : z = 0
  · simp only [if_pos h0]; exact st 0 (Or.inl rfl)
  simp only [if_neg h0]
  by_cases e10 : SoA w = 10
  · simp only [if_pos e10]
    obtain ⟨-, nx, sz, mk, c, W, y1, y2, y3, y4, y5, y6, y7⟩ := r5.enm e10
    have := may_256 (LA := LA) (LB := LB) (FaB := FaB) (kDB := kDB) (w := w) hA hB hr (heq.symm.trans e10) (mk := mk) (c := c) (fun i hi => by
      obtain ⟨d1, d2, d3, y, sy, d4, d5, -⟩ := y7 i hi
      exact ⟨by omega, d3, y, sy, d4, d5⟩) hI sr_fuel 0 1 (by omega) (by unfold sr_fuel; omega)
    rw [if_neg (by omega)] at this
    simp only [y4]
    exact this
  simp only [if_neg e10]
  by_cases e11 : SoA w = 11
  · obtain ⟨nx, sz, mk, c, t, e, W, y1, y2, y3, y4, y5, y6, y7, y8⟩ := q5.rec' (heq.symm.trans e11)
    have hst : (if mk = 0 then (-1 : Int32) else nI (c 0)) = (if 0 = mk then -1 else nI (c 0)) := by
      by_cases h0 : mk = 0
      · rw [if_pos h0, if_pos h0.symm]
      · rw [if_neg h0, if_neg (fun q => h0 q.symm)]
    simp only [e11, y3, hst]
    exact may_335 (LA := LA) (LB := LB) (FaB := FaB) (kDB := kDB) hA hB hw e11 (fun i hi => by
      obtain ⟨d1, d2, d3, d4, d5, d6, y, sy, x, w2, d7, d8, d9, d10, d11⟩ := y8 i hi
      have hx := d10.lt (by omega)
      exact ⟨by omega, d6, y, sy, x, d7, d8, d9, by omega⟩) sr_fuel 0 1 asked pairs m (Or.inr rfl) (by omega) (by unfold sr_fuel; omega) hI
  · have e : ∀ (fuel : Nat) (x7 : Int32), m_X10_may_335 NA SA LA SoA NaA WiA KiA kSA kNA kXA NB SB LB SoB NaB WiB KiB FaB kSB kNB kDB kXB (fuel + 1) asked pairs (nI m) (nI w) (SoA w) 1 x7 = some (1, (asked, pairs, nI m)) := by
      intro fuel x7
      simp only [m_X10_may_335, if_neg e11, or_true, if_true]
      split <;> rfl
    have e' : m_X10_may_335 NA SA LA SoA NaA WiA KiA kSA kNA kXA NB SB LB SoB NaB WiB KiB FaB kSB kNB kDB kXB sr_fuel asked pairs (nI m) (nI w) (SoA w) 1 (KiB r) = some (1, (asked, pairs, nI m)) := e 99999 _
    rw [e']
    exact st 1 (Or.inr rfl)
theorem fa44 (hA : txtOK nA lA shA kcA KA NA SA SoA NaA WiA KiA kSA kNA kXA rtA wA) (hB : txtOK nB lB shB kcB KB NB SB SoB NaB WiB KiB kSB kNB kXB rtB wB) {ra rb : Int32} : ∀ (fuel k : Nat) (x3 : Int32) (asked pairs : Nat → Int32) (m : Nat), (x3 = 0 ∨ x3 = 1) → k ≤ 19600 → 19600 - k < fuel → askI asked pairs m shA shB →
    MO shA shB (m_X10_fitsAll_44 NA SA LA SoA NaA WiA KiA kSA kNA kXA ra NB SB LB SoB NaB WiB KiB FaB kSB kNB kDB kXB rb fuel asked pairs (nI m) x3 (nI k)) := by
  obtain ⟨a1, a2, a3, a4, a5, a6, a7, a8⟩ := id hA
  obtain ⟨b1, b2, b3, b4, b5, b6, b7, b8⟩ := id hB
  intro fuel
  induction fuel with
  | zero => intro k x3 asked pairs m _ _ hf; exact absurd hf (Nat.not_lt_zero _)
  | succ fuel ih =>
    intro k x3 asked pairs m hx3 hk hf hI
    have hm : m ≤ 19600 := by rw [hI.1]; exact cntN_le _ _
    by_cases hc : m ≤ k
    · simp only [m_X10_fitsAll_44, if_pos (nI_le hc (show k < 2 ^ 31 by omega)), if_pos hx3]
      exact ⟨x3, asked, pairs, m, hx3, rfl, hI⟩
    · by_cases h0 : x3 = 0
      · simp only [m_X10_fitsAll_44, if_neg (nI_ge (show k < m by omega) (by omega)), if_pos h0, if_pos hx3]
        exact ⟨x3, asked, pairs, m, hx3, rfl, hI⟩
      · obtain ⟨w, r, hw, hr, hp⟩ := hI.2 k (by omega)
        have e1 : nI (140 * w + r) / 140 = nI w := by
          rw [show (140 : Int32) = nI 140 from rfl, pk_div (by omega) (by omega) (by omega), show (140 * w + r) / 140 = w by omega]
        have e2 : nI (140 * w + r) - nI w * 140 = nI r := by
          have := pk_rem (a := 140 * w + r) (d := 140) (by omega) (by omega) (by omega)
          rw [show nI 140 = (140 : Int32) from rfl, e1, show (140 * w + r) % 140 = r by omega] at this
          exact this
        obtain ⟨z, asked', pairs', m', z1, z2, z3⟩ := may_ok (LA := LA) (LB := LB) (FaB := FaB) (kDB := kDB) hA hB hI hw hr
        simp only [m_X10_fitsAll_44, if_neg (nI_ge (show k < m by omega) (by omega)), if_neg h0, bd_go (show k < 19600 by omega) (by decide), bd_gc (show k < 19600 by omega) (by decide), nI_clamp (show k < 2 ^ 31 by omega), hp, e1, e2, z2, Option.bind_some, nI_1]
        exact ih (k + 1) z asked' pairs' m' z1 (by omega) (by omega) z3
theorem all_ok (hA : txtOK nA lA shA kcA KA NA SA SoA NaA WiA KiA kSA kNA kXA rtA wA) (hB : txtOK nB lB shB kcB KB NB SB SoB NaB WiB KiB kSB kNB kXB rtB wB) (asked pairs : Nat → Int32) (many : Int32) : MO shA shB (m_X10_fitsAll asked pairs many NA SA LA SoA NaA WiA KiA kSA kNA kXA (nI rtA) NB SB LB SoB NaB WiB KiB FaB kSB kNB kDB kXB (nI rtB)) := by
  obtain ⟨a1, a2, a3, a4, a5, a6, a7, a8⟩ := id hA
  obtain ⟨b1, b2, b3, b4, b5, b6, b7, b8⟩ := id hB
  have e0 : vp_nar .boolean 0 = 0 := by decide +kernel
  have go : ∀ (fuel i : Nat), i ≤ 19600 → 19600 - i < fuel → m_X10_fitsAll_2 NA SA LA SoA NaA WiA KiA kSA kNA kXA (nI rtA) NB SB LB SoB NaB WiB KiB FaB kSB kNB kDB kXB (nI rtB) fuel (ov i (fun _ => 0) asked) pairs many (nI i) = m_X10_fitsAll_2 NA SA LA SoA NaA WiA KiA kSA kNA kXA (nI rtA) NB SB LB SoB NaB WiB KiB FaB kSB kNB kDB kXB (nI rtB) 1 (ov 19600 (fun _ => 0) asked) pairs many (nI 19600) := by
    intro fuel
    induction fuel with
    | zero => intro i _ hf; exact absurd hf (Nat.not_lt_zero _)
    | succ fuel ih =>
      intro i hi hf
      by_cases hc : 19600 ≤ i
      · have : i = 19600 := by omega
        subst this
        simp only [m_X10_fitsAll_2, if_pos (show (19600 : Int32) ≤ nI 19600 from nI_le (a := 19600) (by omega) (by omega))]
      · have h2 : upd (ov i (fun _ => (0 : Int32)) asked) i 0 = ov (i + 1) (fun _ => 0) asked := by
          rw [ov_push, upd_self (f := fun _ => (0 : Int32)) rfl]
        rw [← ih (i + 1) (by omega) (by omega)]
        rw [show m_X10_fitsAll_2 NA SA LA SoA NaA WiA KiA kSA kNA kXA (nI rtA) NB SB LB SoB NaB WiB KiB FaB kSB kNB kDB kXB (nI rtB) (fuel + 1) (ov i (fun _ => 0) asked) pairs many (nI i) = m_X10_fitsAll_2 NA SA LA SoA NaA WiA KiA kSA kNA kXA (nI rtA) NB SB LB SoB NaB WiB KiB FaB kSB kNB kDB kXB (nI rtB) fuel (upd (ov i (fun _ => 0) asked) i 0) pairs many (nI i + 1) by
          rw [m_X10_fitsAll_2]
          simp only [if_neg (show ¬ (19600 : Int32) ≤ nI i from nI_ge (b := 19600) (by omega) (by omega)), bd_go (show i < 19600 by omega) (by decide), bd_gc (show i < 19600 by omega) (by decide), nI_clamp (show i < 2 ^ 31 by omega), e0]]
        rw [h2, nI_1]
  have s1 := go sr_fuel 0 (by omega) (by unfold sr_fuel; omega)
  rw [ov_0, nI_0] at s1
  rw [m_X10_fitsAll, s1]
  have hI0 : askI (ov 19600 (fun _ => 0) asked) pairs 0 shA shB := ⟨(cntN_0 19600 (fun i hi => ov_lt hi)).symm, fun j hj => absurd hj (Nat.not_lt_zero _)⟩
  obtain ⟨asked', pairs', m', h1, h2, h3⟩ := ask_ok hI0 a4 b4 (a7.lt (Nat.le_refl _)) (b7.lt (Nat.le_refl _))
  rw [nI_0] at h1
  simp only [m_X10_fitsAll_2, if_pos (show (19600 : Int32) ≤ nI 19600 from nI_le (a := 19600) (by omega) (by omega)), h1, Option.bind_some]
  have := fa44 (LA := LA) (LB := LB) (FaB := FaB) (kDB := kDB) (ra := nI rtA) (rb := nI rtB) hA hB sr_fuel 0 1 asked' pairs' m' (Or.inr rfl) (by omega) (by unfold sr_fuel; omega) h2
  rw [nI_0] at this
  exact this
end ALLs
end
section
-- THE CLASS: its methods never say none; the tape, the strings, the members
def SP {α : Type} (x : Option α) (P : α → Prop) : Prop := ∃ r, x = some r ∧ P r
section SPs
variable {α β : Type} {P P' : α → Prop} {Q : β → Prop}
theorem SP.ok {r : α} (h : P r) : SP (some r) P := ⟨r, rfl, h⟩
theorem SP.bind {x : Option α} {f : α → Option β} (h : SP x P) (k : ∀ r, P r → SP (f r) Q) : SP (x.bind f) Q := by
  obtain ⟨r, rfl, h⟩ := h
  exact k r h
theorem SP.ite {c : Prop} {i : Decidable c} {x y : Option α} (ht : c → SP x P) (hf : ¬ c → SP y P) : SP (@ite _ c i x y) P := by
  by_cases h : c
  · rw [if_pos h]; exact ht h
  · rw [if_neg h]; exact hf h
theorem SP.mono {x : Option α} (h : SP x P) (k : ∀ r, P r → P' r) : SP x P' := by
  obtain ⟨r, h1, h2⟩ := h
  exact ⟨r, h1, k r h2⟩
theorem SP.any {x : Option α} (h : SP x P) : SP x (fun _ => True) := h.mono (fun _ _ => trivial)
end SPs
theorem fuel_s : ∃ f, sr_fuel = f + 1 ∧ 90000 < f := ⟨99999, rfl, by omega⟩
def b01 (r : Int32) : Prop := r = 0 ∨ r = 1
theorem ent_sp {row : Nat → Int32} {n : Nat} (hn : n < 2 ^ 31) (p : Int32) : SP (m_X8_entry row n p) (fun r => r = -1 ∨ ∃ i, i < n ∧ p = nI i ∧ r = row i) := by
  unfold m_X8_entry
  refine SP.ite (fun _ => SP.ok (Or.inl rfl)) (fun h0 => ?_)
  obtain ⟨i, hi, rfl⟩ := nI_of h0
  refine SP.ite (fun _ => SP.ok (Or.inl rfl)) (fun h1 => ?_)
  have hin : i < n := by
    apply Nat.lt_of_not_le
    intro q
    exact h1 (nI_le q hi)
  rw [bd_go hin hn, nI_clamp hi]
  exact SP.ok (Or.inr ⟨i, hin, rfl, rfl⟩)
theorem etr_sp {row : Nat → Int32} {n : Nat} {v : Int32} (hn : n < 2 ^ 31) (p : Int32) : SP (m_X8_enter row n p v) (fun r => r = row ∨ ∃ i, i < n ∧ p = nI i ∧ r = upd row i v) := by
  unfold m_X8_enter
  refine SP.ite (fun _ => SP.ok (Or.inl rfl)) (fun h0 => ?_)
  obtain ⟨i, hi, rfl⟩ := nI_of h0
  refine SP.ite (fun _ => SP.ok (Or.inl rfl)) (fun h1 => ?_)
  have hin : i < n := by
    apply Nat.lt_of_not_le
    intro q
    exact h1 (nI_le q hi)
  rw [bd_go hin hn, nI_clamp hi]
  exact SP.ok (Or.inr ⟨i, hin, rfl, rfl⟩)
theorem dig_sp (c : Int32) : SP (m_X8_isDigit c) b01 := by
  unfold m_X8_isDigit
  exact SP.ite (fun _ => SP.ok (Or.inl rfl)) (fun _ => SP.ite (fun _ => SP.ok (Or.inl rfl)) (fun _ => SP.ok (Or.inr rfl)))
theorem ltr_sp (c : Int32) : SP (m_X8_isLetter c) b01 := by
  unfold m_X8_isLetter
  repeat' (first | exact SP.ok (Or.inl rfl) | exact SP.ok (Or.inr rfl) | refine SP.ite (fun _ => ?_) (fun _ => ?_))
theorem plc_sp (c : Int32) : SP (m_X8_isPlace c) (fun r => r = 0 ∨ r = 1 ∧ ∃ i, i < 8 ∧ c = nI i) := by
  unfold m_X8_isPlace
  refine SP.ite (fun _ => SP.ok (Or.inl rfl)) (fun h0 => SP.ite (fun _ => SP.ok (Or.inl rfl)) (fun h1 => SP.ok (Or.inr ⟨rfl, ?_⟩)))
  obtain ⟨i, hi, rfl⟩ := nI_of h0
  refine ⟨i, ?_, rfl⟩
  apply Nat.lt_of_not_le
  intro q
  exact h1 (nI_le (a := 8) q hi)
/-- the amounts of a text's values -/
def AM (am : Nat → Int32) : Prop := ∀ i, i < 4096 → ∃ k, k ≤ 4096 ∧ am i = nI k
theorem AM.etr {am r : Nat → Int32} {k : Nat} {p : Int32} (h : AM am) (hk : k ≤ 4096) (hr : r = am ∨ ∃ i, i < 4096 ∧ p = nI i ∧ r = upd am i (nI k)) : AM r := by
  rcases hr with rfl | ⟨j, hj, -, rfl⟩
  · exact h
  · intro i hi
    by_cases e : i = j
    · subst e; exact ⟨k, hk, pk_us⟩
    · rw [pk_un e]; exact h i hi
theorem amt_sp {am : Nat → Int32} (h : AM am) (p : Int32) : SP (m_X8_entry am 4096 p) (fun r => r = -1 ∨ ∃ k, k ≤ 4096 ∧ r = nI k) := by
  refine (ent_sp (by decide) p).mono ?_
  rintro r (h1 | ⟨i, hi, -, rfl⟩)
  · exact Or.inl h1
  · exact Or.inr (h i hi)
theorem amo_sp {am : Nat → Int32} (h : AM am) (p : Int32) : SP (m_X7_amount am p) (fun r => r = -1 ∨ ∃ k, k ≤ 4096 ∧ r = nI k) := by
  unfold m_X7_amount
  exact SP.bind (amt_sp h p) (fun r hr => SP.ok hr)
theorem inn_sp {row : Nat → Int32} (p : Int32) : SP (m_X7_inner row p) (fun _ => True) := by
  unfold m_X7_inner
  exact SP.bind (ent_sp (by decide) p) (fun r _ => SP.ok trivial)
theorem nxt_sp {row : Nat → Int32} (p : Int32) : SP (m_X7_next row p) (fun _ => True) := by
  unfold m_X7_next
  exact SP.bind (ent_sp (by decide) p) (fun r _ => SP.ok trivial)
section CTX
variable {T Sd In Nx Am : Nat → Int32} {L : Nat}
theorem byt_sp (hL : L ≤ 4096) (p : Int32) : SP (m_X7_byteAt T (nI L) p) (fun r => r = -1 ∨ ∃ a, a < L ∧ p = nI a) := by
  unfold m_X7_byteAt
  refine SP.ite (fun _ => SP.ok (Or.inl rfl)) (fun h0 => ?_)
  obtain ⟨i, hi, rfl⟩ := nI_of h0
  refine SP.ite (fun _ => SP.ok (Or.inl rfl)) (fun h1 => ?_)
  have hin : i < L := by
    apply Nat.lt_of_not_le
    intro q
    exact h1 (nI_le q hi)
  rw [bd_go (show i < 4096 by omega) (by decide)]
  exact SP.ok (Or.inr ⟨i, hin, rfl⟩)
theorem byt_neg {p : Int32} (h : p < 0) : m_X7_byteAt T (nI L) p = some (-1) := by
  unfold m_X7_byteAt
  rw [if_pos h]
theorem iss_sp (hL : L ≤ 4096) (p : Int32) : SP (m_X7_isString T (nI L) p) (fun r => r = 0 ∨ r = 1 ∧ ∃ a, a < L ∧ p = nI a) := by
  unfold m_X7_isString
  refine SP.bind (byt_sp hL p) (fun r hr => SP.ite (fun e => SP.ok (Or.inr ⟨rfl, ?_⟩)) (fun _ => SP.ok (Or.inl rfl)))
  rcases hr with rfl | h
  · exact absurd e (by decide)
  · exact h
theorem isl_sp (hL : L ≤ 4096) (p : Int32) : SP (m_X7_isList T (nI L) p) b01 := by
  unfold m_X7_isList
  exact SP.bind (byt_sp hL p) (fun r hr => SP.ite (fun e => SP.ok (Or.inr rfl)) (fun _ => SP.ok (Or.inl rfl)))
theorem iso_sp (hL : L ≤ 4096) (p : Int32) : SP (m_X7_isObject T (nI L) p) b01 := by
  unfold m_X7_isObject
  exact SP.bind (byt_sp hL p) (fun r hr => SP.ite (fun e => SP.ok (Or.inr rfl)) (fun _ => SP.ok (Or.inl rfl)))
theorem isn_sp (hL : L ≤ 4096) (p : Int32) : SP (m_X7_isNumber T (nI L) p) (fun r => r = 0 ∨ r = 1 ∧ ∃ a, a < L ∧ p = nI a) := by
  unfold m_X7_isNumber
  refine SP.bind (byt_sp hL p) (fun r hr => SP.ite (fun e => SP.ok (Or.inr ⟨rfl, ?_⟩)) (fun _ => ?_))
  · rcases hr with rfl | h
    · exact absurd e (by decide)
    · exact h
  · rcases hr with rfl | h
    · have : m_X8_isDigit (-1) = some 0 := by decide +kernel
      rw [this]
      exact SP.ok (Or.inl rfl)
    · exact SP.bind (dig_sp r) (fun z hz => SP.ite (fun _ => SP.ok (Or.inl rfl)) (fun _ => SP.ok (Or.inr ⟨rfl, h⟩)))
theorem sai_sp (p : Int32) : SP (m_X7_saidAt Sd p) (fun _ => True) := by
  unfold m_X7_saidAt
  refine SP.ite (fun _ => SP.ok trivial) (fun h0 => ?_)
  obtain ⟨i, hi, rfl⟩ := nI_of h0
  refine SP.ite (fun _ => SP.ok trivial) (fun h1 => ?_)
  have hin : i < 4096 := by
    apply Nat.lt_of_not_le
    intro q
    exact h1 (nI_le (a := 4096) q hi)
  rw [bd_go hin (by decide)]
  exact SP.ok trivial
theorem says_sp (hL : L ≤ 4096) {w : Nat} (hw : w < 75) (p : Int32) : SP (m_X7_says T Sd Am (nI L) p w) b01 := by
  have hlw := len_lt w hw
  have hS : ¬ nS ≤ w := by unfold nS; omega
  have go : ∀ (fuel j : Nat), j ≤ lenS.getD w 0 → lenS.getD w 0 - j < fuel → SP (m_X7_says_29 T Sd Am (nI L) fuel p w (nI j)) b01 := by
    intro fuel
    induction fuel with
    | zero => intro j _ hf; exact absurd hf (Nat.not_lt_zero _)
    | succ fuel ih =>
      intro j hj hf
      simp only [m_X7_says_29, if_neg hS, len_eq w hw, Option.bind_some]
      refine SP.ite (fun _ => SP.ok (Or.inr rfl)) (fun hc => ?_)
      have hlt : j < lenS.getD w 0 := by
        apply Nat.lt_of_not_le
        intro q
        exact hc (nI_le q (by omega))
      refine SP.bind (sai_sp _) (fun r _ => ?_)
      simp only [chr_eq w hw j hlt, Option.bind_some, nI_1]
      exact SP.ite (fun _ => ih (j + 1) (by omega) (by omega)) (fun _ => SP.ok (Or.inl rfl))
  unfold m_X7_says
  refine SP.bind (byt_sp hL p) (fun r hr => SP.ite (fun _ => ?_) (fun _ => SP.ok (Or.inl rfl)))
  refine SP.bind (ent_sp (by decide) p) (fun r3 _ => ?_)
  simp only [if_neg hS, len_eq w hw, Option.bind_some]
  refine SP.ite (fun _ => ?_) (fun _ => SP.ok (Or.inl rfl))
  have := go sr_fuel 0 (by omega) (by unfold sr_fuel; omega)
  rw [nI_0] at this
  exact this
/-- a loop up to a number that may be -1 -/
theorem up_to {α : Type} {P : α → Prop} {x : Int32} (hx : x = -1 ∨ ∃ k, k ≤ 4096 ∧ x = nI k) {f : Nat → Nat → Option α} (hneg : x = -1 → SP (f sr_fuel 0) P) (hpos : ∀ k, k ≤ 4096 → x = nI k → ∀ (fuel j : Nat), j ≤ k → k - j < fuel → SP (f fuel j) P) : SP (f sr_fuel 0) P := by
  rcases hx with h | ⟨k, hk, h⟩
  · exact hneg h
  · exact hpos k hk h sr_fuel 0 (Nat.zero_le _) (by unfold sr_fuel; omega)
theorem sasa_sp (hA : AM Am) (p q : Int32) : SP (m_X7_saysSame Sd Am p q) b01 := by
  unfold m_X7_saysSame
  refine SP.bind (amt_sp hA p) (fun r hr => SP.bind (amt_sp hA q) (fun r2 _ => SP.ite (fun _ => ?_) (fun _ => SP.ok (Or.inl rfl))))
  have key : SP ((fun fuel j => m_X7_saysSame_26 Sd Am fuel p q r (nI j)) sr_fuel 0) b01 := by
    refine up_to (f := fun fuel j => m_X7_saysSame_26 Sd Am fuel p q r (nI j)) hr (fun e => ?_) (fun k hk e => ?_)
    · subst e
      obtain ⟨fu, hfu, hfb⟩ := fuel_s
      show SP (m_X7_saysSame_26 Sd Am sr_fuel p q (-1) (nI 0)) b01
      rw [hfu]
      simp only [m_X7_saysSame_26, if_pos (show (-1 : Int32) ≤ nI 0 by decide)]
      exact SP.ok (Or.inr rfl)
    · subst e
      intro fuel
      induction fuel with
      | zero => intro j _ hf; exact absurd hf (Nat.not_lt_zero _)
      | succ fuel ih =>
        intro j hj hf
        show SP (m_X7_saysSame_26 Sd Am (fuel + 1) p q (nI k) (nI j)) b01
        simp only [m_X7_saysSame_26, nI_1]
        refine SP.ite (fun _ => SP.ok (Or.inr rfl)) (fun hc => SP.bind (sai_sp _) (fun _ _ => SP.bind (sai_sp _) (fun _ _ => SP.ite (fun _ => ih (j + 1) ?_ ?_) (fun _ => SP.ok (Or.inl rfl)))))
        · have : j < k := Nat.lt_of_not_le (fun q => hc (nI_le q (by omega)))
          omega
        · have : j < k := Nat.lt_of_not_le (fun q => hc (nI_le q (by omega)))
          omega
  simp only [nI_0] at key
  exact key
theorem hash_sp (hA : AM Am) (p : Int32) : SP (m_X7_hash Sd Am p) (fun _ => True) := by
  unfold m_X7_hash
  refine SP.bind (amt_sp hA p) (fun r hr => ?_)
  have key : ∀ x3 : Int32, SP ((fun fuel j => m_X7_hash_14 Sd Am fuel p r x3 (nI j)) sr_fuel 0) (fun _ => True) := by
    rcases hr with e | ⟨k, hk, e⟩
    · intro x3
      subst e
      obtain ⟨fu, hfu, hfb⟩ := fuel_s
      show SP (m_X7_hash_14 Sd Am sr_fuel p (-1) x3 (nI 0)) _
      rw [hfu]
      simp only [m_X7_hash_14, if_pos (show (-1 : Int32) ≤ nI 0 by decide)]
      exact SP.ok trivial
    · subst e
      have go : ∀ (fuel j : Nat) (x3 : Int32), j ≤ k → k - j < fuel → SP (m_X7_hash_14 Sd Am fuel p (nI k) x3 (nI j)) (fun _ => True) := by
        intro fuel
        induction fuel with
        | zero => intro j x3 _ hf; exact absurd hf (Nat.not_lt_zero _)
        | succ fuel ih =>
          intro j x3 hj hf
          simp only [m_X7_hash_14, nI_1]
          refine SP.ite (fun _ => SP.ok trivial) (fun hc => SP.bind (sai_sp _) (fun _ _ => ih (j + 1) _ ?_ ?_))
          · have : j < k := Nat.lt_of_not_le (fun q => hc (nI_le q (by omega)))
            omega
          · have : j < k := Nat.lt_of_not_le (fun q => hc (nI_le q (by omega)))
            omega
      exact fun x3 => go sr_fuel 0 x3 (Nat.zero_le _) (by unfold sr_fuel; omega)
  have := key r
  simp only [nI_0] at this
  exact this
theorem sanm_sp (hL : L ≤ 4096) (hA : AM Am) (p : Int32) : SP (m_X7_saysName T Sd Am (nI L) p) b01 := by
  unfold m_X7_saysName
  refine SP.bind (amo_sp hA p) (fun r hr => SP.bind (iss_sp hL p) (fun _ _ => SP.ite (fun _ => SP.ok (Or.inl rfl)) (fun _ => SP.ite (fun _ => SP.ok (Or.inl rfl)) (fun h1 => SP.ite (fun _ => SP.ok (Or.inl rfl)) (fun _ => SP.bind (sai_sp _) (fun _ _ => SP.bind (dig_sp _) (fun _ _ => SP.ite (fun _ => ?_) (fun _ => SP.ok (Or.inl rfl)))))))))
  rcases hr with e | ⟨k, hk, e⟩
  · subst e; exact absurd (by decide) h1
  · subst e
    have go : ∀ (fuel j : Nat), j ≤ k → k - j < fuel → SP (m_X7_saysName_40 T Sd Am (nI L) fuel p (nI k) (nI j)) b01 := by
      intro fuel
      induction fuel with
      | zero => intro j _ hf; exact absurd hf (Nat.not_lt_zero _)
      | succ fuel ih =>
        intro j hj hf
        simp only [m_X7_saysName_40, nI_1]
        refine SP.ite (fun _ => SP.ok (Or.inr rfl)) (fun hc => ?_)
        have : j < k := Nat.lt_of_not_le (fun q => hc (nI_le q (by omega)))
        have ih1 := ih (j + 1) (by omega) (by omega)
        exact SP.bind (sai_sp _) (fun _ _ => SP.bind (ltr_sp _) (fun _ _ => SP.ite (fun _ => SP.bind (dig_sp _) (fun _ _ => SP.ite (fun _ => SP.ite (fun _ => ih1) (fun _ => SP.ok (Or.inl rfl))) (fun _ => ih1))) (fun _ => ih1)))
    have := go sr_fuel 0 (Nat.zero_le _) (by unfold sr_fuel; omega)
    rw [nI_0] at this
    exact this
theorem mbr_sp (hL : L ≤ 4096) (hA : AM Am) {w : Nat} (hw : w < 75) (p : Int32) : SP (m_X7_member T Sd In Nx Am (nI L) p w) (fun _ => True) := by
  have go : ∀ (fuel j : Nat) (x3 : Int32), j ≤ 4097 → 4097 - j < fuel → SP (m_X7_member_9 T Sd In Nx Am (nI L) fuel p w x3 (nI j)) (fun _ => True) := by
    intro fuel
    induction fuel with
    | zero => intro j x3 _ hf; exact absurd hf (Nat.not_lt_zero _)
    | succ fuel ih =>
      intro j x3 hj hf
      simp only [m_X7_member_9, nI_1]
      refine SP.bind (amo_sp hA p) (fun r hr => SP.ite (fun _ => SP.ok trivial) (fun hc => ?_))
      have hlt : j < 4096 := by
        rcases hr with e | ⟨k, hk, e⟩
        · subst e
          exact absurd (Int32.le_trans (by decide) (nI_pos' (show j < 2 ^ 31 by omega))) hc
        · subst e
          have : j < k := Nat.lt_of_not_le (fun q => hc (nI_le q (by omega)))
          omega
      exact SP.bind (says_sp hL hw _) (fun _ _ => SP.ite (fun _ => SP.bind (nxt_sp _) (fun _ _ => ih (j + 1) _ (by omega) (by omega))) (fun _ => SP.bind (inn_sp _) (fun _ _ => SP.ok trivial)))
  unfold m_X7_member
  refine SP.bind (inn_sp _) (fun r _ => ?_)
  have := go sr_fuel 0 r (Nat.zero_le _) (by unfold sr_fuel; omega)
  rw [nI_0] at this
  exact this
theorem numat_sp (hL : L ≤ 4096) (p : Int32) : SP (m_X7_numberAt T (nI L) p) (fun _ => True) := by
  have go : ∀ (fuel b : Nat) (x2 : Int32) (x3 : Int64), b ≤ L → L - b < fuel → SP (m_X7_numberAt_31 T (nI L) fuel x2 x3 (nI b)) (fun _ => True) := by
    intro fuel
    induction fuel with
    | zero => intro b x2 x3 _ hf; exact absurd hf (Nat.not_lt_zero _)
    | succ fuel ih =>
      intro b x2 x3 hb hf
      simp only [m_X7_numberAt_31, nI_1]
      refine SP.ite (fun _ => SP.ite (fun _ => SP.ok trivial) (fun _ => SP.ok trivial)) (fun hc => ?_)
      have : b < L := Nat.lt_of_not_le (fun q => hc (nI_le q (by omega)))
      exact SP.bind (byt_sp hL _) (fun _ _ => SP.bind (dig_sp _) (fun _ _ => SP.ite (fun _ => SP.ite (fun _ => SP.ok trivial) (fun _ => SP.ok trivial)) (fun _ => SP.bind (byt_sp hL _) (fun _ _ => ih (b + 1) _ _ (by omega) (by omega)))))
  have all : ∀ (x2 : Int32) (x3 : Int64) (q : Int32), SP (m_X7_numberAt_31 T (nI L) sr_fuel x2 x3 q) (fun _ => True) := by
    intro x2 x3 q
    by_cases h0 : q < 0
    · obtain ⟨fu, hfu, hfb⟩ := fuel_s
      show SP (m_X7_numberAt_31 T (nI L) sr_fuel x2 x3 q) _
      rw [hfu]
      have hd : m_X8_isDigit (-1) = some 0 := by decide +kernel
      simp only [m_X7_numberAt_31, byt_neg h0, Option.bind_some, hd, if_true]
      exact SP.ite (fun _ => SP.ite (fun _ => SP.ok trivial) (fun _ => SP.ok trivial)) (fun _ => SP.ite (fun _ => SP.ok trivial) (fun _ => SP.ok trivial))
    · obtain ⟨i, hi, rfl⟩ := nI_of h0
      by_cases h1 : L ≤ i
      · obtain ⟨fu, hfu, hfb⟩ := fuel_s
        show SP (m_X7_numberAt_31 T (nI L) sr_fuel x2 x3 (nI i)) _
        rw [hfu]
        simp only [m_X7_numberAt_31, if_pos (nI_le h1 hi)]
        exact SP.ite (fun _ => SP.ok trivial) (fun _ => SP.ok trivial)
      · exact go sr_fuel i x2 x3 (by omega) (by unfold sr_fuel; omega)
  unfold m_X7_numberAt m_X7_numberAt_15
  exact SP.bind (byt_sp hL p) (fun _ _ => SP.ite (fun _ => SP.ite (fun _ => all _ _ _) (fun _ => all _ _ _)) (fun _ => SP.ite (fun _ => all _ _ _) (fun _ => all _ _ _)))
theorem bbl_sp (hL : L ≤ 4096) (p : Int32) : SP (m_X7_behindBlanks T (nI L) p) (fun _ => True) := by
  have blk : ∀ c, SP (m_X7_isBlank c) b01 := fun c => by
    unfold m_X7_isBlank
    repeat' (first | exact SP.ok (Or.inl rfl) | exact SP.ok (Or.inr rfl) | refine SP.ite (fun _ => ?_) (fun _ => ?_))
  have go : ∀ (fuel b : Nat), b ≤ L → L - b < fuel → SP (m_X7_behindBlanks_2 T (nI L) fuel (nI b)) (fun _ => True) := by
    intro fuel
    induction fuel with
    | zero => intro b _ hf; exact absurd hf (Nat.not_lt_zero _)
    | succ fuel ih =>
      intro b hb hf
      simp only [m_X7_behindBlanks_2, nI_1]
      refine SP.ite (fun _ => SP.ok trivial) (fun hc => ?_)
      have : b < L := Nat.lt_of_not_le (fun q => hc (nI_le q (by omega)))
      exact SP.bind (byt_sp hL _) (fun _ _ => SP.bind (blk _) (fun _ _ => SP.ite (fun _ => SP.ok trivial) (fun _ => ih (b + 1) (by omega) (by omega))))
  unfold m_X7_behindBlanks
  by_cases h0 : p < 0
  · obtain ⟨fu, hfu, hfb⟩ := fuel_s
    show SP (m_X7_behindBlanks_2 T (nI L) sr_fuel p) _
    rw [hfu]
    have hd : m_X7_isBlank (-1) = some 0 := by decide +kernel
    simp only [m_X7_behindBlanks_2, byt_neg h0, Option.bind_some, hd, if_true]
    exact SP.ite (fun _ => SP.ok trivial) (fun _ => SP.ok trivial)
  · obtain ⟨i, hi, rfl⟩ := nI_of h0
    by_cases h1 : L ≤ i
    · obtain ⟨fu, hfu, hfb⟩ := fuel_s
      show SP (m_X7_behindBlanks_2 T (nI L) sr_fuel (nI i)) _
      rw [hfu]
      simp only [m_X7_behindBlanks_2, if_pos (nI_le h1 hi)]
      exact SP.ok trivial
    · exact go sr_fuel i (by omega) (by unfold sr_fuel; omega)
end CTX
end
section
-- the class's reading of a text
def KC (c : Int32) : Prop := ∃ k, k ≤ 1024 ∧ c = nI k
abbrev TK : Type := (Nat → Int32) × (Nat → Int32) × (Nat → Int32) × (Nat → Int32) × Int32
theorem kclr_sp {kh : Nat → Int32} {kc : Int32} : SP (m_X2_clear kh kc) (fun r => r.2 = 0) := by
  have go : ∀ (fuel j : Nat) (row : Nat → Int32), j ≤ 256 → 256 - j < fuel → SP (m_X24_fill_5 256 fuel row (-1) (nI j) (nI 256)) (fun _ => True) := by
    intro fuel
    induction fuel with
    | zero => intro j row _ hf; exact absurd hf (Nat.not_lt_zero _)
    | succ fuel ih =>
      intro j row hj hf
      simp only [m_X24_fill_5, nI_1]
      refine SP.ite (fun _ => SP.ok trivial) (fun hc => ?_)
      have : j < 256 := Nat.lt_of_not_le (fun q => hc (nI_le q (by omega)))
      rw [bd_go this (by decide)]
      exact ih (j + 1) _ (by omega) (by omega)
  unfold m_X2_clear m_X24_fill
  have := go sr_fuel 0 kh (Nat.zero_le _) (by unfold sr_fuel; omega)
  rw [nI_0] at this
  exact SP.bind this (fun _ _ => SP.ok rfl)
section CRD
variable {T Sd In Nx Am : Nat → Int32} {L : Nat}
theorem kadd_sp (hA : AM Am) {kh kp ko kn : Nat → Int32} {kc : Int32} (hk : KC kc) (a1 a2 : Int32) : SP (m_X2_add kh kp ko kn kc Sd Am a1 a2) (fun r => KC r.2.2.2.2.2) := by
  obtain ⟨c, hc, rfl⟩ := hk
  have h90 : ∀ (kh kp ko kn : Nat → Int32) (x2 x3 : Int32) (j : Nat), j < 256 → SP (m_X2_add_90 Sd Am kh kp ko kn (nI c) x2 x3 (nI j)) (fun r => KC r.2.2.2.2.2) := by
    intro kh kp ko kn x2 x3 j hj
    unfold m_X2_add_90
    refine SP.ite (fun _ => SP.ok ⟨c, hc, rfl⟩) (fun h => ?_)
    have : c < 1024 := Nat.lt_of_not_le (fun q => h (nI_le (a := 1024) q (by omega)))
    simp only [bd_go (show c < 1024 by omega) (by decide), bd_gc (show c < 1024 by omega) (by decide), nI_clamp (show c < 2 ^ 31 by omega), bd_go (show j < 256 by omega) (by decide), bd_gc (show j < 256 by omega) (by decide), nI_clamp (show j < 2 ^ 31 by omega), nI_1]
    exact SP.ok ⟨c + 1, by omega, rfl⟩
  have go : ∀ (fuel i : Nat) (x2 x3 x5 : Int32) (j : Nat), j < 256 → i ≤ c → c - i < fuel → SP (m_X2_add_25 Sd Am fuel kh kp ko kn (nI c) x2 x3 (nI j) x5 (nI i)) (fun r => KC r.2.2.2.2.2) := by
    intro fuel
    induction fuel with
    | zero => intro i x2 x3 x5 j _ _ hf; exact absurd hf (Nat.not_lt_zero _)
    | succ fuel ih =>
      intro i x2 x3 x5 j hj hi hf
      simp only [m_X2_add_25]
      refine SP.ite (fun _ => h90 _ _ _ _ _ _ j hj) (fun hcc => SP.ite (fun _ => h90 _ _ _ _ _ _ j hj) (fun h0 => SP.ite (fun _ => h90 _ _ _ _ _ _ j hj) (fun h1 => ?_)))
      have hic : i < c := Nat.lt_of_not_le (fun q => hcc (nI_le q (by omega)))
      obtain ⟨k, hk, rfl⟩ := nI_of h0
      have hk2 : k < 1024 := Nat.lt_of_not_le (fun q => h1 (nI_le (a := 1024) q hk))
      simp only [bd_go (show k < 1024 by omega) (by decide), bd_gc (show k < 1024 by omega) (by decide), nI_clamp (show k < 2 ^ 31 by omega), m_X2_add_75, nI_1]
      have ih1 := fun x5 => ih (i + 1) x2 x3 x5 j hj (by omega) (by omega)
      exact SP.ite (fun _ => SP.bind (sasa_sp hA _ _) (fun _ _ => SP.ite (fun _ => ih1 _) (fun _ => SP.ok ⟨c, hc, rfl⟩))) (fun _ => ih1 _)
  unfold m_X2_add
  refine SP.bind (hash_sp hA _) (fun r _ => ?_)
  obtain ⟨j, hj, e⟩ := pk_andE (r + a1) (m := 255) 8 (by decide)
  have hj : j < 256 := hj
  rw [e, bd_go hj (by decide)]
  have := go sr_fuel 0 a1 a2 (kh (nI j).toNatClampNeg) j hj (Nat.zero_le _) (by unfold sr_fuel; omega)
  rw [nI_0] at this
  exact this
theorem join_sp (a0 a1 a2 : Int32) : SP (m_X7_join In Nx a0 a1 a2) (fun _ => True) := by
  unfold m_X7_join m_X7_join_26
  exact SP.ite (fun _ => SP.bind (etr_sp (by decide) _) (fun _ _ => SP.bind (etr_sp (by decide) _) (fun _ _ => SP.ok trivial))) (fun _ => SP.bind (etr_sp (by decide) _) (fun _ _ => SP.bind (etr_sp (by decide) _) (fun _ _ => SP.ok trivial)))
theorem say_sp (p b : Int32) : SP (m_X7_say Sd p b) (fun _ => True) := by
  unfold m_X7_say
  refine SP.ite (fun _ => SP.ok trivial) (fun h0 => ?_)
  obtain ⟨i, hi, rfl⟩ := nI_of h0
  refine SP.ite (fun _ => SP.ok trivial) (fun h1 => ?_)
  have hin : i < 4096 := Nat.lt_of_not_le (fun q => h1 (nI_le (a := 4096) q hi))
  rw [bd_go hin (by decide)]
  exact SP.ok trivial
theorem hexd_sp (c : Int32) : SP (m_X7_hexDigit c) (fun _ => True) := by
  unfold m_X7_hexDigit m_X7_hexDigit_17 m_X7_hexDigit_37
  repeat' (first | exact SP.ok trivial | refine SP.ite (fun _ => ?_) (fun _ => ?_))
theorem resc_sp (hL : L ≤ 4096) (wp : Int32) {a : Nat} (ha : a < L) : SP (m_X7_readEscape T (nI L) wp (nI a)) (fun _ => True) := by
  have go : ∀ (fuel j : Nat) (wp x3 : Int32), j ≤ a + 6 → a + 6 - j < fuel → SP (m_X7_readEscape_127 T (nI L) fuel wp (nI a) x3 (nI j)) (fun _ => True) := by
    intro fuel
    induction fuel with
    | zero => intro j wp x3 _ hf; exact absurd hf (Nat.not_lt_zero _)
    | succ fuel ih =>
      intro j wp x3 hj hf
      have e6 : nI a + 6 = nI (a + 6) := nI_add a 6
      simp only [m_X7_readEscape_127, m_X7_refuse, Option.bind_some, nI_1, e6]
      refine SP.ite (fun _ => SP.ite (fun _ => SP.ok trivial) (fun _ => SP.ok trivial)) (fun hc => ?_)
      have : j < a + 6 := Nat.lt_of_not_le (fun q => hc (nI_le q (by omega)))
      exact SP.bind (byt_sp hL _) (fun _ _ => SP.bind (hexd_sp _) (fun _ _ => SP.ite (fun _ => SP.ok trivial) (fun _ => ih (j + 1) _ _ (by omega) (by omega))))
  have e2 : nI a + 2 = nI (a + 2) := nI_add a 2
  unfold m_X7_readEscape
  simp only [m_X7_refuse, Option.bind_some, e2]
  refine SP.bind (byt_sp hL _) (fun _ _ => ?_)
  repeat' (first | exact SP.ok trivial | exact go sr_fuel (a + 2) _ _ (by omega) (by unfold sr_fuel; omega) | refine SP.ite (fun _ => ?_) (fun _ => ?_))
theorem iwl_sp (hL : L ≤ 4096) {f b : Nat} (hb : b ≤ 5000) (hfb : f ≤ b) (x : Int32) : SP (m_X7_isWithinLong T (nI L) (nI f) (nI b) x) b01 := by
  have go : ∀ (fuel q : Nat) (x4 : Int32) (x5 : Int64), q ≤ b → b - q < fuel → SP (m_X7_isWithinLong_19 T (nI L) fuel (nI b) x4 x5 (nI q)) b01 := by
    intro fuel
    induction fuel with
    | zero => intro q x4 x5 _ hf; exact absurd hf (Nat.not_lt_zero _)
    | succ fuel ih =>
      intro q x4 x5 hq hf
      simp only [m_X7_isWithinLong_19, m_X7_isWithinLong_63, nI_1]
      refine SP.ite (fun _ => SP.ok (Or.inr rfl)) (fun hc => ?_)
      have : q < b := Nat.lt_of_not_le (fun z => hc (nI_le z (by omega)))
      have ih1 := fun x5 => ih (q + 1) x4 x5 (by omega) (by omega)
      exact SP.bind (byt_sp hL _) (fun _ _ => SP.ite (fun _ => SP.ok (Or.inl rfl)) (fun _ => SP.ite (fun _ => SP.ite (fun _ => ih1 _) (fun _ => SP.ok (Or.inl rfl))) (fun _ => ih1 _)))
  unfold m_X7_isWithinLong m_X7_isWithinLong_11
  exact SP.ite (fun _ => go sr_fuel f _ _ hfb (by unfold sr_fuel; omega)) (fun _ => go sr_fuel f _ _ hfb (by unfold sr_fuel; omega))
theorem rnum_sp (hL : L ≤ 4096) (wp : Int32) {a : Nat} (ha : a < L) : SP (m_X7_readNumber T (nI L) wp (nI a)) (fun _ => True) := by
  have h87 : ∀ (wp x1 x2 : Int32) (f b : Nat), f ≤ b → b ≤ 5000 → SP (m_X7_readNumber_87 T (nI L) wp x1 x2 (nI f) (nI b)) (fun _ => True) := by
    intro wp x1 x2 f b h1 h2
    unfold m_X7_readNumber_87
    simp only [m_X7_refuse, Option.bind_some]
    exact SP.bind (iwl_sp hL h2 h1 _) (fun _ _ => SP.ite (fun _ => SP.ok trivial) (fun _ => SP.ok trivial))
  have go : ∀ (fuel b : Nat) (wp x1 x2 : Int32) (f : Nat), f ≤ b → b ≤ L + 1 → L + 1 - b < fuel → SP (m_X7_readNumber_60 T (nI L) fuel wp x1 x2 (nI f) (nI b)) (fun _ => True) := by
    intro fuel
    induction fuel with
    | zero => intro b wp x1 x2 f _ _ hf; exact absurd hf (Nat.not_lt_zero _)
    | succ fuel ih =>
      intro b wp x1 x2 f h1 h2 hf
      simp only [m_X7_readNumber_60, nI_1]
      refine SP.ite (fun _ => h87 _ _ _ _ _ h1 (by omega)) (fun hc => ?_)
      have : b < L := Nat.lt_of_not_le (fun z => hc (nI_le z (by omega)))
      exact SP.bind (byt_sp hL _) (fun _ _ => SP.bind (dig_sp _) (fun _ _ => SP.ite (fun _ => h87 _ _ _ _ _ h1 (by omega)) (fun _ => ih (b + 1) _ _ _ _ (by omega) (by omega) (by omega))))
  have h27 : ∀ (x1 x2 : Int32) (f : Nat), f ≤ L → SP (m_X7_readNumber_27 T (nI L) wp x1 x2 (nI f)) (fun _ => True) := by
    intro x1 x2 f hf
    unfold m_X7_readNumber_27
    simp only [m_X7_refuse, Option.bind_some, nI_1]
    exact SP.bind (byt_sp hL _) (fun _ _ => SP.bind (dig_sp _) (fun _ _ => SP.ite (fun _ => SP.ok trivial) (fun _ => SP.bind (byt_sp hL _) (fun _ _ => SP.ite (fun _ => h87 _ _ _ _ _ (by omega) (by omega)) (fun _ => go sr_fuel (f + 1) _ _ _ _ (by omega) (by omega) (by unfold sr_fuel; omega))))))
  unfold m_X7_readNumber m_X7_readNumber_15
  simp only [nI_1]
  exact SP.bind (byt_sp hL _) (fun _ _ => SP.ite (fun _ => SP.ite (fun _ => h27 _ _ a (by omega)) (fun _ => h27 _ _ (a + 1) (by omega))) (fun _ => SP.ite (fun _ => h27 _ _ a (by omega)) (fun _ => h27 _ _ (a + 1) (by omega))))
theorem rwrd_sp (hL : L ≤ 4096) {w : Nat} (hw : w < 75) (wp p : Int32) : SP (m_X7_readWord T (nI L) wp p w) (fun _ => True) := by
  have hlw := len_lt w hw
  have hS : ¬ nS ≤ w := by unfold nS; omega
  have go : ∀ (fuel j : Nat) (wp : Int32), j ≤ lenS.getD w 0 → lenS.getD w 0 - j < fuel → SP (m_X7_readWord_2 T (nI L) fuel wp p w (nI j)) (fun _ => True) := by
    intro fuel
    induction fuel with
    | zero => intro j wp _ hf; exact absurd hf (Nat.not_lt_zero _)
    | succ fuel ih =>
      intro j wp hj hf
      simp only [m_X7_readWord_2, if_neg hS, len_eq w hw, Option.bind_some, m_X7_refuse]
      refine SP.ite (fun _ => SP.ok trivial) (fun hc => ?_)
      have hlt : j < lenS.getD w 0 := Nat.lt_of_not_le (fun q => hc (nI_le q (by omega)))
      refine SP.bind (byt_sp hL _) (fun r _ => ?_)
      simp only [chr_eq w hw j hlt, Option.bind_some, nI_1]
      exact SP.ite (fun _ => ih (j + 1) _ (by omega) (by omega)) (fun _ => SP.ok trivial)
  unfold m_X7_readWord
  have := go sr_fuel 0 wp (by omega) (by unfold sr_fuel; omega)
  rw [nI_0] at this
  exact this
theorem rstr_sp (hL : L ≤ 4096) (hA : AM Am) (wp : Int32) {a : Nat} (ha : a < L) : SP (m_X7_readString T Sd Am (nI L) wp (nI a)) (fun r => AM r.2.2.1) := by
  have go : ∀ (fuel k q : Nat) (Sd : Nat → Int32) (wp : Int32), k ≤ q → q ≤ L + 10 → L + 10 - q < fuel → SP (m_X7_readString_6 T (nI L) fuel Sd Am wp (nI a) (nI k) (nI q)) (fun r => AM r.2.2.1) := by
    intro fuel
    induction fuel with
    | zero => intro k q Sd wp _ _ hf; exact absurd hf (Nat.not_lt_zero _)
    | succ fuel ih =>
      intro k q Sd wp hkq hq hf
      have e5 : nI q + 5 = nI (q + 5) := nI_add q 5
      have e1 : nI q + 1 = nI (q + 1) := nI_add q 1
      simp only [m_X7_readString_6, m_X7_refuse, Option.bind_some, m_X7_readString_55, m_X7_readString_101, m_X7_readString_103, e5, nI_1]
      refine SP.ite (fun _ => SP.ok hA) (fun hc => ?_)
      have hlt : q < L := Nat.lt_of_not_le (fun z => hc (nI_le z (by omega)))
      refine SP.bind (byt_sp hL _) (fun r3 _ => SP.ite (fun _ => ?_) (fun _ => SP.ite (fun _ => SP.ok hA) (fun _ => SP.ite (fun _ => SP.ite (fun _ => ?_) (fun _ => ?_)) (fun _ => SP.ok hA))))
      · exact SP.bind (etr_sp (by decide) _) (fun r hr => SP.ok (AM.etr hA (show k ≤ 4096 by omega) hr))
      · refine SP.bind (resc_sp hL _ hlt) (fun r10 _ => SP.ite (fun _ => SP.ok hA) (fun _ => SP.bind (byt_sp hL _) (fun r12 _ => SP.ite (fun _ => ?_) (fun _ => ?_))))
        · exact SP.bind (say_sp _ _) (fun Sd' _ => ih (k + 1) (q + 5 + 1) Sd' _ (by omega) (by omega) (by omega))
        · exact SP.bind (say_sp _ _) (fun Sd' _ => ih (k + 1) (q + 1 + 1) Sd' _ (by omega) (by omega) (by omega))
      · exact SP.bind (say_sp _ _) (fun Sd' _ => ih (k + 1) (q + 1) Sd' _ (by omega) (by omega) (by omega))
  unfold m_X7_readString
  have := go sr_fuel 0 (a + 1) Sd wp (Nat.zero_le _) (by omega) (by unfold sr_fuel; omega)
  rw [nI_0] at this
  simp only [nI_1]
  exact this
theorem rkey_sp (hL : L ≤ 4096) (hA : AM Am) {kh kp ko kn : Nat → Int32} {kc : Int32} (hk : KC kc) (wp a0 a1 : Int32) : SP (m_X7_readKey T Sd In Am (nI L) wp kh kp ko kn kc a0 a1) (fun r => AM r.2.2.2.1 ∧ KC r.2.2.2.2.2.2.2.2.2) := by
  unfold m_X7_readKey
  simp only [m_X7_refuse, Option.bind_some]
  refine SP.bind (iss_sp hL a1) (fun r hr => SP.ite (fun _ => SP.ok ⟨hA, hk⟩) (fun h1 => ?_))
  obtain ⟨a, ha, rfl⟩ : ∃ a, a < L ∧ a1 = nI a := by
    rcases hr with e | ⟨-, h⟩
    · exact absurd e h1
    · exact h
  refine SP.bind (rstr_sp hL hA wp ha) (fun r3 h3 => SP.ite (fun _ => SP.ok ⟨h3, hk⟩) (fun _ => SP.bind (kadd_sp h3 hk _ _) (fun r5 h5 => SP.ite (fun _ => SP.ok ⟨h3, h5⟩) (fun _ => SP.bind (bbl_sp hL _) (fun _ _ => SP.bind (byt_sp hL _) (fun _ _ => SP.ite (fun _ => ?_) (fun _ => SP.ok ⟨h3, h5⟩)))))))
  exact SP.bind (bbl_sp hL _) (fun _ _ => SP.bind (etr_sp (by decide) _) (fun _ _ => SP.ok ⟨h3, h5⟩))
abbrev TP : Type := (Nat → Int32) × (Nat → Int32) × (Nat → Int32) × (Nat → Int32) × Int32 × (Nat → Int32) × (Nat → Int32) × (Nat → Int32) × (Nat → Int32) × Int32
abbrev FP : Type := (Nat → Int32) → (Nat → Int32) → (Nat → Int32) → (Nat → Int32) → (Nat → Int32) → Int32 → Int32 → (Nat → Int32) → (Nat → Int32) → (Nat → Int32) → (Nat → Int32) → Int32 → Int32 → Int32 → Option (Int32 × TP)
def psP (r : Int32 × TP) : Prop := AM r.2.2.2.2.1 ∧ KC r.2.2.2.2.2.2.2.2.2.2
def okP (T : Nat → Int32) (L : Nat) (fv : FP) (d : Nat) : Prop := ∀ (Sd In Nx Am : Nat → Int32) (wp : Int32) (kh kp ko kn : Nat → Int32) (kc p : Int32), AM Am → KC kc → SP (fv T Sd In Nx Am (nI L) wp kh kp ko kn kc p (nI d)) psP
theorem rgrp_sp (hL : L ≤ 4096) {fv : FP} {d : Nat} (hfv : d < 24 → okP T L fv (d + 1)) (hd : d ≤ 24) (hA : AM Am) {kh kp ko kn : Nat → Int32} {kc : Int32} (hk : KC kc) (wp p : Int32) : SP (m_X7_readGroup fv T Sd In Nx Am (nI L) wp kh kp ko kn kc p (nI d)) psP := by
  unfold m_X7_readGroup
  simp only [m_X7_refuse, Option.bind_some]
  refine SP.ite (fun h24 => ?_) (fun _ => SP.ok ⟨hA, hk⟩)
  have hd24 : d < 24 := Nat.lt_of_not_le (fun q => nI_nlt (a := d) (b := 24) q (by omega) h24)
  have hfv' := hfv hd24
  have go : ∀ (fuel i : Nat) (Sd In Nx Am : Nat → Int32) (wp : Int32) (kh kp ko kn : Nat → Int32) (kc x3 x4 x5 : Int32), AM Am → KC kc → i ≤ L + 1 → L + 1 - i < fuel → SP (m_X7_readGroup_76 fv T (nI L) fuel Sd In Nx Am wp kh kp ko kn kc p (nI d) x3 x4 x5 (nI i)) psP := by
    intro fuel
    induction fuel with
    | zero => intro i Sd In Nx Am wp kh kp ko kn kc x3 x4 x5 _ _ _ hf; exact absurd hf (Nat.not_lt_zero _)
    | succ fuel ih =>
      intro i Sd In Nx Am wp kh kp ko kn kc x3 x4 x5 hA hk hi hf
      simp only [m_X7_readGroup_76, m_X7_refuse, Option.bind_some]
      refine SP.ite (fun _ => SP.ok ⟨hA, hk⟩) (fun hc => ?_)
      have hiL : i ≤ L := Nat.le_of_not_lt (fun q => hc (nI_lt q (by omega)))
      have h126 : ∀ (Sd In Nx Am : Nat → Int32) (wp : Int32) (kh kp ko kn : Nat → Int32) (kc y0 : Int32), AM Am → KC kc → SP (m_X7_readGroup_126 fv T (nI L) (m_X7_readGroup_76 fv T (nI L) fuel) Sd In Nx Am wp kh kp ko kn kc p (nI d) x3 x4 x5 (nI i) y0) psP := by
        intro Sd In Nx Am wp kh kp ko kn kc y0 hA hk
        unfold m_X7_readGroup_126
        simp only [m_X7_refuse, Option.bind_some, nI_1]
        refine SP.ite (fun _ => SP.ok ⟨hA, hk⟩) (fun _ => SP.bind (join_sp _ _ _) (fun _ _ => SP.bind (etr_sp (by decide) _) (fun am' ha' => ?_)))
        have hA' := AM.etr hA (show i ≤ 4096 by omega) ha'
        exact SP.bind (bbl_sp hL _) (fun _ _ => SP.bind (byt_sp hL _) (fun _ _ => SP.ite (fun _ => SP.ok ⟨hA', hk⟩) (fun _ => SP.bind (byt_sp hL _) (fun _ _ => SP.ite (fun _ => SP.bind (bbl_sp hL _) (fun _ _ => ih (i + 1) _ _ _ _ _ _ _ _ _ _ _ _ _ hA' hk (by omega) (by omega))) (fun _ => SP.ok ⟨hA', hk⟩)))))
      have h105 : ∀ (Sd In Nx Am : Nat → Int32) (wp : Int32) (kh kp ko kn : Nat → Int32) (kc y0 : Int32), AM Am → KC kc → SP (m_X7_readGroup_105 fv T (nI L) (m_X7_readGroup_76 fv T (nI L) fuel) Sd In Nx Am wp kh kp ko kn kc p (nI d) x3 x4 x5 (nI i) y0) psP := by
        intro Sd In Nx Am wp kh kp ko kn kc y0 hA hk
        unfold m_X7_readGroup_105
        simp only [nI_1]
        refine SP.ite (fun _ => h126 _ _ _ _ _ _ _ _ _ _ _ hA hk) (fun _ => SP.bind (hfv' _ _ _ _ _ _ _ _ _ _ _ hA hk) (fun r hr => h126 _ _ _ _ _ _ _ _ _ _ _ hr.1 hr.2))
      exact SP.bind (iso_sp hL _) (fun _ _ => SP.ite (fun _ => h105 _ _ _ _ _ _ _ _ _ _ _ hA hk) (fun _ => SP.bind (rkey_sp hL hA hk _ _ _) (fun r hr => h105 _ _ _ _ _ _ _ _ _ _ _ hr.1 hr.2)))
  have h27 : ∀ y0 : Int32, SP (m_X7_readGroup_27 fv T (nI L) Sd In Nx Am wp kh kp ko kn kc p (nI d) y0) psP := by
    intro y0
    unfold m_X7_readGroup_27
    refine SP.bind (etr_sp (by decide) _) (fun am' ha' => ?_)
    have hA' := AM.etr (k := 0) hA (by omega) ha'
    refine SP.bind (etr_sp (by decide) _) (fun _ _ => SP.bind (bbl_sp hL _) (fun _ _ => SP.bind (byt_sp hL _) (fun _ _ => SP.ite (fun _ => SP.ok ⟨hA', hk⟩) (fun _ => ?_))))
    exact go sr_fuel 1 _ _ _ _ _ _ _ _ _ _ _ _ _ hA' hk (by omega) (by unfold sr_fuel; omega)
  exact SP.bind (iso_sp hL _) (fun _ _ => SP.ite (fun _ => h27 _) (fun _ => h27 _))
theorem rval_sp (hL : L ≤ 4096) : ∀ (D d : Nat), d ≤ 24 → 24 - d < D → okP T L (m_X7_readValue D) d := by
  intro D
  induction D with
  | zero => intro d _ hf; exact absurd hf (Nat.not_lt_zero _)
  | succ D ih =>
    intro d hd hf Sd In Nx Am wp kh kp ko kn kc p hA hk
    simp only [m_X7_readValue, m_X7_refuse, Option.bind_some]
    have grp := rgrp_sp (Sd := Sd) (In := In) (Nx := Nx) (Am := Am) hL (fv := m_X7_readValue D) (d := d) (fun q => ih (d + 1) (by omega) (by omega)) hd hA (kh := kh) (kp := kp) (ko := ko) (kn := kn) hk wp p
    have grp2 : SP ((m_X7_readGroup (m_X7_readValue D) T Sd In Nx Am (nI L) wp kh kp ko kn kc p (nI d)).bind fun (x : Int32 × TP) => some (x.1, (x.2.1, x.2.2.1, x.2.2.2.1, x.2.2.2.2.1, x.2.2.2.2.2.1, x.2.2.2.2.2.2.1, x.2.2.2.2.2.2.2.1, x.2.2.2.2.2.2.2.2.1, x.2.2.2.2.2.2.2.2.2.1, x.2.2.2.2.2.2.2.2.2.2))) psP := SP.bind grp (fun r hr => SP.ok hr)
    have wrd : ∀ w, w < 75 → SP ((m_X7_readWord T (nI L) wp p w).bind fun (x : Int32 × Int32) => some (x.1, (Sd, In, Nx, Am, x.2, kh, kp, ko, kn, kc))) psP := fun w hw => SP.bind (rwrd_sp hL hw _ _) (fun _ _ => SP.ok ⟨hA, hk⟩)
    refine SP.bind (byt_sp hL p) (fun r1 h1 => ?_)
    have hin : ∀ k : Int32, ¬ k = -1 → r1 = k → ∃ a, a < L ∧ p = nI a := by
      intro k hk1 e
      rcases h1 with h | h
      · exact absurd (e.symm.trans h) hk1
      · exact h
    refine SP.ite (fun e => ?_) (fun _ => SP.ite (fun _ => grp2) (fun _ => SP.ite (fun _ => wrd 1 (by decide)) (fun _ => SP.ite (fun _ => wrd 2 (by decide)) (fun _ => SP.ite (fun _ => wrd 0 (by decide)) (fun _ => SP.ite (fun _ => grp2) (fun _ => ?_))))))
    · obtain ⟨a, ha, rfl⟩ := hin 34 (by decide) e
      exact SP.bind (rstr_sp hL hA _ ha) (fun r hr => SP.ok ⟨hr, hk⟩)
    · refine SP.bind (isn_sp hL p) (fun r hr => SP.ite (fun _ => SP.ok ⟨hA, hk⟩) (fun hn => ?_))
      obtain ⟨a, ha, rfl⟩ : ∃ a, a < L ∧ p = nI a := by
        rcases hr with e | ⟨-, h⟩
        · exact absurd e hn
        · exact h
      exact SP.bind (rnum_sp hL _ ha) (fun _ _ => SP.ok ⟨hA, hk⟩)
theorem trd_sp (hL : L ≤ 4096) (hA : AM Am) {kh kp ko kn : Nat → Int32} {kc : Int32} (wp : Int32) : SP (m_X7_read T Sd In Nx Am (nI L) wp kh kp ko kn kc) psP := by
  unfold m_X7_read
  simp only [m_X7_refuse, Option.bind_some]
  refine SP.bind kclr_sp (fun r hr => SP.bind (bbl_sp hL _) (fun r2 _ => ?_))
  have hk : KC r.2 := ⟨0, by omega, by rw [hr, nI_0]⟩
  have h := rval_sp (T := T) hL 27 0 (by omega) (by omega) Sd In Nx Am (-1) r.1 kp ko kn r.2 r2 hA hk
  rw [nI_0] at h
  exact SP.bind h (fun r3 h3 => SP.ite (fun _ => SP.ok h3) (fun _ => SP.bind (bbl_sp hL _) (fun _ _ => SP.ite (fun _ => SP.ok h3) (fun _ => SP.ok h3))))
end CRD
end
section
-- the class's schemas and couples
/-- entries that are -1 or a number up to 4096 -/
def PS (f : Nat → Int32) : Prop := ∀ i, i < 128 → f i = -1 ∨ ∃ k, k ≤ 4096 ∧ f i = nI k
/-- the amounts of a schema's slots -/
def AS (f : Nat → Int32) : Prop := ∀ i, i < 128 → ∃ k, k ≤ 64 ∧ f i = nI k
/-- -1, or a place -/
def pos (x : Int32) : Prop := x = -1 ∨ ∃ k, k ≤ 5000 ∧ x = nI k
def LC (x : Int32) : Prop := ∃ k, k ≤ 4096 ∧ x = nI k
theorem PS.up {f : Nat → Int32} {j : Nat} {v : Int32} (h : PS f) (hv : v = -1 ∨ ∃ k, k ≤ 4096 ∧ v = nI k) : PS (upd f j v) := fun i hi => by
  by_cases e : i = j
  · subst e; rw [pk_us]; exact hv
  · rw [pk_un e]; exact h i hi
theorem AS.up {f : Nat → Int32} {j k : Nat} (h : AS f) (hk : k ≤ 64) : AS (upd f j (nI k)) := fun i hi => by
  by_cases e : i = j
  · subst e; exact ⟨k, hk, pk_us⟩
  · rw [pk_un e]; exact h i hi
theorem psn_sp {f : Nat → Int32} (h : PS f) (p : Int32) : SP (m_X8_entry f 128 p) (fun r => r = -1 ∨ ∃ k, k ≤ 4096 ∧ r = nI k) := by
  refine (ent_sp (by decide) p).mono ?_
  rintro r (e | ⟨i, hi, -, rfl⟩)
  · exact Or.inl e
  · exact h i hi
theorem asn_sp {f : Nat → Int32} (h : AS f) (p : Int32) : SP (m_X8_entry f 128 p) (fun r => r = -1 ∨ ∃ k, k ≤ 64 ∧ r = nI k) := by
  refine (ent_sp (by decide) p).mono ?_
  rintro r (e | ⟨i, hi, -, rfl⟩)
  · exact Or.inl e
  · exact Or.inr (h i hi)
theorem slt_sp (p : Int32) : SP (m_X6_isSlot p) (fun r => r = 0 ∨ r = 1 ∧ ∃ s, s < 128 ∧ p = nI s) := by
  unfold m_X6_isSlot
  refine SP.ite (fun _ => SP.ok (Or.inl rfl)) (fun h0 => SP.ite (fun _ => SP.ok (Or.inl rfl)) (fun h1 => SP.ok (Or.inr ⟨rfl, ?_⟩)))
  obtain ⟨i, hi, rfl⟩ := nI_of h0
  exact ⟨i, Nat.lt_of_not_le (fun q => h1 (nI_le (a := 128) q hi)), rfl⟩
theorem slt_1 {s : Nat} (h : s < 128) : m_X6_isSlot (nI s) = some 1 := by
  unfold m_X6_isSlot
  rw [if_neg (nI_pos (by omega)), if_neg (show ¬ (128 : Int32) ≤ nI s from nI_ge (b := 128) h (by omega))]
section CSC
variable {Pl Kd Me Fi Nx Na Fn Am Fd Ed Sd Tm T In Tn : Nat → Int32} {L : Nat}
theorem mea_sp (p : Int32) : SP (m_X6_meant Me p) (fun _ => True) := by
  unfold m_X6_meant
  exact SP.bind (ent_sp (by decide) _) (fun _ _ => SP.ok trivial)
theorem knd_sp (p : Int32) : SP (m_X6_kind Kd Me p) (fun _ => True) := by
  unfold m_X6_kind
  exact SP.bind (ent_sp (by decide) _) (fun _ _ => SP.bind (ent_sp (by decide) _) (fun _ _ => SP.ok trivial))
theorem fst_sp (h : PS Fi) (p : Int32) : SP (m_X6_first Me Fi p) (fun r => r = -1 ∨ ∃ k, k ≤ 4096 ∧ r = nI k) := by
  unfold m_X6_first
  exact SP.bind (ent_sp (by decide) _) (fun _ _ => SP.bind (psn_sp h _) (fun _ hr => SP.ok hr))
theorem snx_sp (p : Int32) : SP (m_X6_next Nx p) (fun _ => True) := by
  unfold m_X6_next
  exact SP.bind (ent_sp (by decide) _) (fun _ _ => SP.ok trivial)
theorem sam_sp (h : AS Am) (p : Int32) : SP (m_X6_amount Me Am p) (fun r => r = -1 ∨ ∃ k, k ≤ 64 ∧ r = nI k) := by
  unfold m_X6_amount
  exact SP.bind (ent_sp (by decide) _) (fun _ _ => SP.bind (asn_sp h _) (fun _ hr => SP.ok hr))
theorem snm_sp (h : PS Na) (p : Int32) : SP (m_X6_name Me Na p) (fun r => r = -1 ∨ ∃ k, k ≤ 4096 ∧ r = nI k) := by
  unfold m_X6_name
  exact SP.bind (ent_sp (by decide) _) (fun _ _ => SP.bind (psn_sp h _) (fun _ hr => SP.ok hr))
theorem sfn_sp (h : PS Fn) (p : Int32) : SP (m_X6_fieldName Fn p) (fun r => r = -1 ∨ ∃ k, k ≤ 4096 ∧ r = nI k) := by
  unfold m_X6_fieldName
  exact SP.bind (psn_sp h _) (fun _ hr => SP.ok hr)
theorem hfd_sp (p : Int32) : SP (m_X6_hasFieldDefault Fd p) b01 := by
  unfold m_X6_hasFieldDefault
  refine SP.bind (slt_sp p) (fun r hr => SP.ite (fun _ => SP.ok (Or.inl rfl)) (fun h => ?_))
  rcases hr with e | ⟨-, s, hs, rfl⟩
  · exact absurd e h
  · rw [bd_go hs (by decide)]
    exact SP.ite (fun _ => SP.ok (Or.inl rfl)) (fun _ => SP.ok (Or.inr rfl))
theorem hed_sp (p : Int32) : SP (m_X6_hasEnumDefault Me Ed p) b01 := by
  unfold m_X6_hasEnumDefault
  refine SP.bind (mea_sp p) (fun r1 _ => SP.bind (slt_sp r1) (fun r hr => SP.ite (fun _ => SP.ok (Or.inl rfl)) (fun h => ?_)))
  rcases hr with e | ⟨-, s, hs, rfl⟩
  · exact absurd e h
  · rw [bd_go hs (by decide)]
    exact SP.ite (fun _ => SP.ok (Or.inl rfl)) (fun _ => SP.ok (Or.inr rfl))
theorem lat_sp {lc : Int32} (hl : LC lc) (p : Int32) : SP (m_X6_letterAt Pl lc p) (fun _ => True) := by
  obtain ⟨k, hk, rfl⟩ := hl
  unfold m_X6_letterAt
  refine SP.ite (fun _ => SP.ok trivial) (fun h0 => ?_)
  obtain ⟨i, hi, rfl⟩ := nI_of h0
  refine SP.ite (fun _ => SP.ok trivial) (fun h1 => ?_)
  have : i < k := Nat.lt_of_not_le (fun q => h1 (nI_le q hi))
  rw [bd_go (show i < 4096 by omega) (by decide)]
  exact SP.ok trivial
theorem wby_sp {lc : Int32} (hl : LC lc) (b : Int32) : SP (m_X6_writeByte Pl lc b) (fun r => LC r.2) := by
  obtain ⟨k, hk, rfl⟩ := hl
  unfold m_X6_writeByte
  refine SP.ite (fun _ => SP.ok ⟨k, hk, rfl⟩) (fun h => ?_)
  have : k < 4096 := Nat.lt_of_not_le (fun q => h (nI_le (a := 4096) q (by omega)))
  rw [bd_go this (by decide), nI_1]
  exact SP.ok ⟨k + 1, by omega, rfl⟩
theorem swr_sp {lc : Int32} (hl : LC lc) {w : Nat} (hw : w < 75) : SP (m_X6_write Pl lc w) (fun r => LC r.2) := by
  have hlw := len_lt w hw
  have hS : ¬ nS ≤ w := by unfold nS; omega
  have go : ∀ (fuel j : Nat) (Pl : Nat → Int32) (lc : Int32), LC lc → j ≤ lenS.getD w 0 → lenS.getD w 0 - j < fuel → SP (m_X6_write_2 fuel Pl lc w (nI j)) (fun r => LC r.2) := by
    intro fuel
    induction fuel with
    | zero => intro j Pl lc _ _ hf; exact absurd hf (Nat.not_lt_zero _)
    | succ fuel ih =>
      intro j Pl lc hl hj hf
      simp only [m_X6_write_2, if_neg hS, len_eq w hw, Option.bind_some]
      refine SP.ite (fun _ => SP.ok hl) (fun hc => ?_)
      have hlt : j < lenS.getD w 0 := Nat.lt_of_not_le (fun q => hc (nI_le q (by omega)))
      simp only [chr_eq w hw j hlt, Option.bind_some, nI_1]
      exact SP.bind (wby_sp hl _) (fun r hr => ih (j + 1) _ _ hr (by omega) (by omega))
  unfold m_X6_write
  have := go sr_fuel 0 Pl lc hl (by omega) (by unfold sr_fuel; omega)
  rw [nI_0] at this
  exact this
theorem lt_of_neg {r : Int32} {M j : Nat} (hM : M < 2 ^ 31) (hr : r = -1 ∨ ∃ k, k ≤ M ∧ r = nI k) (hj : j < 2 ^ 31) (hc : ¬ r ≤ nI j) : j < M := by
  rcases hr with e | ⟨k, hk, e⟩
  · subst e
    exact absurd (Int32.le_trans (by decide) (nI_pos' hj)) hc
  · subst e
    have : j < k := Nat.lt_of_not_le (fun q => hc (nI_le q hj))
    omega
theorem wsd_sp (hA : AM Tm) {lc : Int32} (hl : LC lc) (p : Int32) : SP (m_X6_writeSaid Pl lc Sd Tm p) (fun r => LC r.1 ∧ LC r.2.2) := by
  have go : ∀ (fuel j : Nat) (Pl : Nat → Int32) (lc x3 : Int32), LC lc → LC x3 → j ≤ 4097 → 4097 - j < fuel → SP (m_X6_writeSaid_14 Sd Tm fuel Pl lc p x3 (nI j)) (fun r => LC r.1 ∧ LC r.2.2) := by
    intro fuel
    induction fuel with
    | zero => intro j Pl lc x3 _ _ _ hf; exact absurd hf (Nat.not_lt_zero _)
    | succ fuel ih =>
      intro j Pl lc x3 hl h3 hj hf
      simp only [m_X6_writeSaid_14, nI_1]
      refine SP.bind (amo_sp hA p) (fun r hr => SP.ite (fun _ => SP.bind (wby_sp hl _) (fun _ h => SP.ok ⟨h3, h⟩)) (fun hc => ?_))
      have := lt_of_neg (by omega) hr (show j < 2 ^ 31 by omega) hc
      exact SP.bind (sai_sp _) (fun _ _ => SP.bind (wby_sp hl _) (fun _ h => ih (j + 1) _ _ _ h h3 (by omega) (by omega)))
  unfold m_X6_writeSaid
  refine SP.bind (wby_sp hl _) (fun r h => ?_)
  have := go sr_fuel 0 r.1 r.2 r.2 h h (Nat.zero_le _) (by unfold sr_fuel; omega)
  rw [nI_0] at this
  exact this
theorem wnu_sp {lc : Int32} (hl : LC lc) (x : Int32) : SP (m_X6_writeNumber Pl lc x) (fun r => LC r.2) := by
  have h17 : ∀ (Pl : Nat → Int32) (lc x : Int32), LC lc → SP (m_X6_writeNumber_17 Pl lc x) (fun r => LC r.2) := by
    intro Pl lc x h
    unfold m_X6_writeNumber_17
    exact SP.bind (wby_sp h _) (fun _ h => SP.ok h)
  unfold m_X6_writeNumber
  exact SP.ite (fun _ => h17 _ _ _ hl) (fun _ => SP.bind (wby_sp hl _) (fun _ h => h17 _ _ _ h))
theorem isd_sp (hA : AM Tm) {lc : Int32} (hl : LC lc) (p q : Int32) : SP (m_X6_isSaid Pl lc Sd Tm p q) b01 := by
  unfold m_X6_isSaid
  refine SP.bind (amo_sp hA q) (fun r hr => SP.ite (fun _ => SP.ok (Or.inl rfl)) (fun h1 => SP.ite (fun _ => ?_) (fun _ => SP.ok (Or.inl rfl))))
  rcases hr with e | ⟨k, hk, e⟩
  · subst e; exact absurd (by decide) h1
  · subst e
    have go : ∀ (fuel j : Nat), j ≤ k → k - j < fuel → SP (m_X6_isSaid_25 Pl lc Sd Tm fuel p q (nI k) (nI j)) b01 := by
      intro fuel
      induction fuel with
      | zero => intro j _ hf; exact absurd hf (Nat.not_lt_zero _)
      | succ fuel ih =>
        intro j hj hf
        simp only [m_X6_isSaid_25, nI_1]
        refine SP.ite (fun _ => SP.bind (lat_sp hl _) (fun _ _ => SP.ite (fun _ => SP.ok (Or.inr rfl)) (fun _ => SP.ok (Or.inl rfl)))) (fun hc => ?_)
        have : j < k := Nat.lt_of_not_le (fun q => hc (nI_le q (by omega)))
        exact SP.bind (lat_sp hl _) (fun _ _ => SP.ite (fun _ => SP.ok (Or.inl rfl)) (fun _ => SP.bind (sai_sp _) (fun _ _ => SP.ite (fun _ => ih (j + 1) (by omega) (by omega)) (fun _ => SP.ok (Or.inl rfl)))))
    have := go sr_fuel 0 (Nat.zero_le _) (by unfold sr_fuel; omega)
    rw [nI_0] at this
    exact this
theorem dfn_sp (hA : AM Tm) {lc : Int32} (hl : LC lc) {sc : Nat} (hsc : sc ≤ 128) (q : Int32) : SP (m_X6_definition Pl Na lc (nI sc) Sd Tm q) (fun _ => True) := by
  have go : ∀ (fuel j : Nat), j ≤ sc → sc - j < fuel → SP (m_X6_definition_2 Pl Na lc (nI sc) Sd Tm fuel q (nI j)) (fun _ => True) := by
    intro fuel
    induction fuel with
    | zero => intro j _ hf; exact absurd hf (Nat.not_lt_zero _)
    | succ fuel ih =>
      intro j hj hf
      simp only [m_X6_definition_2, nI_1]
      refine SP.ite (fun _ => SP.ok trivial) (fun hc => ?_)
      have : j < sc := Nat.lt_of_not_le (fun q => hc (nI_le q (by omega)))
      have ih1 := ih (j + 1) (by omega) (by omega)
      simp only [bd_go (show j < 128 by omega) (by decide)]
      exact SP.ite (fun _ => ih1) (fun _ => SP.bind (isd_sp hA hl _ _) (fun _ _ => SP.ite (fun _ => ih1) (fun _ => SP.ok trivial)))
  unfold m_X6_definition
  have := go sr_fuel 0 (Nat.zero_le _) (by unfold sr_fuel; omega)
  rw [nI_0] at this
  exact this
theorem hfl_sp (hA : AM Tm) (hm : AS Am) (hf : PS Fi) {lc : Int32} (hl : LC lc) (p q : Int32) : SP (m_X6_hasField Pl Me Fi Nx Fn Am lc Sd Tm p q) b01 := by
  have go : ∀ (fuel j : Nat) (x4 : Int32), j ≤ 65 → 65 - j < fuel → SP (m_X6_hasField_10 Pl Me Fi Nx Fn Am lc Sd Tm fuel p q x4 (nI j)) b01 := by
    intro fuel
    induction fuel with
    | zero => intro j x4 _ hf; exact absurd hf (Nat.not_lt_zero _)
    | succ fuel ih =>
      intro j x4 hj hf
      simp only [m_X6_hasField_10, m_X6_fieldName, nI_1]
      refine SP.bind (sam_sp hm p) (fun r hr => SP.ite (fun _ => SP.ok (Or.inl rfl)) (fun hc => ?_))
      have := lt_of_neg (by omega) hr (show j < 2 ^ 31 by omega) hc
      exact SP.bind (SP.bind (ent_sp (by decide) _) (fun _ _ => SP.ok trivial)) (fun _ (_ : True) => SP.bind (isd_sp hA hl _ _) (fun _ _ => SP.ite (fun _ => SP.bind (snx_sp _) (fun _ _ => ih (j + 1) _ (by omega) (by omega))) (fun _ => SP.ok (Or.inr rfl))))
  unfold m_X6_hasField
  refine SP.bind (fst_sp hf _) (fun r _ => ?_)
  have := go sr_fuel 0 r (Nat.zero_le _) (by unfold sr_fuel; omega)
  rw [nI_0] at this
  exact this
/-- a symbol's place, which grows by 3 at most behind the plain form's end -/
def sym (M : Nat) (x : Int32) : Prop := x = -1 ∨ ∃ k, k ≤ M ∧ x = nI k
theorem nsy_sp {lc : Int32} (hl : LC lc) {M : Nat} (hM : M ≤ 100000) (h4 : 4096 ≤ M) {x : Int32} (hx : sym M x) : SP (m_X6_nextSymbol Pl lc x) (sym (M + 3)) := by
  obtain ⟨k, hk, rfl⟩ := hl
  have e3 : ∀ a : Nat, nI a + 3 = nI (a + 3) := fun a => nI_add a 3
  have go : ∀ (fuel j : Nat), j ≤ M → 4096 - j < fuel → SP (m_X6_nextSymbol_2 Pl (nI k) fuel (nI j)) (sym (M + 3)) := by
    intro fuel
    induction fuel with
    | zero => intro j _ hf; exact absurd hf (Nat.not_lt_zero _)
    | succ fuel ih =>
      intro j hj hf
      simp only [m_X6_nextSymbol_2, nI_1, e3]
      refine SP.ite (fun _ => SP.ok (Or.inr ⟨j + 3, by omega, rfl⟩)) (fun hc => ?_)
      have : j < k := Nat.lt_of_not_le (fun q => hc (nI_le q (by omega)))
      exact SP.bind (lat_sp ⟨k, hk, rfl⟩ _) (fun _ _ => SP.ite (fun _ => SP.ok (Or.inr ⟨j + 3, by omega, rfl⟩)) (fun _ => ih (j + 1) (by omega) (by omega)))
  unfold m_X6_nextSymbol
  rcases hx with e | ⟨j, hj, e⟩
  · subst e
    obtain ⟨fu, hfu, hfb⟩ := fuel_s
    show SP (m_X6_nextSymbol_2 Pl (nI k) sr_fuel (-1)) _
    rw [hfu]
    simp only [m_X6_nextSymbol_2]
    have e1 : (-1 : Int32) + 3 = nI 2 := by decide +kernel
    have e0 : (-1 : Int32) + 1 = nI 0 := by decide +kernel
    rw [e1, e0]
    exact SP.ite (fun _ => SP.ok (Or.inr ⟨2, by omega, rfl⟩)) (fun _ => SP.bind (lat_sp ⟨k, hk, rfl⟩ _) (fun _ _ => SP.ite (fun _ => SP.ok (Or.inr ⟨2, by omega, rfl⟩)) (fun _ => go fu 0 (by omega) (by omega))))
  · subst e
    exact go sr_fuel j hj (by unfold sr_fuel; omega)
theorem hsy_sp (hA : AM Tm) (hm : AS Am) (hf : PS Fi) {lc : Int32} (hl : LC lc) (p q : Int32) : SP (m_X6_hasSymbol Pl Me Fi Am lc Sd Tm p q) b01 := by
  have go : ∀ (fuel j : Nat) (x4 : Int32), sym (4096 + 3 * j) x4 → j ≤ 65 → 65 - j < fuel → SP (m_X6_hasSymbol_10 Pl Me Fi Am lc Sd Tm fuel p q x4 (nI j)) b01 := by
    intro fuel
    induction fuel with
    | zero => intro j x4 _ _ hf; exact absurd hf (Nat.not_lt_zero _)
    | succ fuel ih =>
      intro j x4 h4 hj hf
      simp only [m_X6_hasSymbol_10, nI_1]
      refine SP.bind (sam_sp hm p) (fun r hr => SP.ite (fun _ => SP.ok (Or.inl rfl)) (fun hc => ?_))
      have := lt_of_neg (by omega) hr (show j < 2 ^ 31 by omega) hc
      exact SP.bind (isd_sp hA hl _ _) (fun _ _ => SP.ite (fun _ => SP.bind (nsy_sp hl (by omega) (by omega) h4) (fun _ h => ih (j + 1) _ (by rw [show 4096 + 3 * (j + 1) = 4096 + 3 * j + 3 by omega]; exact h) (by omega) (by omega))) (fun _ => SP.ok (Or.inr rfl)))
  unfold m_X6_hasSymbol
  refine SP.bind (fst_sp hf _) (fun r hr => ?_)
  have := go sr_fuel 0 r (by rw [Nat.mul_zero, Nat.add_zero]; exact hr) (Nat.zero_le _) (by unfold sr_fuel; omega)
  rw [nI_0] at this
  exact this
theorem ali_sp (p q : Int32) : SP (m_X6_isAlike Kd Me p q) b01 := by
  have nmd : ∀ c, SP (m_X3_isNamed c) b01 := fun c => by
    unfold m_X3_isNamed
    repeat' (first | exact SP.ok (Or.inl rfl) | exact SP.ok (Or.inr rfl) | refine SP.ite (fun _ => ?_) (fun _ => ?_))
  unfold m_X6_isAlike
  exact SP.bind (knd_sp _) (fun _ _ => SP.bind (knd_sp _) (fun _ _ => SP.ite (fun _ => SP.bind (knd_sp _) (fun _ _ => SP.bind (nmd _) (fun _ _ => SP.ite (fun _ => SP.ok (Or.inr rfl)) (fun _ => SP.bind (mea_sp _) (fun _ _ => SP.bind (mea_sp _) (fun _ _ => SP.ite (fun _ => SP.ok (Or.inr rfl)) (fun _ => SP.ok (Or.inl rfl)))))))) (fun _ => SP.ok (Or.inl rfl))))
theorem nam_sp (c : Int32) : SP (m_X3_isNamed c) b01 := by
  unfold m_X3_isNamed
  repeat' (first | exact SP.ok (Or.inl rfl) | exact SP.ok (Or.inr rfl) | refine SP.ite (fun _ => ?_) (fun _ => ?_))
theorem kwd_sp (c : Int32) : SP (m_X3_word c) (fun r => r < 75) := by
  unfold m_X3_word
  repeat' (first | exact SP.ok (by decide) | refine SP.ite (fun _ => ?_) (fun _ => ?_))
theorem ksd_sp (hL : L ≤ 4096) (p : Int32) : SP (m_X3_said T Sd Tm (nI L) p) (fun _ => True) := by
  have go : ∀ (fuel j : Nat), j ≤ 11 → 11 - j < fuel → SP (m_X3_said_2 T Sd Tm (nI L) fuel p (nI j)) (fun _ => True) := by
    intro fuel
    induction fuel with
    | zero => intro j _ hf; exact absurd hf (Nat.not_lt_zero _)
    | succ fuel ih =>
      intro j hj hf
      simp only [m_X3_said_2, nI_1]
      refine SP.ite (fun _ => SP.ok trivial) (fun hc => ?_)
      have : j ≤ 10 := Nat.le_of_not_lt (fun q => hc (nI_lt (a := 10) q (by omega)))
      exact SP.bind (kwd_sp _) (fun _ hw => SP.bind (says_sp hL hw _) (fun _ _ => SP.ite (fun _ => ih (j + 1) (by omega) (by omega)) (fun _ => SP.ok trivial)))
  unfold m_X3_said
  have := go sr_fuel 0 (Nat.zero_le _) (by unfold sr_fuel; omega)
  rw [nI_0] at this
  exact this
theorem ssn_sp {Pv : Nat → Int32} {lc lv : Int32} (hl : LC lc) (hv : LC lv) {M : Nat} (hM : M ≤ 100000) {p q : Int32} (hp : sym M p) (hq : sym M q) : SP (m_X6_isSameName Pl lc Pv lv p q) b01 := by
  obtain ⟨k, hk, rfl⟩ := hl
  obtain ⟨k', hk', rfl⟩ := hv
  unfold m_X6_isSameName
  refine SP.ite (fun _ => SP.ok (Or.inl rfl)) (fun h1 => SP.ite (fun h2 => ?_) (fun _ => SP.ok (Or.inl rfl)))
  rcases hp with e | ⟨a, ha, e⟩
  · subst e; exact absurd (by decide) h1
  subst e
  rcases hq with e | ⟨b, hb, e⟩
  · subst e; exact absurd h2 (by decide)
  subst e
  have go : ∀ (fuel j : Nat), j ≤ 33 → 33 - j < fuel → SP (m_X6_isSameName_13 Pl (nI k) Pv (nI k') fuel (nI a) (nI b) (nI j)) b01 := by
    intro fuel
    induction fuel with
    | zero => intro j _ hf; exact absurd hf (Nat.not_lt_zero _)
    | succ fuel ih =>
      intro j hj hf
      simp only [m_X6_isSameName_13, nI_1, nI_add]
      refine SP.ite (fun _ => SP.ok (Or.inl rfl)) (fun hc => SP.ite (fun _ => SP.ok (Or.inl rfl)) (fun h3 => SP.ite (fun _ => SP.ok (Or.inl rfl)) (fun h4 => ?_)))
      have : j ≤ 32 := Nat.le_of_not_lt (fun q => hc (nI_lt (a := 32) q (by omega)))
      have h3' : a + j < k := Nat.lt_of_not_le (fun q => h3 (nI_le q (by omega)))
      have h4' : b + j < k' := Nat.lt_of_not_le (fun q => h4 (nI_le q (by omega)))
      simp only [bd_go (show a + j < 4096 by omega) (by decide), bd_go (show b + j < 4096 by omega) (by decide)]
      exact SP.ite (fun _ => SP.ite (fun _ => SP.ok (Or.inr rfl)) (fun _ => ih (j + 1) (by omega) (by omega))) (fun _ => SP.ok (Or.inl rfl))
  have := go sr_fuel 0 (Nat.zero_le _) (by unfold sr_fuel; omega)
  rw [nI_0] at this
  exact this
end CSC
/-- couples: no more than 128 -/
def CC (x : Int32) : Prop := ∃ k, k ≤ 128 ∧ x = nI k
section COU
variable {Cf Cs : Nat → Int32}
theorem cad_sp {cc : Int32} (h : CC cc) (a b : Int32) : SP (m_X11_add Cf Cs cc a b) (fun r => CC r.2.2) := by
  obtain ⟨k, hk, rfl⟩ := h
  unfold m_X11_add
  refine SP.ite (fun _ => SP.ok ⟨k, hk, rfl⟩) (fun hc => ?_)
  have : k < 128 := Nat.lt_of_not_le (fun q => hc (nI_le (a := 128) q (by omega)))
  simp only [nI_1]
  exact SP.bind (etr_sp (by decide) _) (fun _ _ => SP.bind (etr_sp (by decide) _) (fun _ _ => SP.ok ⟨k + 1, by omega, rfl⟩))
theorem cha_sp {cc : Int32} (h : CC cc) (a b : Int32) : SP (m_X11_has Cf Cs cc a b) b01 := by
  obtain ⟨k, hk, rfl⟩ := h
  have go : ∀ (fuel j : Nat), j ≤ k → k - j < fuel → SP (m_X11_has_2 Cf Cs (nI k) fuel a b (nI j)) b01 := by
    intro fuel
    induction fuel with
    | zero => intro j _ hf; exact absurd hf (Nat.not_lt_zero _)
    | succ fuel ih =>
      intro j hj hf
      simp only [m_X11_has_2, nI_1]
      refine SP.ite (fun _ => SP.ok (Or.inl rfl)) (fun hc => ?_)
      have : j < k := Nat.lt_of_not_le (fun q => hc (nI_le q (by omega)))
      have ih1 := ih (j + 1) (by omega) (by omega)
      exact SP.bind (ent_sp (by decide) _) (fun _ _ => SP.ite (fun _ => SP.bind (ent_sp (by decide) _) (fun _ _ => SP.ite (fun _ => SP.ok (Or.inr rfl)) (fun _ => ih1))) (fun _ => ih1))
  unfold m_X11_has
  have := go sr_fuel 0 (Nat.zero_le _) (by unfold sr_fuel; omega)
  rw [nI_0] at this
  exact this
theorem cfi_sp (p : Int32) : SP (m_X11_first Cf p) (fun _ => True) := by
  unfold m_X11_first
  exact SP.bind (ent_sp (by decide) _) (fun _ _ => SP.ok trivial)
theorem cse_sp (p : Int32) : SP (m_X11_second Cs p) (fun _ => True) := by
  unfold m_X11_second
  exact SP.bind (ent_sp (by decide) _) (fun _ _ => SP.ok trivial)
end COU
end
section
-- the class's look at a value
abbrev TL : Type := Int32 × Int32 × (Nat → Int32) × (Nat → Int32) × (Nat → Int32) × (Nat → Int32) × (Nat → Int32) × (Nat → Int32) × (Nat → Int32) × (Nat → Int32) × (Nat → Int32) × (Nat → Int32) × Int32 × Int32 × (Nat → Int32) × (Nat → Int32) × Int32
abbrev FL : Type := Int32 → Int32 → (Nat → Int32) → (Nat → Int32) → (Nat → Int32) → (Nat → Int32) → (Nat → Int32) → Int32 → (Nat → Int32) → (Nat → Int32) → (Nat → Int32) → (Nat → Int32) → (Nat → Int32) → (Nat → Int32) → (Nat → Int32) → (Nat → Int32) → (Nat → Int32) → (Nat → Int32) → Int32 → Int32 → (Nat → Int32) → (Nat → Int32) → Int32 → Int32 → Int32 → Int32 → Option (Int32 × TL)
def SI (Fi Na Fn Am : Nat → Int32) (lc sc cc : Int32) : Prop := PS Fi ∧ PS Na ∧ PS Fn ∧ AS Am ∧ LC lc ∧ (∃ n, n ≤ 128 ∧ sc = nI n) ∧ CC cc
def SU (n0 : Nat) (u : TL) : Prop := SI u.2.2.2.2.2.1 u.2.2.2.2.2.2.2.1 u.2.2.2.2.2.2.2.2.1 u.2.2.2.2.2.2.2.2.2.1 u.2.2.2.2.2.2.2.2.2.2.2.2.1 u.2.2.2.2.2.2.2.2.2.2.2.2.2.1 u.2.2.2.2.2.2.2.2.2.2.2.2.2.2.2.2 ∧ ∃ n, n0 ≤ n ∧ n ≤ 128 ∧ u.2.2.2.2.2.2.2.2.2.2.2.2.2.1 = nI n
def lkP (n0 : Nat) (Am : Nat → Int32) (r : Int32 × TL) : Prop := (r.1 = -1 ∨ ∃ s, s < 128 ∧ r.1 = nI s) ∧ SU n0 r.2 ∧ ∀ j, j < n0 → r.2.2.2.2.2.2.2.2.2.2.1 j = Am j
def lbP (n0 s : Nat) (Am : Nat → Int32) (r : Int32 × TL) : Prop := b01 r.1 ∧ SU n0 r.2 ∧ ∀ j, j < n0 → j ≠ s → r.2.2.2.2.2.2.2.2.2.2.1 j = Am j
section CLK
variable {T Sd In Tn Tm : Nat → Int32} {L : Nat}
def okL (T Sd In Tn Tm : Nat → Int32) (L : Nat) (fl : FL) (d : Nat) : Prop := ∀ (lf lp : Int32) (Pl Kd Me Fi Nx Na Fn Am Fd Ed : Nat → Int32) (lc sc : Int32) (Cf Cs : Nat → Int32) (cc : Int32) (p br : Int32) (n0 : Nat), n0 ≤ 128 → sc = nI n0 → SI Fi Na Fn Am lc sc cc → SP (fl lf lp T Sd In Tn Tm (nI L) Pl Kd Me Fi Nx Na Fn Am Fd Ed lc sc Cf Cs cc p (nI d) br) (lkP n0 Am)
theorem stk_sp {f : Nat → Int32} (p v : Int32) : SP (m_X6_setKind f p v) (fun _ => True) := by
  unfold m_X6_setKind
  refine SP.bind (slt_sp p) (fun r hr => SP.ite (fun _ => SP.ok trivial) (fun h => ?_))
  rcases hr with e | ⟨-, s, hs, rfl⟩
  · exact absurd e h
  · rw [bd_go hs (by decide)]; exact SP.ok trivial
theorem stm_sp {f : Nat → Int32} (p v : Int32) : SP (m_X6_setMeant f p v) (fun _ => True) := by
  unfold m_X6_setMeant
  refine SP.bind (slt_sp p) (fun r hr => SP.ite (fun _ => SP.ok trivial) (fun h => ?_))
  rcases hr with e | ⟨-, s, hs, rfl⟩
  · exact absurd e h
  · rw [bd_go hs (by decide)]; exact SP.ok trivial
theorem ste_sp {f : Nat → Int32} (p : Int32) : SP (m_X6_setEnumDefault f p) (fun _ => True) := by
  unfold m_X6_setEnumDefault
  refine SP.bind (slt_sp p) (fun r hr => SP.ite (fun _ => SP.ok trivial) (fun h => ?_))
  rcases hr with e | ⟨-, s, hs, rfl⟩
  · exact absurd e h
  · rw [bd_go hs (by decide)]; exact SP.ok trivial
theorem stn_sp {f : Nat → Int32} (hf : PS f) (p : Int32) {v : Int32} (hv : LC v) : SP (m_X6_setName f p v) PS := by
  unfold m_X6_setName
  refine SP.bind (slt_sp p) (fun r hr => SP.ite (fun _ => SP.ok hf) (fun h => ?_))
  rcases hr with e | ⟨-, s, hs, rfl⟩
  · exact absurd e h
  · rw [bd_go hs (by decide)]; exact SP.ok (hf.up (Or.inr hv))
theorem stf_sp {f g : Nat → Int32} (hf : PS f) (p b : Int32) {v : Int32} (hv : LC v) : SP (m_X6_setField f g p v b) (fun r => PS r.1) := by
  unfold m_X6_setField
  refine SP.bind (slt_sp p) (fun r hr => SP.ite (fun _ => SP.ok hf) (fun h => ?_))
  rcases hr with e | ⟨-, s, hs, rfl⟩
  · exact absurd e h
  · simp only [bd_go hs (by decide)]; exact SP.ok (hf.up (Or.inr hv))
theorem jn_sp {Fi Nx Am : Nat → Int32} (hf : PS Fi) {s i k : Nat} (hs : s < 128) (hi : Am s = nI i) (hk : k ≤ 4096) (a1 : Int32) : SP (m_X6_join Fi Nx Am (nI s) a1 (nI k)) (fun r => PS r.1 ∧ r.2.2 = upd Am s (nI (i + 1))) := by
  unfold m_X6_join
  simp only [slt_1 hs, Option.bind_some, if_neg (show ¬ (1 : Int32) = 0 by decide), bd_go hs (by decide), nI_clamp (show s < 2 ^ 31 by omega), bd_gc hs (by decide), hi, nI_1]
  refine SP.bind (slt_sp a1) (fun r hr => SP.ite (fun _ => SP.ok ⟨hf.up (Or.inr ⟨k, hk, rfl⟩), rfl⟩) (fun h => ?_))
  rcases hr with e | ⟨-, s', hs', rfl⟩
  · exact absurd e h
  · simp only [bd_go hs' (by decide)]
    exact SP.ok ⟨hf, rfl⟩
theorem ads_sp (hA : AM Tm) {Pl Fi Am : Nat → Int32} {lc : Int32} (hl : LC lc) (hf : PS Fi) {s i : Nat} (hs : s < 128) (hi : Am s = nI i) (q : Int32) : SP (m_X6_addSymbol Pl Fi Am lc Sd Tm (nI s) q) (fun r => PS r.2.1 ∧ r.2.2.1 = upd Am s (nI (i + 1)) ∧ LC r.2.2.2) := by
  have h23 : ∀ (Pl : Nat → Int32) (lc : Int32), LC lc → SP (m_X6_addSymbol_23 Sd Tm Pl Fi Am lc (nI s) q) (fun r => PS r.2.1 ∧ r.2.2.1 = upd Am s (nI (i + 1)) ∧ LC r.2.2.2) := by
    intro Pl lc hl
    unfold m_X6_addSymbol_23
    refine SP.bind (wsd_sp hA hl q) (fun r hr => ?_)
    simp only [bd_go hs (by decide), bd_gc hs (by decide), nI_clamp (show s < 2 ^ 31 by omega), hi, nI_1]
    exact SP.ite (fun _ => SP.ok ⟨hf.up (Or.inr hr.1), rfl, hr.2⟩) (fun _ => SP.ok ⟨hf, rfl, hr.2⟩)
  unfold m_X6_addSymbol
  simp only [slt_1 hs, Option.bind_some, if_neg (show ¬ (1 : Int32) = 0 by decide), bd_go hs (by decide)]
  exact SP.ite (fun _ => h23 _ _ hl) (fun _ => SP.bind (wby_sp hl _) (fun _ h => h23 _ _ h))
theorem law_sp (hL : L ≤ 4096) (hA : AM Tm) {lf lp : Int32} {Pl Kd Me Na : Nat → Int32} {lc : Int32} (hl : LC lc) {sc : Nat} (hsc : sc ≤ 128) (p q : Int32) : SP (m_X4_lookAtWord lf lp T Sd Tm (nI L) Pl Kd Me Na lc (nI sc) p q) (fun r => b01 r.1 ∧ LC r.2.2.2.2.2.2) := by
  have h68 : ∀ (lf lp : Int32) (Pl Kd Me : Nat → Int32) (lc : Int32), LC lc → SP (m_X4_lookAtWord_68 T Sd Tm (nI L) Na (nI sc) lf lp Pl Kd Me lc q) (fun r => b01 r.1 ∧ LC r.2.2.2.2.2.2) := by
    intro lf lp Pl Kd Me lc hl
    unfold m_X4_lookAtWord_68
    exact SP.bind (wsd_sp hA hl _) (fun r hr => SP.ok ⟨Or.inr rfl, hr.2⟩)
  have h31 : SP (m_X4_lookAtWord_31 T Sd Tm (nI L) Na (nI sc) lf lp Pl Kd Me lc p q) (fun r => b01 r.1 ∧ LC r.2.2.2.2.2.2) := by
    unfold m_X4_lookAtWord_31
    simp only [m_X4_refuse, Option.bind_some, true_or, if_true]
    exact SP.bind (dfn_sp hA hl hsc _) (fun _ _ => SP.ite (fun _ => SP.ok ⟨Or.inl rfl, hl⟩) (fun _ => SP.bind (stm_sp _ _) (fun _ _ => h68 _ _ _ _ _ _ hl)))
  unfold m_X4_lookAtWord
  exact SP.bind (ksd_sp hL _) (fun _ _ => SP.ite (fun _ => h31) (fun _ => SP.ite (fun _ => h31) (fun _ => SP.bind (stk_sp _ _) (fun _ _ => h68 _ _ _ _ _ _ hl))))
theorem hal_sp {Kd Me Fi Nx Am : Nat → Int32} (hf : PS Fi) (hm : AS Am) (p q : Int32) : SP (m_X4_hasAlike Kd Me Fi Nx Am p q) b01 := by
  have go : ∀ (fuel j : Nat) (x3 : Int32), j ≤ 65 → 65 - j < fuel → SP (m_X4_hasAlike_12 Kd Me Fi Nx Am fuel p q x3 (nI j)) b01 := by
    intro fuel
    induction fuel with
    | zero => intro j x3 _ hf; exact absurd hf (Nat.not_lt_zero _)
    | succ fuel ih =>
      intro j x3 hj hf
      simp only [m_X4_hasAlike_12, nI_1]
      refine SP.bind (sam_sp hm p) (fun r hr => SP.ite (fun _ => SP.ok (Or.inl rfl)) (fun hc => ?_))
      have := lt_of_neg (by omega) hr (show j < 2 ^ 31 by omega) hc
      exact SP.bind (ali_sp _ _) (fun _ _ => SP.ite (fun _ => SP.bind (snx_sp _) (fun _ _ => ih (j + 1) _ (by omega) (by omega))) (fun _ => SP.ok (Or.inr rfl)))
  unfold m_X4_hasAlike
  refine SP.bind (fst_sp hf _) (fun r _ => ?_)
  have := go sr_fuel 0 r (Nat.zero_le _) (by unfold sr_fuel; omega)
  rw [nI_0] at this
  exact this
theorem dfi_sp (hL : L ≤ 4096) (hA : AM Tm) {lf lp : Int32} {Pl Kd Na : Nat → Int32} {lc : Int32} (hl : LC lc) (hn : PS Na) {sc : Nat} (hsc : sc ≤ 128) (p v k : Int32) : SP (m_X4_define lf lp T Sd In Tn Tm (nI L) Pl Kd Na lc (nI sc) p v k) (fun r => b01 r.1 ∧ PS r.2.2.2.2.2.1 ∧ LC r.2.2.2.2.2.2) := by
  have h74 : ∀ x, SP (m_X4_define_74 T Sd In Tn Tm (nI L) (nI sc) lf lp Pl Kd Na lc x) (fun r => b01 r.1 ∧ PS r.2.2.2.2.2.1 ∧ LC r.2.2.2.2.2.2) := by
    intro x
    unfold m_X4_define_74
    simp only [m_X4_refuse, Option.bind_some, true_or, if_true]
    exact SP.ok ⟨Or.inl rfl, hn, hl⟩
  unfold m_X4_define
  simp only [m_X4_refuse, Option.bind_some, true_or, if_true]
  refine SP.bind (mbr_sp hL hA (by decide) _) (fun r1 _ => SP.bind (iss_sp hL _) (fun _ _ => SP.ite (fun _ => SP.ok ⟨Or.inl rfl, hn, hl⟩) (fun _ => SP.bind (sanm_sp hL hA _) (fun _ _ => SP.ite (fun _ => h74 _) (fun _ => SP.bind (ksd_sp hL _) (fun _ _ => SP.ite (fun _ => SP.bind (dfn_sp hA hl hsc _) (fun _ _ => SP.ite (fun _ => ?_) (fun _ => h74 _))) (fun _ => h74 _)))))))
  exact SP.bind (stk_sp _ _) (fun _ _ => SP.bind (swr_sp hl (by decide)) (fun _ h1 => SP.bind (wsd_sp hA h1 _) (fun _ h2 => SP.bind (stn_sp hn _ h2.1) (fun _ h3 => SP.bind (swr_sp h2.2 (by decide)) (fun _ h4 => SP.bind (kwd_sp _) (fun _ h5 => SP.bind (swr_sp h4 h5) (fun _ h6 => SP.bind (wby_sp h6 _) (fun _ h7 => SP.ok ⟨Or.inr rfl, h3, h7⟩))))))))
theorem lfx_sp (hL : L ≤ 4096) (hA : AM Tm) {lf lp : Int32} {Pl Am : Nat → Int32} {lc : Int32} (hl : LC lc) (hm : AS Am) {s : Nat} (hs : s < 128) (v : Int32) : SP (m_X4_lookAtFixed lf lp T Sd In Tn Tm (nI L) Pl Am lc (nI s) v) (fun r => b01 r.1 ∧ AS r.2.2.2.2.1 ∧ LC r.2.2.2.2.2 ∧ ∀ j, j ≠ s → r.2.2.2.2.1 j = Am j) := by
  have h67 : ∀ x, SP (m_X4_lookAtFixed_67 T Sd In Tn Tm (nI L) lf lp Pl Am lc x) (fun r => b01 r.1 ∧ AS r.2.2.2.2.1 ∧ LC r.2.2.2.2.2 ∧ ∀ j, j ≠ s → r.2.2.2.2.1 j = Am j) := by
    intro x
    unfold m_X4_lookAtFixed_67
    simp only [m_X4_refuse, Option.bind_some, true_or, if_true]
    exact SP.ok ⟨Or.inl rfl, hm, hl, fun _ _ => rfl⟩
  have h49 : ∀ (x : Int32) (y : Int64), SP (m_X4_lookAtFixed_49 T Sd In Tn Tm (nI L) lf lp Pl Am lc (nI s) x y) (fun r => b01 r.1 ∧ AS r.2.2.2.2.1 ∧ LC r.2.2.2.2.2 ∧ ∀ j, j ≠ s → r.2.2.2.2.1 j = Am j) := by
    intro x y
    unfold m_X4_lookAtFixed_49 m_X6_setAmount
    refine SP.ite (fun _ => h67 _) (fun h1 => SP.ite (fun h2 => ?_) (fun _ => h67 _))
    obtain ⟨d, hd, rfl⟩ := lgc h1 (fun q => absurd h2 (Int32.not_le.mpr q))
    simp only [slt_1 hs, Option.bind_some, if_neg (show ¬ (1 : Int32) = 0 by decide), bd_go hs (by decide), bd_gc hs (by decide), nI_clamp (show s < 2 ^ 31 by omega), lN_i]
    exact SP.bind (swr_sp hl (by decide)) (fun _ h3 => SP.bind (wnu_sp h3 _) (fun _ h4 => SP.bind (wby_sp h4 _) (fun _ h5 => SP.ok ⟨Or.inr rfl, hm.up hd, h5, fun j hj => pk_un hj⟩)))
  unfold m_X4_lookAtFixed
  simp only [m_X4_refuse, Option.bind_some, true_or, if_true]
  exact SP.bind (mbr_sp hL hA (by decide) _) (fun _ _ => SP.ite (fun _ => SP.ok ⟨Or.inl rfl, hm, hl, fun _ _ => rfl⟩) (fun _ => SP.bind (isn_sp hL _) (fun _ _ => SP.ite (fun _ => h49 _ _) (fun _ => SP.bind (numat_sp hL _) (fun _ _ => h49 _ _)))))
theorem len_sp (hL : L ≤ 4096) (hA : AM Tm) {lf lp : Int32} {Pl Me Fi Am Ed : Nat → Int32} {lc : Int32} (hl : LC lc) (hf : PS Fi) (hm : AS Am) {s : Nat} (hs : s < 128) (h0 : Am s = nI 0) (v : Int32) : SP (m_X4_lookAtEnum lf lp T Sd In Tn Tm (nI L) Pl Me Fi Am Ed lc (nI s) v) (fun r => b01 r.1 ∧ PS r.2.2.2.2.1 ∧ AS r.2.2.2.2.2.1 ∧ LC r.2.2.2.2.2.2.2 ∧ ∀ j, j ≠ s → r.2.2.2.2.2.1 j = Am j) := by
  have hdef : ∀ (lf lp : Int32) (Pl Fi Am Ed : Nat → Int32) (lc q : Int32), LC lc → PS Fi → AS Am → SP (m_X4_lookAtEnumDefault lf lp T Sd Tm (nI L) Pl Me Fi Am Ed lc (nI s) q) (fun r => b01 r.1) := by
    intro lf lp Pl Fi Am Ed lc q hl hf hm
    unfold m_X4_lookAtEnumDefault m_X4_lookAtEnumDefault_34
    simp only [m_X4_refuse, Option.bind_some, true_or, if_true]
    exact SP.ite (fun _ => SP.ok (Or.inr rfl)) (fun _ => SP.bind (iss_sp hL _) (fun _ _ => SP.ite (fun _ => SP.ok (Or.inl rfl)) (fun _ => SP.bind (hsy_sp hA hm hf hl _ _) (fun _ _ => SP.ite (fun _ => SP.ok (Or.inl rfl)) (fun _ => SP.bind (ste_sp _) (fun _ _ => SP.ok (Or.inr rfl)))))))
  unfold m_X4_lookAtEnum
  simp only [m_X4_refuse, m_X4_lookAtEnum_58, Option.bind_some, true_or, if_true]
  refine SP.bind (mbr_sp hL hA (by decide) _) (fun r1 _ => SP.ite (fun _ => SP.ok ⟨Or.inl rfl, hf, hm, hl, fun _ _ => rfl⟩) (fun _ => SP.bind (amo_sp hA _) (fun r3 h3 => SP.bind (isl_sp hL _) (fun _ _ => SP.ite (fun _ => SP.ok ⟨Or.inl rfl, hf, hm, hl, fun _ _ => rfl⟩) (fun _ => SP.ite (fun _ => SP.ok ⟨Or.inl rfl, hf, hm, hl, fun _ _ => rfl⟩) (fun h1 => SP.ite (fun h32 => ?_) (fun _ => SP.ok ⟨Or.inl rfl, hf, hm, hl, fun _ _ => rfl⟩)))))))
  obtain ⟨k, hk, rfl⟩ : ∃ k, k ≤ 32 ∧ r3 = nI k := by
    rcases h3 with e | ⟨k, hk, e⟩
    · subst e; exact absurd (by decide) h1
    · subst e
      exact ⟨k, Nat.le_of_not_lt (fun q => nI_ge (a := 32) q (by omega) h32), rfl⟩
  have go : ∀ (fuel i : Nat) (lf lp : Int32) (Pl Fi' Am' Ed : Nat → Int32) (lc x5 : Int32), LC lc → PS Fi' → AS Am' → Am' s = nI i → (∀ j, j ≠ s → Am' j = Am j) → i ≤ k → k - i < fuel →
      SP (m_X4_lookAtEnum_88 T Sd In Tn Tm (nI L) Me fuel lf lp Pl Fi' Am' Ed lc (nI s) v (nI k) x5 (nI i)) (fun r => b01 r.1 ∧ PS r.2.2.2.2.1 ∧ AS r.2.2.2.2.2.1 ∧ LC r.2.2.2.2.2.2.2 ∧ ∀ j, j ≠ s → r.2.2.2.2.2.1 j = Am j) := by
    intro fuel
    induction fuel with
    | zero => intro i lf lp Pl Fi' Am' Ed lc x5 _ _ _ _ _ _ hf; exact absurd hf (Nat.not_lt_zero _)
    | succ fuel ih =>
      intro i lf lp Pl Fi' Am' Ed lc x5 hl hf hm hi hfr hik hfu
      simp only [m_X4_lookAtEnum_88, m_X4_lookAtEnum_124, m_X4_refuse, Option.bind_some, true_or, if_true, nI_1]
      refine SP.ite (fun _ => SP.bind (swr_sp hl (by decide)) (fun _ h1 => SP.bind (mbr_sp hL hA (by decide) _) (fun _ _ => SP.bind (hdef _ _ _ _ _ _ _ _ h1 hf hm) (fun _ h2 => SP.ite (fun _ => SP.ok ⟨h2, hf, hm, h1, hfr⟩) (fun q => absurd h2 q))))) (fun hc => ?_)
      have hlt : i < k := Nat.lt_of_not_le (fun q => hc (nI_le q (by omega)))
      refine SP.bind (sanm_sp hL hA _) (fun _ _ => SP.ite (fun _ => SP.ok ⟨Or.inl rfl, hf, hm, hl, hfr⟩) (fun _ => SP.bind (hsy_sp hA hm hf hl _ _) (fun _ _ => SP.ite (fun _ => SP.bind (ads_sp hA hl hf hs hi _) (fun r hr => SP.bind (nxt_sp _) (fun _ _ => ?_))) (fun _ => SP.ok ⟨Or.inl rfl, hf, hm, hl, hfr⟩))))
      obtain ⟨g1, g2, g3⟩ := hr
      refine ih (i + 1) _ _ _ _ _ _ _ _ g3 g1 (by rw [g2]; exact hm.up (by omega)) (by rw [g2]; exact pk_us) (fun j hj => by rw [g2, pk_un hj]; exact hfr j hj) (by omega) (by omega)
  refine SP.bind (swr_sp hl (by decide)) (fun q4 h4 => SP.bind (inn_sp _) (fun q5 _ => ?_))
  have := go sr_fuel 0 lf lp q4.1 Fi Am Ed q4.2 q5 h4 hf hm h0 (fun _ _ => rfl) (Nat.zero_le _) (by unfold sr_fuel; omega)
  rw [nI_0] at this
  exact this
theorem gdf_sp (hL : L ≤ 4096) (hA : AM Tm) {lf lp : Int32} {Pl Me Fi Nx Fn Am : Nat → Int32} {lc : Int32} (hl : LC lc) (hf : PS Fi) (hm : AS Am) (p v : Int32) : SP (m_X4_isGoodField lf lp T Sd In Tn Tm (nI L) Pl Me Fi Nx Fn Am lc p v) (fun r => b01 r.1) := by
  unfold m_X4_isGoodField m_X4_isGoodField_76
  simp only [m_X4_refuse, Option.bind_some, true_or, if_true]
  exact SP.bind (iso_sp hL _) (fun _ _ => SP.ite (fun _ => SP.ok (Or.inl rfl)) (fun _ => SP.bind (mbr_sp hL hA (by decide) _) (fun _ _ => SP.bind (iss_sp hL _) (fun _ _ => SP.ite (fun _ => SP.ok (Or.inl rfl)) (fun _ => SP.bind (sanm_sp hL hA _) (fun _ _ => SP.ite (fun _ => SP.ok (Or.inl rfl)) (fun _ => SP.bind (hfl_sp hA hm hf hl _ _) (fun _ _ => SP.ite (fun _ => SP.bind (mbr_sp hL hA (by decide) _) (fun _ _ => SP.ite (fun _ => SP.ok (Or.inl rfl)) (fun _ => SP.ok (Or.inr rfl)))) (fun _ => SP.ok (Or.inl rfl))))))))))
end CLK
end
