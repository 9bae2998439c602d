-- the reference's reading of a text, whole
theorem ov_0 {α : Type} {f g : Nat → α} : ov 0 f g = g := funext fun _ => if_neg (Nat.not_lt_zero _)
theorem ow_6 {α : Type} {f g : Nat → α} : ow 6 f g = g := funext fun _ => if_neg (fun h => by omega)
abbrev TR : Type := Int32 × Int32 × Int32 × Int32 × Int32 × Int32 × (Nat → Int32) × (Nat → Int32) × (Nat → Int64) × (Nat → Int32) × (Nat → Int32) × (Nat → Int32) × (Nat → Int32) × Int32 × Int32 × Int32 × (Nat → Int32) × (Nat → Int32) × (Nat → Int32) × (Nat → Int32) × (Nat → Int32) × (Nat → Int32) × Int32 × (Nat → Int32) × (Nat → Int32) × (Nat → Int32) × (Nat → Int32) × Int32 × (Nat → Int32) × Int32
def fpR : TR → Int32 × Int32 := fun u => (u.2.2.1, u.2.2.2.1)
/-- what is known of a text that has been read: its rows, its shapes, its plain form's length -/
def txtOK (n l sh kc : Nat) (K : Nat → Int32) (N : Nat → Int64) (S : Nat → Int32) (So Na Wi Ki kS kN kX : Nat → Int32) (root w : Nat) : Prop :=
  n ≤ 4200 ∧ l ≤ 4200 ∧ 6 ≤ sh ∧ sh ≤ 134 ∧ kc ≤ 2100 ∧ shOK (strN K N S n l) So Na sh ∧ Occ (strN K N S n l) So Na Wi Ki kS kN kX 16 root 6 sh 0 kc w ∧ w ≤ 4096
theorem r59 {K F S I X Lt : Nat → Int32} {N : Nat → Int64} {n l : Nat} {So Na Wi Ki Ma Fa kS kN kD kX Fi B : Nat → Int32} {L a e sh lk kc dn root w : Nat} (hT : txtOK n l sh kc K N S So Na Wi Ki kS kN kX root w) (hpre : preS (strN K N S n l) (valN K F N S I X n l) sh lk kc dn So Na kD Fi kS) : ∀ (fuel i : Nat), i ≤ dn → dn - i < fuel →
    RES (fun g => m_X9_readAll_59 (ov L B (g.1 6)) (nI L) fuel (nI a) (nI 0) 0 (-1) (nI e) (nI n) (ov n K (g.1 0)) (ov n F (g.1 1)) (ov n N g.2) (ov n S (g.1 2)) (ov n I (g.1 3)) (ov n X (g.1 4)) (ov l Lt (g.1 5)) (nI l) (nI sh) (nI lk) (ov sh So (g.1 7)) (ov sh Na (g.1 8)) (ow sh Wi (g.1 9)) (ov sh Ki (g.1 10)) (ow sh Ma (g.1 11)) (ow sh Fa (g.1 12)) (nI kc) (ov kc kS (g.1 13)) (ov kc kN (g.1 14)) (ov kc kD (g.1 15)) (ov kc kX (g.1 16)) (nI dn) (ov dn Fi (g.1 17)) (nI root) (nI i)) fpR (fun (_ : Unit) u => u = fun g => (nI a, nI 0, 0, -1, nI e, nI n, ov n K (g.1 0), ov n F (g.1 1), ov n N g.2, ov n S (g.1 2), ov n I (g.1 3), ov n X (g.1 4), ov l Lt (g.1 5), nI l, nI sh, nI lk, ov sh So (g.1 7), ov sh Na (g.1 8), ow sh Wi (g.1 9), ov sh Ki (g.1 10), ow sh Ma (g.1 11), ow sh Fa (g.1 12), nI kc, ov kc kS (g.1 13), ov kc kN (g.1 14), ov kc kD (g.1 15), ov kc kX (g.1 16), nI dn, ov dn Fi (g.1 17), nI root)) := by
  obtain ⟨hn, hl, h6, hsh, hkc, hshOK, hocc, hw⟩ := hT
  obtain ⟨p1, p2, p3, p4, p5, p6, p7⟩ := hpre
  intro fuel
  induction fuel with
  | zero => intro i _ hf; exact absurd hf (Nat.not_lt_zero _)
  | succ fuel ih =>
    intro i hi hf
    by_cases hc : dn ≤ i
    · simp only [m_X9_readAll_59, if_pos (nI_le hc (show i < 2 ^ 31 by omega))]
      exact RES.ok rfl
    · obtain ⟨k, t, k1, k2, k3, k4⟩ := p7 i (by omega)
      have ih1 := ih (i + 1) (by omega) (by omega)
      simp only [m_X9_readAll_59, if_neg (nI_ge (show i < dn by omega) (by omega)), bd_go (show i < 2200 by omega) (by decide), bd_gc (show i < 2200 by omega) (by decide), nI_clamp (show i < 2 ^ 31 by omega), ov_lt (show i < dn by omega), k2, bd_go (show k < 2200 by omega) (by decide), bd_gc (show k < 2200 by omega) (by decide), nI_clamp (show k < 2 ^ 31 by omega), ov_lt k1, k3, nI_1]
      rcases p6 k k1 with hd | ⟨x, hd, hv, m, p, q, hhv, hm, hpq, hV⟩
      · simp only [hd, if_pos (show (-1 : Int32) < 0 by decide)]
        exact ih1
      · have hx := hV.basic.1
        simp only [hd, if_neg (nI_pos (show x < 2 ^ 31 by omega))]
        refine RES.try (fit_ok (Na := Na) hn hl (by omega) (by omega) hshOK.1 (fun s s6 hs => ?_) 60 hv x m p q t 0 (-1) hm (by omega) hV k4 ?_) ?_ (fun g u => rfl)
        · obtain ⟨h', c2, a', b', w', -, r2, r3, r4, r5, r6⟩ := Occ.all 16 root 6 sh 0 kc w hocc s s6 hs
          exact ⟨h', c2, a', b', w', r2, r3, r5, r6⟩
        · split <;> omega
        · rintro _ _ rfl
          exact ih1
theorem readAll_ok (B : Nat → Int32) {L : Nat} (hL : L ≤ 4096) (e0 r0 : Gs → Int32) : RES (fun g => m_X9_readAll (ov L B (g.1 6)) (nI L) (nI 0) (nI 0) 0 (-1) (e0 g) (nI 0) (g.1 0) (g.1 1) g.2 (g.1 2) (g.1 3) (g.1 4) (g.1 5) (nI 0) (nI 6) (nI 0) (ov 6 (fun s => nI s) (g.1 7)) (ov 6 (fun _ => -1) (g.1 8)) (g.1 9) (ov 6 (fun _ => -1) (g.1 10)) (g.1 11) (g.1 12) (nI 0) (g.1 13) (g.1 14) (g.1 15) (g.1 16) (nI 0) (g.1 17) (r0 g)) fpR
    (fun (_ : Unit) u => ∃ (a e n l sh lk kc dn root w : Nat) (K F : Nat → Int32) (N : Nat → Int64) (S I X Lt So Na Wi Ki Ma Fa kS kN kD kX Fi : Nat → Int32), txtOK n l sh kc K N S So Na Wi Ki kS kN kX root w ∧ u = fun g => (nI a, nI 0, 0, -1, nI e, nI n, ov n K (g.1 0), ov n F (g.1 1), ov n N g.2, ov n S (g.1 2), ov n I (g.1 3), ov n X (g.1 4), ov l Lt (g.1 5), nI l, nI sh, nI lk, ov sh So (g.1 7), ov sh Na (g.1 8), ow sh Wi (g.1 9), ov sh Ki (g.1 10), ow sh Ma (g.1 11), ow sh Fa (g.1 12), nI kc, ov kc kS (g.1 13), ov kc kN (g.1 14), ov kc kD (g.1 15), ov kc kX (g.1 16), nI dn, ov dn Fi (g.1 17), nI root)) := by
  obtain ⟨a, ha1, ha2, ha3⟩ := blanks_ok B hL (Nat.zero_le L)
  simp only [m_X9_readAll, ha3, Option.bind_some]
  have hval := val_ok (B := B) hL 27 0 (by omega) (by omega) a 0 0 (fun _ => 0) (fun _ => 0) (fun _ => 0) (fun _ => 0) (fun _ => 0) (fun _ => 0) (fun _ => 0) 0 (-1) ha2 (Nat.zero_le _) (Nat.zero_le _)
  simp only [ov_0] at hval
  refine RES.try hval ?_ (fun g u => rfl)
  rintro _ _ ⟨b, n, l, K, F, N, S, I, X, Lt, rfl, rfl, h1, h2, h4, h5, h6, -, -, hXn, hVal⟩
  dsimp only
  obtain ⟨b2, hb1, hb2, hb3⟩ := blanks_ok B hL h2
  have hn : n ≤ 4200 := by omega
  have hl : l ≤ 4200 := by omega
  simp only [hb3, Option.bind_some, m_X9_readAll_38, need_0, need_1, try_e, try_o]
  refine RES.ite (fun _ => ?_) (fun _ => RES.er (fun g => rfl))
  have hsch := sch_ok (Lt := Lt) hn hl 18 0 (by omega) (by omega) (24 - 0) 0 n a b 6 0 0 0 (fun s => nI s) (fun _ => -1) (fun _ => 0) (fun _ => -1) (fun _ => 0) (fun _ => 0) (fun _ => 0) (fun _ => 0) (fun _ => 0) (fun _ => 0) (fun _ => 0) 0 (-1) 0 (by omega) (Nat.le_refl _) hVal ⟨Nat.le_refl _, by omega, by omega, Nat.le_refl _, ⟨fun s _ => rfl, fun s s6 hs => absurd hs (by omega)⟩, fun k hk => absurd hk (Nat.not_lt_zero _), fun i hi => absurd hi (Nat.not_lt_zero _)⟩ (by omega) (Or.inl rfl)
  simp only [ov_0, ow_6] at hsch
  refine RES.try hsch ?_ (fun g u => rfl)
  rintro _ _ ⟨root, sh, lk, kc, dn, w, So, Na, Wi, Ki, Ma, Fa, kS, kN, kD, kX, Fi, rfl, rfl, r1, r2, r3, r4, r5, hpre, r7, hocc, hw, -⟩
  dsimp only
  have hT : txtOK n l sh kc K N S So Na Wi Ki kS kN kX root w := ⟨hn, hl, r1, by have := hpre.2.1; have := hpre.2.2.1; omega, by omega, hpre.2.2.2.2.1, hocc, by omega⟩
  refine (r59 hT hpre sr_fuel 0 (Nat.zero_le _) (by have := hpre.2.2.2.1; unfold sr_fuel; omega)).mono ?_
  rintro _ _ rfl
  exact ⟨b2, b, n, l, sh, lk, kc, dn, root, w, K, F, N, S, I, X, Lt, So, Na, Wi, Ki, Ma, Fa, kS, kN, kD, kX, Fi, hT, rfl⟩
theorem r3 {tB tK tF tS tI tX tL tSo tNa tWi tKi tMa tFa tkS tkN tkD tkX tFi tPn tTo row : Nat → Int32} {tN : Nat → Int64} {tLen tAt tDe tFl tPl tEn tNo tLd tSh tLk tKc tDn tRo tPs : Int32} {B : Nat → Int32} {rn st L : Nat} (hL : L ≤ 4096) (hrn : st + L ≤ rn) (hrn2 : rn < 2 ^ 31) (hB : ∀ i, i < L → vp_nar .byte (row (st + i)) = B i) : ∀ (fuel i : Nat), i ≤ L → L - i < fuel →
    m_X9_read_3 rn row fuel (ov i B tB) tLen tAt tDe tFl tPl tEn tNo tK tF tN tS tI tX tL tLd tSh tLk tSo tNa tWi tKi tMa tFa tKc tkS tkN tkD tkX tDn tFi tRo tPn tPs tTo (nI st) (nI L) (nI i) = m_X9_read_62 rn row sr_fuel (ov L B tB) (nI L) 0 0 tFl tPl tEn 0 tK tF tN tS tI tX tL 0 6 tLk tSo tNa tWi tKi tMa tFa tKc tkS tkN tkD tkX tDn tFi tRo tPn tPs tTo 0 := by
  intro fuel
  induction fuel with
  | zero => intro i _ hf; exact absurd hf (Nat.not_lt_zero _)
  | succ fuel ih =>
    intro i hi hf
    by_cases hc : L ≤ i
    · have : i = L := by omega
      subst this
      simp only [m_X9_read_3, if_pos (nI_le hc (show i < 2 ^ 31 by omega))]
    · have hup : upd (ov i B tB) i (B i) = ov (i + 1) B tB := by
        rw [ov_push]
        have : upd B i (B i) = B := upd_self rfl
        rw [this]
      simp only [m_X9_read_3, if_neg (nI_ge (show i < L by omega) (by omega)), nI_add, bd_go (show st + i < rn by omega) hrn2, bd_gc (show st + i < rn by omega) hrn2, nI_clamp (show st + i < 2 ^ 31 by omega), hB i (by omega), bd_go (show i < 4096 by omega) (by decide), bd_gc (show i < 4096 by omega) (by decide), nI_clamp (show i < 2 ^ 31 by omega), hup, nI_1]
      exact ih (i + 1) (by omega) (by omega)
theorem r62 {tB tK tF tS tI tX tL tSo tNa tWi tKi tMa tFa tkS tkN tkD tkX tFi tPn tTo row : Nat → Int32} {tN : Nat → Int64} {tLen tAt tDe tFl tPl tEn tNo tLd tSh tLk tKc tDn tRo tPs : Int32} {rn : Nat} : ∀ (fuel i : Nat), i ≤ 6 → 6 - i < fuel →
    m_X9_read_62 rn row fuel tB tLen tAt tDe tFl tPl tEn tNo tK tF tN tS tI tX tL tLd tSh tLk (ov i (fun s => nI s) tSo) (ov i (fun _ => -1) tNa) tWi (ov i (fun _ => -1) tKi) tMa tFa tKc tkS tkN tkD tkX tDn tFi tRo tPn tPs tTo (nI i) = m_X9_read_62 rn row 1 tB tLen tAt tDe tFl tPl tEn tNo tK tF tN tS tI tX tL tLd tSh tLk (ov 6 (fun s => nI s) tSo) (ov 6 (fun _ => -1) tNa) tWi (ov 6 (fun _ => -1) tKi) tMa tFa tKc tkS tkN tkD tkX tDn tFi tRo tPn tPs tTo (nI 6) := by
  intro fuel
  induction fuel with
  | zero => intro i _ hf; exact absurd hf (Nat.not_lt_zero _)
  | succ fuel ih =>
    intro i hi hf
    by_cases hc : 6 ≤ i
    · have : i = 6 := by omega
      subst this
      simp only [m_X9_read_62, if_pos (show (6 : Int32) ≤ nI 6 from nI_le (a := 6) (by omega) (by omega))]
    · have h1 : upd (ov i (fun s => nI s) tSo) i (nI i) = ov (i + 1) (fun s => nI s) tSo := by
        rw [ov_push, upd_self (f := fun s => nI s) rfl]
      have h2 : ∀ t : Nat → Int32, upd (ov i (fun _ => -1) t) i (-1) = ov (i + 1) (fun _ => -1) t := fun t => by
        rw [ov_push, upd_self (f := fun _ => -1) rfl]
      rw [← ih (i + 1) (by omega) (by omega)]
      rw [show m_X9_read_62 rn row (fuel + 1) tB tLen tAt tDe tFl tPl tEn tNo tK tF tN tS tI tX tL tLd tSh tLk (ov i (fun s => nI s) tSo) (ov i (fun _ => -1) tNa) tWi (ov i (fun _ => -1) tKi) tMa tFa tKc tkS tkN tkD tkX tDn tFi tRo tPn tPs tTo (nI i) = m_X9_read_62 rn row fuel tB tLen tAt tDe tFl tPl tEn tNo tK tF tN tS tI tX tL tLd tSh tLk (upd (ov i (fun s => nI s) tSo) i (nI i)) (upd (ov i (fun _ => -1) tNa) i (-1)) tWi (upd (ov i (fun _ => -1) tKi) i (-1)) tMa tFa tKc tkS tkN tkD tkX tDn tFi tRo tPn tPs tTo (nI i + 1) by
        rw [m_X9_read_62]
        simp only [if_neg (show ¬ (6 : Int32) ≤ nI i from nI_ge (b := 6) (by omega) (by omega)), bd_go (show i < 140 by omega) (by decide), bd_gc (show i < 140 by omega) (by decide), nI_clamp (show i < 2 ^ 31 by omega)]]
      rw [h1, h2, h2, nI_1]
theorem r147 {tB tK tF tS tI tX tL tSo tNa tWi tKi tMa tFa tkS tkN tkD tkX tFi tPn tTo row : Nat → Int32} {tN : Nat → Int64} {tLen tAt tDe tFl tPl tEn tNo tLd tSh tLk tKc tDn tRo tPs : Int32} {rn sh : Nat} (hsh : sh ≤ 140) (hS : tSh = nI sh) : ∀ (fuel i : Nat), i ≤ sh → sh - i < fuel →
    m_X9_read_147 rn row fuel tB tLen tAt tDe tFl tPl tEn tNo tK tF tN tS tI tX tL tLd tSh tLk tSo tNa tWi tKi tMa tFa tKc tkS tkN tkD tkX tDn tFi tRo tPn tPs (ov i (fun _ => 0) tTo) (nI i) = m_X9_read_147 rn row 1 tB tLen tAt tDe tFl tPl tEn tNo tK tF tN tS tI tX tL tLd tSh tLk tSo tNa tWi tKi tMa tFa tKc tkS tkN tkD tkX tDn tFi tRo tPn tPs (ov sh (fun _ => 0) tTo) (nI sh) := by
  subst hS
  have e0 : vp_nar .boolean 0 = 0 := by decide +kernel
  intro fuel
  induction fuel with
  | zero => intro i _ hf; exact absurd hf (Nat.not_lt_zero _)
  | succ fuel ih =>
    intro i hi hf
    by_cases hc : sh ≤ i
    · have : i = sh := by omega
      subst this
      simp only [m_X9_read_147, if_pos (nI_le (Nat.le_refl i) (show i < 2 ^ 31 by omega))]
    · have h2 : upd (ov i (fun _ => (0 : Int32)) tTo) i 0 = ov (i + 1) (fun _ => 0) tTo := by
        rw [ov_push, upd_self (f := fun _ => (0 : Int32)) rfl]
      rw [← ih (i + 1) (by omega) (by omega)]
      rw [show m_X9_read_147 rn row (fuel + 1) tB tLen tAt tDe tFl tPl tEn tNo tK tF tN tS tI tX tL tLd (nI sh) tLk tSo tNa tWi tKi tMa tFa tKc tkS tkN tkD tkX tDn tFi tRo tPn tPs (ov i (fun _ => 0) tTo) (nI i) = m_X9_read_147 rn row fuel tB tLen tAt tDe tFl tPl tEn tNo tK tF tN tS tI tX tL tLd (nI sh) tLk tSo tNa tWi tKi tMa tFa tKc tkS tkN tkD tkX tDn tFi tRo tPn tPs (upd (ov i (fun _ => 0) tTo) i 0) (nI i + 1) by
        rw [m_X9_read_147]
        simp only [if_neg (nI_ge (show i < sh by omega) (by omega)), bd_go (show i < 140 by omega) (by decide), bd_gc (show i < 140 by omega) (by decide), nI_clamp (show i < 2 ^ 31 by omega), e0]]
      rw [h2, nI_1]
/-- what one text is read as: all in it that later calls look at hangs on its bytes alone -/
def rdOK (B : Nat → Int32) (L : Nat) (a e n l sh lk kc dn root w : Nat) (K F : Nat → Int32) (N : Nat → Int64) (S I X Lt So Na Wi Ki Ma Fa kS kN kD kX Fi Pl To : Nat → Int32) : Prop :=
  txtOK n l sh kc K N S So Na Wi Ki kS kN kX root w ∧
  ∀ (tB tK tF tS tI tX tL tSo tNa tWi tKi tMa tFa tkS tkN tkD tkX tFi tPn tTo row : Nat → Int32) (tN : Nat → Int64) (tLen tAt tDe tFl tPl tEn tNo tLd tSh tLk tKc tDn tRo tPs : Int32) (rn st : Nat), st + L ≤ rn → rn < 2 ^ 31 → (∀ i, i < L → vp_nar .byte (row (st + i)) = B i) →
    m_X9_read tB tLen tAt tDe tFl tPl tEn tNo tK tF tN tS tI tX tL tLd tSh tLk tSo tNa tWi tKi tMa tFa tKc tkS tkN tkD tkX tDn tFi tRo tPn tPs tTo row rn (nI st) (nI L) = some (0, (ov L B tB, nI L, nI a, 0, 0, -1, nI e, nI n, ov n K tK, ov n F tF, ov n N tN, ov n S tS, ov n I tI, ov n X tX, ov l Lt tL, nI l, nI sh, nI lk, ov sh So tSo, ov sh Na tNa, ow sh Wi tWi, ov sh Ki tKi, ow sh Ma tMa, ow sh Fa tFa, nI kc, ov kc kS tkS, ov kc kN tkN, ov kc kD tkD, ov kc kX tkX, nI dn, ov dn Fi tFi, nI root, ov w Pl tPn, nI w, ov sh To tTo))
/-- a text with a fault -/
def rdBad (B : Nat → Int32) (L : Nat) (c p : Int32) : Prop :=
  c ≠ 0 ∧ ∀ (tB tK tF tS tI tX tL tSo tNa tWi tKi tMa tFa tkS tkN tkD tkX tFi tPn tTo row : Nat → Int32) (tN : Nat → Int64) (tLen tAt tDe tFl tPl tEn tNo tLd tSh tLk tKc tDn tRo tPs : Int32) (rn st : Nat), st + L ≤ rn → rn < 2 ^ 31 → (∀ i, i < L → vp_nar .byte (row (st + i)) = B i) →
    ∃ u, m_X9_read tB tLen tAt tDe tFl tPl tEn tNo tK tF tN tS tI tX tL tLd tSh tLk tSo tNa tWi tKi tMa tFa tKc tkS tkN tkD tkX tDn tFi tRo tPn tPs tTo row rn (nI st) (nI L) = some (c, u) ∧ u.1 = ov L B tB ∧ u.2.1 = nI L ∧ u.2.2.2.2.2.1 = p
theorem nI_6 : nI 6 = 6 := by decide +kernel
theorem read_out (B : Nat → Int32) {L : Nat} (hL : L ≤ 4096) : (∃ (a e n l sh lk kc dn root w : Nat) (K F : Nat → Int32) (N : Nat → Int64) (S I X Lt So Na Wi Ki Ma Fa kS kN kD kX Fi Pl To : Nat → Int32), rdOK B L a e n l sh lk kc dn root w K F N S I X Lt So Na Wi Ki Ma Fa kS kN kD kX Fi Pl To) ∨ (∃ c p, rdBad B L c p) := by
  rcases readAll_ok B hL (fun g => g.1 20 0) (fun g => g.1 21 0) with ⟨_, _, ⟨a, e, n, l, sh, lk, kc, dn, root, w, K, F, N, S, I, X, Lt, So, Na, Wi, Ki, Ma, Fa, kS, kN, kD, kX, Fi, hT, rfl⟩, hok⟩ | ⟨⟨c, p⟩, hc, hbad⟩
  · obtain ⟨hn, hl, h6, hsh, hkc, hshOK, hocc, hw⟩ := id hT
    obtain ⟨_, ⟨Pl, To, rfl, -⟩, hwr⟩ := wri_ok (Lt := Lt) hn hl (show sh ≤ 140 by omega) (show kc ≤ 2200 by omega) hshOK.1 40 16 (by omega) root 6 sh 0 kc w 0 (fun _ => 0) (fun _ => 0) (Nat.le_refl _) (Nat.le_refl _) (Nat.le_refl _) hocc (by omega) (fun x x6 _ _ => by rw [if_neg (by omega)])
    refine Or.inl ⟨a, e, n, l, sh, lk, kc, dn, root, w, K, F, N, S, I, X, Lt, So, Na, Wi, Ki, Ma, Fa, kS, kN, kD, kX, Fi, Pl, To, hT, ?_⟩
    intro tB tK tF tS tI tX tL tSo tNa tWi tKi tMa tFa tkS tkN tkD tkX tFi tPn tTo row tN tLen tAt tDe tFl tPl tEn tNo tLd tSh tLk tKc tDn tRo tPs rn st hrn hrn2 hB
    have g1 := hok (fun j => match j with | 0 => tK | 1 => tF | 2 => tS | 3 => tI | 4 => tX | 5 => tL | 6 => tB | 7 => tSo | 8 => tNa | 9 => tWi | 10 => tKi | 11 => tMa | 12 => tFa | 13 => tkS | 14 => tkN | 15 => tkD | 16 => tkX | 17 => tFi | 18 => tPn | 19 => tTo | 20 => fun _ => tEn | _ => fun _ => tRo, tN)
    have g2 := hwr (fun j => match j with | 0 => tK | 1 => tF | 2 => tS | 3 => tI | 4 => tX | 5 => tL | 6 => tB | 7 => tSo | 8 => tNa | 9 => tWi | 10 => tKi | 11 => tMa | 12 => tFa | 13 => tkS | 14 => tkN | 15 => tkD | 16 => tkX | 17 => tFi | 18 => tPn | 19 => tTo | 20 => fun _ => tEn | _ => fun _ => tRo, tN)
    dsimp only at g1 g2
    simp only [nI_0, nI_6] at g1
    simp only [ov_0, nI_0, Nat.zero_add] at g2
    have s1 := r3 (tB := tB) (tK := tK) (tF := tF) (tS := tS) (tI := tI) (tX := tX) (tL := tL) (tSo := tSo) (tNa := tNa) (tWi := tWi) (tKi := tKi) (tMa := tMa) (tFa := tFa) (tkS := tkS) (tkN := tkN) (tkD := tkD) (tkX := tkX) (tFi := tFi) (tPn := tPn) (tTo := tTo) (row := row) (tN := tN) (tLen := tLen) (tAt := tAt) (tDe := tDe) (tFl := tFl) (tPl := tPl) (tEn := tEn) (tNo := tNo) (tLd := tLd) (tSh := tSh) (tLk := tLk) (tKc := tKc) (tDn := tDn) (tRo := tRo) (tPs := tPs) (B := B) (rn := rn) (st := st) hL hrn hrn2 hB sr_fuel 0 (Nat.zero_le _) (by unfold sr_fuel; omega)
    have s2 := r62 (tB := ov L B tB) (tK := tK) (tF := tF) (tS := tS) (tI := tI) (tX := tX) (tL := tL) (tSo := tSo) (tNa := tNa) (tWi := tWi) (tKi := tKi) (tMa := tMa) (tFa := tFa) (tkS := tkS) (tkN := tkN) (tkD := tkD) (tkX := tkX) (tFi := tFi) (tPn := tPn) (tTo := tTo) (row := row) (tN := tN) (tLen := nI L) (tAt := 0) (tDe := 0) (tFl := tFl) (tPl := tPl) (tEn := tEn) (tNo := 0) (tLd := 0) (tSh := 6) (tLk := tLk) (tKc := tKc) (tDn := tDn) (tRo := tRo) (tPs := tPs) (rn := rn) sr_fuel 0 (Nat.zero_le _) (by unfold sr_fuel; omega)
    simp only [ov_0, nI_0, nI_6] at s1 s2
    rw [m_X9_read, s1, s2]
    simp only [m_X9_read_62, if_pos (show (6 : Int32) ≤ 6 by decide), g1, mr_tc]
    have s3 := r147 (tB := ov L B tB) (tK := ov n K tK) (tF := ov n F tF) (tS := ov n S tS) (tI := ov n I tI) (tX := ov n X tX) (tL := ov l Lt tL) (tSo := ov sh So tSo) (tNa := ov sh Na tNa) (tWi := ow sh Wi tWi) (tKi := ov sh Ki tKi) (tMa := ow sh Ma tMa) (tFa := ow sh Fa tFa) (tkS := ov kc kS tkS) (tkN := ov kc kN tkN) (tkD := ov kc kD tkD) (tkX := ov kc kX tkX) (tFi := ov dn Fi tFi) (tPn := tPn) (tTo := tTo) (row := row) (tN := ov n N tN) (tLen := nI L) (tAt := nI a) (tDe := 0) (tFl := 0) (tPl := -1) (tEn := nI e) (tNo := nI n) (tLd := nI l) (tSh := nI sh) (tLk := nI lk) (tKc := nI kc) (tDn := nI dn) (tRo := nI root) (tPs := 0) (rn := rn) (sh := sh) (by omega) rfl sr_fuel 0 (Nat.zero_le _) (by unfold sr_fuel; omega)
    simp only [ov_0, nI_0] at s3
    rw [s3]
    simp only [m_X9_read_147, if_pos (nI_le (Nat.le_refl sh) (show sh < 2 ^ 31 by omega)), g2, Option.bind_some]
  · refine Or.inr ⟨c, p, hc, ?_⟩
    intro tB tK tF tS tI tX tL tSo tNa tWi tKi tMa tFa tkS tkN tkD tkX tFi tPn tTo row tN tLen tAt tDe tFl tPl tEn tNo tLd tSh tLk tKc tDn tRo tPs rn st hrn hrn2 hB
    obtain ⟨u, g1, gfp⟩ := hbad (fun j => match j with | 0 => tK | 1 => tF | 2 => tS | 3 => tI | 4 => tX | 5 => tL | 6 => tB | 7 => tSo | 8 => tNa | 9 => tWi | 10 => tKi | 11 => tMa | 12 => tFa | 13 => tkS | 14 => tkN | 15 => tkD | 16 => tkX | 17 => tFi | 18 => tPn | 19 => tTo | 20 => fun _ => tEn | _ => fun _ => tRo, tN)
    dsimp only at g1
    simp only [nI_0, nI_6] at g1
    have s1 := r3 (tB := tB) (tK := tK) (tF := tF) (tS := tS) (tI := tI) (tX := tX) (tL := tL) (tSo := tSo) (tNa := tNa) (tWi := tWi) (tKi := tKi) (tMa := tMa) (tFa := tFa) (tkS := tkS) (tkN := tkN) (tkD := tkD) (tkX := tkX) (tFi := tFi) (tPn := tPn) (tTo := tTo) (row := row) (tN := tN) (tLen := tLen) (tAt := tAt) (tDe := tDe) (tFl := tFl) (tPl := tPl) (tEn := tEn) (tNo := tNo) (tLd := tLd) (tSh := tSh) (tLk := tLk) (tKc := tKc) (tDn := tDn) (tRo := tRo) (tPs := tPs) (B := B) (rn := rn) (st := st) hL hrn hrn2 hB sr_fuel 0 (Nat.zero_le _) (by unfold sr_fuel; omega)
    have s2 := r62 (tB := ov L B tB) (tK := tK) (tF := tF) (tS := tS) (tI := tI) (tX := tX) (tL := tL) (tSo := tSo) (tNa := tNa) (tWi := tWi) (tKi := tKi) (tMa := tMa) (tFa := tFa) (tkS := tkS) (tkN := tkN) (tkD := tkD) (tkX := tkX) (tFi := tFi) (tPn := tPn) (tTo := tTo) (row := row) (tN := tN) (tLen := nI L) (tAt := 0) (tDe := 0) (tFl := tFl) (tPl := tPl) (tEn := tEn) (tNo := 0) (tLd := 0) (tSh := 6) (tLk := tLk) (tKc := tKc) (tDn := tDn) (tRo := tRo) (tPs := tPs) (rn := rn) sr_fuel 0 (Nat.zero_le _) (by unfold sr_fuel; omega)
    simp only [ov_0, nI_0, nI_6] at s1 s2
    have hf1 : u.2.2.1 = c := congrArg Prod.fst gfp
    have hf2 : u.2.2.2.1 = p := congrArg Prod.snd gfp
    refine ⟨_, by
      rw [m_X9_read, s1, s2]
      simp only [m_X9_read_62, if_pos (show (6 : Int32) ≤ 6 by decide), g1, mr_tc]
      rw [hf1], rfl, rfl, hf2⟩
