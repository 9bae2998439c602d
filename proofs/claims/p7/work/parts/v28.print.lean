-- the print of a plain form, as both make it
def rnd (t : Int64) : Int64 := (((t : Int64).toUInt64 >>> ((1 : Int32).toInt64.toUInt64 &&& Int64.toUInt64 63)).toInt64) ^^^ (if lg_cmp (t &&& 1) 1 = 0 then -4513414715797952619 else 0)
def rnds : Nat → Int64 → Int64
  | 0, t => t
  | n + 1, t => rnds n (rnd t)
def lb (p : Int64) : Nat := p.toBitVec.toNat % 256
def tS (p : Int64) (b : Nat) : Int64 := (((p : Int64).toUInt64 >>> ((8 : Int32).toInt64.toUInt64 &&& Int64.toUInt64 63)).toInt64) ^^^ rnds 8 ((nI (lb p ^^^ b)).toInt64)
/-- what print() tells -/
def prT : Option LSt → Int64
  | none => 0
  | some st => st.2.2.2.1.foldl tS (-4513414715797952619)
/-- the class's table of steps -/
def PTB (ps : Nat → Int64) : Prop := ∀ i, i < 256 → ps i = rnds 8 ((nI i).toInt64)
theorem lb_lt (p : Int64) : lb p < 256 := Nat.mod_lt _ (by decide)
theorem lb_int (x : Int32) : lb x.toInt64 = bv x := by
  have h := x.toBitVec.isLt
  show (x.toBitVec.signExtend 64).toNat % 256 = x.toBitVec.toNat % 256
  rw [BitVec.toNat_signExtend, BitVec.toNat_setWidth]
  split <;> omega
theorem lb_trunc (p : Int64) : bv p.toInt32 = lb p := by
  have h := p.toBitVec.isLt
  show (p.toBitVec.signExtend 32).toNat % 256 = p.toBitVec.toNat % 256
  rw [BitVec.toNat_signExtend, BitVec.toNat_setWidth]
  split <;> omega
theorem lb_xor (p q : Int64) : lb (p ^^^ q) = lb p ^^^ lb q := by
  show (p.toBitVec ^^^ q.toBitVec).toNat % 256 = (p.toBitVec.toNat % 256) ^^^ (q.toBitVec.toNat % 256)
  rw [BitVec.toNat_xor]
  have h : (p.toBitVec.toNat ^^^ q.toBitVec.toNat) % 2 ^ 8 = (p.toBitVec.toNat % 2 ^ 8) ^^^ (q.toBitVec.toNat % 2 ^ 8) := Nat.xor_mod_two_pow
  exact h
theorem bv_nI : ∀ n, n < 256 → bv (nI n) = n := by decide +kernel
theorem lI_nat : ∀ n, n < 256 → (nI n).toInt64.toBitVec.toNat = n := by decide +kernel
theorem and64 (p : Int64) : p &&& 255 = (nI (lb p)).toInt64 := by
  apply Int64.toBitVec_inj.mp
  apply BitVec.eq_of_toNat_eq
  rw [lI_nat _ (lb_lt p)]
  show (p.toBitVec &&& 255#64).toNat = p.toBitVec.toNat % 256
  rw [BitVec.toNat_and]
  have h : p.toBitVec.toNat &&& (2 ^ 8 - 1) = p.toBitVec.toNat % 2 ^ 8 := Nat.and_two_pow_sub_one_eq_mod _ 8
  exact h
theorem lbx_lt (p : Int64) {b : Nat} (hb : b < 256) : lb p ^^^ b < 256 := by
  have h : lb p ^^^ b < 2 ^ 8 := Nat.xor_lt_two_pow (show lb p < 2 ^ 8 from lb_lt p) (show b < 2 ^ 8 from hb)
  exact h
section PRN
variable {ps : Nat → Int64} {Pl : Nat → Int32} {pl : List Nat}
theorem pst_t (x : Int32) : m_X8_printStep x = some (rnds 8 x.toInt64) := by
  have go : ∀ (fuel j : Nat) (x1 : Int64), j ≤ 8 → 8 - j < fuel → m_X8_printStep_5 fuel x1 (nI j) = some (rnds (8 - j) x1) := by
    intro fuel
    induction fuel with
    | zero => intro j x1 _ hf; exact absurd hf (Nat.not_lt_zero _)
    | succ fuel ih =>
      intro j x1 hj hf
      simp only [m_X8_printStep_5, m_X8_printStep_24, nI_1, if_true, if_neg (show ¬ (1 : Int32) = 0 by decide)]
      by_cases hc : 8 ≤ j
      · have e : j = 8 := by omega
        subst e
        rw [if_pos (show (8 : Int32) ≤ nI 8 by decide)]
        rfl
      · rw [if_neg (show ¬ (8 : Int32) ≤ nI j from nI_ge (b := 8) (by omega) (by omega))]
        have e8 : 8 - j = (8 - (j + 1)) + 1 := by omega
        rw [e8]
        show _ = some (rnds (8 - (j + 1)) (rnd x1))
        by_cases h1 : lg_cmp (x1 &&& 1) 1 = 0
        · rw [if_pos h1, ih (j + 1) _ (by omega) (by omega)]
          unfold rnd
          rw [if_pos h1]
        · rw [if_neg h1, ih (j + 1) _ (by omega) (by omega)]
          unfold rnd
          rw [if_neg h1, Int64.xor_zero]
  unfold m_X8_printStep
  have := go sr_fuel 0 x.toInt64 (Nat.zero_le _) (by unfold sr_fuel; omega)
  rw [nI_0] at this
  exact this
theorem i35_t (f : Nat → Int64) : SP (m_X8_init_35 sr_fuel f 0) PTB := by
  have go : ∀ (fuel j : Nat) (f : Nat → Int64), j ≤ 256 → 256 - j < fuel → (∀ i, i < j → f i = rnds 8 ((nI i).toInt64)) → SP (m_X8_init_35 fuel f (nI j)) PTB := by
    intro fuel
    induction fuel with
    | zero => intro j f _ hf; exact absurd hf (Nat.not_lt_zero _)
    | succ fuel ih =>
      intro j f hj hf h
      simp only [m_X8_init_35, nI_1, pst_t, Option.bind_some]
      refine SP.ite (fun hc => SP.ok (fun i hi => h i ?_)) (fun hc => ?_)
      · apply Nat.lt_of_not_le
        intro q
        exact nI_ge (a := j) (b := 256) (by omega) (by omega) hc
      · have hlt : j < 256 := Nat.lt_of_not_le (fun q => hc (nI_le (a := 256) q (by omega)))
        rw [bd_go hlt (by decide), nI_clamp (show j < 2 ^ 31 by omega)]
        refine ih (j + 1) _ (by omega) (by omega) (fun i hi => ?_)
        by_cases e : i = j
        · subst e
          exact if_pos rfl
        · exact (show vp_updL f j _ i = f i from if_neg e).trans (h i (by omega))
  have := go sr_fuel 0 f (Nat.zero_le _) (by unfold sr_fuel; omega) (fun i hi => absurd hi (Nat.not_lt_zero _))
  rw [nI_0] at this
  exact this
theorem cpr_go (hps : PTB ps) (hl : pl.length ≤ 4096) (hP : PLI Pl pl) (xh : Int32) : ∀ (fuel j : Nat) (p : Int64), j ≤ pl.length → pl.length - j < fuel → m_X8_print_15 ps xh Pl (nI pl.length) fuel p (nI j) = some ((pl.drop j).foldl tS p) := by
  intro fuel
  induction fuel with
  | zero => intro j p _ hf; exact absurd hf (Nat.not_lt_zero _)
  | succ fuel ih =>
    intro j p hj hf
    simp only [m_X8_print_15, m_X6_letterCount, Option.bind_some, nI_1]
    by_cases hc : pl.length ≤ j
    · rw [if_pos (nI_le hc (by omega)), List.drop_eq_nil_of_le hc]
      rfl
    · have hlt : j < pl.length := by omega
      rw [if_neg (nI_ge hlt (by omega)), lat_eq hl (by omega), Option.bind_some, if_pos hlt]
      have e : ((p ^^^ (nI (bv (Pl j))).toInt64).toInt32 &&& 255) = nI (lb p ^^^ bv (Pl j)) := by
        rw [and_bv, lb_trunc, lb_xor, lb_int, bv_nI _ (bv_lt _)]
      have hx : lb p ^^^ bv (Pl j) < 256 := lbx_lt p (bv_lt _)
      rw [e, bd_go hx (by decide), nI_clamp (show lb p ^^^ bv (Pl j) < 2 ^ 31 by omega), hps _ hx]
      have e9 : pl[j] = bv (Pl j) := by rw [hP j hlt, ls_get hlt]
      rw [List.drop_eq_getElem_cons hlt, List.foldl_cons, e9]
      exact ih (j + 1) (tS p (bv (Pl j))) (by omega) (by omega)
theorem rpr_in {P : Nat → Int32} {n : Int32} {K : Int64 → Int32 → Option Int64} (x1 : Int64) (x3 : Int32) : ∀ (fuel j : Nat) (x4 : Int64), j ≤ 8 → 8 - j < fuel → m_X9_print_32 P n K fuel x1 x3 x4 (nI j) = K ((((x1 : Int64).toUInt64 >>> ((8 : Int32).toInt64.toUInt64 &&& Int64.toUInt64 63)).toInt64) ^^^ rnds (8 - j) x4) (x3 + 1) := by
  intro fuel
  induction fuel with
  | zero => intro j x4 _ hf; exact absurd hf (Nat.not_lt_zero _)
  | succ fuel ih =>
    intro j x4 hj hf
    simp only [m_X9_print_32]
    by_cases hc : 8 ≤ j
    · have e : j = 8 := by omega
      subst e
      rw [if_pos (show (8 : Int32) ≤ nI 8 by decide)]
      rfl
    · rw [if_neg (show ¬ (8 : Int32) ≤ nI j from nI_ge (b := 8) (by omega) (by omega)), nI_1]
      have e8 : 8 - j = (8 - (j + 1)) + 1 := by omega
      rw [e8]
      show _ = K (_ ^^^ rnds (8 - (j + 1)) (rnd x4)) (x3 + 1)
      by_cases h1 : lg_cmp (x4 &&& 1) 1 = 0
      · rw [if_pos h1, ih (j + 1) _ (by omega) (by omega)]
        unfold rnd
        rw [if_pos h1]
      · rw [if_neg h1, ih (j + 1) _ (by omega) (by omega)]
        unfold rnd
        rw [if_neg h1]
theorem rpr_go (hl : pl.length ≤ 4096) (hP : PLI Pl pl) : ∀ (fuel j : Nat) (p : Int64), j ≤ pl.length → pl.length - j < fuel → m_X9_print_6 Pl (nI pl.length) fuel p (nI j) = some ((pl.drop j).foldl tS p) := by
  intro fuel
  induction fuel with
  | zero => intro j p _ hf; exact absurd hf (Nat.not_lt_zero _)
  | succ fuel ih =>
    intro j p hj hf
    simp only [m_X9_print_6]
    by_cases hc : pl.length ≤ j
    · rw [if_pos (nI_le hc (by omega)), List.drop_eq_nil_of_le hc]
      rfl
    · have hlt : j < pl.length := by omega
      rw [if_neg (nI_ge hlt (by omega)), bd_go (show j < 4200 by omega) (by decide), nI_clamp (show j < 2 ^ 31 by omega)]
      have h0 := rpr_in (P := Pl) (n := nI pl.length) (K := m_X9_print_6 Pl (nI pl.length) fuel) p (nI j) sr_fuel 0 ((p ^^^ (Pl j).toInt64) &&& 255) (by omega) (by unfold sr_fuel; omega)
      rw [nI_0] at h0
      rw [h0, and64, lb_xor, lb_int, nI_1]
      have e9 : pl[j] = bv (Pl j) := by rw [hP j hlt, ls_get hlt]
      rw [List.drop_eq_getElem_cons hlt, List.foldl_cons, e9]
      exact ih (j + 1) (tS p (bv (Pl j))) (by omega) (by omega)
end PRN
section PRT
variable {o : Option LSt} {ps : Nat → Int64} {Pl Ki Me Fi Ne Na Fn Ac yb ypl : Nat → Int32} {lc sc xh mh yl yp : Int32}
theorem cpr_t (hps : PTB ps) (hO : xh = 0 ↔ o = none) (hC : CIx Pl Ki Me Fi Ne Na Fn Ac lc sc o) : m_X8_print ps xh Pl lc = some (prT o) := by
  unfold m_X8_print
  cases o with
  | none => rw [if_pos (hO.mpr rfl)]; rfl
  | some st =>
    rw [if_neg (fun h => (nomatch (hO.mp h)))]
    obtain ⟨Cf, Cs, cc, h⟩ := hC st rfl
    obtain ⟨k, sh, kc, pl, D, fi, G⟩ := st
    obtain ⟨i1, i2, i3, i4, i5, -⟩ := h
    subst i3
    have h0 := cpr_go hps i4 i5 xh sr_fuel 0 (-4513414715797952619) (by omega) (by unfold sr_fuel; omega)
    rw [nI_0, List.drop_zero] at h0
    exact h0
theorem mpr_t (hO : mh = 0 ↔ o = none) (hY : YO o yb yl ypl yp) (th : Int32) : m_X10_print th mh ypl yp = some (prT o, 0) := by
  unfold m_X10_print m_X9_print
  cases o with
  | none => rw [if_pos (hO.mpr rfl)]; rfl
  | some st =>
    rw [if_neg (fun h => (nomatch (hO.mp h)))]
    obtain ⟨hl, hp, hP, -⟩ := hY st rfl
    obtain ⟨k, sh, kc, pl, D, fi, G⟩ := st
    have hl : pl.length ≤ 4096 := hl
    have hp : yp = nI pl.length := hp
    have hP : PLI ypl pl := hP
    subst hp
    have h0 := rpr_go hl hP sr_fuel 0 (-4513414715797952619) (by omega) (by unfold sr_fuel; omega)
    rw [nI_0, List.drop_zero] at h0
    rw [h0]
    rfl
end PRT
