-- matches: what keep leaves, told; the class's matches
def upK (kst : Nat → Option LSt) (p : Nat) (o : Option LSt) : Nat → Option LSt := fun i => if i = p then o else kst i
theorem upK_s {kst : Nat → Option LSt} {p : Nat} {o : Option LSt} : upK kst p o p = o := if_pos rfl
theorem upK_n {kst : Nat → Option LSt} {p i : Nat} {o : Option LSt} (h : i ≠ p) : upK kst p o i = kst i := if_neg h
/-- what keep does with what is told -/
def ktM (has x : Int32) (kst : Nat → Option LSt) (o : Option LSt) (kst' : Nat → Option LSt) (o' : Option LSt) : Prop := (((∀ i, i < 8 → x ≠ nI i) ∨ has = 0) ∧ kst' = kst ∧ o' = o) ∨ ∃ p, p < 8 ∧ x = nI p ∧ ¬ has = 0 ∧ kst' = upK kst p o ∧ o' = none
section MKO
variable {kept sizes yb ypl : Nat → Int32} {kst kst' : Nat → Option LSt} {o o' : Option LSt} {has yl ps : Int32}
theorem mke_o (hO : has = 0 ↔ o = none) (hY : YO o yb yl ypl ps) (hK : KO kst kept sizes) (th x : Int32) (hk : ktM has x kst o kst' o') : SP (m_X10_keep th has kept sizes yb yl x) (fun r => KO kst' r.2.2.2.1 r.2.2.2.2) := by
  have n1 : ¬ (1 : Int32) = 0 := by decide
  rcases hk with ⟨hk, rfl, rfl⟩ | ⟨p, hp, rfl, hh, rfl, rfl⟩
  · have no : ∀ y0 : Int32, SP (m_X10_keep_25 yb yl th has kept sizes x y0 1) (fun r => KO kst' r.2.2.2.1 r.2.2.2.2) := by
      intro y0
      unfold m_X10_keep_25
      simp only [ref_1, Option.bind_some, if_neg n1]
      exact SP.ok hK
    have no2 : SP (m_X10_keep_25 yb yl th has kept sizes x 1 0) (fun r => KO kst' r.2.2.2.1 r.2.2.2.2) := by
      unfold m_X10_keep_25
      simp only [ref_2, Option.bind_some, if_neg n1]
      exact SP.ok hK
    unfold m_X10_keep m_X10_keep_13
    refine SP.bind (mpl_sp x) (fun r hr => SP.ite (fun _ => SP.ite (fun _ => no _) (fun _ => no _)) (fun h0 => SP.ite (fun _ => no2) (fun hh => ?_)))
    obtain ⟨-, p, hp, e⟩ := hr.resolve_left h0
    rcases hk with hk | hk
    · exact absurd e (hk p hp)
    · exact absurd hk hh
  · cases ho : o with
    | none => exact absurd (hO.mpr ho) hh
    | some st =>
      obtain ⟨-, -, -, T, B, L, hL, hB, hcb, hst, rfl, hyb⟩ := hY st ho
      unfold m_X10_keep
      rw [mpl_1 hp, Option.bind_some, if_neg n1]
      unfold m_X10_keep_13
      rw [if_neg hh]
      unfold m_X10_keep_25
      simp only [ref_0, Option.bind_some, if_true]
      rw [bd_go hp (by decide), nI_clamp (show p < 2 ^ 31 by omega)]
      have cnt : ∀ (kept sizes : Nat → Int32) (th h : Int32), ∀ (fuel j : Nat) (x2 : Int32), j ≤ 8 → 8 - j < fuel → SP (m_X10_keep_95 yb (nI L) fuel th h kept sizes x2 (nI j)) (fun r => r.2.2.2.1 = kept ∧ r.2.2.2.2 = sizes) := by
        intro kept sizes th h fuel
        induction fuel with
        | zero => intro j x2 _ hf; exact absurd hf (Nat.not_lt_zero _)
        | succ fuel ih =>
          intro j x2 hj hf
          simp only [m_X10_keep_95, nI_1]
          refine SP.ite (fun _ => SP.ok ⟨rfl, rfl⟩) (fun hc => ?_)
          have hlt : j < 8 := Nat.lt_of_not_le (fun q => hc (nI_le (a := 8) q (by omega)))
          rw [bd_go hlt (by decide)]
          exact SP.ite (fun _ => ih (j + 1) _ (by omega) (by omega)) (fun _ => ih (j + 1) _ (by omega) (by omega))
      have go : ∀ (fuel j : Nat) (k' : Nat → Int32), j ≤ L → L - j < fuel → (∀ i, i < j → vp_nar .byte (k' (4096 * p + i)) = B i) → (∀ q i, q ≠ p → i < 4096 → k' (4096 * q + i) = kept (4096 * q + i)) → SP (m_X10_keep_53 yb (nI L) fuel 0 0 k' (upd sizes p (nI L)) (nI p) (nI j)) (fun r => KO (upK kst p (some st)) r.2.2.2.1 r.2.2.2.2) := by
        intro fuel
        induction fuel with
        | zero => intro j k' _ hf; exact absurd hf (Nat.not_lt_zero _)
        | succ fuel ih =>
          intro j k' hj hf h1 h2
          have e4 : (4096 : Int32) * nI p + nI j = nI (4096 * p + j) := by
            rw [show (4096 : Int32) = nI 4096 from rfl, nI_mul, nI_add]
          simp only [m_X10_keep_53, nI_1]
          refine SP.ite (fun hc => ?_) (fun hc => ?_)
          · have ej : j = L := Nat.le_antisymm hj (Nat.le_of_not_lt (fun q => nI_ge q (by omega) hc))
            subst ej
            have := cnt k' (upd sizes p (nI j)) 0 0 sr_fuel 0 0 (by omega) (by unfold sr_fuel; omega)
            rw [nI_0] at this
            refine this.mono (fun r hr => ?_)
            rw [hr.1, hr.2]
            intro q hq
            by_cases e : q = p
            · subst e
              exact Or.inr ⟨st, T, B, j, upK_s, hL, hB, hcb, hst, pk_us, h1⟩
            · rw [pk_un e, upK_n e]
              rcases hK q hq with h | ⟨st', T', B', L', g1, g2, g3, g4, g5, g6, g7⟩
              · exact Or.inl h
              · exact Or.inr ⟨st', T', B', L', g1, g2, g3, g4, g5, g6, fun i hi => by rw [h2 q i e (by omega)]; exact g7 i hi⟩
          · have hlt : j < L := Nat.lt_of_not_le (fun q => hc (nI_le q (by omega)))
            rw [e4, bd_go (show j < 4096 by omega) (by decide), bd_go (show 4096 * p + j < 32768 by omega) (by decide), nI_clamp (show 4096 * p + j < 2 ^ 31 by omega), nI_clamp (show j < 2 ^ 31 by omega)]
            refine ih (j + 1) _ (by omega) (by omega) (fun i hi => ?_) (fun q i hq hi => ?_)
            · by_cases e : i = j
              · subst e
                rw [pk_us, nar_2, hyb i (by omega)]
                exact hB i (by omega)
              · rw [pk_un (by omega)]
                exact h1 i (by omega)
            · rw [pk_un (by omega)]
              exact h2 q i hq hi
      have := go sr_fuel 0 kept (Nat.zero_le _) (by unfold sr_fuel; omega) (fun i hi => absurd hi (Nat.not_lt_zero _)) (fun _ _ _ _ => rfl)
      rw [nI_0] at this
      exact this
theorem KO.mok (hK : KO kst kept sizes) : ∀ p, p < 8 → ∀ st, kst p = some st → MOK st := by
  intro p hp st h
  rcases hK p hp with ⟨h', -⟩ | ⟨st', T, B, L, g1, g2, g3, g4, g5, -⟩
  · rw [h] at h'; cases h'
  · rw [h] at g1
    cases g1
    exact mok_st g3 g2 g4 g5
end MKO
section CM1
variable {Pl Ki Me Fi Ne Na Fn Ac Cf Cs Pl' Ki' Me' Fi' Ne' Na' Fn' Ac' Cf' Cs' : Nat → Int32} {lc sc cc lc' sc' cc' : Int32} {st st' : LSt}
theorem cma_two (hs : SBI Pl st.2.2.2.1) (hs' : SBI Pl' st'.2.2.2.1) (hC : CI Pl Ki Me Fi Ne Na Fn Ac lc sc Cf Cs cc st) (hC' : CI Pl' Ki' Me' Fi' Ne' Na' Fn' Ac' lc' sc' Cf' Cs' cc' st') (hM : MOK st) (hM' : MOK st') : m_X5_isMatch Pl Ki Me Fi Na Ac lc Pl' Ki' Me' Fi' Na' Ac' lc' 0 0 = some (if mtT st st' = true then 1 else 0) := by
  obtain ⟨k, sh, kc, pl, D, fi, G⟩ := st
  obtain ⟨k', sh', kc', pl', D', fi', G'⟩ := st'
  have h := cmt_eq hs hs' hC hC' hM.2.2.1 hM'.2.2.1 16 sr_fuel 0 0 0 (by unfold sr_fuel; decide) (by decide) hM.2.1 hM'.2.1
  rw [nI_0] at h
  exact h
theorem im1_eq : ∀ (fuel : Nat) (x y d : Int32), m_X5_isMatch1_8 Pl Ki Me Fi Na Ac lc fuel x y d = m_X5_isMatch_8 Pl Ki Me Fi Na Ac lc Pl Ki Me Fi Na Ac lc fuel x y d := by
  intro fuel
  induction fuel with
  | zero => intro x y d; rfl
  | succ fuel ih =>
    intro x y d
    have e : m_X5_isMatch1_8 Pl Ki Me Fi Na Ac lc fuel = m_X5_isMatch_8 Pl Ki Me Fi Na Ac lc Pl Ki Me Fi Na Ac lc fuel := funext (fun x => funext (fun y => funext (fun d => ih x y d)))
    simp only [m_X5_isMatch1_8, m_X5_isMatch_8, e]
    rfl
theorem cma_one (hs : SBI Pl st.2.2.2.1) (hC : CI Pl Ki Me Fi Ne Na Fn Ac lc sc Cf Cs cc st) (hM : MOK st) : m_X5_isMatch1 Pl Ki Me Fi Na Ac lc 0 0 = some (if mtT st st = true then 1 else 0) := by
  have h := cma_two hs hs hC hC hM hM
  unfold m_X5_isMatch1
  rw [im1_eq]
  exact h
end CM1
theorem kf_keep {xh xk : Int32} {kf kf' : Nat → Option Nat} {x k xh' xk' : Int32} {q : Int64} {kst kst' : Nat → Option LSt} {o o' : Option LSt} (hF : ∀ p, p < 8 → (kf p = none ↔ kst p = none)) (hO : xh = 0 ↔ o = none) (hc : kwC xh xk kf x k q xh' xk' kf') (ht : ktM xh x kst o kst' o') : ∀ p, p < 8 → (kf' p = none ↔ kst' p = none) := by
  rcases hc with ⟨h1, -, -, -, rfl⟩ | ⟨p, hp, hx, hc⟩
  · rcases ht with ⟨-, rfl, -⟩ | ⟨p, hp, hx, -⟩
    · exact hF
    · exact absurd hx (h1 p hp)
  · rcases hc with ⟨h0, -, -, -, rfl⟩ | ⟨h0, -, -, -, -, a, rfl⟩
    · rcases ht with ⟨-, rfl, -⟩ | ⟨-, -, -, h, -⟩
      · exact hF
      · exact absurd h0 h
    · rcases ht with ⟨h, -, -⟩ | ⟨p', hp', hx', -, rfl, -⟩
      · rcases h with h | h
        · exact absurd hx (h p hp)
        · exact absurd h h0
      · have e : p = p' := (nI_eq (by omega) (by omega)).mp (hx.symm.trans hx')
        subst e
        intro i hi
        by_cases e : i = p
        · subst e
          rw [va_up_self, upK_s]
          exact ⟨fun z => (nomatch z), fun z => absurd (hO.mpr z) h0⟩
        · rw [va_up_ne _ _ e, upK_n e]
          exact hF i hi
theorem CI.sbi {Pl Ki Me Fi Ne Na Fn Ac Cf Cs : Nat → Int32} {lc sc cc : Int32} {st : LSt} (h : CI Pl Ki Me Fi Ne Na Fn Ac lc sc Cf Cs cc st) : SBI Pl st.2.2.2.1 := by
  obtain ⟨k, sh, kc, pl, D, fi, G⟩ := st
  exact h.2.2.2.2.1.2
