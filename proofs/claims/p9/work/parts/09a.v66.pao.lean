-- the class's pairs, one schema twice
section PAI1
variable {Pl Kd Me Fi Nx Na Fn Am Fd Ed Pv Kv Mv Fv Xv Nv Gv Av Dv Ev : Nat → Int32} {lc lv : Int32}
theorem sme_sp1 (hf : PS Fi) (hn : PS Na) (hm : AS Am) (hl : LC lc) (p q : Int32) : SP (m_X5_isSame1 Pl Kd Me Na Am lc p q) b01 := by
  have n0 : SP (some (0 : Int32)) b01 := SP.ok (Or.inl rfl)
  have n1 : SP (some (1 : Int32)) b01 := SP.ok (Or.inr rfl)
  have h100 : SP (m_X5_isSame1_100 Pl Kd Me Na Am lc p q) b01 := by
    unfold m_X5_isSame1_100
    exact SP.bind (snm_sp hn _) (fun _ h1 => SP.bind (snm_sp hn _) (fun _ h2 => SP.bind (ssn_sp hl hl (by omega) h1 h2) (fun _ h => SP.bb h (SP.ok h))))
  have h36 : ∀ a b, SP (m_X5_isSame1_36 Pl Kd Me Na Am lc a b) b01 := by
    intro a b
    unfold m_X5_isSame1_36
    repeat' (first | exact n0 | exact n1 | refine SP.ite (fun _ => ?_) (fun _ => ?_))
  unfold m_X5_isSame1
  exact SP.bind (knd_sp _) (fun _ _ => SP.bind (knd_sp _) (fun _ _ => SP.ite (fun _ => SP.bind (nam_sp _) (fun _ _ => SP.ite (fun _ => n1) (fun _ => SP.ite (fun _ => SP.bind (sam_sp hm _) (fun _ _ => SP.bind (sam_sp hm _) (fun _ _ => SP.ite (fun _ => h100) (fun _ => n0)))) (fun _ => h100)))) (fun _ => SP.ite (fun _ => SP.ite (fun _ => n1) (fun _ => h36 _ _)) (fun _ => h36 _ _))))
theorem mch_sp1 (hf : PS Fi) (hn : PS Na) (hm : AS Am) (hl : LC lc) (p q : Int32) : SP (m_X5_isMatch1 Pl Kd Me Fi Na Am lc p q) b01 := by
  have n0 : SP (some (0 : Int32)) b01 := SP.ok (Or.inl rfl)
  have n1 : SP (some (1 : Int32)) b01 := SP.ok (Or.inr rfl)
  have go : ∀ (fuel j : Nat) (x3 x4 : Int32), j ≤ 17 → 17 - j < fuel → SP (m_X5_isMatch1_8 Pl Kd Me Fi Na Am lc fuel x3 x4 (nI j)) b01 := by
    intro fuel
    induction fuel with
    | zero => intro j x3 x4 _ hf; exact absurd hf (Nat.not_lt_zero _)
    | succ fuel ih =>
      intro j x3 x4 hj hfu
      simp only [m_X5_isMatch1_8, m_X5_isMatch1_84, m_X5_isMatch1_76, nI_1]
      refine SP.ite (fun _ => n0) (fun hc => ?_)
      have hlt : j ≤ 16 := Nat.le_of_not_lt (fun q => hc (nI_lt (a := 16) q (by omega)))
      have h76 : SP ((m_X5_isSame1 Pl Kd Me Na Am lc x3 x4).bind fun r7 => (if r7 = 0 ∨ r7 = 1 then (some r7) else none)) b01 := SP.bind (sme_sp1 hf hn hm hl x3 x4) (fun _ h => SP.bb h (SP.ok h))
      have h84 : SP ((m_X6_first Me Fi x3).bind fun r10 => ((m_X6_first Me Fi x4).bind fun r11 => m_X5_isMatch1_8 Pl Kd Me Fi Na Am lc fuel r10 r11 (nI (j + 1)))) b01 := SP.bind (fst_sp hf _) (fun _ _ => SP.bind (fst_sp hf _) (fun _ _ => ih (j + 1) _ _ (by omega) (by omega)))
      exact SP.bind (knd_sp _) (fun _ _ => SP.ite (fun _ => n1) (fun _ => SP.bind (knd_sp _) (fun _ _ => SP.ite (fun _ => n1) (fun _ => SP.bind (knd_sp _) (fun _ _ => SP.ite (fun _ => SP.ite (fun _ => h84) (fun _ => SP.ite (fun _ => h84) (fun _ => h76))) (fun _ => h76))))))
  unfold m_X5_isMatch1
  have := go sr_fuel 0 p q (Nat.zero_le _) (by unfold sr_fuel; omega)
  rw [nI_0] at this
  exact this
theorem fmt_sp1 (hf : PS Fi) (hn : PS Na) (hm : AS Am) (hl : LC lc) (p q : Int32) : SP (m_X5_firstMatch1 Pl Kd Me Fi Nx Na Am lc p q) (fun _ => True) := by
  have go : ∀ (fuel j : Nat) (x3 : Int32), j ≤ 65 → 65 - j < fuel → SP (m_X5_firstMatch1_12 Pl Kd Me Fi Nx Na Am lc fuel p q x3 (nI j)) (fun _ => True) := by
    intro fuel
    induction fuel with
    | zero => intro j x3 _ hf; exact absurd hf (Nat.not_lt_zero _)
    | succ fuel ih =>
      intro j x3 hj hfu
      simp only [m_X5_firstMatch1_12, nI_1]
      refine SP.bind (sam_sp hm _) (fun r hr => SP.ite (fun _ => SP.ok trivial) (fun hc => ?_))
      have hlt := lt_of_neg (by omega) hr (show j < 2 ^ 31 by omega) hc
      exact SP.bind (mch_sp1 hf hn hm hl _ _) (fun _ _ => SP.ite (fun _ => SP.bind (snx_sp _) (fun _ _ => ih (j + 1) _ (by omega) (by omega))) (fun _ => SP.ok trivial))
  unfold m_X5_firstMatch1
  refine SP.bind (fst_sp hf _) (fun r _ => ?_)
  have := go sr_fuel 0 r (Nat.zero_le _) (by unfold sr_fuel; omega)
  rw [nI_0] at this
  exact this
theorem hsb_sp1 (hf : PS Fi) (hn : PS Na) (hm : AS Am) (hl : LC lc) (p : Int32) {q : Int32} (hq : sym 5000 q) : SP (m_X5_hasSymbol1 Pl Me Fi Am lc p q) b01 := by
  have go : ∀ (fuel j : Nat) (x3 : Int32), sym (4096 + 3 * j) x3 → j ≤ 65 → 65 - j < fuel → SP (m_X5_hasSymbol1_12 Pl Me Fi Am lc fuel p q x3 (nI j)) b01 := by
    intro fuel
    induction fuel with
    | zero => intro j x3 _ _ hf; exact absurd hf (Nat.not_lt_zero _)
    | succ fuel ih =>
      intro j x3 h3 hj hfu
      simp only [m_X5_hasSymbol1_12, nI_1]
      refine SP.bind (sam_sp hm _) (fun r hr => SP.ite (fun _ => SP.ok (Or.inl rfl)) (fun hc => ?_))
      have hlt := lt_of_neg (by omega) hr (show j < 2 ^ 31 by omega) hc
      exact SP.bind (ssn_sp hl hl (by omega) hq (h3.mono (by omega))) (fun _ _ => SP.ite (fun _ => SP.bind (nsy_sp hl (by omega) (by omega) h3) (fun _ h => ih (j + 1) _ (by rw [show 4096 + 3 * (j + 1) = 4096 + 3 * j + 3 by omega]; exact h) (by omega) (by omega))) (fun _ => SP.ok (Or.inr rfl)))
  unfold m_X5_hasSymbol1
  refine SP.bind (fst_sp hf _) (fun r hr => ?_)
  have := go sr_fuel 0 r (by rw [Nat.mul_zero, Nat.add_zero]; exact hr) (Nat.zero_le _) (by unfold sr_fuel; omega)
  rw [nI_0] at this
  exact this
theorem has_sp1 (hf : PS Fi) (hn : PS Na) (hm : AS Am) (hl : LC lc) (p q : Int32) : SP (m_X5_hasAllSymbols1 Pl Me Fi Am lc p q) b01 := by
  have go : ∀ (fuel j : Nat) (x3 : Int32), sym (4096 + 3 * j) x3 → j ≤ 65 → 65 - j < fuel → SP (m_X5_hasAllSymbols1_12 Pl Me Fi Am lc fuel p q x3 (nI j)) b01 := by
    intro fuel
    induction fuel with
    | zero => intro j x3 _ _ hf; exact absurd hf (Nat.not_lt_zero _)
    | succ fuel ih =>
      intro j x3 h3 hj hfu
      simp only [m_X5_hasAllSymbols1_12, nI_1]
      refine SP.bind (sam_sp hm _) (fun r hr => SP.ite (fun _ => SP.ok (Or.inr rfl)) (fun hc => ?_))
      have hlt := lt_of_neg (by omega) hr (show j < 2 ^ 31 by omega) hc
      exact SP.bind (hsb_sp1 hf hn hm hl _ (h3.mono (by omega))) (fun _ _ => SP.ite (fun _ => SP.ok (Or.inl rfl)) (fun _ => SP.bind (nsy_sp hl (by omega) (by omega) h3) (fun _ h => ih (j + 1) _ (by rw [show 4096 + 3 * (j + 1) = 4096 + 3 * j + 3 by omega]; exact h) (by omega) (by omega))))
  unfold m_X5_hasAllSymbols1
  refine SP.bind (fst_sp hf _) (fun r hr => ?_)
  have := go sr_fuel 0 r (by rw [Nat.mul_zero, Nat.add_zero]; exact hr) (Nat.zero_le _) (by unfold sr_fuel; omega)
  rw [nI_0] at this
  exact this
theorem ask_sp1 {Cf Cs : Nat → Int32} {cc : Int32} (h : CC cc) (p q : Int32) : SP (m_X5_ask1 Cf Cs cc p q) (fun r => CC r.2.2) := by
  unfold m_X5_ask1
  exact SP.bind (cha_sp h _ _) (fun _ _ => SP.ite (fun _ => SP.bind (cad_sp h _ _) (fun _ h => SP.ok h)) (fun _ => SP.ok h))
theorem wfd_sp1 (hf : PS Fi) (hn : PS Na) (hm : AS Am) (hl : LC lc) (hfn : PS Fn) (p : Int32) {q : Int32} (hq : sym 4096 q) : SP (m_X5_writerField1 Pl Me Fi Nx Fn Am lc p q) (fun _ => True) := by
  have go : ∀ (fuel j : Nat) (x3 : Int32), j ≤ 65 → 65 - j < fuel → SP (m_X5_writerField1_12 Pl Me Fi Nx Fn Am lc fuel p q x3 (nI j)) (fun _ => True) := by
    intro fuel
    induction fuel with
    | zero => intro j x3 _ hf; exact absurd hf (Nat.not_lt_zero _)
    | succ fuel ih =>
      intro j x3 hj hfu
      simp only [m_X5_writerField1_12, nI_1]
      refine SP.bind (sam_sp hm _) (fun r hr => SP.ite (fun _ => SP.ok trivial) (fun hc => ?_))
      have hlt := lt_of_neg (by omega) hr (show j < 2 ^ 31 by omega) hc
      exact SP.bind (sfn_sp hfn _) (fun _ h4 => SP.bind (ssn_sp hl hl (by omega) h4 hq) (fun _ _ => SP.ite (fun _ => SP.bind (snx_sp _) (fun _ _ => ih (j + 1) _ (by omega) (by omega))) (fun _ => SP.ok trivial)))
  unfold m_X5_writerField1
  refine SP.bind (fst_sp hf _) (fun r _ => ?_)
  have := go sr_fuel 0 r (Nat.zero_le _) (by unfold sr_fuel; omega)
  rw [nI_0] at this
  exact this
theorem ift_sp1 (hf : PS Fi) (hn : PS Na) (hm : AS Am) (hl : LC lc) : ∀ (D d : Nat), d ≤ 35 → 36 - d ≤ D → ∀ (Cf Cs : Nat → Int32) (cc p q : Int32), CC cc → SP (m_X5_isFit1 D Pl Kd Me Fi Nx Na Am Ed lc Cf Cs cc p q (nI d)) (fun r => b01 r.1 ∧ CC r.2.2.2) := by
  intro D
  induction D with
  | zero => intro d hd hD; exact absurd hD (by omega)
  | succ D ihD =>
    intro d hd hD Cf Cs cc p q hc
    have n0 : ∀ (Cf Cs : Nat → Int32) (cc : Int32), CC cc → SP (some ((0 : Int32), Cf, Cs, cc)) (fun r => b01 r.1 ∧ CC r.2.2.2) := fun _ _ _ h => SP.ok ⟨Or.inl rfl, h⟩
    have n1 : ∀ (Cf Cs : Nat → Int32) (cc : Int32), CC cc → SP (some ((1 : Int32), Cf, Cs, cc)) (fun r => b01 r.1 ∧ CC r.2.2.2) := fun _ _ _ h => SP.ok ⟨Or.inr rfl, h⟩
    simp only [m_X5_isFit1]
    refine SP.ite (fun h34 => ?_) (fun _ => n0 _ _ _ hc)
    have hd34 : d ≤ 34 := Nat.le_of_not_lt (fun q => nI_ge (a := 34) q (by omega) h34)
    have ihn := ihD (d + 1) (by omega) (by omega)
    have h168 : ∀ (Cf Cs : Nat → Int32) (cc x4 : Int32), CC cc → SP (m_X5_isFit1_168 (m_X5_isFit1 D) Pl Kd Me Fi Nx Na Am Ed lc Cf Cs cc p q x4) (fun r => b01 r.1 ∧ CC r.2.2.2) := by
      intro Cf Cs cc x4 hc
      unfold m_X5_isFit1_168
      exact SP.ite (fun _ => SP.bind (hed_sp _) (fun _ _ => SP.ite (fun _ => SP.bind (has_sp1 hf hn hm hl _ _) (fun _ _ => SP.ite (fun _ => n0 _ _ _ hc) (fun _ => n1 _ _ _ hc))) (fun _ => n1 _ _ _ hc))) (fun _ => n1 _ _ _ hc)
    have h130 : ∀ x4, SP (m_X5_isFit1_130 (m_X5_isFit1 D) Pl Kd Me Fi Nx Na Am Ed lc Cf Cs cc p q x4) (fun r => b01 r.1 ∧ CC r.2.2.2) := by
      intro x4
      unfold m_X5_isFit1_130
      exact SP.bind (sme_sp1 hf hn hm hl _ _) (fun _ _ => SP.ite (fun _ => n0 _ _ _ hc) (fun _ => SP.ite (fun _ => SP.bind (mea_sp _) (fun _ _ => SP.bind (mea_sp _) (fun _ _ => SP.bind (ask_sp1 hc _ _) (fun _ h => h168 _ _ _ _ h)))) (fun _ => h168 _ _ _ _ hc)))
    have h106 : SP (m_X5_isFit1_106 (m_X5_isFit1 D) Pl Kd Me Fi Nx Na Am Ed lc Cf Cs cc p q (nI d)) (fun r => b01 r.1 ∧ CC r.2.2.2) := by
      unfold m_X5_isFit1_106
      simp only [nI_1]
      exact SP.bind (fst_sp hf _) (fun _ _ => SP.bind (fst_sp hf _) (fun _ _ => SP.bind (ihn _ _ _ _ _ hc) (fun _ h => SP.bb h.1 (SP.ok h))))
    have hev : SP (m_X5_isEveryBranchFit1 (m_X5_isFit1 D) Pl Kd Me Fi Nx Na Am Ed lc Cf Cs cc p q (nI d)) (fun r => b01 r.1 ∧ CC r.2.2.2) := by
      have go : ∀ (fuel j : Nat) (Cf Cs : Nat → Int32) (cc x4 : Int32), CC cc → j ≤ 65 → 65 - j < fuel → SP (m_X5_isEveryBranchFit1_13 (m_X5_isFit1 D) Pl Kd Me Fi Nx Na Am Ed lc fuel Cf Cs cc p q (nI d) x4 (nI j)) (fun r => b01 r.1 ∧ CC r.2.2.2) := by
        intro fuel
        induction fuel with
        | zero => intro j Cf Cs cc x4 _ _ hf; exact absurd hf (Nat.not_lt_zero _)
        | succ fuel ih =>
          intro j Cf Cs cc x4 hc hj hfu
          simp only [m_X5_isEveryBranchFit1_13, nI_1]
          refine SP.bind (sam_sp hm _) (fun r hr => SP.ite (fun _ => n1 _ _ _ hc) (fun hcc => ?_))
          have hlt := lt_of_neg (by omega) hr (show j < 2 ^ 31 by omega) hcc
          exact SP.bind (ihn _ _ _ _ _ hc) (fun _ h => SP.ite (fun _ => n0 _ _ _ h.2) (fun _ => SP.bind (snx_sp _) (fun _ _ => ih (j + 1) _ _ _ _ h.2 (by omega) (by omega))))
      unfold m_X5_isEveryBranchFit1
      refine SP.bind (fst_sp hf _) (fun r _ => ?_)
      have := go sr_fuel 0 Cf Cs cc r hc (Nat.zero_le _) (by unfold sr_fuel; omega)
      rw [nI_0] at this
      exact this
    simp only [nI_1]
    refine SP.bind (knd_sp _) (fun _ _ => SP.ite (fun _ => SP.bind hev (fun _ h => SP.bb h.1 (SP.ok h))) (fun _ => SP.bind (knd_sp _) (fun _ _ => SP.ite (fun _ => ?_) (fun _ => SP.bind (knd_sp _) (fun _ _ => SP.ite (fun _ => SP.ite (fun _ => h106) (fun _ => SP.ite (fun _ => h106) (fun _ => h130 _))) (fun _ => h130 _))))))
    exact SP.bind (fmt_sp1 hf hn hm hl _ _) (fun _ _ => SP.ite (fun _ => n0 _ _ _ hc) (fun _ => SP.bind (ihn _ _ _ _ _ hc) (fun _ h => SP.ite (fun _ => n0 _ _ _ h.2) (fun _ => n1 _ _ _ h.2))))
theorem ffi_sp1 (hf : PS Fi) (hn : PS Na) (hm : AS Am) (hl : LC lc) (hfn : PS Fn) (p q : Int32) {Cf Cs : Nat → Int32} {cc : Int32} (hc : CC cc) : SP (m_X5_isFieldsFit1 Pl Kd Me Fi Nx Na Fn Am Fd Ed lc Cf Cs cc p q) (fun r => b01 r.1 ∧ CC r.2.2.2) := by
  have n0 : ∀ (Cf Cs : Nat → Int32) (cc : Int32), CC cc → SP (some ((0 : Int32), Cf, Cs, cc)) (fun r => b01 r.1 ∧ CC r.2.2.2) := fun _ _ _ h => SP.ok ⟨Or.inl rfl, h⟩
  have go : ∀ (fuel j : Nat) (Cf Cs : Nat → Int32) (cc x3 : Int32), CC cc → j ≤ 65 → 65 - j < fuel → SP (m_X5_isFieldsFit1_12 Pl Kd Me Fi Nx Na Fn Am Fd Ed lc fuel Cf Cs cc p q x3 (nI j)) (fun r => b01 r.1 ∧ CC r.2.2.2) := by
    intro fuel
    induction fuel with
    | zero => intro j Cf Cs cc x3 _ _ hf; exact absurd hf (Nat.not_lt_zero _)
    | succ fuel ih =>
      intro j Cf Cs cc x3 hc hj hfu
      simp only [m_X5_isFieldsFit1_12, m_X5_isFieldsFit1_70, nI_1]
      refine SP.bind (sam_sp hm _) (fun r hr => SP.ite (fun _ => SP.ok ⟨Or.inr rfl, hc⟩) (fun hcc => ?_))
      have hlt := lt_of_neg (by omega) hr (show j < 2 ^ 31 by omega) hcc
      have nx : ∀ (Cf Cs : Nat → Int32) (cc : Int32), CC cc → SP ((m_X6_next Nx x3).bind fun r5 => m_X5_isFieldsFit1_12 Pl Kd Me Fi Nx Na Fn Am Fd Ed lc fuel Cf Cs cc p q r5 (nI (j + 1))) (fun r => b01 r.1 ∧ CC r.2.2.2) := fun _ _ _ h => SP.bind (snx_sp _) (fun _ _ => ih (j + 1) _ _ _ _ h (by omega) (by omega))
      have hfit := fun p q => ift_sp1 (Pl := Pl) (Kd := Kd) (Me := Me) (Nx := Nx) (Ed := Ed) hf hn hm hl 37 0 (by omega) (by omega) Cf Cs cc p q hc
      simp only [nI_0] at hfit
      exact SP.bind (hfd_sp _) (fun _ _ => SP.ite (fun _ => SP.bind (sfn_sp hfn _) (fun _ h7 => SP.bind (wfd_sp1 hf hn hm hl hfn _ h7) (fun _ _ => SP.ite (fun _ => n0 _ _ _ hc) (fun _ => SP.bind (hfit _ _) (fun _ h => SP.ite (fun _ => n0 _ _ _ h.2) (fun _ => nx _ _ _ h.2)))))) (fun _ => nx _ _ _ hc))
  unfold m_X5_isFieldsFit1
  refine SP.bind (fst_sp hf _) (fun r _ => ?_)
  have := go sr_fuel 0 Cf Cs cc r hc (Nat.zero_le _) (by unfold sr_fuel; omega)
  rw [nI_0] at this
  exact this
theorem wft_sp1 (hf : PS Fi) (hn : PS Na) (hm : AS Am) (hl : LC lc) (hfn : PS Fn) {Cf Cs : Nat → Int32} {cc : Int32} : SP (m_X5_isWholeFit1 Pl Kd Me Fi Nx Na Fn Am Fd Ed lc Cf Cs cc) (fun r => b01 r.1 ∧ CC r.2.2.2) := by
  have go : ∀ (fuel j : Nat) (Cf Cs : Nat → Int32) (cc : Int32), CC cc → j ≤ 128 → 128 - j < fuel → SP (m_X5_isWholeFit1_21 Pl Kd Me Fi Nx Na Fn Am Fd Ed lc fuel Cf Cs cc (nI j)) (fun r => b01 r.1 ∧ CC r.2.2.2) := by
    intro fuel
    induction fuel with
    | zero => intro j Cf Cs cc _ _ hf; exact absurd hf (Nat.not_lt_zero _)
    | succ fuel ih =>
      intro j Cf Cs cc hc hj hfu
      simp only [m_X5_isWholeFit1_21, m_X11_count, Option.bind_some, nI_1]
      refine SP.ite (fun _ => SP.ok ⟨Or.inr rfl, hc⟩) (fun _ => SP.ite (fun _ => SP.ok ⟨Or.inr rfl, hc⟩) (fun h128 => ?_))
      have hlt : j < 128 := Nat.lt_of_not_le (fun q => h128 (nI_le (a := 128) q (by omega)))
      exact SP.bind (cfi_sp _) (fun _ _ => SP.bind (cse_sp _) (fun _ _ => SP.bind (ffi_sp1 hf hn hm hl hfn _ _ hc) (fun _ h => SP.ite (fun _ => SP.ok ⟨Or.inl rfl, h.2⟩) (fun _ => ih (j + 1) _ _ _ h.2 (by omega) (by omega)))))
  have hc0 : CC 0 := ⟨0, by omega, by rw [nI_0]⟩
  have hfit := ift_sp1 (Pl := Pl) (Kd := Kd) (Me := Me) (Nx := Nx) (Ed := Ed) hf hn hm hl 37 0 (by omega) (by omega) Cf Cs 0 0 0 hc0
  rw [nI_0] at hfit
  unfold m_X5_isWholeFit1
  simp only [m_X11_clear, Option.bind_some]
  refine SP.bind hfit (fun r h => SP.ite (fun _ => SP.ok ⟨Or.inl rfl, h.2⟩) (fun _ => ?_))
  have := go sr_fuel 0 r.2.1 r.2.2.1 r.2.2.2 h.2 (Nat.zero_le _) (by unfold sr_fuel; omega)
  rw [nI_0] at this
  exact this
end PAI1
