-- the class's reading of a text
def KC (c : Int32) : Prop := ∃ k, k ≤ 1024 ∧ c = nI k
abbrev TK : Type := (Nat → Int32) × (Nat → Int32) × (Nat → Int32) × (Nat → Int32) × Int32
theorem kclr_sp {kh : Nat → Int32} {kc : Int32} : SP (m_X2_clear kh kc) (fun r => r.2 = 0) := by
  have go : ∀ (fuel j : Nat) (row : Nat → Int32), j ≤ 256 → 256 - j < fuel → SP (m_X24_fill_5 256 fuel row (-1) (nI j) (nI 256)) (fun _ => True) := by
    intro fuel
    induction fuel with
    | zero => intro j row _ hf; exact absurd hf (Nat.not_lt_zero _)
    | succ fuel ih =>
      intro j row hj hf
      simp only [m_X24_fill_5, nI_1]
      refine SP.ite (fun _ => SP.ok trivial) (fun hc => ?_)
      have : j < 256 := Nat.lt_of_not_le (fun q => hc (nI_le q (by omega)))
      rw [bd_go this (by decide)]
      exact ih (j + 1) _ (by omega) (by omega)
  unfold m_X2_clear m_X24_fill
  have := go sr_fuel 0 kh (Nat.zero_le _) (by unfold sr_fuel; omega)
  rw [nI_0] at this
  exact SP.bind this (fun _ _ => SP.ok rfl)
section CRD
variable {T Sd In Nx Am : Nat → Int32} {L : Nat}
theorem kadd_sp (hA : AM Am) {kh kp ko kn : Nat → Int32} {kc : Int32} (hk : KC kc) (a1 a2 : Int32) : SP (m_X2_add kh kp ko kn kc Sd Am a1 a2) (fun r => KC r.2.2.2.2.2) := by
  obtain ⟨c, hc, rfl⟩ := hk
  have h90 : ∀ (kh kp ko kn : Nat → Int32) (x2 x3 : Int32) (j : Nat), j < 256 → SP (m_X2_add_90 Sd Am kh kp ko kn (nI c) x2 x3 (nI j)) (fun r => KC r.2.2.2.2.2) := by
    intro kh kp ko kn x2 x3 j hj
    unfold m_X2_add_90
    refine SP.ite (fun _ => SP.ok ⟨c, hc, rfl⟩) (fun h => ?_)
    have : c < 1024 := Nat.lt_of_not_le (fun q => h (nI_le (a := 1024) q (by omega)))
    simp only [bd_go (show c < 1024 by omega) (by decide), bd_gc (show c < 1024 by omega) (by decide), nI_clamp (show c < 2 ^ 31 by omega), bd_go (show j < 256 by omega) (by decide), bd_gc (show j < 256 by omega) (by decide), nI_clamp (show j < 2 ^ 31 by omega), nI_1]
    exact SP.ok ⟨c + 1, by omega, rfl⟩
  have go : ∀ (fuel i : Nat) (x2 x3 x5 : Int32) (j : Nat), j < 256 → i ≤ c → c - i < fuel → SP (m_X2_add_25 Sd Am fuel kh kp ko kn (nI c) x2 x3 (nI j) x5 (nI i)) (fun r => KC r.2.2.2.2.2) := by
    intro fuel
    induction fuel with
    | zero => intro i x2 x3 x5 j _ _ hf; exact absurd hf (Nat.not_lt_zero _)
    | succ fuel ih =>
      intro i x2 x3 x5 j hj hi hf
      simp only [m_X2_add_25]
      refine SP.ite (fun _ => h90 _ _ _ _ _ _ j hj) (fun hcc => SP.ite (fun _ => h90 _ _ _ _ _ _ j hj) (fun h0 => SP.ite (fun _ => h90 _ _ _ _ _ _ j hj) (fun h1 => ?_)))
      have hic : i < c := Nat.lt_of_not_le (fun q => hcc (nI_le q (by omega)))
      obtain ⟨k, hk, rfl⟩ := nI_of h0
      have hk2 : k < 1024 := Nat.lt_of_not_le (fun q => h1 (nI_le (a := 1024) q hk))
      simp only [bd_go (show k < 1024 by omega) (by decide), bd_gc (show k < 1024 by omega) (by decide), nI_clamp (show k < 2 ^ 31 by omega), m_X2_add_75, nI_1]
      have ih1 := fun x5 => ih (i + 1) x2 x3 x5 j hj (by omega) (by omega)
      exact SP.ite (fun _ => SP.bind (sasa_sp hA _ _) (fun _ _ => SP.ite (fun _ => ih1 _) (fun _ => SP.ok ⟨c, hc, rfl⟩))) (fun _ => ih1 _)
  unfold m_X2_add
  refine SP.bind (hash_sp hA _) (fun r _ => ?_)
  obtain ⟨j, hj, e⟩ := pk_andE (r + a1) (m := 255) 8 (by decide)
  have hj : j < 256 := hj
  rw [e, bd_go hj (by decide)]
  have := go sr_fuel 0 a1 a2 (kh (nI j).toNatClampNeg) j hj (Nat.zero_le _) (by unfold sr_fuel; omega)
  rw [nI_0] at this
  exact this
theorem join_sp (a0 a1 a2 : Int32) : SP (m_X7_join In Nx a0 a1 a2) (fun _ => True) := by
  unfold m_X7_join m_X7_join_26
  exact SP.ite (fun _ => SP.bind (etr_sp (by decide) _) (fun _ _ => SP.bind (etr_sp (by decide) _) (fun _ _ => SP.ok trivial))) (fun _ => SP.bind (etr_sp (by decide) _) (fun _ _ => SP.bind (etr_sp (by decide) _) (fun _ _ => SP.ok trivial)))
theorem say_sp (p b : Int32) : SP (m_X7_say Sd p b) (fun _ => True) := by
  unfold m_X7_say
  refine SP.ite (fun _ => SP.ok trivial) (fun h0 => ?_)
  obtain ⟨i, hi, rfl⟩ := nI_of h0
  refine SP.ite (fun _ => SP.ok trivial) (fun h1 => ?_)
  have hin : i < 4096 := Nat.lt_of_not_le (fun q => h1 (nI_le (a := 4096) q hi))
  rw [bd_go hin (by decide)]
  exact SP.ok trivial
theorem hexd_sp (c : Int32) : SP (m_X7_hexDigit c) (fun _ => True) := by
  unfold m_X7_hexDigit m_X7_hexDigit_17 m_X7_hexDigit_37
  repeat' (first | exact SP.ok trivial | refine SP.ite (fun _ => ?_) (fun _ => ?_))
theorem resc_sp (hL : L ≤ 4096) (wp : Int32) {a : Nat} (ha : a < L) : SP (m_X7_readEscape T (nI L) wp (nI a)) (fun _ => True) := by
  have go : ∀ (fuel j : Nat) (wp x3 : Int32), j ≤ a + 6 → a + 6 - j < fuel → SP (m_X7_readEscape_127 T (nI L) fuel wp (nI a) x3 (nI j)) (fun _ => True) := by
    intro fuel
    induction fuel with
    | zero => intro j wp x3 _ hf; exact absurd hf (Nat.not_lt_zero _)
    | succ fuel ih =>
      intro j wp x3 hj hf
      have e6 : nI a + 6 = nI (a + 6) := nI_add a 6
      simp only [m_X7_readEscape_127, m_X7_refuse, Option.bind_some, nI_1, e6]
      refine SP.ite (fun _ => SP.ite (fun _ => SP.ok trivial) (fun _ => SP.ok trivial)) (fun hc => ?_)
      have : j < a + 6 := Nat.lt_of_not_le (fun q => hc (nI_le q (by omega)))
      exact SP.bind (byt_sp hL _) (fun _ _ => SP.bind (hexd_sp _) (fun _ _ => SP.ite (fun _ => SP.ok trivial) (fun _ => ih (j + 1) _ _ (by omega) (by omega))))
  have e2 : nI a + 2 = nI (a + 2) := nI_add a 2
  unfold m_X7_readEscape
  simp only [m_X7_refuse, Option.bind_some, e2]
  refine SP.bind (byt_sp hL _) (fun _ _ => ?_)
  repeat' (first | exact SP.ok trivial | exact go sr_fuel (a + 2) _ _ (by omega) (by unfold sr_fuel; omega) | refine SP.ite (fun _ => ?_) (fun _ => ?_))
theorem iwl_sp (hL : L ≤ 4096) {f b : Nat} (hb : b ≤ 5000) (hfb : f ≤ b) (x : Int32) : SP (m_X7_isWithinLong T (nI L) (nI f) (nI b) x) b01 := by
  have go : ∀ (fuel q : Nat) (x4 : Int32) (x5 : Int64), q ≤ b → b - q < fuel → SP (m_X7_isWithinLong_19 T (nI L) fuel (nI b) x4 x5 (nI q)) b01 := by
    intro fuel
    induction fuel with
    | zero => intro q x4 x5 _ hf; exact absurd hf (Nat.not_lt_zero _)
    | succ fuel ih =>
      intro q x4 x5 hq hf
      simp only [m_X7_isWithinLong_19, m_X7_isWithinLong_63, nI_1]
      refine SP.ite (fun _ => SP.ok (Or.inr rfl)) (fun hc => ?_)
      have : q < b := Nat.lt_of_not_le (fun z => hc (nI_le z (by omega)))
      have ih1 := fun x5 => ih (q + 1) x4 x5 (by omega) (by omega)
      exact SP.bind (byt_sp hL _) (fun _ _ => SP.ite (fun _ => SP.ok (Or.inl rfl)) (fun _ => SP.ite (fun _ => SP.ite (fun _ => ih1 _) (fun _ => SP.ok (Or.inl rfl))) (fun _ => ih1 _)))
  unfold m_X7_isWithinLong m_X7_isWithinLong_11
  exact SP.ite (fun _ => go sr_fuel f _ _ hfb (by unfold sr_fuel; omega)) (fun _ => go sr_fuel f _ _ hfb (by unfold sr_fuel; omega))
theorem rnum_sp (hL : L ≤ 4096) (wp : Int32) {a : Nat} (ha : a < L) : SP (m_X7_readNumber T (nI L) wp (nI a)) (fun _ => True) := by
  have h87 : ∀ (wp x1 x2 : Int32) (f b : Nat), f ≤ b → b ≤ 5000 → SP (m_X7_readNumber_87 T (nI L) wp x1 x2 (nI f) (nI b)) (fun _ => True) := by
    intro wp x1 x2 f b h1 h2
    unfold m_X7_readNumber_87
    simp only [m_X7_refuse, Option.bind_some]
    exact SP.bind (iwl_sp hL h2 h1 _) (fun _ _ => SP.ite (fun _ => SP.ok trivial) (fun _ => SP.ok trivial))
  have go : ∀ (fuel b : Nat) (wp x1 x2 : Int32) (f : Nat), f ≤ b → b ≤ L + 1 → L + 1 - b < fuel → SP (m_X7_readNumber_60 T (nI L) fuel wp x1 x2 (nI f) (nI b)) (fun _ => True) := by
    intro fuel
    induction fuel with
    | zero => intro b wp x1 x2 f _ _ hf; exact absurd hf (Nat.not_lt_zero _)
    | succ fuel ih =>
      intro b wp x1 x2 f h1 h2 hf
      simp only [m_X7_readNumber_60, nI_1]
      refine SP.ite (fun _ => h87 _ _ _ _ _ h1 (by omega)) (fun hc => ?_)
      have : b < L := Nat.lt_of_not_le (fun z => hc (nI_le z (by omega)))
      exact SP.bind (byt_sp hL _) (fun _ _ => SP.bind (dig_sp _) (fun _ _ => SP.ite (fun _ => h87 _ _ _ _ _ h1 (by omega)) (fun _ => ih (b + 1) _ _ _ _ (by omega) (by omega) (by omega))))
  have h27 : ∀ (x1 x2 : Int32) (f : Nat), f ≤ L → SP (m_X7_readNumber_27 T (nI L) wp x1 x2 (nI f)) (fun _ => True) := by
    intro x1 x2 f hf
    unfold m_X7_readNumber_27
    simp only [m_X7_refuse, Option.bind_some, nI_1]
    exact SP.bind (byt_sp hL _) (fun _ _ => SP.bind (dig_sp _) (fun _ _ => SP.ite (fun _ => SP.ok trivial) (fun _ => SP.bind (byt_sp hL _) (fun _ _ => SP.ite (fun _ => h87 _ _ _ _ _ (by omega) (by omega)) (fun _ => go sr_fuel (f + 1) _ _ _ _ (by omega) (by omega) (by unfold sr_fuel; omega))))))
  unfold m_X7_readNumber m_X7_readNumber_15
  simp only [nI_1]
  exact SP.bind (byt_sp hL _) (fun _ _ => SP.ite (fun _ => SP.ite (fun _ => h27 _ _ a (by omega)) (fun _ => h27 _ _ (a + 1) (by omega))) (fun _ => SP.ite (fun _ => h27 _ _ a (by omega)) (fun _ => h27 _ _ (a + 1) (by omega))))
theorem rwrd_sp (hL : L ≤ 4096) {w : Nat} (hw : w < 75) (wp p : Int32) : SP (m_X7_readWord T (nI L) wp p w) (fun _ => True) := by
  have hlw := len_lt w hw
  have hS : ¬ nS ≤ w := by unfold nS; omega
  have go : ∀ (fuel j : Nat) (wp : Int32), j ≤ lenS.getD w 0 → lenS.getD w 0 - j < fuel → SP (m_X7_readWord_2 T (nI L) fuel wp p w (nI j)) (fun _ => True) := by
    intro fuel
    induction fuel with
    | zero => intro j wp _ hf; exact absurd hf (Nat.not_lt_zero _)
    | succ fuel ih =>
      intro j wp hj hf
      simp only [m_X7_readWord_2, if_neg hS, len_eq w hw, Option.bind_some, m_X7_refuse]
      refine SP.ite (fun _ => SP.ok trivial) (fun hc => ?_)
      have hlt : j < lenS.getD w 0 := Nat.lt_of_not_le (fun q => hc (nI_le q (by omega)))
      refine SP.bind (byt_sp hL _) (fun r _ => ?_)
      simp only [chr_eq w hw j hlt, Option.bind_some, nI_1]
      exact SP.ite (fun _ => ih (j + 1) _ (by omega) (by omega)) (fun _ => SP.ok trivial)
  unfold m_X7_readWord
  have := go sr_fuel 0 wp (by omega) (by unfold sr_fuel; omega)
  rw [nI_0] at this
  exact this
theorem rstr_sp (hL : L ≤ 4096) (hA : AM Am) (wp : Int32) {a : Nat} (ha : a < L) : SP (m_X7_readString T Sd Am (nI L) wp (nI a)) (fun r => AM r.2.2.1) := by
  have go : ∀ (fuel k q : Nat) (Sd : Nat → Int32) (wp : Int32), k ≤ q → q ≤ L + 10 → L + 10 - q < fuel → SP (m_X7_readString_6 T (nI L) fuel Sd Am wp (nI a) (nI k) (nI q)) (fun r => AM r.2.2.1) := by
    intro fuel
    induction fuel with
    | zero => intro k q Sd wp _ _ hf; exact absurd hf (Nat.not_lt_zero _)
    | succ fuel ih =>
      intro k q Sd wp hkq hq hf
      have e5 : nI q + 5 = nI (q + 5) := nI_add q 5
      have e1 : nI q + 1 = nI (q + 1) := nI_add q 1
      simp only [m_X7_readString_6, m_X7_refuse, Option.bind_some, m_X7_readString_55, m_X7_readString_101, m_X7_readString_103, e5, nI_1]
      refine SP.ite (fun _ => SP.ok hA) (fun hc => ?_)
      have hlt : q < L := Nat.lt_of_not_le (fun z => hc (nI_le z (by omega)))
      refine SP.bind (byt_sp hL _) (fun r3 _ => SP.ite (fun _ => ?_) (fun _ => SP.ite (fun _ => SP.ok hA) (fun _ => SP.ite (fun _ => SP.ite (fun _ => ?_) (fun _ => ?_)) (fun _ => SP.ok hA))))
      · exact SP.bind (etr_sp (by decide) _) (fun r hr => SP.ok (AM.etr hA (show k ≤ 4096 by omega) hr))
      · refine SP.bind (resc_sp hL _ hlt) (fun r10 _ => SP.ite (fun _ => SP.ok hA) (fun _ => SP.bind (byt_sp hL _) (fun r12 _ => SP.ite (fun _ => ?_) (fun _ => ?_))))
        · exact SP.bind (say_sp _ _) (fun Sd' _ => ih (k + 1) (q + 5 + 1) Sd' _ (by omega) (by omega) (by omega))
        · exact SP.bind (say_sp _ _) (fun Sd' _ => ih (k + 1) (q + 1 + 1) Sd' _ (by omega) (by omega) (by omega))
      · exact SP.bind (say_sp _ _) (fun Sd' _ => ih (k + 1) (q + 1) Sd' _ (by omega) (by omega) (by omega))
  unfold m_X7_readString
  have := go sr_fuel 0 (a + 1) Sd wp (Nat.zero_le _) (by omega) (by unfold sr_fuel; omega)
  rw [nI_0] at this
  simp only [nI_1]
  exact this
theorem rkey_sp (hL : L ≤ 4096) (hA : AM Am) {kh kp ko kn : Nat → Int32} {kc : Int32} (hk : KC kc) (wp a0 a1 : Int32) : SP (m_X7_readKey T Sd In Am (nI L) wp kh kp ko kn kc a0 a1) (fun r => AM r.2.2.2.1 ∧ KC r.2.2.2.2.2.2.2.2.2) := by
  unfold m_X7_readKey
  simp only [m_X7_refuse, Option.bind_some]
  refine SP.bind (iss_sp hL a1) (fun r hr => SP.ite (fun _ => SP.ok ⟨hA, hk⟩) (fun h1 => ?_))
  obtain ⟨a, ha, rfl⟩ : ∃ a, a < L ∧ a1 = nI a := by
    rcases hr with e | ⟨-, h⟩
    · exact absurd e h1
    · exact h
  refine SP.bind (rstr_sp hL hA wp ha) (fun r3 h3 => SP.ite (fun _ => SP.ok ⟨h3, hk⟩) (fun _ => SP.bind (kadd_sp h3 hk _ _) (fun r5 h5 => SP.ite (fun _ => SP.ok ⟨h3, h5⟩) (fun _ => SP.bind (bbl_sp hL _) (fun _ _ => SP.bind (byt_sp hL _) (fun _ _ => SP.ite (fun _ => ?_) (fun _ => SP.ok ⟨h3, h5⟩)))))))
  exact SP.bind (bbl_sp hL _) (fun _ _ => SP.bind (etr_sp (by decide) _) (fun _ _ => SP.ok ⟨h3, h5⟩))
abbrev TP : Type := (Nat → Int32) × (Nat → Int32) × (Nat → Int32) × (Nat → Int32) × Int32 × (Nat → Int32) × (Nat → Int32) × (Nat → Int32) × (Nat → Int32) × Int32
abbrev FP : Type := (Nat → Int32) → (Nat → Int32) → (Nat → Int32) → (Nat → Int32) → (Nat → Int32) → Int32 → Int32 → (Nat → Int32) → (Nat → Int32) → (Nat → Int32) → (Nat → Int32) → Int32 → Int32 → Int32 → Option (Int32 × TP)
def psP (r : Int32 × TP) : Prop := AM r.2.2.2.2.1 ∧ KC r.2.2.2.2.2.2.2.2.2.2
def okP (T : Nat → Int32) (L : Nat) (fv : FP) (d : Nat) : Prop := ∀ (Sd In Nx Am : Nat → Int32) (wp : Int32) (kh kp ko kn : Nat → Int32) (kc p : Int32), AM Am → KC kc → SP (fv T Sd In Nx Am (nI L) wp kh kp ko kn kc p (nI d)) psP
theorem rgrp_sp (hL : L ≤ 4096) {fv : FP} {d : Nat} (hfv : d < 24 → okP T L fv (d + 1)) (hd : d ≤ 24) (hA : AM Am) {kh kp ko kn : Nat → Int32} {kc : Int32} (hk : KC kc) (wp p : Int32) : SP (m_X7_readGroup fv T Sd In Nx Am (nI L) wp kh kp ko kn kc p (nI d)) psP := by
  unfold m_X7_readGroup
  simp only [m_X7_refuse, Option.bind_some]
  refine SP.ite (fun h24 => ?_) (fun _ => SP.ok ⟨hA, hk⟩)
  have hd24 : d < 24 := Nat.lt_of_not_le (fun q => nI_nlt (a := d) (b := 24) q (by omega) h24)
  have hfv' := hfv hd24
  have go : ∀ (fuel i : Nat) (Sd In Nx Am : Nat → Int32) (wp : Int32) (kh kp ko kn : Nat → Int32) (kc x3 x4 x5 : Int32), AM Am → KC kc → i ≤ L + 1 → L + 1 - i < fuel → SP (m_X7_readGroup_76 fv T (nI L) fuel Sd In Nx Am wp kh kp ko kn kc p (nI d) x3 x4 x5 (nI i)) psP := by
    intro fuel
    induction fuel with
    | zero => intro i Sd In Nx Am wp kh kp ko kn kc x3 x4 x5 _ _ _ hf; exact absurd hf (Nat.not_lt_zero _)
    | succ fuel ih =>
      intro i Sd In Nx Am wp kh kp ko kn kc x3 x4 x5 hA hk hi hf
      simp only [m_X7_readGroup_76, m_X7_refuse, Option.bind_some]
      refine SP.ite (fun _ => SP.ok ⟨hA, hk⟩) (fun hc => ?_)
      have hiL : i ≤ L := Nat.le_of_not_lt (fun q => hc (nI_lt q (by omega)))
      have h126 : ∀ (Sd In Nx Am : Nat → Int32) (wp : Int32) (kh kp ko kn : Nat → Int32) (kc y0 : Int32), AM Am → KC kc → SP (m_X7_readGroup_126 fv T (nI L) (m_X7_readGroup_76 fv T (nI L) fuel) Sd In Nx Am wp kh kp ko kn kc p (nI d) x3 x4 x5 (nI i) y0) psP := by
        intro Sd In Nx Am wp kh kp ko kn kc y0 hA hk
        unfold m_X7_readGroup_126
        simp only [m_X7_refuse, Option.bind_some, nI_1]
        refine SP.ite (fun _ => SP.ok ⟨hA, hk⟩) (fun _ => SP.bind (join_sp _ _ _) (fun _ _ => SP.bind (etr_sp (by decide) _) (fun am' ha' => ?_)))
        have hA' := AM.etr hA (show i ≤ 4096 by omega) ha'
        exact SP.bind (bbl_sp hL _) (fun _ _ => SP.bind (byt_sp hL _) (fun _ _ => SP.ite (fun _ => SP.ok ⟨hA', hk⟩) (fun _ => SP.bind (byt_sp hL _) (fun _ _ => SP.ite (fun _ => SP.bind (bbl_sp hL _) (fun _ _ => ih (i + 1) _ _ _ _ _ _ _ _ _ _ _ _ _ hA' hk (by omega) (by omega))) (fun _ => SP.ok ⟨hA', hk⟩)))))
      have h105 : ∀ (Sd In Nx Am : Nat → Int32) (wp : Int32) (kh kp ko kn : Nat → Int32) (kc y0 : Int32), AM Am → KC kc → SP (m_X7_readGroup_105 fv T (nI L) (m_X7_readGroup_76 fv T (nI L) fuel) Sd In Nx Am wp kh kp ko kn kc p (nI d) x3 x4 x5 (nI i) y0) psP := by
        intro Sd In Nx Am wp kh kp ko kn kc y0 hA hk
        unfold m_X7_readGroup_105
        simp only [nI_1]
        refine SP.ite (fun _ => h126 _ _ _ _ _ _ _ _ _ _ _ hA hk) (fun _ => SP.bind (hfv' _ _ _ _ _ _ _ _ _ _ _ hA hk) (fun r hr => h126 _ _ _ _ _ _ _ _ _ _ _ hr.1 hr.2))
      exact SP.bind (iso_sp hL _) (fun _ _ => SP.ite (fun _ => h105 _ _ _ _ _ _ _ _ _ _ _ hA hk) (fun _ => SP.bind (rkey_sp hL hA hk _ _ _) (fun r hr => h105 _ _ _ _ _ _ _ _ _ _ _ hr.1 hr.2)))
  have h27 : ∀ y0 : Int32, SP (m_X7_readGroup_27 fv T (nI L) Sd In Nx Am wp kh kp ko kn kc p (nI d) y0) psP := by
    intro y0
    unfold m_X7_readGroup_27
    refine SP.bind (etr_sp (by decide) _) (fun am' ha' => ?_)
    have hA' := AM.etr (k := 0) hA (by omega) ha'
    refine SP.bind (etr_sp (by decide) _) (fun _ _ => SP.bind (bbl_sp hL _) (fun _ _ => SP.bind (byt_sp hL _) (fun _ _ => SP.ite (fun _ => SP.ok ⟨hA', hk⟩) (fun _ => ?_))))
    exact go sr_fuel 1 _ _ _ _ _ _ _ _ _ _ _ _ _ hA' hk (by omega) (by unfold sr_fuel; omega)
  exact SP.bind (iso_sp hL _) (fun _ _ => SP.ite (fun _ => h27 _) (fun _ => h27 _))
theorem rval_sp (hL : L ≤ 4096) : ∀ (D d : Nat), d ≤ 24 → 24 - d < D → okP T L (m_X7_readValue D) d := by
  intro D
  induction D with
  | zero => intro d _ hf; exact absurd hf (Nat.not_lt_zero _)
  | succ D ih =>
    intro d hd hf Sd In Nx Am wp kh kp ko kn kc p hA hk
    simp only [m_X7_readValue, m_X7_refuse, Option.bind_some]
    have grp := rgrp_sp (Sd := Sd) (In := In) (Nx := Nx) (Am := Am) hL (fv := m_X7_readValue D) (d := d) (fun q => ih (d + 1) (by omega) (by omega)) hd hA (kh := kh) (kp := kp) (ko := ko) (kn := kn) hk wp p
    have grp2 : SP ((m_X7_readGroup (m_X7_readValue D) T Sd In Nx Am (nI L) wp kh kp ko kn kc p (nI d)).bind fun (x : Int32 × TP) => some (x.1, (x.2.1, x.2.2.1, x.2.2.2.1, x.2.2.2.2.1, x.2.2.2.2.2.1, x.2.2.2.2.2.2.1, x.2.2.2.2.2.2.2.1, x.2.2.2.2.2.2.2.2.1, x.2.2.2.2.2.2.2.2.2.1, x.2.2.2.2.2.2.2.2.2.2))) psP := SP.bind grp (fun r hr => SP.ok hr)
    have wrd : ∀ w, w < 75 → SP ((m_X7_readWord T (nI L) wp p w).bind fun (x : Int32 × Int32) => some (x.1, (Sd, In, Nx, Am, x.2, kh, kp, ko, kn, kc))) psP := fun w hw => SP.bind (rwrd_sp hL hw _ _) (fun _ _ => SP.ok ⟨hA, hk⟩)
    refine SP.bind (byt_sp hL p) (fun r1 h1 => ?_)
    have hin : ∀ k : Int32, ¬ k = -1 → r1 = k → ∃ a, a < L ∧ p = nI a := by
      intro k hk1 e
      rcases h1 with h | h
      · exact absurd (e.symm.trans h) hk1
      · exact h
    refine SP.ite (fun e => ?_) (fun _ => SP.ite (fun _ => grp2) (fun _ => SP.ite (fun _ => wrd 1 (by decide)) (fun _ => SP.ite (fun _ => wrd 2 (by decide)) (fun _ => SP.ite (fun _ => wrd 0 (by decide)) (fun _ => SP.ite (fun _ => grp2) (fun _ => ?_))))))
    · obtain ⟨a, ha, rfl⟩ := hin 34 (by decide) e
      exact SP.bind (rstr_sp hL hA _ ha) (fun r hr => SP.ok ⟨hr, hk⟩)
    · refine SP.bind (isn_sp hL p) (fun r hr => SP.ite (fun _ => SP.ok ⟨hA, hk⟩) (fun hn => ?_))
      obtain ⟨a, ha, rfl⟩ : ∃ a, a < L ∧ p = nI a := by
        rcases hr with e | ⟨-, h⟩
        · exact absurd e hn
        · exact h
      exact SP.bind (rnum_sp hL _ ha) (fun _ _ => SP.ok ⟨hA, hk⟩)
theorem trd_sp (hL : L ≤ 4096) (hA : AM Am) {kh kp ko kn : Nat → Int32} {kc : Int32} (wp : Int32) : SP (m_X7_read T Sd In Nx Am (nI L) wp kh kp ko kn kc) psP := by
  unfold m_X7_read
  simp only [m_X7_refuse, Option.bind_some]
  refine SP.bind kclr_sp (fun r hr => SP.bind (bbl_sp hL _) (fun r2 _ => ?_))
  have hk : KC r.2 := ⟨0, by omega, by rw [hr, nI_0]⟩
  have h := rval_sp (T := T) hL 27 0 (by omega) (by omega) Sd In Nx Am (-1) r.1 kp ko kn r.2 r2 hA hk
  rw [nI_0] at h
  exact SP.bind h (fun r3 h3 => SP.ite (fun _ => SP.ok h3) (fun _ => SP.bind (bbl_sp hL _) (fun _ _ => SP.ite (fun _ => SP.ok h3) (fun _ => SP.ok h3))))
end CRD
