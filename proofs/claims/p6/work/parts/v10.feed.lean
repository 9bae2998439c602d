-- the tape: both sides write the same bytes
theorem bv_sh (b : BitVec 32) (k : Nat) (hk : k ≤ 24) : (b >>> k).signExtend 8 = (b.sshiftRight k).signExtend 8 := by
  apply BitVec.eq_of_getLsbD_eq
  intro i hi
  have h1 : k + i < 32 := by omega
  have h2 : ¬ 32 ≤ i := by omega
  have h3 : i < 32 := by omega
  simp only [BitVec.getLsbD_signExtend, BitVec.getLsbD_ushiftRight, BitVec.getLsbD_sshiftRight, if_pos h3, hi]
  simp [h1, h2]
theorem sh24 (x : Int32) (v : Int32) (k : Nat) (hk : k ≤ 24) (h1 : (v.toUInt32 &&& Int32.toUInt32 31).toBitVec % 32 = BitVec.ofNat 32 k) (h2 : (v &&& 31).toBitVec.smod 32 = BitVec.ofNat 32 k) : ((x.toUInt32 >>> (v.toUInt32 &&& Int32.toUInt32 31)).toInt32).toInt8 = (x >>> (v &&& 31)).toInt8 := by
  have e1 : (((x.toUInt32 >>> (v.toUInt32 &&& Int32.toUInt32 31)).toInt32).toInt8).toBitVec = (x.toBitVec >>> k).signExtend 8 := by
    show BitVec.signExtend 8 ((x.toUInt32 >>> (v.toUInt32 &&& Int32.toUInt32 31)).toBitVec) = _
    rw [UInt32.toBitVec_shiftRight, h1]
    show BitVec.signExtend 8 (x.toBitVec >>> (BitVec.ofNat 32 k).toNat) = _
    rw [BitVec.toNat_ofNat, Nat.mod_eq_of_lt (by omega)]
  have e2 : ((x >>> (v &&& 31)).toInt8).toBitVec = (x.toBitVec.sshiftRight k).signExtend 8 := by
    show BitVec.signExtend 8 ((x >>> (v &&& 31)).toBitVec) = _
    rw [Int32.toBitVec_shiftRight, h2]
    show BitVec.signExtend 8 (x.toBitVec.sshiftRight (BitVec.ofNat 32 k).toNat) = _
    rw [BitVec.toNat_ofNat, Nat.mod_eq_of_lt (by omega)]
  exact Int8.toBitVec_inj.mp (e1.trans ((bv_sh _ k hk).trans e2.symm))
def q1b (a v : Int32) : Int32 := vp_nar .byte ((a >>> (v &&& 31)).toInt8.toInt32)
def q4b (T : Nat → Int32) (L : Nat) (a : Int32) : Nat → Int32 := upd (upd (upd (upd T L (q1b a 24)) (L + 1) (q1b a 16)) (L + 1 + 1) (q1b a 8)) (L + 1 + 1 + 1) (q1b a 0)
def q20 (T : Nat → Int32) (L : Nat) (a0 a1 a2 a3 a4 : Int32) : Nat → Int32 := q4b (q4b (q4b (q4b (q4b T L a0) (L + 4) a1) (L + 4 + 4) a2) (L + 4 + 4 + 4) a3) (L + 4 + 4 + 4 + 4) a4
section FEE
variable {T B : Nat → Int32} {L : Nat}
theorem app_eq (hL : L + 4 ≤ 4096) (a : Int32) : m_X7_append T (nI L) a = some (q4b T L a, nI (L + 4)) := by
  have e0 : (24 : Int32) + -8 = 16 := by decide +kernel
  have e1 : (16 : Int32) + -8 = 8 := by decide +kernel
  have e2 : (8 : Int32) + -8 = 0 := by decide +kernel
  have e3 : (0 : Int32) + -8 = -8 := by decide +kernel
  have step : ∀ (f : Nat) (T : Nat → Int32) (i : Nat) (x : Int32) (k : Nat), i < 4096 → ¬ x < 0 → k ≤ 24 → (x.toUInt32 &&& Int32.toUInt32 31).toBitVec % 32 = BitVec.ofNat 32 k → (x &&& 31).toBitVec.smod 32 = BitVec.ofNat 32 k → m_X7_append_3 (f + 1) T (nI i) a x = m_X7_append_3 f (upd T i (q1b a x)) (nI (i + 1)) a (x + -8) := by
    intro f T i x k hi hx hk h1 h2
    simp only [m_X7_append_3, if_neg hx, nI_1]
    rw [if_neg (show ¬ Int32.ofNat 4096 ≤ nI i from nI_ge (b := 4096) hi (by omega)), bd_go hi (by decide), nI_clamp (show i < 2 ^ 31 by omega), sh24 a x k hk h1 h2]
    rfl
  unfold m_X7_append
  obtain ⟨f, hf⟩ : ∃ f, sr_fuel = f + 1 + 1 + 1 + 1 + 1 := ⟨99995, rfl⟩
  rw [hf, step (f + 1 + 1 + 1 + 1) T L 24 24 (by omega) (by decide) (by decide) (by decide) (by decide), e0, step (f + 1 + 1 + 1) _ (L + 1) 16 16 (by omega) (by decide) (by decide) (by decide) (by decide), e1, step (f + 1 + 1) _ (L + 1 + 1) 8 8 (by omega) (by decide) (by decide) (by decide) (by decide), e2, step (f + 1) _ (L + 1 + 1 + 1) 0 0 (by omega) (by decide) (by decide) (by decide) (by decide), e3]
  simp only [m_X7_append_3, if_pos (show (-8 : Int32) < 0 by decide)]
  rfl
theorem adi_eq (hL : L + 4 ≤ 4096) (a : Int32) : m_X10_addInt T (nI L) a = some (q4b T L a, nI (L + 4)) := by
  have e0 : (24 : Int32) + -8 = 16 := by decide +kernel
  have e1 : (16 : Int32) + -8 = 8 := by decide +kernel
  have e2 : (8 : Int32) + -8 = 0 := by decide +kernel
  have e3 : (0 : Int32) + -8 = -8 := by decide +kernel
  have step : ∀ (f : Nat) (T : Nat → Int32) (i : Nat) (x : Int32), i < 4096 → ¬ x < 0 → m_X10_addInt_3 (f + 1) T (nI i) a x = m_X10_addInt_3 f (upd T i (q1b a x)) (nI (i + 1)) a (x + -8) := by
    intro f T i x hi hx
    simp only [m_X10_addInt_3, if_neg hx, nI_1]
    rw [bd_go hi (by decide), nI_clamp (show i < 2 ^ 31 by omega)]
    rfl
  unfold m_X10_addInt
  obtain ⟨f, hf⟩ : ∃ f, sr_fuel = f + 1 + 1 + 1 + 1 + 1 := ⟨99995, rfl⟩
  rw [hf, step (f + 1 + 1 + 1 + 1) T L 24 (by omega) (by decide), e0, step (f + 1 + 1 + 1) _ (L + 1) 16 (by omega) (by decide), e1, step (f + 1 + 1) _ (L + 1 + 1) 8 (by omega) (by decide), e2, step (f + 1) _ (L + 1 + 1 + 1) 0 (by omega) (by decide), e3]
  simp only [m_X10_addInt_3, if_pos (show (-8 : Int32) < 0 by decide)]
  rfl
theorem cfe_eq (hL : L + 20 ≤ 4096) (a0 a1 a2 a3 a4 : Int32) : m_X8_feed T (nI L) a0 a1 a2 a3 a4 = some (.ok (nI (L + 20), (q20 T L a0 a1 a2 a3 a4, nI (L + 20)))) := by
  have e20 : nI L + 20 = nI (L + 20) := nI_add L 20
  unfold m_X8_feed
  simp only [m_X7_length, Option.bind_some]
  rw [e20, if_pos (show nI (L + 20) ≤ 4096 from nI_le (b := 4096) hL (by omega))]
  rw [app_eq (by omega) a0, Option.bind_some]
  dsimp only
  rw [app_eq (L := L + 4) (by omega) a1, Option.bind_some]
  dsimp only
  rw [app_eq (L := L + 4 + 4) (by omega) a2, Option.bind_some]
  dsimp only
  rw [app_eq (L := L + 4 + 4 + 4) (by omega) a3, Option.bind_some]
  dsimp only
  rw [app_eq (L := L + 4 + 4 + 4 + 4) (by omega) a4, Option.bind_some]
  rfl
theorem mfe_eq (hL : L + 20 ≤ 4096) (th a0 a1 a2 a3 a4 : Int32) : m_X10_feed th T (nI L) a0 a1 a2 a3 a4 = some (nI (L + 20), (0, q20 T L a0 a1 a2 a3 a4, nI (L + 20))) := by
  have e20 : nI L + 20 = nI (L + 20) := nI_add L 20
  unfold m_X10_feed m_X10_feed_19
  rw [e20, if_pos (show nI (L + 20) ≤ 4096 from nI_le (b := 4096) hL (by omega))]
  simp only [ref_0, Option.bind_some, if_true]
  rw [adi_eq (by omega) a0, Option.bind_some]
  dsimp only
  rw [adi_eq (L := L + 4) (by omega) a1, Option.bind_some]
  dsimp only
  rw [adi_eq (L := L + 4 + 4) (by omega) a2, Option.bind_some]
  dsimp only
  rw [adi_eq (L := L + 4 + 4 + 4) (by omega) a3, Option.bind_some]
  dsimp only
  rw [adi_eq (L := L + 4 + 4 + 4 + 4) (by omega) a4, Option.bind_some]
  rfl
theorem q1b_by (a v : Int32) : (q1b a v).toInt8.toInt32 = q1b a v := by
  show ((((a >>> (v &&& 31)).toInt8.toInt32).toInt8.toInt32).toInt8.toInt32) = ((a >>> (v &&& 31)).toInt8.toInt32).toInt8.toInt32
  simp only [Int8.toInt8_toInt32]
theorem q4b_eq (h : ∀ i, i < L → T i = B i) (a : Int32) : ∀ i, i < L + 4 → q4b T L a i = q4b B L a i := by
  intro i hi
  unfold q4b
  by_cases e3 : i = L + 1 + 1 + 1
  · subst e3; rw [pk_us, pk_us]
  rw [pk_un e3, pk_un e3]
  by_cases e2 : i = L + 1 + 1
  · subst e2; rw [pk_us, pk_us]
  rw [pk_un e2, pk_un e2]
  by_cases e1 : i = L + 1
  · subst e1; rw [pk_us, pk_us]
  rw [pk_un e1, pk_un e1]
  by_cases e0 : i = L
  · subst e0; rw [pk_us, pk_us]
  rw [pk_un e0, pk_un e0]
  exact h i (by omega)
theorem q4b_by (h : BY T L) (a : Int32) : BY (q4b T L a) (L + 4) := by
  intro i hi
  unfold q4b
  by_cases e3 : i = L + 1 + 1 + 1
  · subst e3; rw [pk_us]; exact q1b_by _ _
  rw [pk_un e3]
  by_cases e2 : i = L + 1 + 1
  · subst e2; rw [pk_us]; exact q1b_by _ _
  rw [pk_un e2]
  by_cases e1 : i = L + 1
  · subst e1; rw [pk_us]; exact q1b_by _ _
  rw [pk_un e1]
  by_cases e0 : i = L
  · subst e0; rw [pk_us]; exact q1b_by _ _
  rw [pk_un e0]
  exact h i (by omega)
end FEE
/-- what holds between the two tapes, the two places -/
def lw_R (L : Nat) (tT : Nat → Int32) (xf : Int32) (mT : Nat → Int32) (mp : Int32) : Prop := BY tT L ∧ BY mT L ∧ (∀ i, i < L → tT i = mT i) ∧ xf = mp
section LWR
variable {tT mT : Nat → Int32} {L : Nat} {xf mp : Int32}
theorem lw_R.feed (h : lw_R L tT xf mT mp) {a0 a1 a2 a3 a4 : Int32} : lw_R (L + 20) (q20 tT L a0 a1 a2 a3 a4) xf (q20 mT L a0 a1 a2 a3 a4) mp :=
  ⟨q4b_by (q4b_by (q4b_by (q4b_by (q4b_by h.1 a0) a1) a2) a3) a4, q4b_by (q4b_by (q4b_by (q4b_by (q4b_by h.2.1 a0) a1) a2) a3) a4, q4b_eq (q4b_eq (q4b_eq (q4b_eq (q4b_eq h.2.2.1 a0) a1) a2) a3) a4, h.2.2.2⟩
theorem lw_R.mono (h : lw_R L tT xf mT mp) {L' : Nat} (hl : L' ≤ L) : lw_R L' tT xf mT mp :=
  ⟨fun i hi => h.1 i (by omega), fun i hi => h.2.1 i (by omega), fun i hi => h.2.2.1 i (by omega), h.2.2.2⟩
theorem lw_R.cbe (h : lw_R L tT xf mT mp) : cb mT L = cb tT L := by
  funext i
  unfold cb
  by_cases hi : L ≤ i
  · rw [if_pos hi, if_pos hi]
  · rw [if_neg hi, if_neg hi, h.2.2.1 i (by omega)]
theorem lw_R.sch (h : lw_R L tT xf mT mp) {z : Int32} : lw_R L tT z mT z := ⟨h.1, h.2.1, h.2.2.1, rfl⟩
theorem le_of1 {L L' : Nat} {x k : Int32} (h : (∃ a, a ≤ L ∧ x = nI a ∧ L' = a ∧ k = 0) ∨ ((∀ a, a ≤ L → x ≠ nI a) ∧ L' = L ∧ k = 1)) : L' ≤ L := by
  rcases h with ⟨a, ha, _, e, _⟩ | ⟨_, e, _⟩
  · omega
  · omega
end LWR
