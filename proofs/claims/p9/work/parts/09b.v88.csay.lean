-- what strings say, exactly
theorem ls_eq {s t : List Nat} (hl : s.length = t.length) (h : ∀ i, i < s.length → s.getD i 0 = t.getD i 0) : s = t := by
  refine List.ext_getElem hl (fun i h1 h2 => ?_)
  have := h i h1
  rw [ls_get h1, ls_get h2] at this
  exact this
theorem ls_drop {s : List Nat} {j : Nat} (h : j < s.length) : s.drop j = s.getD j 0 :: s.drop (j + 1) := by
  rw [List.drop_eq_getElem_cons h, ls_get h]
theorem bv_nar : ∀ v, v < 256 → bv (vp_nar .byte ((nI v).toInt8.toInt32)) = v := by decide +kernel
theorem wrS_all : ∀ (l : List Nat) (f : Nat → Int32) (i : Nat), (∀ v, v ∈ l → v ≤ 255) → (∀ x, x < i → wrS f i l x = f x) ∧ (∀ x, i + l.length ≤ x → wrS f i l x = f x) ∧ ∀ j, j < l.length → bv (wrS f i l (i + j)) = l.getD j 0 := by
  intro l
  induction l with
  | nil =>
    intro f i _
    exact ⟨fun _ _ => rfl, fun _ _ => rfl, fun j h => absurd h (Nat.not_lt_zero _)⟩
  | cons v t ih =>
    intro f i hv
    obtain ⟨h1, h2, h3⟩ := ih (upd f i (vp_nar .byte ((nI v).toInt8.toInt32))) (i + 1) (fun x hx => hv x (List.mem_cons_of_mem _ hx))
    refine ⟨fun x hx => ?_, fun x hx => ?_, fun j hj => ?_⟩
    · show wrS _ (i + 1) t x = f x
      rw [h1 x (by omega), pk_un (by omega)]
    · show wrS _ (i + 1) t x = f x
      rw [List.length_cons] at hx
      rw [h2 x (by omega), pk_un (by omega)]
    · show bv (wrS _ (i + 1) t (i + j)) = _
      cases j with
      | zero =>
        have hb := hv v List.mem_cons_self
        show bv (wrS (upd f i (vp_nar .byte ((nI v).toInt8.toInt32))) (i + 1) t i) = v
        rw [h1 i (by omega), pk_us, bv_nar v (by omega)]
      | succ j =>
        rw [List.length_cons] at hj
        rw [show i + (j + 1) = i + 1 + j by omega, h3 j (by omega)]
        rfl
theorem sstrf_b {B : Nat → Int32} {L : Nat} : ∀ (n q : Nat) (l : List Nat) (q' : Nat), sstrf B L n q = .inr (l, q') → ∀ v, v ∈ l → v ≤ 255 := by
  intro n
  induction n with
  | zero => intro q l q' h; cases h
  | succ n ih =>
    intro q l q' h v hv
    simp only [sstrf] at h
    by_cases c0 : L ≤ q
    · rw [if_pos c0] at h; cases h
    rw [if_neg c0] at h
    by_cases c1 : cb B L q = 34
    · rw [if_pos c1] at h; cases h; exact absurd hv List.not_mem_nil
    rw [if_neg c1] at h
    by_cases c2 : cb B L q < 32 ∨ 126 < cb B L q
    · rw [if_pos c2] at h; cases h
    rw [if_neg c2] at h
    by_cases c3 : cb B L q = 92
    · rw [if_pos c3] at h
      cases he : sesc B L q with
      | inl w => rw [he] at h; cases h
      | inr x =>
        rw [he] at h
        cases hr : sstrf B L n (q + elen B L q) with
        | inl w =>
          simp only [sE, hr, sC] at h
          cases h
        | inr lq =>
          obtain ⟨l2, q2⟩ := lq
          simp only [sE, hr, sC] at h
          cases h
          rcases List.mem_cons.mp hv with e | e
          · rw [e]; exact sesc_le he
          · exact ih _ _ _ hr v e
    · rw [if_neg c3] at h
      cases hr : sstrf B L n (q + 1) with
      | inl w =>
        simp only [hr, sC] at h
        cases h
      | inr lq =>
        obtain ⟨l2, q2⟩ := lq
        simp only [hr, sC] at h
        cases h
        rcases List.mem_cons.mp hv with e | e
        · rw [e]; omega
        · exact ih _ _ _ hr v e
/-- at p a string lies that says s -/
def SAID (Sd Am : Nat → Int32) (p : Nat) (s : List Nat) : Prop := p < 4096 ∧ p + s.length ≤ 4096 ∧ Am p = nI s.length ∧ ∀ j, j < s.length → bv (Sd (p + j)) = s.getD j 0
theorem SAID.keep {Sd Am Sd' Am' : Nat → Int32} {p : Nat} {s : List Nat} (h : SAID Sd Am p s) (h1 : ∀ i, p ≤ i → i < p + s.length → Sd' i = Sd i) (h2 : Am' p = Am p) : SAID Sd' Am' p s :=
  ⟨h.1, h.2.1, h2.trans h.2.2.1, fun j hj => by rw [h1 (p + j) (by omega) (by omega)]; exact h.2.2.2 j hj⟩
def hsh (s : List Nat) : Int32 := s.foldl (fun h v => h * 31 + nI v) (nI s.length)
section CSAY
variable {Sd Am : Nat → Int32}
theorem ent_eq {row : Nat → Int32} {n i : Nat} (hn : n < 2 ^ 31) (hi : i < n) : m_X8_entry row n (nI i) = some (row i) := by
  unfold m_X8_entry
  rw [if_neg (nI_pos (by omega)), if_neg (show ¬ Int32.ofNat n ≤ nI i from fun q => absurd ((nI_leI (a := n) (b := i) (by omega) (by omega)).mp q) (by omega)), bd_go hi hn, nI_clamp (by omega)]
theorem sai_eq {i : Nat} (hi : i < 4096) : m_X7_saidAt Sd (nI i) = some (nI (bv (Sd i))) := by
  unfold m_X7_saidAt
  rw [if_neg (nI_pos (by omega)), if_neg (show ¬ Int32.ofNat 4096 ≤ nI i from fun q => absurd ((nI_leI (a := 4096) (b := i) (by omega) (by omega)).mp q) (by omega)), bd_go hi (by decide), nI_clamp (by omega), pk_and (Sd i) 8 (by decide)]
  rfl
theorem sasa_eq {a b : Nat} {s t : List Nat} (hs : SAID Sd Am a s) (ht : SAID Sd Am b t) : m_X7_saysSame Sd Am (nI a) (nI b) = some (if s = t then 1 else 0) := by
  obtain ⟨s1, s2, s3, s4⟩ := hs
  obtain ⟨t1, t2, t3, t4⟩ := ht
  unfold m_X7_saysSame
  rw [ent_eq (by decide) s1, ent_eq (by decide) t1]
  simp only [Option.bind_some, s3, t3]
  by_cases hl : s.length = t.length
  · rw [if_pos (by rw [hl])]
    have go : ∀ (fuel j : Nat), j ≤ s.length → s.length - j < fuel → (∀ i, i < j → s.getD i 0 = t.getD i 0) → m_X7_saysSame_26 Sd Am fuel (nI a) (nI b) (nI s.length) (nI j) = some (if s = t then 1 else 0) := by
      intro fuel
      induction fuel with
      | zero => intro j _ hf; exact absurd hf (Nat.not_lt_zero _)
      | succ fuel ih =>
        intro j hj hf hb
        simp only [m_X7_saysSame_26, nI_add, nI_1]
        by_cases h : s.length ≤ j
        · rw [if_pos (nI_le h (by omega)), if_pos (ls_eq hl (fun i hi => hb i (by omega)))]
        · rw [if_neg (fun q => h ((nI_leI (by omega) (by omega)).mp q)), sai_eq (show a + j < 4096 by omega), sai_eq (show b + j < 4096 by omega)]
          simp only [Option.bind_some, s4 j (by omega), t4 j (by omega)]
          have v1 : s.getD j 0 < 256 := by
            rw [← s4 j (by omega)]
            unfold bv
            omega
          have v2 : t.getD j 0 < 256 := by
            rw [← t4 j (by omega)]
            unfold bv
            omega
          by_cases e : s.getD j 0 = t.getD j 0
          · rw [if_pos (by rw [e])]
            refine ih (j + 1) (by omega) (by omega) (fun i hi => ?_)
            by_cases q : i = j
            · rw [q]; exact e
            · exact hb i (by omega)
          · rw [if_neg (fun q => e ((nI_eq (by omega) (by omega)).mp q)), if_neg (fun q => e (by rw [q]))]
    have := go sr_fuel 0 (Nat.zero_le _) (by unfold sr_fuel; omega) (fun i hi => absurd hi (Nat.not_lt_zero _))
    rw [nI_0] at this
    exact this
  · rw [if_neg (fun q => hl ((nI_eq (by omega) (by omega)).mp q)), if_neg (fun q => hl (by rw [q]))]
theorem hash_eq {a : Nat} {s : List Nat} (hs : SAID Sd Am a s) : m_X7_hash Sd Am (nI a) = some (hsh s) := by
  obtain ⟨s1, s2, s3, s4⟩ := hs
  unfold m_X7_hash
  rw [ent_eq (by decide) s1]
  simp only [Option.bind_some, s3]
  have go : ∀ (fuel j : Nat) (x : Int32), j ≤ s.length → s.length - j < fuel → m_X7_hash_14 Sd Am fuel (nI a) (nI s.length) x (nI j) = some ((s.drop j).foldl (fun h v => h * 31 + nI v) x) := by
    intro fuel
    induction fuel with
    | zero => intro j x _ hf; exact absurd hf (Nat.not_lt_zero _)
    | succ fuel ih =>
      intro j x hj hf
      simp only [m_X7_hash_14, nI_add, nI_1]
      by_cases h : s.length ≤ j
      · rw [if_pos (nI_le h (by omega)), List.drop_of_length_le h]
        rfl
      · rw [if_neg (fun q => h ((nI_leI (by omega) (by omega)).mp q)), sai_eq (show a + j < 4096 by omega), ls_drop (show j < s.length by omega)]
        simp only [Option.bind_some, s4 j (by omega), List.foldl_cons]
        exact ih (j + 1) _ (by omega) (by omega)
  have := go sr_fuel 0 (nI s.length) (Nat.zero_le _) (by unfold sr_fuel; omega)
  rw [nI_0, List.drop_zero] at this
  exact this
end CSAY
