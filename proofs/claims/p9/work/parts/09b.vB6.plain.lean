-- the class's plain form: what is written, and names in it
section PLAIN
variable {T : Nat → Int32} {L : Nat} {Sd In Nx Am : Nat → Int32}
theorem wrS_app : ∀ (a b : List Nat) (f : Nat → Int32) (i : Nat), wrS f i (a ++ b) = wrS (wrS f i a) (i + a.length) b := by
  intro a
  induction a with
  | nil => intro b f i; rfl
  | cons v t ih =>
    intro b f i
    show wrS _ (i + 1) (t ++ b) = _
    rw [ih, List.length_cons, show i + 1 + t.length = i + (t.length + 1) by omega]
    rfl
theorem wb_eq {Pl : Nat → Int32} {lc v : Nat} (h : lc < 4096) : m_X6_writeByte Pl (nI lc) (nI v) = some (wrS Pl lc [v], nI (lc + 1)) := by
  unfold m_X6_writeByte
  rw [if_neg (show ¬ Int32.ofNat 4096 ≤ nI lc from nI_ge (b := 4096) h (by decide)), bd_go h (by decide), nI_clamp (by omega), nI_1]
  rfl
theorem wr_eq {Pl : Nat → Int32} {lc w : Nat} (hw : w < 75) (h : lc + (litN w).length ≤ 4096) : m_X6_write Pl (nI lc) w = some (wrS Pl lc (litN w), nI (lc + (litN w).length)) := by
  have hlen := lit_len w hw
  have h40 := lit_len40 w hw
  have go : ∀ (t : List Nat) (fuel j : Nat) (P : Nat → Int32), (litN w).drop j = t → j ≤ (litN w).length → t.length < fuel → m_X6_write_2 fuel P (nI (lc + j)) w (nI j) = some (wrS P (lc + j) t, nI (lc + (litN w).length)) := by
    intro t
    induction t with
    | nil =>
      intro fuel j P hd hj hf
      obtain ⟨f, rfl⟩ : ∃ f, fuel = f + 1 := ⟨fuel - 1, by omega⟩
      have hj2 : (litN w).length ≤ j := List.drop_eq_nil_iff.mp hd
      simp only [m_X6_write_2, if_neg (show ¬ nS ≤ w by unfold nS; omega), len_eq w hw, Option.bind_some]
      rw [if_pos (nI_le (by omega) (by omega)), show lc + j = lc + (litN w).length by omega]
      rfl
    | cons c t ih =>
      intro fuel j P hd hj hf
      obtain ⟨f, rfl⟩ : ∃ f, fuel = f + 1 := ⟨fuel - 1, by omega⟩
      have hj2 : j < (litN w).length := by
        apply Nat.lt_of_not_le
        intro q
        rw [List.drop_eq_nil_iff.mpr q] at hd
        cases hd
      have hd2 := ls_drop hj2
      rw [hd] at hd2
      have hc : c = (litN w).getD j 0 := (List.cons.inj hd2).1
      simp only [m_X6_write_2, if_neg (show ¬ nS ≤ w by unfold nS; omega), len_eq w hw, Option.bind_some]
      rw [if_neg (nI_ge (show j < lenS.getD w 0 by omega) (by omega)), chr_eq w hw j (by omega)]
      simp only [Option.bind_some]
      rw [lit_c w hw j (by omega), ← hc, wb_eq (by omega)]
      simp only [Option.bind_some, nI_1]
      have := ih f (j + 1) (wrS P (lc + j) [c]) (List.cons.inj hd2).2.symm (by omega) (by simp at hf; omega)
      rw [show lc + (j + 1) = lc + j + 1 by omega] at this
      exact this
  have := go (litN w) sr_fuel 0 Pl rfl (by omega) (by unfold sr_fuel; omega)
  rw [Nat.add_zero, nI_0] at this
  exact this
theorem ws_eq {Pl : Nat → Int32} {lc p : Nat} {s : List Nat} (hs : SAID Sd Am p s) (h : lc + s.length + 2 ≤ 4096) : m_X6_writeSaid Pl (nI lc) Sd Am (nI p) = some (nI (lc + 1), (wrS Pl lc (34 :: (s ++ [34])), nI (lc + s.length + 2))) := by
  obtain ⟨h1, h2, h3, h4⟩ := hs
  have go : ∀ (t : List Nat) (fuel j : Nat) (P : Nat → Int32), s.drop j = t → j ≤ s.length → t.length < fuel → m_X6_writeSaid_14 Sd Am fuel P (nI (lc + 1 + j)) (nI p) (nI (lc + 1)) (nI j) = some (nI (lc + 1), (wrS P (lc + 1 + j) (t ++ [34]), nI (lc + s.length + 2))) := by
    intro t
    induction t with
    | nil =>
      intro fuel j P hd hj hf
      obtain ⟨f, rfl⟩ : ∃ f, fuel = f + 1 := ⟨fuel - 1, by omega⟩
      have hj2 : s.length ≤ j := List.drop_eq_nil_iff.mp hd
      simp only [m_X6_writeSaid_14, m_X7_amount, ent_eq (n := 4096) (by decide) h1, Option.bind_some, h3]
      rw [if_pos (nI_le (by omega) (by omega)), show (34 : Int32) = nI 34 from rfl, wb_eq (by omega)]
      simp only [Option.bind_some]
      rw [show lc + 1 + j + 1 = lc + s.length + 2 by omega]
      rfl
    | cons c t ih =>
      intro fuel j P hd hj hf
      obtain ⟨f, rfl⟩ : ∃ f, fuel = f + 1 := ⟨fuel - 1, by omega⟩
      have hj2 : j < s.length := by
        apply Nat.lt_of_not_le
        intro q
        rw [List.drop_eq_nil_iff.mpr q] at hd
        cases hd
      have hd2 := ls_drop hj2
      rw [hd] at hd2
      have hc : c = s.getD j 0 := (List.cons.inj hd2).1
      simp only [m_X6_writeSaid_14, m_X7_amount, ent_eq (n := 4096) (by decide) h1, Option.bind_some, h3, nI_add, nI_1]
      rw [if_neg (nI_ge hj2 (by omega)), sai_eq (by omega)]
      simp only [Option.bind_some]
      rw [h4 j hj2, ← hc, wb_eq (by omega)]
      simp only [Option.bind_some]
      exact ih f (j + 1) (wrS P (lc + 1 + j) [c]) (List.cons.inj hd2).2.symm (by omega) (by simp at hf; omega)
  unfold m_X6_writeSaid
  rw [show (34 : Int32) = nI 34 from rfl, wb_eq (by omega)]
  simp only [Option.bind_some]
  have := go s sr_fuel 0 (wrS Pl lc [34]) rfl (by omega) (by unfold sr_fuel; omega)
  rw [Nat.add_zero, nI_0] at this
  exact this
theorem lat_eq {Pl : Nat → Int32} {lc i : Nat} (h : lc ≤ 4096) (hi : i < 2 ^ 31) : m_X6_letterAt Pl (nI lc) (nI i) = some (if i < lc then nI (bv (Pl i)) else -1) := by
  unfold m_X6_letterAt
  rw [if_neg (nI_pos hi)]
  by_cases c : lc ≤ i
  · rw [if_pos (nI_le c hi), if_neg (by omega)]
  · rw [if_neg (nI_ge (by omega) (by omega)), bd_go (show i < 4096 by omega) (by decide), nI_clamp hi, pk_and (Pl i) 8 (by decide), if_pos (by omega)]
    rfl
/-- at x the plain form says the name s, and a quote ends it -/
def PN (Pl : Nat → Int32) (lc x : Nat) (s : List Nat) : Prop := x + s.length < lc ∧ lc ≤ 4096 ∧ isNm s ∧ (∀ j, j < s.length → bv (Pl (x + j)) = s.getD j 0) ∧ bv (Pl (x + s.length)) = 34
theorem PN.keep {Pl Pl' : Nat → Int32} {lc lc' x : Nat} {s : List Nat} (h : PN Pl lc x s) (h1 : lc ≤ lc') (h2 : lc' ≤ 4096) (h3 : ag lc Pl Pl') : PN Pl' lc' x s := by
  obtain ⟨a1, a2, a3, a4, a5⟩ := h
  refine ⟨by omega, h2, a3, fun j hj => ?_, ?_⟩
  · rw [← h3 _ (by omega)]; exact a4 j hj
  · rw [← h3 _ a1]; exact a5
theorem PN.wr {Pl : Nat → Int32} {lc : Nat} {s : List Nat} (hn : isNm s) (hb : ∀ v, v ∈ s → v ≤ 255) (h : lc + s.length + 2 ≤ 4096) : PN (wrS Pl lc (34 :: (s ++ [34]))) (lc + s.length + 2) (lc + 1) s := by
  have hall : ∀ v, v ∈ (34 :: (s ++ [34])) → v ≤ 255 := by
    intro v hv
    rcases List.mem_cons.mp hv with e | e
    · omega
    · rcases List.mem_append.mp e with e | e
      · exact hb v e
      · rw [List.mem_singleton.mp e]; decide
  obtain ⟨w1, w2, w3⟩ := wrS_all (34 :: (s ++ [34])) Pl lc hall
  have hlen : (34 :: (s ++ [34])).length = s.length + 2 := by simp
  refine ⟨by omega, h, hn, fun j hj => ?_, ?_⟩
  · rw [show lc + 1 + j = lc + (j + 1) by omega, w3 (j + 1) (by omega)]
    simp only [List.getD_cons_succ]
    rw [ls_get (show j < (s ++ [34]).length by simp; omega), ls_get hj, List.getElem_append_left hj]
  · rw [show lc + 1 + s.length = lc + (s.length + 1) by omega, w3 (s.length + 1) (by omega)]
    simp
theorem nm_q {s : List Nat} {j : Nat} (h : isNm s) (hj : j < s.length) : s.getD j 0 ≠ 34 := fun e => by
  have := h.2.2.2 j hj
  rw [e] at this
  unfold chr at this
  omega
theorem isd_eq {Pl : Nat → Int32} {lc x p : Nat} {s t : List Nat} (h : PN Pl lc x s) (ht : SAID Sd Am p t) : m_X6_isSaid Pl (nI lc) Sd Am (nI x) (nI p) = some (if s = t then 1 else 0) := by
  obtain ⟨a1, a2, a3, a4, a5⟩ := h
  obtain ⟨h1, h2, h3, h4⟩ := ht
  have hs1 := a3.1
  have hs2 := a3.2.1
  unfold m_X6_isSaid
  simp only [m_X7_amount, ent_eq (n := 4096) (by decide) h1, Option.bind_some, h3]
  by_cases c1 : t.length < 1
  · rw [if_pos (show nI t.length < 1 from nI_lt (b := 1) c1 (by decide)), if_neg (fun e => by rw [e] at hs1; omega)]
  rw [if_neg (show ¬ nI t.length < 1 from nI_nlt (b := 1) (by omega) (by omega))]
  by_cases c2 : t.length ≤ 32
  case neg =>
    rw [if_neg (show ¬ nI t.length ≤ 32 from nI_ge (a := 32) (by omega) (by omega)), if_neg (fun e => by rw [e] at hs2; omega)]
  rw [if_pos (show nI t.length ≤ 32 from nI_le (b := 32) c2 (by decide))]
  have go : ∀ (fuel j : Nat), j ≤ t.length → j ≤ s.length → t.length - j < fuel → (∀ i, i < j → s.getD i 0 = t.getD i 0) → m_X6_isSaid_25 Pl (nI lc) Sd Am fuel (nI x) (nI p) (nI t.length) (nI j) = some (if s = t then 1 else 0) := by
    intro fuel
    induction fuel with
    | zero => intro j _ _ hf; exact absurd hf (Nat.not_lt_zero _)
    | succ fuel ih =>
      intro j hj hjs hf ha
      simp only [m_X6_isSaid_25, nI_add, nI_1]
      by_cases c : t.length ≤ j
      · have ej : j = t.length := by omega
        rw [if_pos (nI_le c (by omega)), lat_eq a2 (by omega), if_pos (show x + t.length < lc by omega)]
        simp only [Option.bind_some]
        by_cases e : s.length = t.length
        · rw [if_pos (ls_eq e (fun i hi => ha i (by omega))), ← e, a5, if_pos (show nI 34 = 34 from rfl)]
        · have hq := nm_q a3 (show t.length < s.length by omega)
          have hb := bv_lt (Pl (x + t.length))
          rw [a4 _ (by omega)] at hb ⊢
          rw [if_neg (show ¬ nI (s.getD t.length 0) = 34 from fun z => hq ((nI_eq (b := 34) (by omega) (by decide)).mp z)), if_neg (fun z => e (by rw [z]))]
      · have hb := bv_lt (Pl (x + j))
        have hb2 := bv_lt (Sd (p + j))
        rw [if_neg (nI_ge (show j < t.length by omega) (by omega)), lat_eq a2 (by omega), if_pos (show x + j < lc by omega)]
        simp only [Option.bind_some]
        by_cases e : j = s.length
        · rw [e, a5, if_pos (show nI 34 = 34 from rfl), if_neg (fun z => by rw [z] at e; omega)]
        · have hq := nm_q a3 (show j < s.length by omega)
          rw [a4 j (by omega)] at hb ⊢
          rw [h4 j (by omega)] at hb2
          rw [if_neg (show ¬ nI (s.getD j 0) = 34 from fun z => hq ((nI_eq (b := 34) (by omega) (by decide)).mp z)), sai_eq (by omega)]
          simp only [Option.bind_some]
          rw [h4 j (by omega)]
          by_cases q : s.getD j 0 = t.getD j 0
          · rw [if_pos (by rw [q])]
            refine ih (j + 1) (by omega) (by omega) (by omega) (fun i hi => ?_)
            by_cases e2 : i = j
            · rw [e2]; exact q
            · exact ha i (by omega)
          · rw [if_neg (fun z => q ((nI_eq (by omega) (by omega)).mp z)), if_neg (fun z => q (by rw [z]))]
  have := go sr_fuel 0 (by omega) (by omega) (by unfold sr_fuel; omega) (fun i hi => absurd hi (Nat.not_lt_zero _))
  rw [nI_0] at this
  exact this
/-- names of slots: each says one, or it is none -/
def NMS (Pl Na : Nat → Int32) (lc sc : Nat) : Prop := ∀ i, i < sc → Na i = -1 ∨ ∃ x s, Na i = nI x ∧ PN Pl lc x s
theorem def_eq {Pl Na : Nat → Int32} {lc sc p : Nat} {t : List Nat} (hsc : sc ≤ 128) (hn : NMS Pl Na lc sc) (ht : SAID Sd Am p t) : (∃ i x, i < sc ∧ Na i = nI x ∧ PN Pl lc x t ∧ m_X6_definition Pl Na (nI lc) (nI sc) Sd Am (nI p) = some (nI i)) ∨ ((∀ i x, i < sc → Na i = nI x → ¬ PN Pl lc x t) ∧ m_X6_definition Pl Na (nI lc) (nI sc) Sd Am (nI p) = some (-1)) := by
  have go : ∀ (fuel j : Nat), j ≤ sc → sc - j < fuel → (∀ i x, i < j → Na i = nI x → ¬ PN Pl lc x t) → (∃ i x, i < sc ∧ Na i = nI x ∧ PN Pl lc x t ∧ m_X6_definition_2 Pl Na (nI lc) (nI sc) Sd Am fuel (nI p) (nI j) = some (nI i)) ∨ ((∀ i x, i < sc → Na i = nI x → ¬ PN Pl lc x t) ∧ m_X6_definition_2 Pl Na (nI lc) (nI sc) Sd Am fuel (nI p) (nI j) = some (-1)) := by
    intro fuel
    induction fuel with
    | zero => intro j _ hf; exact absurd hf (Nat.not_lt_zero _)
    | succ fuel ih =>
      intro j hj hf ha
      simp only [m_X6_definition_2, nI_1]
      by_cases c : sc ≤ j
      · simp only [if_pos (nI_le c (show j < 2 ^ 31 by omega))]
        exact Or.inr ⟨fun i x hi => ha i x (by omega), trivial⟩
      · simp only [if_neg (nI_ge (show j < sc by omega) (show sc < 2 ^ 31 by omega)), bd_go (show j < 128 by omega) (by decide), bd_gc (show j < 128 by omega) (by decide), nI_clamp (show j < 2 ^ 31 by omega)]
        have nxt : (∀ x, Na j = nI x → ¬ PN Pl lc x t) → _ := fun hx => ih (j + 1) (by omega) (by omega) (fun i x hi => by
          by_cases e : i = j
          · rw [e]; exact hx x
          · exact ha i x (by omega))
        rcases hn j (by omega) with e | ⟨x, s, e, hp⟩
        · simp only [e, if_true]
          refine nxt (fun x hx hp => ?_)
          rw [e] at hx
          exact nI_m1 (n := x) (by have := hp.1; have := hp.2.1; omega) hx.symm
        · have hx1 := hp.1
          have hx2 := hp.2.1
          simp only [e, if_neg (nI_m1 (n := x) (by omega)), isd_eq hp ht, Option.bind_some]
          by_cases q : s = t
          · simp only [if_pos q, if_neg (show ¬ (1 : Int32) = 0 by decide)]
            exact Or.inl ⟨j, x, by omega, e, by rw [← q]; exact hp, rfl⟩
          · simp only [if_neg q, if_true]
            refine nxt (fun x' hx' hp' => q ?_)
            have e2 : x = x' := (nI_eq (by omega) (by have := hp'.1; have := hp'.2.1; omega)).mp (e.symm.trans hx')
            subst e2
            obtain ⟨a1, a2, a3, a4, a5⟩ := hp
            obtain ⟨b1, b2, b3, b4, b5⟩ := hp'
            have hlen : s.length = t.length := by
              rcases Nat.lt_trichotomy s.length t.length with z | z | z
              · exact absurd (by rw [← b4 _ z]; exact a5) (nm_q b3 z)
              · exact z
              · exact absurd (by rw [← a4 _ z]; exact b5) (nm_q a3 z)
            exact ls_eq hlen (fun i hi => by rw [← a4 i hi, b4 i (by omega)])
  have := go sr_fuel 0 (by omega) (by unfold sr_fuel; omega) (fun i x hi => absurd hi (Nat.not_lt_zero _))
  rw [nI_0] at this
  exact this
end PLAIN
