-- the plain form told over the nodes; the reference's writing against it
theorem bv_sbI : ∀ v, v < 256 → bv (vp_nar .byte (sbI v)) = v := by decide +kernel
theorem gd_mid {a t : List Nat} {c : Nat} : (a ++ c :: t).getD a.length 0 = c := by
  rw [List.getD_eq_getElem?_getD, List.getElem?_append_right (Nat.le_refl _), Nat.sub_self]
  rfl
theorem len_sn {a : List Nat} {c : Nat} : (a ++ [c]).length = a.length + 1 := by rw [List.length_append]; rfl
theorem PLI.push {Pl : Nat → Int32} {pl : List Nat} {c : Nat} {x : Int32} (h : PLI Pl pl) (hx : bv x = c) : PLI (upd Pl pl.length x) (pl ++ [c]) := by
  intro i hi
  rw [len_sn] at hi
  by_cases e : i = pl.length
  · subst e
    rw [pk_us, hx, gd_mid]
  · rw [pk_un e, h i (by omega), List.getD_eq_getElem?_getD, List.getD_eq_getElem?_getD, List.getElem?_append_left (by omega)]
/-- a piece of writing -/
def EM (x : Option ((Nat → Int32) × Int32)) (pl : List Nat) : Prop := ∃ Pl', x = some (Pl', nI pl.length) ∧ PLI Pl' pl
def EWr (x : Option ((Nat → Int32) × Int32 × (Nat → Int32))) (pl : List Nat) (P : (Nat → Int32) → Prop) : Prop := ∃ Pl' To', x = some (Pl', nI pl.length, To') ∧ PLI Pl' pl ∧ P To'
theorem put_go {w : Nat} (hw : w < 75) : ∀ (r pre pl : List Nat) (Pl : Nat → Int32) (fuel : Nat), litN w = pre ++ r → r.length < fuel → PLI Pl pl → pl.length + r.length ≤ 4200 → EM (m_X9_put_2 fuel Pl (nI pl.length) w (nI pre.length)) (pl ++ r) := by
  have hl := lit_len w hw
  have h40 := lit_len40 w hw
  intro r
  induction r with
  | nil =>
    intro pre pl Pl fuel he hf h hb
    obtain ⟨f, rfl⟩ : ∃ f, fuel = f + 1 := ⟨fuel - 1, by simp only [List.length_nil] at hf; omega⟩
    rw [List.append_nil] at he ⊢
    rw [he] at hl h40
    refine ⟨Pl, ?_, h⟩
    simp only [m_X9_put_2, if_neg (show ¬ nS ≤ w by unfold nS; omega), len_eq w hw, Option.bind_some]
    rw [← hl, if_pos (nI_le (Nat.le_refl _) (show pre.length < 2 ^ 31 by omega))]
  | cons c t ih =>
    intro pre pl Pl fuel he hf h hb
    simp only [List.length_cons] at hf hb
    obtain ⟨f, rfl⟩ : ∃ f, fuel = f + 1 := ⟨fuel - 1, by omega⟩
    have hlen : (litN w).length = pre.length + (t.length + 1) := by rw [he, List.length_append, List.length_cons]
    have hc : (litN w).getD pre.length 0 = c := by rw [he]; exact gd_mid
    have hc2 : c < 128 := lit_b w hw c (by rw [he]; exact List.mem_append_right _ List.mem_cons_self)
    have hch := chr_eq w hw pre.length (by omega)
    rw [lit_c w hw pre.length (by omega), hc] at hch
    have ih2 := ih (pre ++ [c]) (pl ++ [c]) (upd Pl pl.length (vp_nar .byte ((nI c).toInt8.toInt32))) f (by rw [he, List.append_assoc]; rfl) (by omega) (h.push (bv_nar c (by omega))) (by rw [len_sn]; omega)
    rw [len_sn, len_sn, List.append_assoc] at ih2
    simp only [m_X9_put_2, if_neg (show ¬ nS ≤ w by unfold nS; omega), len_eq w hw, Option.bind_some]
    rw [if_neg (nI_ge (show pre.length < lenS.getD w 0 by omega) (by omega)), hch, Option.bind_some, bd_go (show pl.length < 4200 by omega) (by decide), nI_clamp (show pl.length < 2 ^ 31 by omega), nI_1, nI_1]
    exact ih2
theorem put_a {w : Nat} (hw : w < 75) {Pl : Nat → Int32} {pl : List Nat} (h : PLI Pl pl) (hb : pl.length + (litN w).length ≤ 4200) : EM (m_X9_put Pl (nI pl.length) w) (pl ++ litN w) := by
  have h1 := put_go hw (litN w) [] pl Pl sr_fuel rfl (by have := lit_len40 w hw; unfold sr_fuel; omega) h hb
  unfold m_X9_put
  rw [show nI ([] : List Nat).length = 0 from nI_0] at h1
  exact h1
theorem lit_w : litN 61 = litN 17 ∧ litN 62 = litN 18 ∧ litN 63 = [125] ∧ litN 64 = [91] ∧ litN 65 = [44] ∧ litN 66 = [] ∧ litN 67 = [93] ∧ litN 68 = [34] ∧ litN 69 = litN 21 ∧ litN 73 = litN 31 ∧ litN 74 = litN 27 := by decide +kernel
theorem lit_w2 : litN 70 = litN 22 ++ (litN 11 ++ (34 :: litN 24)) ∧ litN 71 = litN 22 ++ (litN 12 ++ (34 :: litN 26)) ∧ litN 72 = litN 22 ++ (litN 13 ++ (34 :: litN 30)) := by decide +kernel
theorem put_b {w : Nat} {b : List Nat} (hw : w < 75) (he : litN w = b) {Pl : Nat → Int32} {pl : List Nat} (h : PLI Pl pl) (hb : pl.length + b.length ≤ 4200) : EM (m_X9_put Pl (nI pl.length) w) (pl ++ b) := by
  subst he
  exact put_a hw h hb
theorem fig_a {v : Nat} (hv : v ≤ 9) {Pl : Nat → Int32} {pl : List Nat} (h : PLI Pl pl) (hb : pl.length + 1 ≤ 4200) : EM (m_X9_figure Pl (nI pl.length) (nI v)) (pl ++ [48 + v]) := by
  simp only [m_X9_figure, bd_go (show pl.length < 4200 by omega) (by decide), bd_gc (show pl.length < 4200 by omega) (by decide), nI_clamp (show pl.length < 2 ^ 31 by omega), nI_1, show (48 : Int32) + nI v = nI (48 + v) from nI_add 48 v]
  exact ⟨_, by rw [len_sn], h.push (bv_nar (48 + v) (by omega))⟩
section WSP
variable (G : Nat → Nod) (nm : Nat → List Nat)
def gS (f : Nat → (Nat → Bool) → Option (List Nat × (Nat → Bool))) (pre : Nat → List Nat) (post : List Nat) : List Nat → (Nat → Bool) → Option (List Nat × (Nat → Bool))
  | [], to => some ([], to)
  | c :: t, to => match f c to with
    | none => none
    | some r => match gS f pre post t r.2 with
      | none => none
      | some r2 => some (pre c ++ (r.1 ++ (post ++ ((if t = [] then [] else [44]) ++ r2.1))), r2.2)
def jnS : List (List Nat) → List Nat
  | [] => []
  | w :: t => qt w ++ ((if t = [] then [] else [44]) ++ jnS t)
def upB (to : Nat → Bool) (d : Nat) : Nat → Bool := fun x => if x = d then true else to x
def fpre (c : Nat) : List Nat := litN 21 ++ (qt (n_fn (G c)) ++ litN 31)
def wS : Nat → Nat → (Nat → Bool) → Option (List Nat × (Nat → Bool))
  | 0, _, _ => none
  | n + 1, i, to => if n_kd (G (n_me (G i))) ≤ 5 then some (qt (litN (3 + n_kd (G (n_me (G i))))), to)
    else if n_kd (G (n_me (G i))) = 6 ∨ n_kd (G (n_me (G i))) = 7 then
      (match n_ch (G (n_me (G i))) with
      | [] => none
      | c :: _ => match wS n c to with
        | none => none
        | some r => some (litN (if n_kd (G (n_me (G i))) = 6 then 17 else 18) ++ (r.1 ++ [125]), r.2))
    else if n_kd (G (n_me (G i))) = 11 then
      (match gS (wS n) (fun _ => []) [] (n_ch (G (n_me (G i)))) to with
      | none => none
      | some r => some ([91] ++ (r.1 ++ [93]), r.2))
    else if to (n_me (G i)) = true then some (qt (nm (n_me (G i))), to)
    else if n_kd (G (n_me (G i))) = 8 then some (litN 21 ++ (qt (nm (n_me (G i))) ++ (litN 70 ++ (dgs (n_wd (G (n_me (G i)))) ++ [125]))), upB to (n_me (G i)))
    else if n_kd (G (n_me (G i))) = 9 then some (litN 21 ++ (qt (nm (n_me (G i))) ++ (litN 71 ++ (jnS (n_sy (G (n_me (G i)))) ++ litN 27))), upB to (n_me (G i)))
    else match gS (wS n) (fpre G) [125] (n_ch (G (n_me (G i)))) (upB to (n_me (G i))) with
      | none => none
      | some r => some (litN 21 ++ (qt (nm (n_me (G i))) ++ (litN 72 ++ (r.1 ++ litN 27))), r.2)
end WSP
theorem gS_cons {f : Nat → (Nat → Bool) → Option (List Nat × (Nat → Bool))} {pre : Nat → List Nat} {post : List Nat} {c : Nat} {t : List Nat} {to : Nat → Bool} {bs : List Nat} {to' : Nat → Bool} (h : gS f pre post (c :: t) to = some (bs, to')) : ∃ b to1 b2, f c to = some (b, to1) ∧ gS f pre post t to1 = some (b2, to') ∧ bs = pre c ++ (b ++ (post ++ ((if t = [] then [] else [44]) ++ b2))) := by
  unfold gS at h
  cases h1 : f c to with
  | none => rw [h1] at h; cases h
  | some r =>
    rw [h1] at h
    dsimp only at h
    cases h2 : gS f pre post t r.2 with
    | none => rw [h2] at h; cases h
    | some r2 =>
      rw [h2] at h
      have h := Option.some.inj h
      have e1 := congrArg Prod.fst h
      have e2 := congrArg Prod.snd h
      dsimp only at e1 e2
      exact ⟨r.1, r.2, r2.1, rfl, by rw [h2, ← e2], e1.symm⟩
theorem gS_mono {f : Nat → (Nat → Bool) → Option (List Nat × (Nat → Bool))} {pre : Nat → List Nat} {post : List Nat} (hf : ∀ c to b to1, f c to = some (b, to1) → ∀ x, to x = true → to1 x = true) : ∀ (t : List Nat) (to : Nat → Bool) (bs : List Nat) (to' : Nat → Bool), gS f pre post t to = some (bs, to') → ∀ x, to x = true → to' x = true := by
  intro t
  induction t with
  | nil =>
    intro to bs to' h x hx
    have e := (Prod.mk.inj (Option.some.inj h)).2
    rw [← e]
    exact hx
  | cons c t ih =>
    intro to bs to' h x hx
    obtain ⟨b, to1, b2, h1, h2, -⟩ := gS_cons h
    exact ih _ _ _ h2 x (hf _ _ _ _ h1 x hx)
theorem wS_mono {G : Nat → Nod} {nm : Nat → List Nat} : ∀ (n i : Nat) (to : Nat → Bool) (bs : List Nat) (to' : Nat → Bool), wS G nm n i to = some (bs, to') → ∀ x, to x = true → to' x = true := by
  intro n
  induction n with
  | zero => intro i to bs to' h; cases h
  | succ n ih =>
    intro i to bs to' h x hx
    have hu : upB to (n_me (G i)) x = true := by
      show (if x = n_me (G i) then true else to x) = true
      by_cases e : x = n_me (G i)
      · rw [if_pos e]
      · rw [if_neg e]; exact hx
    unfold wS at h
    by_cases c1 : n_kd (G (n_me (G i))) ≤ 5
    · rw [if_pos c1] at h
      rw [← (Prod.mk.inj (Option.some.inj h)).2]; exact hx
    rw [if_neg c1] at h
    by_cases c2 : n_kd (G (n_me (G i))) = 6 ∨ n_kd (G (n_me (G i))) = 7
    · rw [if_pos c2] at h
      cases hc : n_ch (G (n_me (G i))) with
      | nil => rw [hc] at h; cases h
      | cons c t =>
        rw [hc] at h
        dsimp only at h
        cases hw : wS G nm n c to with
        | none => rw [hw] at h; cases h
        | some r =>
          rw [hw] at h
          rw [← (Prod.mk.inj (Option.some.inj h)).2]
          exact ih c to r.1 r.2 hw x hx
    rw [if_neg c2] at h
    by_cases c3 : n_kd (G (n_me (G i))) = 11
    · rw [if_pos c3] at h
      cases hg : gS (wS G nm n) (fun _ => []) [] (n_ch (G (n_me (G i)))) to with
      | none => rw [hg] at h; cases h
      | some r =>
        rw [hg] at h
        rw [← (Prod.mk.inj (Option.some.inj h)).2]
        exact gS_mono ih _ _ r.1 r.2 hg x hx
    rw [if_neg c3] at h
    by_cases c4 : to (n_me (G i)) = true
    · rw [if_pos c4] at h
      rw [← (Prod.mk.inj (Option.some.inj h)).2]; exact hx
    rw [if_neg c4] at h
    by_cases c5 : n_kd (G (n_me (G i))) = 8
    · rw [if_pos c5] at h
      rw [← (Prod.mk.inj (Option.some.inj h)).2]; exact hu
    rw [if_neg c5] at h
    by_cases c6 : n_kd (G (n_me (G i))) = 9
    · rw [if_pos c6] at h
      rw [← (Prod.mk.inj (Option.some.inj h)).2]; exact hu
    rw [if_neg c6] at h
    cases hg : gS (wS G nm n) (fpre G) [125] (n_ch (G (n_me (G i)))) (upB to (n_me (G i))) with
    | none => rw [hg] at h; cases h
    | some r =>
      rw [hg] at h
      rw [← (Prod.mk.inj (Option.some.inj h)).2]
      exact gS_mono ih _ _ r.1 r.2 hg x hu
section WRB
variable {N : Nat → Int64} {S Lt So Nm Wi Kd kS kN kX : Nat → Int32} {l sh kc k : Nat} {D : List Nat → Option Nat} {G : Nat → Nod} {nm : Nat → List Nat}
theorem pnm_a {x : Int32} {s : List Nat} (hl : l ≤ 4200) (hx : RNm N S Lt l x s) {Pl : Nat → Int32} {pl : List Nat} (h : PLI Pl pl) (hb : pl.length + (qt s).length ≤ 4200) : EM (m_X9_putName N S Lt Pl (nI pl.length) x) (pl ++ qt s) := by
  obtain ⟨n, rfl, hn, ⟨hS, st, hN, hst, hLt⟩, hv⟩ := hx
  have l68 := lit_w.2.2.2.2.2.2.2.1
  have hq : (qt s).length = s.length + 2 := by
    show (s ++ [34]).length + 1 = _
    rw [len_sn]
  have go : ∀ (r pre pl : List Nat) (Pl : Nat → Int32) (fuel : Nat), s = pre ++ r → r.length < fuel → PLI Pl pl → pl.length + (r.length + 1) ≤ 4200 → EM (m_X9_putName_9 N S Lt fuel Pl (nI pl.length) (nI n) (nI pre.length)) (pl ++ (r ++ [34])) := by
    intro r
    induction r with
    | nil =>
      intro pre pl Pl fuel he hf h hb
      simp only [List.length_nil] at hf hb
      obtain ⟨f, rfl⟩ : ∃ f, fuel = f + 1 := ⟨fuel - 1, by omega⟩
      rw [List.append_nil] at he
      have hsl : s.length = pre.length := by rw [he]
      simp only [m_X9_putName_9, bd_go (show n < 4200 by omega) (by decide), bd_gc (show n < 4200 by omega) (by decide), nI_clamp (show n < 2 ^ 31 by omega), hS]
      rw [if_pos (nI_le (show s.length ≤ pre.length by omega) (show pre.length < 2 ^ 31 by omega))]
      obtain ⟨P1, e1, h1⟩ := put_b (w := 68) (by decide) l68 h (show pl.length + 1 ≤ 4200 by omega)
      rw [e1, Option.bind_some]
      exact ⟨P1, rfl, h1⟩
    | cons c t ih =>
      intro pre pl Pl fuel he hf h hb
      simp only [List.length_cons] at hf hb
      obtain ⟨f, rfl⟩ : ∃ f, fuel = f + 1 := ⟨fuel - 1, by omega⟩
      have hlen : s.length = pre.length + (t.length + 1) := by rw [he, List.length_append, List.length_cons]
      have hc : s.getD pre.length 0 = c := by rw [he]; exact gd_mid
      have hcv : c ≤ 255 := hv c (by rw [he]; exact List.mem_append_right _ List.mem_cons_self)
      have hL2 : Lt (st + pre.length) = sbI c := by rw [hLt pre.length (by omega), hc]
      have ih2 := ih (pre ++ [c]) (pl ++ [c]) (upd Pl pl.length (vp_nar .byte (sbI c))) f (by rw [he, List.append_assoc]; rfl) (by omega) (h.push (bv_sbI c (by omega))) (by rw [len_sn]; omega)
      rw [len_sn, len_sn, List.append_assoc] at ih2
      simp only [m_X9_putName_9, bd_go (show n < 4200 by omega) (by decide), bd_gc (show n < 4200 by omega) (by decide), nI_clamp (show n < 2 ^ 31 by omega), hS]
      rw [if_neg (nI_ge (show pre.length < s.length by omega) (by omega))]
      simp only [hN, lN_i, nI_add, bd_go (show st + pre.length < 4200 by omega) (by decide), bd_gc (show st + pre.length < 4200 by omega) (by decide), nI_clamp (show st + pre.length < 2 ^ 31 by omega), hL2, bd_go (show pl.length < 4200 by omega) (by decide), bd_gc (show pl.length < 4200 by omega) (by decide), nI_clamp (show pl.length < 2 ^ 31 by omega), nI_1]
      exact ih2
  unfold m_X9_putName
  obtain ⟨P1, e1, h1⟩ := put_b (w := 68) (by decide) l68 h (show pl.length + 1 ≤ 4200 by omega)
  rw [e1, Option.bind_some]
  dsimp only
  have h2 := go s [] (pl ++ [34]) P1 sr_fuel rfl (by unfold sr_fuel; omega) h1 (by rw [len_sn]; omega)
  rw [show nI ([] : List Nat).length = 0 from nI_0, List.append_assoc] at h2
  exact h2
/-- all that the rows say of the nodes -/
def WRH (N : Nat → Int64) (S Lt So Nm Wi Kd kS kN kX : Nat → Int32) (l sh kc k : Nat) (D : List Nat → Option Nat) (G : Nat → Nod) : Prop := l ≤ 4200 ∧ sh ≤ 140 ∧ kc ≤ 2200 ∧ (∀ t, t < 6 → So t = nI t) ∧ RN1 N S Lt l Nm sh D G ∧ RLs N S Lt l So Wi Kd kS kN kX sh kc k G ∧ SGI G k ∧ (∀ i, i < k → OKS G k i) ∧ (∀ i, i < k → n_me (G i) = i → n_kd (G i) = 8 → n_wd (G i) ≤ 64)
def TOL (G : Nat → Nod) (k : Nat) (To : Nat → Int32) (to : Nat → Bool) : Prop := ∀ d, d < k → n_me (G d) = d → 8 ≤ n_kd (G d) → n_kd (G d) ≤ 10 → To (n_sg (G d)) = if to d = true then 1 else 0
def WQ (N : Nat → Int64) (S Lt So Nm Wi Kd kS kN kX : Nat → Int32) (k : Nat) (D : List Nat → Option Nat) (G : Nat → Nod) (nm : Nat → List Nat) (n : Nat) : Prop := ∀ (i : Nat) (to to' : Nat → Bool) (bs pl : List Nat) (Pl To : Nat → Int32), i < k → wS G nm n i to = some (bs, to') → PLI Pl pl → pl.length + bs.length ≤ 4200 → TOL G k To to → (∀ d, to' d = true → D (nm d) = some d) → EWr (m_X9_write n N S Lt So Nm Wi Kd kS kN kX Pl (nI pl.length) To (nI (n_sg (G i)))) (pl ++ bs) (fun To' => TOL G k To' to')
theorem TOL.up {To : Nat → Int32} {to : Nat → Bool} {d : Nat} (h : TOL G k To to) (hS : SGI G k) (hd : d < k) (hm : n_me (G d) = d) (h8 : 8 ≤ n_kd (G d)) (h10 : n_kd (G d) ≤ 10) : TOL G k (upd To (n_sg (G d)) (vp_nar .boolean 1)) (upB to d) := by
  intro e he hme e8 e10
  by_cases q : e = d
  · subst q
    rw [pk_us]
    show vp_nar .boolean 1 = if (if e = e then true else to e) = true then 1 else 0
    rw [if_pos rfl, if_pos rfl]
    decide +kernel
  · have hne : n_sg (G e) ≠ n_sg (G d) := fun z => q (hS.1 e d he hd hme hm (by omega) (by omega) (by omega) (by omega) z)
    rw [pk_un hne]
    show _ = if (if e = d then true else to e) = true then 1 else 0
    rw [if_neg q]
    exact h e he hme e8 e10
theorem w255_a {f : (Nat → Int64) → (Nat → Int32) → (Nat → Int32) → (Nat → Int32) → (Nat → Int32) → (Nat → Int32) → (Nat → Int32) → (Nat → Int32) → (Nat → Int32) → (Nat → Int32) → (Nat → Int32) → Int32 → (Nat → Int32) → Int32 → Option ((Nat → Int32) × Int32 × (Nat → Int32))} {y c : Nat} (hy : y < 75) (he : litN y = litN (3 + c)) {Pl To : Nat → Int32} {pl : List Nat} (h : PLI Pl pl) (hb : pl.length + ((litN (3 + c)).length + 1) ≤ 4200) : EWr (m_X9_write_255 f N S Lt So Nm Wi Kd kS kN kX Pl (nI pl.length) To y) (pl ++ (litN (3 + c) ++ [34])) (fun To' => To' = To) := by
  obtain ⟨P1, e1, h1⟩ := put_b hy he h (by omega)
  obtain ⟨P2, e2, h2⟩ := put_b (w := 68) (by decide) lit_w.2.2.2.2.2.2.2.1 h1 (show _ + 1 ≤ 4200 by rw [List.length_append]; omega)
  unfold m_X9_write_255
  rw [e1, Option.bind_some]
  dsimp only
  rw [e2, Option.bind_some]
  rw [List.append_assoc] at h2 ⊢
  exact ⟨P2, To, rfl, h2, rfl⟩
theorem wri_w {n c : Nat} (hc : c ≤ 5) (h6 : ∀ t, t < 6 → So t = nI t) {Pl To : Nat → Int32} {pl : List Nat} (h : PLI Pl pl) (hb : pl.length + (qt (litN (3 + c))).length ≤ 4200) : EWr (m_X9_write (n + 1) N S Lt So Nm Wi Kd kS kN kX Pl (nI pl.length) To (nI c)) (pl ++ qt (litN (3 + c))) (fun To' => To' = To) := by
  have hq : (qt (litN (3 + c))).length = (litN (3 + c)).length + 2 := by
    show (litN (3 + c) ++ [34]).length + 1 = _
    rw [len_sn]
  obtain ⟨P1, e1, h1⟩ := put_b (w := 68) (by decide) lit_w.2.2.2.2.2.2.2.1 h (show pl.length + 1 ≤ 4200 by omega)
  have n6 := (show ∀ c, c ≤ 5 → ¬ nI c = 6 by decide +kernel) c hc
  have n7 := (show ∀ c, c ≤ 5 → ¬ nI c = 7 by decide +kernel) c hc
  have n8 := (show ∀ c, c ≤ 5 → ¬ nI c = 8 by decide +kernel) c hc
  have n9 := (show ∀ c, c ≤ 5 → ¬ nI c = 9 by decide +kernel) c hc
  have n10 := (show ∀ c, c ≤ 5 → ¬ nI c = 10 by decide +kernel) c hc
  have n11 := (show ∀ c, c ≤ 5 → ¬ nI c = 11 by decide +kernel) c hc
  simp only [m_X9_write, bd_go (show c < 140 by omega) (by decide), bd_gc (show c < 140 by omega) (by decide), nI_clamp (show c < 2 ^ 31 by omega), h6 c (show c < 6 by omega), if_neg n6, if_neg n7, if_neg n8, if_neg n9, if_neg n10, if_neg n11, e1, Option.bind_some]
  have hb2 : (pl ++ [34]).length + ((litN (3 + c)).length + 1) ≤ 4200 := by rw [len_sn]; omega
  have e9 : pl ++ qt (litN (3 + c)) = (pl ++ [34]) ++ (litN (3 + c) ++ [34]) := by rw [List.append_assoc]; rfl
  rw [e9]
  obtain ⟨s0, s1, s2, s3, s4, s5⟩ := lit_six
  rcases (show c = 0 ∨ c = 1 ∨ c = 2 ∨ c = 3 ∨ c = 4 ∨ c = 5 by omega) with rfl | rfl | rfl | rfl | rfl | rfl
  · rw [if_pos (show nI 0 = 0 by decide)]
    exact w255_a (by decide) s0 h1 hb2
  · rw [if_neg (show ¬ nI 1 = 0 by decide), if_pos (show nI 1 = 1 by decide)]
    exact w255_a (by decide) s1 h1 hb2
  · rw [if_neg (show ¬ nI 2 = 0 by decide), if_neg (show ¬ nI 2 = 1 by decide), if_pos (show nI 2 = 2 by decide)]
    exact w255_a (by decide) s2 h1 hb2
  · rw [if_neg (show ¬ nI 3 = 0 by decide), if_neg (show ¬ nI 3 = 1 by decide), if_neg (show ¬ nI 3 = 2 by decide), if_pos (show nI 3 = 3 by decide)]
    exact w255_a (by decide) s3 h1 hb2
  · rw [if_neg (show ¬ nI 4 = 0 by decide), if_neg (show ¬ nI 4 = 1 by decide), if_neg (show ¬ nI 4 = 2 by decide), if_neg (show ¬ nI 4 = 3 by decide), if_pos (show nI 4 = 4 by decide)]
    exact w255_a (by decide) s4 h1 hb2
  · rw [if_neg (show ¬ nI 5 = 0 by decide), if_neg (show ¬ nI 5 = 1 by decide), if_neg (show ¬ nI 5 = 2 by decide), if_neg (show ¬ nI 5 = 3 by decide), if_neg (show ¬ nI 5 = 4 by decide)]
    exact w255_a (by decide) s5 h1 hb2
theorem w65_a {n : Nat} (hf : WQ N S Lt So Nm Wi Kd kS kN kX k D G nm n) {s a c y : Nat} (hs : s < 140) (ha : a < 2200) (hK : Kd s = nI a) (hS : kS a = nI (n_sg (G c))) (hc : c < k) (hy : y < 75) {to to' : Nat → Bool} {b pl : List Nat} {Pl To : Nat → Int32} (hw : wS G nm n c to = some (b, to')) (h : PLI Pl pl) (hb : pl.length + (litN y ++ (b ++ [125])).length ≤ 4200) (hT : TOL G k To to) (hN : ∀ d, to' d = true → D (nm d) = some d) : EWr (m_X9_write_65 (m_X9_write n) N S Lt So Nm Wi Kd kS kN kX Pl (nI pl.length) To (nI s) y) (pl ++ (litN y ++ (b ++ [125]))) (fun To' => TOL G k To' to') := by
  simp only [List.length_append, List.length_singleton] at hb
  obtain ⟨P1, e1, h1⟩ := put_a hy h (by omega)
  obtain ⟨P2, T2, e2, h2, t2⟩ := hf c to to' b _ P1 To hc hw h1 (by rw [List.length_append]; omega) hT hN
  obtain ⟨P3, e3, h3⟩ := put_b (w := 63) (by decide) lit_w.2.2.1 h2 (show _ + 1 ≤ 4200 by simp only [List.length_append]; omega)
  simp only [m_X9_write_65, e1, Option.bind_some, bd_go (show s < 140 by omega) (by decide), bd_gc (show s < 140 by omega) (by decide), nI_clamp (show s < 2 ^ 31 by omega), hK, bd_go (show a < 2200 by omega) (by decide), bd_gc (show a < 2200 by omega) (by decide), nI_clamp (show a < 2 ^ 31 by omega), hS, e2, e3]
  rw [List.append_assoc, List.append_assoc] at h3 ⊢
  exact ⟨P3, T2, rfl, h3, t2⟩
theorem w107_a {n : Nat} (hf : WQ N S Lt So Nm Wi Kd kS kN kX k D G nm n) {kl ch : List Nat} (hlen : kl.length = ch.length) (hkl : ∀ j, j < kl.length → kl.getD j 0 < 2200 ∧ kX (kl.getD j 0) = (if j + 1 = kl.length then -1 else nI (kl.getD (j + 1) 0))) (hks : ∀ j, j < ch.length → kS (kl.getD j 0) = nI (n_sg (G (ch.getD j 0)))) (hck : ∀ c, c ∈ ch → c < k) : ∀ (t pre : List Nat) (fuel : Nat) (pl bs : List Nat) (Pl To : Nat → Int32) (to to' : Nat → Bool), ch = pre ++ t → t.length < fuel → gS (wS G nm n) (fun _ => []) [] t to = some (bs, to') → PLI Pl pl → pl.length + bs.length + 1 ≤ 4200 → TOL G k To to → (∀ d, to' d = true → D (nm d) = some d) → EWr (m_X9_write_107 (m_X9_write n) N S Lt So Nm Wi Kd kS kN kX fuel Pl (nI pl.length) To (if t = [] then -1 else nI (kl.getD pre.length 0))) (pl ++ (bs ++ [93])) (fun To' => TOL G k To' to') := by
  intro t
  induction t with
  | nil =>
    intro pre fuel pl bs Pl To to to' he hf2 hg h hb hT hN
    simp only [List.length_nil] at hf2
    obtain ⟨f, rfl⟩ : ∃ f, fuel = f + 1 := ⟨fuel - 1, by omega⟩
    have hg := Option.some.inj hg
    obtain ⟨rfl, rfl⟩ := Prod.mk.inj hg
    obtain ⟨P1, e1, h1⟩ := put_b (w := 67) (by decide) lit_w.2.2.2.2.2.2.1 h (show _ + 1 ≤ 4200 by simp only [List.length_nil] at hb; omega)
    rw [if_pos rfl]
    simp only [m_X9_write_107, if_pos (show (-1 : Int32) < 0 by decide), e1, Option.bind_some]
    exact ⟨P1, To, rfl, h1, hT⟩
  | cons c t ih =>
    intro pre fuel pl bs Pl To to to' he hf2 hg h hb hT hN
    simp only [List.length_cons] at hf2
    obtain ⟨f, rfl⟩ : ∃ f, fuel = f + 1 := ⟨fuel - 1, by omega⟩
    obtain ⟨b, to1, b2, hb1, hb2, rfl⟩ := gS_cons hg
    simp only [List.nil_append] at hb ⊢
    have hcl : ch.length = pre.length + (t.length + 1) := by rw [he, List.length_append, List.length_cons]
    have hcj : ch.getD pre.length 0 = c := by rw [he]; exact gd_mid
    have hcm : c ∈ ch := by rw [he]; exact List.mem_append_right _ List.mem_cons_self
    obtain ⟨ha, hx⟩ := hkl pre.length (by omega)
    have hs := hks pre.length (by omega)
    rw [hcj] at hs
    rw [if_neg (List.cons_ne_nil c t)]
    generalize hga : kl.getD pre.length 0 = a at ha hx hs ⊢
    simp only [List.length_append] at hb
    obtain ⟨P1, T1, e1, h1, t1⟩ := hf c to to1 b pl Pl To (hck c hcm) hb1 h (by omega) hT (fun d hd => hN d (gS_mono (wS_mono n) _ _ _ _ hb2 d hd))
    have hx2 : kX a = (if t = [] then -1 else nI (kl.getD (pre.length + 1) 0)) := by
      rw [hx]
      by_cases ht : t = []
      · rw [if_pos ht, if_pos (by subst ht; simp only [List.length_nil] at hcl; omega)]
      · rw [if_neg ht, if_neg (fun z => ht (List.eq_nil_of_length_eq_zero (by omega)))]
    have fin : ∀ y, y < 75 → litN y = (if t = [] then [] else [44]) → EWr (m_X9_write_140 (m_X9_write n) N S Lt So Nm Wi Kd kS kN kX (m_X9_write_107 (m_X9_write n) N S Lt So Nm Wi Kd kS kN kX f) P1 (nI (pl ++ b).length) T1 (nI a) y) (pl ++ ((b ++ ((if t = [] then [] else [44]) ++ b2)) ++ [93])) (fun To' => TOL G k To' to') := by
      intro y hy hey
      obtain ⟨P2, e2, h2⟩ := put_b hy hey h1 (by rw [List.length_append]; omega)
      have ih2 := ih (pre ++ [c]) f _ b2 P2 T1 to1 to' (by rw [he, List.append_assoc]; rfl) (by omega) hb2 h2 (by simp only [List.length_append]; omega) t1 hN
      rw [len_sn] at ih2
      simp only [m_X9_write_140, e2, Option.bind_some, bd_go (show a < 2200 by omega) (by decide), bd_gc (show a < 2200 by omega) (by decide), nI_clamp (show a < 2 ^ 31 by omega), hx2]
      simp only [List.append_assoc] at ih2 ⊢
      exact ih2
    simp only [m_X9_write_107, if_neg (nI_pos (show a < 2 ^ 31 by omega)), bd_go (show a < 2200 by omega) (by decide), bd_gc (show a < 2200 by omega) (by decide), nI_clamp (show a < 2 ^ 31 by omega), hs, e1, Option.bind_some]
    by_cases ht : t = []
    · rw [if_pos (show kX a < 0 by rw [hx2, if_pos ht]; decide)]
      exact fin 66 (by decide) (by rw [if_pos ht]; exact lit_w.2.2.2.2.2.1)
    · have hlt := (hkl (pre.length + 1) (by have : t.length ≠ 0 := fun z => ht (List.eq_nil_of_length_eq_zero z); omega)).1
      rw [if_neg (show ¬ kX a < 0 by rw [hx2, if_neg ht]; exact nI_pos (by omega))]
      exact fin 65 (by decide) (by rw [if_neg ht]; exact lit_w.2.2.2.2.1)
theorem w138_r {n : Nat} (hf : WQ N S Lt So Nm Wi Kd kS kN kX k D G nm n) (hl : l ≤ 4200) {s : Nat} (hs0 : s < 140) (hso : So s = 11) {kl ch : List Nat} (hlen : kl.length = ch.length) (hkl : ∀ j, j < kl.length → kl.getD j 0 < 2200 ∧ kX (kl.getD j 0) = (if j + 1 = kl.length then -1 else nI (kl.getD (j + 1) 0))) (hks : ∀ j, j < ch.length → kS (kl.getD j 0) = nI (n_sg (G (ch.getD j 0))) ∧ RNm N S Lt l (kN (kl.getD j 0)) (n_fn (G (ch.getD j 0)))) (hck : ∀ c, c ∈ ch → c < k) : ∀ (t pre : List Nat) (fuel : Nat) (pl bs : List Nat) (Pl To : Nat → Int32) (to to' : Nat → Bool), ch = pre ++ t → t.length < fuel → gS (wS G nm n) (fpre G) [125] t to = some (bs, to') → PLI Pl pl → pl.length + bs.length + 2 ≤ 4200 → TOL G k To to → (∀ d, to' d = true → D (nm d) = some d) → EWr (m_X9_writeNamed_138 (m_X9_write n) N S Lt So Nm Wi Kd kS kN kX fuel Pl (nI pl.length) To (nI s) (if t = [] then -1 else nI (kl.getD pre.length 0))) (pl ++ (bs ++ litN 27)) (fun To' => TOL G k To' to') := by
  have l27 : (litN 27).length = 2 := by decide +kernel
  intro t
  induction t with
  | nil =>
    intro pre fuel pl bs Pl To to to' he hf2 hg h hb hT hN
    simp only [List.length_nil] at hf2
    obtain ⟨f, rfl⟩ : ∃ f, fuel = f + 1 := ⟨fuel - 1, by omega⟩
    have hg := Option.some.inj hg
    obtain ⟨rfl, rfl⟩ := Prod.mk.inj hg
    obtain ⟨P1, e1, h1⟩ := put_b (w := 74) (by decide) lit_w.2.2.2.2.2.2.2.2.2.2 h (by rw [l27]; simp only [List.length_nil] at hb; omega)
    rw [if_pos rfl]
    simp only [m_X9_writeNamed_138, if_pos (show (-1 : Int32) < 0 by decide), e1, Option.bind_some]
    exact ⟨P1, To, rfl, h1, hT⟩
  | cons c t ih =>
    intro pre fuel pl bs Pl To to to' he hf2 hg h hb hT hN
    simp only [List.length_cons] at hf2
    obtain ⟨f, rfl⟩ : ∃ f, fuel = f + 1 := ⟨fuel - 1, by omega⟩
    obtain ⟨b, to1, b2, hb1, hb2, rfl⟩ := gS_cons hg
    have hcl : ch.length = pre.length + (t.length + 1) := by rw [he, List.length_append, List.length_cons]
    have hcj : ch.getD pre.length 0 = c := by rw [he]; exact gd_mid
    have hcm : c ∈ ch := by rw [he]; exact List.mem_append_right _ List.mem_cons_self
    obtain ⟨ha, hx⟩ := hkl pre.length (by omega)
    obtain ⟨hs, hfn⟩ := hks pre.length (by omega)
    rw [hcj] at hs hfn
    rw [if_neg (List.cons_ne_nil c t)]
    generalize hga : kl.getD pre.length 0 = a at ha hx hs hfn ⊢
    unfold fpre at hb ⊢
    simp only [List.length_append, List.length_singleton] at hb
    obtain ⟨P1, e1, h1⟩ := put_b (w := 69) (by decide) lit_w.2.2.2.2.2.2.2.2.1 h (by omega)
    obtain ⟨P2, e2, h2⟩ := pnm_a hl hfn h1 (by simp only [List.length_append]; omega)
    obtain ⟨P3, e3, h3⟩ := put_b (w := 73) (by decide) lit_w.2.2.2.2.2.2.2.2.2.1 h2 (by simp only [List.length_append]; omega)
    obtain ⟨P4, T1, e4, h4, t1⟩ := hf c to to1 b _ P3 To (hck c hcm) hb1 h3 (by simp only [List.length_append]; omega) hT (fun d hd => hN d (gS_mono (wS_mono n) _ _ _ _ hb2 d hd))
    obtain ⟨P5, e5, h5⟩ := put_b (w := 63) (by decide) lit_w.2.2.1 h4 (show _ + 1 ≤ 4200 by simp only [List.length_append]; omega)
    have hx2 : kX a = (if t = [] then -1 else nI (kl.getD (pre.length + 1) 0)) := by
      rw [hx]
      by_cases ht : t = []
      · rw [if_pos ht, if_pos (by subst ht; simp only [List.length_nil] at hcl; omega)]
      · rw [if_neg ht, if_neg (fun z => ht (List.eq_nil_of_length_eq_zero (by omega)))]
    have fin : ∀ y, y < 75 → litN y = (if t = [] then [] else [44]) → EWr (m_X9_writeNamed_224 (m_X9_write n) N S Lt So Nm Wi Kd kS kN kX (m_X9_writeNamed_138 (m_X9_write n) N S Lt So Nm Wi Kd kS kN kX f) P5 (nI (pl ++ litN 21 ++ qt (n_fn (G c)) ++ litN 31 ++ b ++ [125]).length) T1 (nI s) (nI a) y) (pl ++ (litN 21 ++ (qt (n_fn (G c)) ++ litN 31) ++ (b ++ ([125] ++ ((if t = [] then [] else [44]) ++ b2))) ++ litN 27)) (fun To' => TOL G k To' to') := by
      intro y hy hey
      obtain ⟨P6, e6, h6⟩ := put_b hy hey h5 (by simp only [List.length_append, List.length_singleton]; omega)
      have ih2 := ih (pre ++ [c]) f _ b2 P6 T1 to1 to' (by rw [he, List.append_assoc]; rfl) (by omega) hb2 h6 (by simp only [List.length_append, List.length_singleton]; omega) t1 hN
      rw [len_sn] at ih2
      simp only [m_X9_writeNamed_224, e6, Option.bind_some, bd_go (show a < 2200 by omega) (by decide), bd_gc (show a < 2200 by omega) (by decide), nI_clamp (show a < 2 ^ 31 by omega), hx2]
      simp only [List.append_assoc] at ih2 ⊢
      exact ih2
    simp only [m_X9_writeNamed_138, m_X9_writeNamed_160, m_X9_writeNamed_205, if_neg (nI_pos (show a < 2 ^ 31 by omega)), bd_go (show s < 140 by omega) (by decide), bd_gc (show s < 140 by omega) (by decide), nI_clamp (show s < 2 ^ 31 by omega), bd_go (show a < 2200 by omega) (by decide), bd_gc (show a < 2200 by omega) (by decide), nI_clamp (show a < 2 ^ 31 by omega), hso, if_true, e1, e2, e3, hs, e4, e5, Option.bind_some]
    by_cases ht : t = []
    · rw [if_pos (show kX a < 0 by rw [hx2, if_pos ht]; decide)]
      exact fin 66 (by decide) (by rw [if_pos ht]; exact lit_w.2.2.2.2.2.1)
    · have hlt := (hkl (pre.length + 1) (by have : t.length ≠ 0 := fun z => ht (List.eq_nil_of_length_eq_zero z); omega)).1
      rw [if_neg (show ¬ kX a < 0 by rw [hx2, if_neg ht]; exact nI_pos (by omega))]
      exact fin 65 (by decide) (by rw [if_neg ht]; exact lit_w.2.2.2.2.1)
theorem w138_e {n : Nat} (hl : l ≤ 4200) {s : Nat} (hs0 : s < 140) (hso : So s = 10) {kl : List Nat} {sy : List (List Nat)} (hlen : sy.length = kl.length) (hkl : ∀ j, j < kl.length → kl.getD j 0 < 2200 ∧ kX (kl.getD j 0) = (if j + 1 = kl.length then -1 else nI (kl.getD (j + 1) 0))) (hks : ∀ j, j < kl.length → RNm N S Lt l (kN (kl.getD j 0)) (sy.getD j [])) : ∀ (t pre : List (List Nat)) (fuel : Nat) (pl : List Nat) (Pl To : Nat → Int32), sy = pre ++ t → t.length < fuel → PLI Pl pl → pl.length + (jnS t).length + 2 ≤ 4200 → EWr (m_X9_writeNamed_138 (m_X9_write n) N S Lt So Nm Wi Kd kS kN kX fuel Pl (nI pl.length) To (nI s) (if t = [] then -1 else nI (kl.getD pre.length 0))) (pl ++ (jnS t ++ litN 27)) (fun To' => To' = To) := by
  have l27 : (litN 27).length = 2 := by decide +kernel
  have n11 : ¬ (10 : Int32) = 11 := by decide
  intro t
  induction t with
  | nil =>
    intro pre fuel pl Pl To he hf2 h hb
    simp only [List.length_nil] at hf2
    obtain ⟨f, rfl⟩ : ∃ f, fuel = f + 1 := ⟨fuel - 1, by omega⟩
    obtain ⟨P1, e1, h1⟩ := put_b (w := 74) (by decide) lit_w.2.2.2.2.2.2.2.2.2.2 h (by rw [l27]; omega)
    rw [if_pos rfl]
    simp only [m_X9_writeNamed_138, if_pos (show (-1 : Int32) < 0 by decide), e1, Option.bind_some]
    exact ⟨P1, To, rfl, h1, rfl⟩
  | cons c t ih =>
    intro pre fuel pl Pl To he hf2 h hb
    simp only [List.length_cons] at hf2
    obtain ⟨f, rfl⟩ : ∃ f, fuel = f + 1 := ⟨fuel - 1, by omega⟩
    have hcl : sy.length = pre.length + (t.length + 1) := by rw [he, List.length_append, List.length_cons]
    have hcj : sy.getD pre.length [] = c := by
      rw [he, List.getD_eq_getElem?_getD, List.getElem?_append_right (Nat.le_refl _), Nat.sub_self]
      rfl
    obtain ⟨ha, hx⟩ := hkl pre.length (by omega)
    have hfn := hks pre.length (by omega)
    rw [hcj] at hfn
    rw [if_neg (List.cons_ne_nil c t)]
    generalize hga : kl.getD pre.length 0 = a at ha hx hfn ⊢
    have hj : jnS (c :: t) = qt c ++ ((if t = [] then [] else [44]) ++ jnS t) := rfl
    rw [hj] at hb ⊢
    simp only [List.length_append] at hb
    obtain ⟨P2, e2, h2⟩ := pnm_a hl hfn h (by omega)
    have hx2 : kX a = (if t = [] then -1 else nI (kl.getD (pre.length + 1) 0)) := by
      rw [hx]
      by_cases ht : t = []
      · rw [if_pos ht, if_pos (by subst ht; simp only [List.length_nil] at hcl; omega)]
      · rw [if_neg ht, if_neg (fun z => ht (List.eq_nil_of_length_eq_zero (by omega)))]
    have fin : ∀ y, y < 75 → litN y = (if t = [] then [] else [44]) → EWr (m_X9_writeNamed_224 (m_X9_write n) N S Lt So Nm Wi Kd kS kN kX (m_X9_writeNamed_138 (m_X9_write n) N S Lt So Nm Wi Kd kS kN kX f) P2 (nI (pl ++ qt c).length) To (nI s) (nI a) y) (pl ++ ((qt c ++ ((if t = [] then [] else [44]) ++ jnS t)) ++ litN 27)) (fun To' => To' = To) := by
      intro y hy hey
      obtain ⟨P6, e6, h6⟩ := put_b hy hey h2 (by simp only [List.length_append]; omega)
      have ih2 := ih (pre ++ [c]) f _ P6 To (by rw [he, List.append_assoc]; rfl) (by omega) h6 (by simp only [List.length_append]; omega)
      rw [show (pre ++ [c]).length = pre.length + 1 by rw [List.length_append]; rfl] at ih2
      simp only [m_X9_writeNamed_224, e6, Option.bind_some, bd_go (show a < 2200 by omega) (by decide), bd_gc (show a < 2200 by omega) (by decide), nI_clamp (show a < 2 ^ 31 by omega), hx2]
      simp only [List.append_assoc] at ih2 ⊢
      exact ih2
    simp only [m_X9_writeNamed_138, m_X9_writeNamed_160, m_X9_writeNamed_205, if_neg (nI_pos (show a < 2 ^ 31 by omega)), bd_go (show s < 140 by omega) (by decide), bd_gc (show s < 140 by omega) (by decide), nI_clamp (show s < 2 ^ 31 by omega), bd_go (show a < 2200 by omega) (by decide), bd_gc (show a < 2200 by omega) (by decide), nI_clamp (show a < 2 ^ 31 by omega), hso, if_neg n11, e2, Option.bind_some]
    by_cases ht : t = []
    · rw [if_pos (show kX a < 0 by rw [hx2, if_pos ht]; decide)]
      exact fin 66 (by decide) (by rw [if_pos ht]; exact lit_w.2.2.2.2.2.1)
    · have hlt := (hkl (pre.length + 1) (by have : t.length ≠ 0 := fun z => ht (List.eq_nil_of_length_eq_zero z); omega)).1
      rw [if_neg (show ¬ kX a < 0 by rw [hx2, if_neg ht]; exact nI_pos (by omega))]
      exact fin 65 (by decide) (by rw [if_neg ht]; exact lit_w.2.2.2.2.1)
end WRB
