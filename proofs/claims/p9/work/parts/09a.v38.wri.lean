-- the reference's plain forms
/-- it answers, and what it leaves is one thing, but for what lay in the stale rows -/
def FN {α : Type} (x : Gs → Option α) (P : (Gs → α) → Prop) : Prop := ∃ u, P u ∧ ∀ g, x g = some (u g)
section FNs
variable {α β : Type} {P : (Gs → α) → Prop} {Q : (Gs → β) → Prop}
theorem FN.ok {u : Gs → α} (h : P u) : FN (fun g => some (u g)) P := ⟨u, h, fun _ => rfl⟩
theorem FN.ite {c : Prop} {i : Decidable c} {x y : Gs → Option α} (ht : c → FN x P) (hf : ¬ c → FN y P) : FN (fun g => @ite _ c i (x g) (y g)) P := by
  by_cases h : c
  · simp only [if_pos h]; exact ht h
  · simp only [if_neg h]; exact hf h
theorem FN.bind {x : Gs → Option α} {k : Gs → α → Option β} (h : FN x P) (hk : ∀ u, P u → FN (fun g => k g (u g)) Q) : FN (fun g => (x g).bind (k g)) Q := by
  obtain ⟨u, h1, h2⟩ := h
  simp only [h2, Option.bind_some]
  exact hk u h1
theorem FN.mono {P' : (Gs → α) → Prop} {x : Gs → Option α} (h : FN x P) (hk : ∀ r, P r → P' r) : FN x P' := by
  obtain ⟨r, h1, h2⟩ := h
  exact ⟨r, hk r h1, h2⟩
end FNs
def plP (ps : Nat) (u : Gs → (Nat → Int32) × Int32) : Prop := ∃ Pl : Nat → Int32, u = fun g => (ov ps Pl (g.1 18), nI ps)
theorem put_ok {w len ps : Nat} {Pl : Nat → Int32} (hw : w < 75) (hlen : lenS.getD w 0 = len) (hps : ps + len ≤ 4200) : FN (fun g => m_X9_put (ov ps Pl (g.1 18)) (nI ps) w) (plP (ps + len)) := by
  have hl40 := len_lt w hw
  have go : ∀ (fuel j ps : Nat) (Pl : Nat → Int32), j ≤ len → len - j < fuel → ps + (len - j) ≤ 4200 → FN (fun g => m_X9_put_2 fuel (ov ps Pl (g.1 18)) (nI ps) w (nI j)) (plP (ps + (len - j))) := by
    intro fuel
    induction fuel with
    | zero => intro j ps Pl _ hf; exact absurd hf (Nat.not_lt_zero _)
    | succ fuel ih =>
      intro j ps Pl hj hf hp
      simp only [m_X9_put_2, if_neg (show ¬ nS ≤ w by unfold nS; omega), len_eq w hw, hlen, Option.bind_some]
      by_cases hc : len ≤ j
      · simp only [if_pos (nI_le hc (show j < 2 ^ 31 by omega))]
        exact FN.ok ⟨Pl, by rw [show len - j = 0 by omega]; rfl⟩
      · simp only [if_neg (nI_ge (show j < len by omega) (by omega)), chr_eq w hw j (by omega), Option.bind_some, bd_go (show ps < 4200 by omega) (by decide), bd_gc (show ps < 4200 by omega) (by decide), nI_clamp (show ps < 2 ^ 31 by omega), ov_push, nI_1]
        have := ih (j + 1) (ps + 1) (upd Pl ps (vp_nar .byte (((bytS.getD w []).getD j 0).toInt8.toInt32))) (by omega) (by omega) (by omega)
        rw [show ps + 1 + (len - (j + 1)) = ps + (len - j) by omega] at this
        exact this
  have := go sr_fuel 0 ps Pl (by omega) (by unfold sr_fuel; omega) (by omega)
  rw [Nat.sub_zero] at this
  exact this
theorem fig_ok {ps : Nat} {Pl : Nat → Int32} {a : Int32} (hps : ps + 1 ≤ 4200) : FN (fun g => m_X9_figure (ov ps Pl (g.1 18)) (nI ps) a) (plP (ps + 1)) := by
  simp only [m_X9_figure, bd_go (show ps < 4200 by omega) (by decide), bd_gc (show ps < 4200 by omega) (by decide), nI_clamp (show ps < 2 ^ 31 by omega), ov_push, nI_1]
  exact FN.ok ⟨_, rfl⟩
theorem pun_ok {K S Lt Pl : Nat → Int32} {N : Nat → Int64} {n l x sz ps : Nat} (hn : n ≤ 4200) (hl : l ≤ 4200) (hx : strN K N S n l x sz) (hps : ps + (sz + 2) ≤ 4200) : FN (fun g => m_X9_putName (ov n N g.2) (ov n S (g.1 2)) (ov l Lt (g.1 5)) (ov ps Pl (g.1 18)) (nI ps) (nI x)) (plP (ps + (sz + 2))) := by
  obtain ⟨x1, -, x2, st, x3, x4⟩ := hx
  have l68 : lenS.getD 68 0 = 1 := by decide +kernel
  have go : ∀ (fuel j ps : Nat) (Pl : Nat → Int32), j ≤ sz → sz - j < fuel → ps + (sz - j + 1) ≤ 4200 → FN (fun g => m_X9_putName_9 (ov n N g.2) (ov n S (g.1 2)) (ov l Lt (g.1 5)) fuel (ov ps Pl (g.1 18)) (nI ps) (nI x) (nI j)) (plP (ps + (sz - j + 1))) := by
    intro fuel
    induction fuel with
    | zero => intro j ps Pl _ hf; exact absurd hf (Nat.not_lt_zero _)
    | succ fuel ih =>
      intro j ps Pl hj hf hp
      simp only [m_X9_putName_9, bd_go (show x < 4200 by omega) (by decide), bd_gc (show x < 4200 by omega) (by decide), nI_clamp (show x < 2 ^ 31 by omega), ov_lt x1, x2]
      by_cases hc : sz ≤ j
      · simp only [if_pos (nI_le hc (show j < 2 ^ 31 by omega))]
        refine FN.bind (put_ok (by decide) l68 (by omega)) ?_
        rintro _ ⟨Pl', rfl⟩
        dsimp only
        exact FN.ok ⟨Pl', by rw [show sz - j = 0 by omega]⟩
      · simp only [if_neg (nI_ge (show j < sz by omega) (by omega)), x3, lN_i, nI_add, bd_go (show st + j < 4200 by omega) (by decide), bd_gc (show st + j < 4200 by omega) (by decide), nI_clamp (show st + j < 2 ^ 31 by omega), ov_lt (show st + j < l by omega), bd_go (show ps < 4200 by omega) (by decide), bd_gc (show ps < 4200 by omega) (by decide), nI_clamp (show ps < 2 ^ 31 by omega), ov_push, nI_1]
        have := ih (j + 1) (ps + 1) (upd Pl ps (vp_nar .byte (Lt (st + j)))) (by omega) (by omega) (by omega)
        rw [show ps + 1 + (sz - (j + 1) + 1) = ps + (sz - j + 1) by omega] at this
        exact this
  simp only [m_X9_putName]
  refine FN.bind (put_ok (by decide) l68 (by omega)) ?_
  rintro _ ⟨Pl', rfl⟩
  dsimp only
  have := go sr_fuel 0 (ps + 1) Pl' (by omega) (by unfold sr_fuel; omega) (by omega)
  rw [show ps + 1 + (sz - 0 + 1) = ps + (sz + 2) by omega] at this
  exact this
/-- which names have been told: those of the shapes below c -/
def toldOK (So To : Nat → Int32) (c sh : Nat) : Prop := ∀ x, 6 ≤ x → x < sh → (So x = 9 ∨ So x = 10 ∨ So x = 11) → To x = (if x < c then 1 else 0)
theorem told_skip {So To : Nat → Int32} {c sh : Nat} (h : toldOK So To c sh) (hc : ¬ (So c = 9 ∨ So c = 10 ∨ So c = 11)) : toldOK So To (c + 1) sh := fun x h6 hx hs => by
  rw [h x h6 hx hs]
  have : x ≠ c := fun e => hc (e ▸ hs)
  by_cases q : x < c
  · rw [if_pos q, if_pos (by omega)]
  · rw [if_neg q, if_neg (by omega)]
theorem told_new {So To : Nat → Int32} {c sh : Nat} (h : toldOK So To c sh) : toldOK So (upd To c 1) (c + 1) sh := fun x h6 hx hs => by
  by_cases e : x = c
  · subst e; rw [pk_us, if_pos (by omega)]
  · rw [pk_un e, h x h6 hx hs]
    by_cases q : x < c
    · rw [if_pos q, if_pos (by omega)]
    · rw [if_neg q, if_neg (by omega)]
abbrev TW : Type := (Nat → Int32) × Int32 × (Nat → Int32)
abbrev FW : Type := (Nat → Int64) → (Nat → Int32) → (Nat → Int32) → (Nat → Int32) → (Nat → Int32) → (Nat → Int32) → (Nat → Int32) → (Nat → Int32) → (Nat → Int32) → (Nat → Int32) → (Nat → Int32) → Int32 → (Nat → Int32) → Int32 → Option TW
def wrP (So : Nat → Int32) (sh ps c : Nat) (u : Gs → TW) : Prop := ∃ Pl To : Nat → Int32, u = (fun g => (ov ps Pl (g.1 18), nI ps, ov sh To (g.1 19))) ∧ toldOK So To c sh
theorem up_le {W : Nat → Nat} {m : Nat} (h : ∀ i, i < m → W i ≤ W (i + 1)) : ∀ (d i : Nat), i + d ≤ m → W i ≤ W (i + d) := by
  intro d
  induction d with
  | zero => intro i _; exact Nat.le_refl _
  | succ d ih =>
    intro i hi
    have h1 := ih i (by omega)
    have h2 := h (i + d) (by omega)
    rw [show i + (d + 1) = i + d + 1 by omega]
    omega
section WRIs
variable {K F S I X Lt So Na Wi Ki kS kN kX : Nat → Int32} {N : Nat → Int64} {n l sh kc : Nat}
def okW (K S Lt So Na Wi Ki kS kN kX : Nat → Int32) (N : Nat → Int64) (n l sh kc : Nat) (fw : FW) (h : Nat) : Prop :=
  ∀ (s c c' k0 k1 w ps : Nat) (Pl To : Nat → Int32), 6 ≤ c → c' ≤ sh → k1 ≤ kc → Occ (strN K N S n l) So Na Wi Ki kS kN kX h s c c' k0 k1 w → ps + w ≤ 4200 → toldOK So To c sh → FN (fun g => fw (ov n N g.2) (ov n S (g.1 2)) (ov l Lt (g.1 5)) (ov sh So (g.1 7)) (ov sh Na (g.1 8)) (ow sh Wi (g.1 9)) (ov sh Ki (g.1 10)) (ov kc kS (g.1 13)) (ov kc kN (g.1 14)) (ov kc kX (g.1 16)) (ov ps Pl (g.1 18)) (nI ps) (ov sh To (g.1 19)) (nI s)) (wrP So sh (ps + w) c')
theorem w107 {fw : FW} {h c' ps0 m k0 k1 : Nat} {c t b W : Nat → Nat} {s : Nat} (hfw : okW K S Lt So Na Wi Ki kS kN kX N n l sh kc fw h) (h6 : 6 ≤ s) (hc' : c' ≤ sh) (hk1 : k1 ≤ kc) (hkc : kc ≤ 2200) (hm : 0 < m) (hps : ps0 + (W m - 1) + 1 ≤ 4200) (htm : t m = c')
    (hch : ∀ i, i < m → s < t i ∧ t (i + 1) ≤ c' ∧ k0 ≤ b i ∧ b i ≤ c i ∧ c i < k1 ∧ kX (c i) = (if i + 1 = m then -1 else nI (c (i + 1))) ∧ ∃ x w', kS (c i) = nI x ∧ Occ (strN K N S n l) So Na Wi Ki kS kN kX h x (t i) (t (i + 1)) (b i) (c i) w' ∧ So x ≠ 8 ∧ W (i + 1) = W i + w' + 1) :
    ∀ (fuel i ps : Nat) (Pl To : Nat → Int32), i ≤ m → m - i < fuel → toldOK So To (t i) sh → (i < m → ps = ps0 + W i) → (i = m → ps = ps0 + (W m - 1)) →
    FN (fun g => m_X9_write_107 fw (ov n N g.2) (ov n S (g.1 2)) (ov l Lt (g.1 5)) (ov sh So (g.1 7)) (ov sh Na (g.1 8)) (ow sh Wi (g.1 9)) (ov sh Ki (g.1 10)) (ov kc kS (g.1 13)) (ov kc kN (g.1 14)) (ov kc kX (g.1 16)) fuel (ov ps Pl (g.1 18)) (nI ps) (ov sh To (g.1 19)) (if i = m then -1 else nI (c i))) (wrP So sh (ps0 + (W m - 1) + 1) c') := by
  have l65 : lenS.getD 65 0 = 1 := by decide +kernel
  have l66 : lenS.getD 66 0 = 0 := by decide +kernel
  have l67 : lenS.getD 67 0 = 1 := by decide +kernel
  have hmono : ∀ i, i < m → W i ≤ W (i + 1) := fun i hi => by
    obtain ⟨-, -, -, -, -, -, x, w', -, -, -, e⟩ := hch i hi
    omega
  intro fuel
  induction fuel with
  | zero => intro i ps Pl To _ hf; exact absurd hf (Nat.not_lt_zero _)
  | succ fuel ih =>
    intro i ps Pl To hi hf ht h1 h2
    by_cases him : i = m
    · subst him
      have hp := h2 rfl
      subst hp
      simp only [if_true, m_X9_write_107, if_pos (show (-1 : Int32) < 0 by decide)]
      refine FN.bind (put_ok (by decide) l67 (by omega)) ?_
      rintro _ ⟨Pl', rfl⟩
      dsimp only
      exact FN.ok ⟨Pl', To, rfl, by rw [← htm]; exact ht⟩
    · have hp := h1 (by omega)
      subst hp
      obtain ⟨d1, d2, d3, d4, d5, d6, x, w', d7, d8, d9, d10⟩ := hch i (by omega)
      have hW := up_le hmono (m - (i + 1)) (i + 1) (by omega)
      rw [show i + 1 + (m - (i + 1)) = m by omega] at hW
      simp only [if_neg him, m_X9_write_107, if_neg (nI_pos (show c i < 2 ^ 31 by omega)), bd_go (show c i < 2200 by omega) (by decide), bd_gc (show c i < 2200 by omega) (by decide), nI_clamp (show c i < 2 ^ 31 by omega), ov_lt (show c i < kc by omega), d7]
      refine FN.bind (hfw x (t i) (t (i + 1)) (b i) (c i) w' (ps0 + W i) Pl To (by omega) (by omega) (by omega) d8 (by omega) ht) ?_
      rintro _ ⟨Pl', To', rfl, ht'⟩
      dsimp only
      simp only [d6]
      by_cases hl : i + 1 = m
      · simp only [if_pos hl, if_pos (show (-1 : Int32) < 0 by decide), m_X9_write_140]
        refine FN.bind (put_ok (by decide) l66 (by omega)) ?_
        rintro _ ⟨Pl2, rfl⟩
        dsimp only
        simp only [bd_go (show c i < 2200 by omega) (by decide), bd_gc (show c i < 2200 by omega) (by decide), nI_clamp (show c i < 2 ^ 31 by omega), ov_lt (show c i < kc by omega), d6, if_pos hl]
        have := ih (i + 1) (ps0 + W i + w' + 0) Pl2 To' (by omega) (by omega) ht' (fun q => absurd q (by omega)) (fun _ => by rw [← hl]; omega)
        rw [if_pos hl] at this
        exact this
      · obtain ⟨e1, e2, e3, e4, e5, -⟩ := hch (i + 1) (by omega)
        simp only [if_neg hl, if_neg (nI_pos (show c (i + 1) < 2 ^ 31 by omega)), m_X9_write_140]
        refine FN.bind (put_ok (by decide) l65 (by omega)) ?_
        rintro _ ⟨Pl2, rfl⟩
        dsimp only
        simp only [bd_go (show c i < 2200 by omega) (by decide), bd_gc (show c i < 2200 by omega) (by decide), nI_clamp (show c i < 2 ^ 31 by omega), ov_lt (show c i < kc by omega), d6, if_neg hl]
        have := ih (i + 1) (ps0 + W i + w' + 1) Pl2 To' (by omega) (by omega) ht' (fun _ => by omega) (fun q => absurd q hl)
        rw [if_neg hl] at this
        exact this
theorem w138e {fw : FW} {ps0 m k0 k1 s : Nat} {c W : Nat → Nat} (hn : n ≤ 4200) (hl : l ≤ 4200) (hsh : sh ≤ 140) (hs : s < sh) (hS : So s = 10) (hk1 : k1 ≤ kc) (hkc : kc ≤ 2200) (hm : 0 < m) (hps : ps0 + (W m - 1) + 2 ≤ 4200) {cc : Nat} {To : Nat → Int32} (ht : toldOK So To cc sh)
    (hch : ∀ i, i < m → k0 ≤ c i ∧ c i < k1 ∧ kX (c i) = (if i + 1 = m then -1 else nI (c (i + 1))) ∧ ∃ y sy, kN (c i) = nI y ∧ strN K N S n l y sy ∧ W (i + 1) = W i + sy + 3) :
    ∀ (fuel i ps : Nat) (Pl : Nat → Int32), i ≤ m → m - i < fuel → (i < m → ps = ps0 + W i) → (i = m → ps = ps0 + (W m - 1)) →
    FN (fun g => m_X9_writeNamed_138 fw (ov n N g.2) (ov n S (g.1 2)) (ov l Lt (g.1 5)) (ov sh So (g.1 7)) (ov sh Na (g.1 8)) (ow sh Wi (g.1 9)) (ov sh Ki (g.1 10)) (ov kc kS (g.1 13)) (ov kc kN (g.1 14)) (ov kc kX (g.1 16)) fuel (ov ps Pl (g.1 18)) (nI ps) (ov sh To (g.1 19)) (nI s) (if i = m then -1 else nI (c i))) (wrP So sh (ps0 + (W m - 1) + 2) cc) := by
  have l65 : lenS.getD 65 0 = 1 := by decide +kernel
  have l66 : lenS.getD 66 0 = 0 := by decide +kernel
  have l74 : lenS.getD 74 0 = 2 := by decide +kernel
  have hmono : ∀ i, i < m → W i ≤ W (i + 1) := fun i hi => by
    obtain ⟨-, -, -, y, sy, -, -, e⟩ := hch i hi
    omega
  intro fuel
  induction fuel with
  | zero => intro i ps Pl _ hf; exact absurd hf (Nat.not_lt_zero _)
  | succ fuel ih =>
    intro i ps Pl hi hf h1 h2
    by_cases him : i = m
    · subst him
      have hp := h2 rfl
      subst hp
      simp only [if_true, m_X9_writeNamed_138, if_pos (show (-1 : Int32) < 0 by decide)]
      refine FN.bind (put_ok (by decide) l74 (by omega)) ?_
      rintro _ ⟨Pl', rfl⟩
      dsimp only
      exact FN.ok ⟨Pl', To, rfl, ht⟩
    · have hp := h1 (by omega)
      subst hp
      obtain ⟨d1, d2, d3, y, sy, d4, d5, d6⟩ := hch i (by omega)
      have hW := up_le hmono (m - (i + 1)) (i + 1) (by omega)
      rw [show i + 1 + (m - (i + 1)) = m by omega] at hW
      simp only [if_neg him, m_X9_writeNamed_138, if_neg (nI_pos (show c i < 2 ^ 31 by omega)), bd_go (show s < 140 by omega) (by decide), bd_gc (show s < 140 by omega) (by decide), nI_clamp (show s < 2 ^ 31 by omega), ov_lt hs, hS, if_neg (show ¬ (10 : Int32) = 11 by decide), m_X9_writeNamed_160, bd_go (show c i < 2200 by omega) (by decide), bd_gc (show c i < 2200 by omega) (by decide), nI_clamp (show c i < 2 ^ 31 by omega), ov_lt (show c i < kc by omega), d4]
      refine FN.bind (pun_ok hn hl d5 (by omega)) ?_
      rintro _ ⟨Pl', rfl⟩
      dsimp only
      simp only [m_X9_writeNamed_205, bd_go (show c i < 2200 by omega) (by decide), bd_gc (show c i < 2200 by omega) (by decide), nI_clamp (show c i < 2 ^ 31 by omega), ov_lt (show c i < kc by omega), d3]
      by_cases hl : i + 1 = m
      · simp only [if_pos hl, if_pos (show (-1 : Int32) < 0 by decide), m_X9_writeNamed_224]
        refine FN.bind (put_ok (by decide) l66 (by omega)) ?_
        rintro _ ⟨Pl2, rfl⟩
        dsimp only
        simp only [bd_go (show c i < 2200 by omega) (by decide), bd_gc (show c i < 2200 by omega) (by decide), nI_clamp (show c i < 2 ^ 31 by omega), ov_lt (show c i < kc by omega), d3, if_pos hl]
        have := ih (i + 1) (ps0 + W i + (sy + 2) + 0) Pl2 (by omega) (by omega) (fun q => absurd q (by omega)) (fun _ => by rw [← hl]; omega)
        rw [if_pos hl] at this
        exact this
      · obtain ⟨e1, e2, -⟩ := hch (i + 1) (by omega)
        simp only [if_neg hl, if_neg (nI_pos (show c (i + 1) < 2 ^ 31 by omega)), m_X9_writeNamed_224]
        refine FN.bind (put_ok (by decide) l65 (by omega)) ?_
        rintro _ ⟨Pl2, rfl⟩
        dsimp only
        simp only [bd_go (show c i < 2200 by omega) (by decide), bd_gc (show c i < 2200 by omega) (by decide), nI_clamp (show c i < 2 ^ 31 by omega), ov_lt (show c i < kc by omega), d3, if_neg hl]
        have := ih (i + 1) (ps0 + W i + (sy + 2) + 1) Pl2 (by omega) (by omega) (fun _ => by omega) (fun q => absurd q hl)
        rw [if_neg hl] at this
        exact this
theorem w138r {fw : FW} {h c' ps0 m k0 k1 s : Nat} {c t e W : Nat → Nat} (hfw : okW K S Lt So Na Wi Ki kS kN kX N n l sh kc fw h) (hn : n ≤ 4200) (hl : l ≤ 4200) (h6 : 6 ≤ s) (hsh : sh ≤ 140) (hs : s < sh) (hS : So s = 11) (hc' : c' ≤ sh) (hk1 : k1 ≤ kc) (hkc : kc ≤ 2200) (hps : ps0 + (W m - 1) + 2 ≤ 4200) (htm : t m = c') (hW0 : W 0 = 0)
    (hch : ∀ i, i < m → s < t i ∧ t (i + 1) ≤ c' ∧ k0 ≤ c i ∧ c i < e i ∧ e i ≤ k1 ∧ kX (c i) = (if i + 1 = m then -1 else nI (c (i + 1))) ∧ ∃ y sy z w', kN (c i) = nI y ∧ strN K N S n l y sy ∧ kS (c i) = nI z ∧ Occ (strN K N S n l) So Na Wi Ki kS kN kX h z (t i) (t (i + 1)) (c i + 1) (e i) w' ∧ W (i + 1) = W i + w' + sy + 20) :
    ∀ (fuel i ps : Nat) (Pl To : Nat → Int32), i ≤ m → m - i < fuel → toldOK So To (t i) sh → (i < m → ps = ps0 + W i) → (i = m → ps = ps0 + (W m - 1)) →
    FN (fun g => m_X9_writeNamed_138 fw (ov n N g.2) (ov n S (g.1 2)) (ov l Lt (g.1 5)) (ov sh So (g.1 7)) (ov sh Na (g.1 8)) (ow sh Wi (g.1 9)) (ov sh Ki (g.1 10)) (ov kc kS (g.1 13)) (ov kc kN (g.1 14)) (ov kc kX (g.1 16)) fuel (ov ps Pl (g.1 18)) (nI ps) (ov sh To (g.1 19)) (nI s) (if i = m then -1 else nI (c i))) (wrP So sh (ps0 + (W m - 1) + 2) c') := by
  have l63 : lenS.getD 63 0 = 1 := by decide +kernel
  have l65 : lenS.getD 65 0 = 1 := by decide +kernel
  have l66 : lenS.getD 66 0 = 0 := by decide +kernel
  have l69 : lenS.getD 69 0 = 8 := by decide +kernel
  have l73 : lenS.getD 73 0 = 8 := by decide +kernel
  have l74 : lenS.getD 74 0 = 2 := by decide +kernel
  have hmono : ∀ i, i < m → W i ≤ W (i + 1) := fun i hi => by
    obtain ⟨-, -, -, -, -, -, y, sy, z, w', -, -, -, -, e⟩ := hch i hi
    omega
  intro fuel
  induction fuel with
  | zero => intro i ps Pl To _ hf; exact absurd hf (Nat.not_lt_zero _)
  | succ fuel ih =>
    intro i ps Pl To hi hf ht h1 h2
    by_cases him : i = m
    · subst him
      have hp := h2 rfl
      subst hp
      simp only [if_true, m_X9_writeNamed_138, if_pos (show (-1 : Int32) < 0 by decide)]
      refine FN.bind (put_ok (by decide) l74 (by omega)) ?_
      rintro _ ⟨Pl', rfl⟩
      dsimp only
      exact FN.ok ⟨Pl', To, rfl, by rw [← htm]; exact ht⟩
    · have hp := h1 (by omega)
      subst hp
      obtain ⟨d1, d2, d3, d4, d5, d6, y, sy, z, w', d7, d8, d9, d10, d11⟩ := hch i (by omega)
      have hW := up_le hmono (m - (i + 1)) (i + 1) (by omega)
      rw [show i + 1 + (m - (i + 1)) = m by omega] at hW
      simp only [if_neg him, m_X9_writeNamed_138, if_neg (nI_pos (show c i < 2 ^ 31 by omega)), bd_go (show s < 140 by omega) (by decide), bd_gc (show s < 140 by omega) (by decide), nI_clamp (show s < 2 ^ 31 by omega), ov_lt hs, hS, if_true]
      refine FN.bind (put_ok (by decide) l69 (by omega)) ?_
      rintro _ ⟨P1, rfl⟩
      dsimp only
      simp only [m_X9_writeNamed_160, bd_go (show c i < 2200 by omega) (by decide), bd_gc (show c i < 2200 by omega) (by decide), nI_clamp (show c i < 2 ^ 31 by omega), ov_lt (show c i < kc by omega), d7]
      refine FN.bind (pun_ok hn hl d8 (by omega)) ?_
      rintro _ ⟨P2, rfl⟩
      dsimp only
      simp only [bd_go (show s < 140 by omega) (by decide), bd_gc (show s < 140 by omega) (by decide), nI_clamp (show s < 2 ^ 31 by omega), ov_lt hs, hS, if_true]
      refine FN.bind (put_ok (by decide) l73 (by omega)) ?_
      rintro _ ⟨P3, rfl⟩
      dsimp only
      simp only [bd_go (show c i < 2200 by omega) (by decide), bd_gc (show c i < 2200 by omega) (by decide), nI_clamp (show c i < 2 ^ 31 by omega), ov_lt (show c i < kc by omega), d9]
      refine FN.bind (hfw z (t i) (t (i + 1)) (c i + 1) (e i) w' (ps0 + W i + 8 + (sy + 2) + 8) P3 To (by omega) (by omega) (by omega) d10 (by omega) ht) ?_
      rintro _ ⟨P4, To', rfl, ht'⟩
      dsimp only
      refine FN.bind (put_ok (by decide) l63 (by omega)) ?_
      rintro _ ⟨P5, rfl⟩
      dsimp only
      simp only [m_X9_writeNamed_205, bd_go (show c i < 2200 by omega) (by decide), bd_gc (show c i < 2200 by omega) (by decide), nI_clamp (show c i < 2 ^ 31 by omega), ov_lt (show c i < kc by omega), d6]
      by_cases hl : i + 1 = m
      · simp only [if_pos hl, if_pos (show (-1 : Int32) < 0 by decide), m_X9_writeNamed_224]
        refine FN.bind (put_ok (by decide) l66 (by omega)) ?_
        rintro _ ⟨P6, rfl⟩
        dsimp only
        simp only [bd_go (show c i < 2200 by omega) (by decide), bd_gc (show c i < 2200 by omega) (by decide), nI_clamp (show c i < 2 ^ 31 by omega), ov_lt (show c i < kc by omega), d6, if_pos hl]
        have := ih (i + 1) (ps0 + W i + 8 + (sy + 2) + 8 + w' + 1 + 0) P6 To' (by omega) (by omega) ht' (fun q => absurd q (by omega)) (fun _ => by rw [← hl]; omega)
        rw [if_pos hl] at this
        exact this
      · obtain ⟨e1, e2, e3, e4, e5, -⟩ := hch (i + 1) (by omega)
        simp only [if_neg hl, if_neg (nI_pos (show c (i + 1) < 2 ^ 31 by omega)), m_X9_writeNamed_224]
        refine FN.bind (put_ok (by decide) l65 (by omega)) ?_
        rintro _ ⟨P6, rfl⟩
        dsimp only
        simp only [bd_go (show c i < 2200 by omega) (by decide), bd_gc (show c i < 2200 by omega) (by decide), nI_clamp (show c i < 2 ^ 31 by omega), ov_lt (show c i < kc by omega), d6, if_neg hl]
        have := ih (i + 1) (ps0 + W i + 8 + (sy + 2) + 8 + w' + 1 + 1) P6 To' (by omega) (by omega) ht' (fun _ => by omega) (fun q => absurd q hl)
        rw [if_neg hl] at this
        exact this
theorem six_eq : ∀ s, s < 6 → (nI s = 0 → s = 0) ∧ (nI s = 1 → s = 1) ∧ (nI s = 2 → s = 2) ∧ (nI s = 3 → s = 3) ∧ (nI s = 4 → s = 4) ∧ (nI s = 5 → s = 5) := by decide
theorem wri_ok (hn : n ≤ 4200) (hl : l ≤ 4200) (hsh : sh ≤ 140) (hkc : kc ≤ 2200) (h6 : ∀ s, s < 6 → So s = nI s) : ∀ (D h : Nat), h < D → okW K S Lt So Na Wi Ki kS kN kX N n l sh kc (m_X9_write D) h := by
  have l61 : lenS.getD 61 0 = 24 := by decide +kernel
  have l62 : lenS.getD 62 0 = 23 := by decide +kernel
  have l63 : lenS.getD 63 0 = 1 := by decide +kernel
  have l64 : lenS.getD 64 0 = 1 := by decide +kernel
  have l68 : lenS.getD 68 0 = 1 := by decide +kernel
  have l69 : lenS.getD 69 0 = 8 := by decide +kernel
  have l70 : lenS.getD 70 0 = 23 := by decide +kernel
  have l71 : lenS.getD 71 0 = 26 := by decide +kernel
  have l72 : lenS.getD 72 0 = 27 := by decide +kernel
  have e1 : vp_nar .boolean 1 = 1 := by decide +kernel
  intro D
  induction D with
  | zero => intro h hf; exact absurd hf (Nat.not_lt_zero _)
  | succ D ih =>
    intro h hD s c c' k0 k1 w ps Pl To hc6 hc' hk1 ho hps ht
    have hsc := ho.lt hc6
    have hs : s < sh := by omega
    have hbase : base (strN K N S n l) So Na s c c' w → FN (fun g => m_X9_write (D + 1) (ov n N g.2) (ov n S (g.1 2)) (ov l Lt (g.1 5)) (ov sh So (g.1 7)) (ov sh Na (g.1 8)) (ow sh Wi (g.1 9)) (ov sh Ki (g.1 10)) (ov kc kS (g.1 13)) (ov kc kN (g.1 14)) (ov kc kX (g.1 16)) (ov ps Pl (g.1 18)) (nI ps) (ov sh To (g.1 19)) (nI s)) (wrP So sh (ps + w) c') := by
      rintro ⟨rfl, ⟨hs6, rfl⟩ | ⟨hs6, hsc', hso, x, sz, hna, hT, rfl⟩⟩
      · have hSo := h6 s hs6
        obtain ⟨a1, a2, a3, a4, a5, a6⟩ := six_ne s hs6
        obtain ⟨b0, b1, b2, b3, b4, b5⟩ := six_eq s hs6
        simp only [m_X9_write, bd_go (show s < 140 by omega) (by decide), bd_gc (show s < 140 by omega) (by decide), nI_clamp (show s < 2 ^ 31 by omega), ov_lt hs, hSo, if_neg a1, if_neg a2, if_neg a3, if_neg a4, if_neg a5, if_neg a6]
        refine FN.bind (put_ok (by decide) l68 (by unfold wl at hps; omega)) ?_
        rintro _ ⟨P1, rfl⟩
        dsimp only
        have fin : ∀ (x len : Nat), x < 75 → lenS.getD x 0 = len → wl s = len + 2 → FN (fun g => m_X9_write_255 (m_X9_write D) (ov n N g.2) (ov n S (g.1 2)) (ov l Lt (g.1 5)) (ov sh So (g.1 7)) (ov sh Na (g.1 8)) (ow sh Wi (g.1 9)) (ov sh Ki (g.1 10)) (ov kc kS (g.1 13)) (ov kc kN (g.1 14)) (ov kc kX (g.1 16)) (ov (ps + 1) P1 (g.1 18)) (nI (ps + 1)) (ov sh To (g.1 19)) x) (wrP So sh (ps + wl s) c') := by
          intro x len hx hlen hw
          rw [hw] at hps ⊢
          simp only [m_X9_write_255]
          refine FN.bind (put_ok hx hlen (by omega)) ?_
          rintro _ ⟨P2, rfl⟩
          dsimp only
          refine FN.bind (put_ok (by decide) l68 (by omega)) ?_
          rintro _ ⟨P3, rfl⟩
          dsimp only
          exact FN.ok ⟨P3, To, by rw [show ps + 1 + len + 1 = ps + (len + 2) by omega], ht⟩
        refine FN.ite (fun q => fin 42 4 (by decide) (by decide +kernel) ?_) (fun q0 => FN.ite (fun q => fin 43 7 (by decide) (by decide +kernel) ?_) (fun q1 => FN.ite (fun q => fin 44 3 (by decide) (by decide +kernel) ?_) (fun q2 => FN.ite (fun q => fin 45 4 (by decide) (by decide +kernel) ?_) (fun q3 => FN.ite (fun q => fin 46 5 (by decide) (by decide +kernel) ?_) (fun q4 => fin 47 6 (by decide) (by decide +kernel) ?_)))))
        · rw [b0 q]; decide +kernel
        · rw [b1 q]; decide +kernel
        · rw [b2 q]; decide +kernel
        · rw [b3 q]; decide +kernel
        · rw [b4 q]; decide +kernel
        · rcases six_in s hs6 with q | q | q | q | q | q
          · exact absurd q q0
          · exact absurd q q1
          · exact absurd q q2
          · exact absurd q q3
          · exact absurd q q4
          · rw [b5 q]; decide +kernel
      · have hto := ht s hs6 hs hso
        rw [if_pos hsc'] at hto
        have hn9 : ∀ k : Int32, (k = 6 ∨ k = 7 ∨ k = 8) → ¬ So s = k := by
          intro k hk q
          rw [q] at hso
          rcases hk with e | e | e <;> rw [e] at hso <;> exact absurd hso (by decide)
        have hname : FN (fun g => m_X9_writeNamed (m_X9_write D) (ov n N g.2) (ov n S (g.1 2)) (ov l Lt (g.1 5)) (ov sh So (g.1 7)) (ov sh Na (g.1 8)) (ow sh Wi (g.1 9)) (ov sh Ki (g.1 10)) (ov kc kS (g.1 13)) (ov kc kN (g.1 14)) (ov kc kX (g.1 16)) (ov ps Pl (g.1 18)) (nI ps) (ov sh To (g.1 19)) (nI s)) (wrP So sh (ps + (sz + 2)) c') := by
          simp only [m_X9_writeNamed, bd_go (show s < 140 by omega) (by decide), bd_gc (show s < 140 by omega) (by decide), nI_clamp (show s < 2 ^ 31 by omega), ov_lt hs, hto, if_neg (show ¬ (1 : Int32) = 0 by decide), hna]
          refine FN.bind (pun_ok hn hl hT hps) ?_
          rintro _ ⟨P1, rfl⟩
          dsimp only
          exact FN.ok ⟨P1, To, rfl, ht⟩
        have hname2 : FN (fun g => (m_X9_writeNamed (m_X9_write D) (ov n N g.2) (ov n S (g.1 2)) (ov l Lt (g.1 5)) (ov sh So (g.1 7)) (ov sh Na (g.1 8)) (ow sh Wi (g.1 9)) (ov sh Ki (g.1 10)) (ov kc kS (g.1 13)) (ov kc kN (g.1 14)) (ov kc kX (g.1 16)) (ov ps Pl (g.1 18)) (nI ps) (ov sh To (g.1 19)) (nI s)).bind fun (x : TW) => some (x.1, x.2.1, x.2.2)) (wrP So sh (ps + (sz + 2)) c') := FN.bind hname (fun u hu => FN.ok hu)
        simp only [m_X9_write, bd_go (show s < 140 by omega) (by decide), bd_gc (show s < 140 by omega) (by decide), nI_clamp (show s < 2 ^ 31 by omega), ov_lt hs, if_neg (hn9 6 (Or.inl rfl)), if_neg (hn9 7 (Or.inr (Or.inl rfl))), if_neg (hn9 8 (Or.inr (Or.inr rfl)))]
        rcases hso with q | q | q
        · simp only [q, if_true]
          exact hname2
        · simp only [q, if_neg (show ¬ (10 : Int32) = 9 by decide), if_true]
          exact hname2
        · simp only [q, if_neg (show ¬ (11 : Int32) = 9 by decide), if_neg (show ¬ (11 : Int32) = 10 by decide), if_true]
          exact hname2
    cases h with
    | zero => exact hbase ho
    | succ h =>
      rcases ho with ho | ⟨rfl, hlt, hcre⟩
      · exact hbase ho
      have hfw := ih h (by omega)
      have hto : (So s = 9 ∨ So s = 10 ∨ So s = 11) → To s = 0 := fun q => by
        rw [ht s hc6 hs q, if_neg (by omega)]
      rcases hcre.sort with e67 | e8 | e9 | e10 | e11
      · -- arrays and maps
        obtain ⟨t, w', y1, y2, y3, y4, y5, y6⟩ := hcre.arr e67
        have ht1 : toldOK So To (s + 1) sh := told_skip ht (by rcases e67 with q | q <;> rw [q] <;> decide)
        have go : ∀ (x len : Nat), x < 75 → lenS.getD x 0 = len → w = len + 1 + w' → FN (fun g => m_X9_write_65 (m_X9_write D) (ov n N g.2) (ov n S (g.1 2)) (ov l Lt (g.1 5)) (ov sh So (g.1 7)) (ov sh Na (g.1 8)) (ow sh Wi (g.1 9)) (ov sh Ki (g.1 10)) (ov kc kS (g.1 13)) (ov kc kN (g.1 14)) (ov kc kX (g.1 16)) (ov ps Pl (g.1 18)) (nI ps) (ov sh To (g.1 19)) (nI s) x) (wrP So sh (ps + w) c') := by
          intro x len hx hlen hw
          subst hw
          simp only [m_X9_write_65]
          refine FN.bind (put_ok hx hlen (by omega)) ?_
          rintro _ ⟨P1, rfl⟩
          dsimp only
          simp only [bd_go (show s < 140 by omega) (by decide), bd_gc (show s < 140 by omega) (by decide), nI_clamp (show s < 2 ^ 31 by omega), ov_lt hs, y1, bd_go (show k0 < 2200 by omega) (by decide), bd_gc (show k0 < 2200 by omega) (by decide), nI_clamp (show k0 < 2 ^ 31 by omega), ov_lt (show k0 < kc by omega), y4]
          refine FN.bind (hfw t (s + 1) c' (k0 + 1) k1 w' (ps + len) P1 To (by omega) hc' hk1 y5 (by omega) ht1) ?_
          rintro _ ⟨P2, To', rfl, ht'⟩
          dsimp only
          refine FN.bind (put_ok (by decide) l63 (by omega)) ?_
          rintro _ ⟨P3, rfl⟩
          dsimp only
          exact FN.ok ⟨P3, To', by rw [show ps + len + w' + 1 = ps + (len + 1 + w') by omega], ht'⟩
        rcases e67 with q | q
        · rw [if_pos q] at y6
          simp only [m_X9_write, bd_go (show s < 140 by omega) (by decide), bd_gc (show s < 140 by omega) (by decide), nI_clamp (show s < 2 ^ 31 by omega), ov_lt hs, q, if_true]
          exact go 61 24 (by decide) l61 (by omega)
        · rw [if_neg (by rw [q]; decide)] at y6
          simp only [m_X9_write, bd_go (show s < 140 by omega) (by decide), bd_gc (show s < 140 by omega) (by decide), nI_clamp (show s < 2 ^ 31 by omega), ov_lt hs, q, if_neg (show ¬ (7 : Int32) = 6 by decide), if_true]
          exact go 62 23 (by decide) l62 (by omega)
      · -- unions
        obtain ⟨m, cc, t, b, W, y1, y2, y3, y4, y5, y6, y7⟩ := hcre.uni e8
        subst y6
        have ht1 : toldOK So To (s + 1) sh := told_skip ht (by rw [e8]; decide)
        simp only [m_X9_write, bd_go (show s < 140 by omega) (by decide), bd_gc (show s < 140 by omega) (by decide), nI_clamp (show s < 2 ^ 31 by omega), ov_lt hs, e8, if_neg (show ¬ (8 : Int32) = 6 by decide), if_neg (show ¬ (8 : Int32) = 7 by decide), if_true]
        refine FN.bind (put_ok (by decide) l64 (by omega)) ?_
        rintro _ ⟨P1, rfl⟩
        dsimp only
        simp only [bd_go (show s < 140 by omega) (by decide), bd_gc (show s < 140 by omega) (by decide), nI_clamp (show s < 2 ^ 31 by omega), ov_lt hs, y2]
        have := w107 hfw hc6 hc' hk1 hkc y1.1 (ps0 := ps + 1) (by omega) y4 y7 sr_fuel 0 (ps + 1) P1 To (by omega) (by unfold sr_fuel; omega) (by rw [y3]; exact ht1) (fun _ => by omega) (fun q => absurd q (by omega))
        rw [if_neg (by omega), show ps + 1 + (W m - 1) + 1 = ps + (2 + (W m - 1)) by omega] at this
        exact this
      · -- fixeds
        obtain ⟨rfl, x, sz, d, y1, y2, y3, y4, rfl⟩ := hcre.fix e9
        have ht1 := told_new ht
        have hname : FN (fun g => m_X9_writeNamed (m_X9_write D) (ov n N g.2) (ov n S (g.1 2)) (ov l Lt (g.1 5)) (ov sh So (g.1 7)) (ov sh Na (g.1 8)) (ow sh Wi (g.1 9)) (ov sh Ki (g.1 10)) (ov kc kS (g.1 13)) (ov kc kN (g.1 14)) (ov kc kX (g.1 16)) (ov ps Pl (g.1 18)) (nI ps) (ov sh To (g.1 19)) (nI s)) (wrP So sh (ps + (34 + sz + (if 9 < d then 2 else 1))) (s + 1)) := by
          simp only [m_X9_writeNamed, bd_go (show s < 140 by omega) (by decide), bd_gc (show s < 140 by omega) (by decide), nI_clamp (show s < 2 ^ 31 by omega), ov_lt hs, hto (Or.inl e9), if_true, ov_up hs, ow_lt hc6 hs, e1, y1, e9, y3]
          have hle : 34 + sz + (if 9 < d then 2 else 1) ≤ 36 + sz := by split <;> omega
          have hge : 35 + sz ≤ 34 + sz + (if 9 < d then 2 else 1) := by split <;> omega
          refine FN.bind (put_ok (by decide) l69 (by omega)) ?_
          rintro _ ⟨P1, rfl⟩
          dsimp only
          refine FN.bind (pun_ok hn hl y2 (by omega)) ?_
          rintro _ ⟨P2, rfl⟩
          dsimp only
          refine FN.bind (put_ok (by decide) l70 (by omega)) ?_
          rintro _ ⟨P3, rfl⟩
          dsimp only
          have tl : ∀ (ps1 : Nat) (Pl1 : Nat → Int32), ps1 + 2 ≤ 4200 → FN (fun g => m_X9_writeNamed_86 (m_X9_write D) (ov n N g.2) (ov n S (g.1 2)) (ov l Lt (g.1 5)) (ov sh So (g.1 7)) (ov sh Na (g.1 8)) (ow sh Wi (g.1 9)) (ov sh Ki (g.1 10)) (ov kc kS (g.1 13)) (ov kc kN (g.1 14)) (ov kc kX (g.1 16)) (ov ps1 Pl1 (g.1 18)) (nI ps1) (ov sh (upd To s 1) (g.1 19)) (nI s)) (wrP So sh (ps1 + 2) (s + 1)) := by
            intro ps1 Pl1 hp1
            simp only [m_X9_writeNamed_86, bd_go (show s < 140 by omega) (by decide), bd_gc (show s < 140 by omega) (by decide), nI_clamp (show s < 2 ^ 31 by omega), ow_lt hc6 hs, y3]
            refine FN.bind (fig_ok (by omega)) ?_
            rintro _ ⟨P5, rfl⟩
            dsimp only
            refine FN.bind (put_ok (by decide) l63 (by omega)) ?_
            rintro _ ⟨P6, rfl⟩
            dsimp only
            exact FN.ok ⟨P6, _, rfl, ht1⟩
          by_cases hd : 9 < d
          · rw [if_pos hd] at hps ⊢
            simp only [if_neg (show ¬ nI d ≤ 9 from nI_ge (a := 9) hd (by omega))]
            refine FN.bind (fig_ok (by omega)) ?_
            rintro _ ⟨P4, rfl⟩
            dsimp only
            have := tl (ps + 8 + (sz + 2) + 23 + 1) P4 (by omega)
            rw [show ps + 8 + (sz + 2) + 23 + 1 + 2 = ps + (34 + sz + 2) by omega] at this
            exact this
          · rw [if_neg hd] at hps ⊢
            simp only [if_pos (show nI d ≤ 9 from nI_le (b := 9) (by omega) (by omega))]
            have := tl (ps + 8 + (sz + 2) + 23) P3 (by omega)
            rw [show ps + 8 + (sz + 2) + 23 + 2 = ps + (34 + sz + 1) by omega] at this
            exact this
        simp only [m_X9_write, bd_go (show s < 140 by omega) (by decide), bd_gc (show s < 140 by omega) (by decide), nI_clamp (show s < 2 ^ 31 by omega), ov_lt hs, e9, if_neg (show ¬ (9 : Int32) = 6 by decide), if_neg (show ¬ (9 : Int32) = 7 by decide), if_neg (show ¬ (9 : Int32) = 8 by decide), if_true]
        exact FN.bind hname (fun u hu => FN.ok hu)
      · -- enums
        obtain ⟨rfl, x, sz, m, cc, W, y1, y2, y3, y4, y5, rfl, y7⟩ := hcre.enm e10
        have ht1 := told_new ht
        have hname : FN (fun g => m_X9_writeNamed (m_X9_write D) (ov n N g.2) (ov n S (g.1 2)) (ov l Lt (g.1 5)) (ov sh So (g.1 7)) (ov sh Na (g.1 8)) (ow sh Wi (g.1 9)) (ov sh Ki (g.1 10)) (ov kc kS (g.1 13)) (ov kc kN (g.1 14)) (ov kc kX (g.1 16)) (ov ps Pl (g.1 18)) (nI ps) (ov sh To (g.1 19)) (nI s)) (wrP So sh (ps + (38 + sz + (W m - 1))) (s + 1)) := by
          simp only [m_X9_writeNamed, bd_go (show s < 140 by omega) (by decide), bd_gc (show s < 140 by omega) (by decide), nI_clamp (show s < 2 ^ 31 by omega), ov_lt hs, hto (Or.inr (Or.inl e10)), if_true, ov_up hs, e1, y1, e10, if_neg (show ¬ (10 : Int32) = 9 by decide)]
          refine FN.bind (put_ok (by decide) l69 (by omega)) ?_
          rintro _ ⟨P1, rfl⟩
          dsimp only
          refine FN.bind (pun_ok hn hl y2 (by omega)) ?_
          rintro _ ⟨P2, rfl⟩
          dsimp only
          simp only [m_X9_writeNamed_128]
          refine FN.bind (put_ok (by decide) l71 (by omega)) ?_
          rintro _ ⟨P3, rfl⟩
          dsimp only
          simp only [bd_go (show s < 140 by omega) (by decide), bd_gc (show s < 140 by omega) (by decide), nI_clamp (show s < 2 ^ 31 by omega), ov_lt hs, y4]
          have := w138e (Lt := Lt) (Na := Na) (Wi := Wi) (Ki := Ki) (kS := kS) (fw := m_X9_write D) hn hl hsh hs e10 hk1 hkc y3.1 (ps0 := ps + 8 + (sz + 2) + 26) (by omega) ht1 y7 sr_fuel 0 (ps + 8 + (sz + 2) + 26) P3 (by omega) (by unfold sr_fuel; omega) (fun _ => by omega) (fun q => absurd q (by omega))
          rw [if_neg (by omega), show ps + 8 + (sz + 2) + 26 + (W m - 1) + 2 = ps + (38 + sz + (W m - 1)) by omega] at this
          exact this
        simp only [m_X9_write, bd_go (show s < 140 by omega) (by decide), bd_gc (show s < 140 by omega) (by decide), nI_clamp (show s < 2 ^ 31 by omega), ov_lt hs, e10, if_neg (show ¬ (10 : Int32) = 6 by decide), if_neg (show ¬ (10 : Int32) = 7 by decide), if_neg (show ¬ (10 : Int32) = 8 by decide), if_neg (show ¬ (10 : Int32) = 9 by decide), if_true]
        exact FN.bind hname (fun u hu => FN.ok hu)
      · -- records
        obtain ⟨x, sz, m, cc, t, e, W, y1, y2, y3, y4, y5, y6, rfl, y8⟩ := hcre.rec' e11
        have ht1 := told_new ht
        have hst : (if m = 0 then (-1 : Int32) else nI (cc 0)) = (if 0 = m then -1 else nI (cc 0)) := by
          by_cases h0 : m = 0
          · rw [if_pos h0, if_pos h0.symm]
          · rw [if_neg h0, if_neg (fun q => h0 q.symm)]
        have hname : FN (fun g => m_X9_writeNamed (m_X9_write D) (ov n N g.2) (ov n S (g.1 2)) (ov l Lt (g.1 5)) (ov sh So (g.1 7)) (ov sh Na (g.1 8)) (ow sh Wi (g.1 9)) (ov sh Ki (g.1 10)) (ov kc kS (g.1 13)) (ov kc kN (g.1 14)) (ov kc kX (g.1 16)) (ov ps Pl (g.1 18)) (nI ps) (ov sh To (g.1 19)) (nI s)) (wrP So sh (ps + (39 + sz + (W m - 1))) c') := by
          simp only [m_X9_writeNamed, bd_go (show s < 140 by omega) (by decide), bd_gc (show s < 140 by omega) (by decide), nI_clamp (show s < 2 ^ 31 by omega), ov_lt hs, hto (Or.inr (Or.inr e11)), if_true, ov_up hs, e1, y1, e11, if_neg (show ¬ (11 : Int32) = 9 by decide), if_neg (show ¬ (11 : Int32) = 10 by decide)]
          refine FN.bind (put_ok (by decide) l69 (by omega)) ?_
          rintro _ ⟨P1, rfl⟩
          dsimp only
          refine FN.bind (pun_ok hn hl y2.1 (by omega)) ?_
          rintro _ ⟨P2, rfl⟩
          dsimp only
          simp only [m_X9_writeNamed_128]
          refine FN.bind (put_ok (by decide) l72 (by omega)) ?_
          rintro _ ⟨P3, rfl⟩
          dsimp only
          simp only [bd_go (show s < 140 by omega) (by decide), bd_gc (show s < 140 by omega) (by decide), nI_clamp (show s < 2 ^ 31 by omega), ov_lt hs, y3, hst]
          have := w138r hfw hn hl hc6 hsh hs e11 hc' hk1 hkc (ps0 := ps + 8 + (sz + 2) + 27) (by omega) y5 y6 y8 sr_fuel 0 (ps + 8 + (sz + 2) + 27) P3 (upd To s 1) (by omega) (by unfold sr_fuel; omega) (by rw [y4]; exact ht1) (fun _ => by omega) (fun q => by rw [← q]; omega)
          rw [show ps + 8 + (sz + 2) + 27 + (W m - 1) + 2 = ps + (39 + sz + (W m - 1)) by omega] at this
          exact this
        simp only [m_X9_write, bd_go (show s < 140 by omega) (by decide), bd_gc (show s < 140 by omega) (by decide), nI_clamp (show s < 2 ^ 31 by omega), ov_lt hs, e11, if_neg (show ¬ (11 : Int32) = 6 by decide), if_neg (show ¬ (11 : Int32) = 7 by decide), if_neg (show ¬ (11 : Int32) = 8 by decide), if_neg (show ¬ (11 : Int32) = 9 by decide), if_neg (show ¬ (11 : Int32) = 10 by decide), if_true]
        exact FN.bind hname (fun u hu => FN.ok hu)
end WRIs
