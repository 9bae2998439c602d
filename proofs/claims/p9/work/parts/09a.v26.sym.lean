-- the reference's shapes, kids and symbols
theorem shape_eq {sh : Nat} {So Na Wi Ki Ma Fa g7 g8 g9 g10 g11 g12 : Nat → Int32} {a0 : Int32} (h6 : 6 ≤ sh) (hsh : sh < 140) : m_X9_shape (nI sh) (ov sh So g7) (ov sh Na g8) (ow sh Wi g9) (ov sh Ki g10) (ow sh Ma g11) (ow sh Fa g12) a0 =
    some (nI sh, (nI (sh + 1), ov (sh + 1) (upd So sh a0) g7, ov (sh + 1) (upd Na sh (-1)) g8, ow (sh + 1) (upd Wi sh 0) g9, ov (sh + 1) (upd Ki sh (-1)) g10, ow (sh + 1) (upd Ma sh 0) g11, ow (sh + 1) (upd Fa sh (-1)) g12)) := by
  unfold m_X9_shape
  simp only [bd_go (show sh < 140 by omega) (by decide), bd_gc (show sh < 140 by omega) (by decide), nI_clamp (show sh < 2 ^ 31 by omega), ov_push, ow_push h6, nI_1, nI_pred]
theorem addKid_0 {sh kc s : Nat} {Ki Ma kS kN kD kX g10 g11 g13 g14 g15 g16 : Nat → Int32} (h6 : 6 ≤ s) (hs : s < sh) (hsh : sh ≤ 140) (hkc : kc < 2200) : m_X9_addKid (ov sh Ki g10) (ow sh Ma g11) (nI kc) (ov kc kS g13) (ov kc kN g14) (ov kc kD g15) (ov kc kX g16) (nI s) (-1) =
    some (nI kc, (ov sh (upd Ki s (nI kc)) g10, ow sh (upd Ma s (Ma s + 1)) g11, nI (kc + 1), ov (kc + 1) (upd kS kc (-1)) g13, ov (kc + 1) (upd kN kc (-1)) g14, ov (kc + 1) (upd kD kc (-1)) g15, ov (kc + 1) (upd kX kc (-1)) g16)) := by
  unfold m_X9_addKid
  simp only [bd_go (show kc < 2200 by omega) (by decide), bd_gc (show kc < 2200 by omega) (by decide), nI_clamp (show kc < 2 ^ 31 by omega), bd_go (show s < 140 by omega) (by decide), bd_gc (show s < 140 by omega) (by decide), nI_clamp (show s < 2 ^ 31 by omega), ov_push, ov_up hs, ow_up h6 hs, ow_lt h6 hs, nI_1, if_neg (show ¬ (0 : Int32) ≤ -1 by decide)]
theorem addKid_1 {sh kc s j : Nat} {Ki Ma kS kN kD kX g10 g11 g13 g14 g15 g16 : Nat → Int32} (h6 : 6 ≤ s) (hs : s < sh) (hsh : sh ≤ 140) (hkc : kc < 2200) (hj : j < kc) : m_X9_addKid (ov sh Ki g10) (ow sh Ma g11) (nI kc) (ov kc kS g13) (ov kc kN g14) (ov kc kD g15) (ov kc kX g16) (nI s) (nI j) =
    some (nI kc, (ov sh Ki g10, ow sh (upd Ma s (Ma s + 1)) g11, nI (kc + 1), ov (kc + 1) (upd kS kc (-1)) g13, ov (kc + 1) (upd kN kc (-1)) g14, ov (kc + 1) (upd kD kc (-1)) g15, ov (kc + 1) (upd (upd kX kc (-1)) j (nI kc)) g16)) := by
  unfold m_X9_addKid
  simp only [bd_go (show kc < 2200 by omega) (by decide), bd_gc (show kc < 2200 by omega) (by decide), nI_clamp (show kc < 2 ^ 31 by omega), bd_go (show s < 140 by omega) (by decide), bd_gc (show s < 140 by omega) (by decide), nI_clamp (show s < 2 ^ 31 by omega), bd_go (show j < 2200 by omega) (by decide), bd_gc (show j < 2200 by omega) (by decide), nI_clamp (show j < 2 ^ 31 by omega), ov_push, ov_up hs, ow_up h6 hs, ow_lt h6 hs, ov_up (show j < kc + 1 by omega), nI_1, if_pos (nI_pos' (show j < 2 ^ 31 by omega))]
/-- a symbol of an enum: one answer -/
theorem symbol_ok {K S Lt K' S' Lt' : Nat → Int32} {N N' : Nat → Int64} {n l n' l' : Nat} {Ki kN kX : Nat → Int32} {sh kc s m x sz : Nat} {c : Nat → Nat} (hn : n ≤ 4200) (hl : l ≤ 4200) (hn' : n' ≤ 4200) (hl' : l' ≤ 4200) (hs : s < sh) (hsh : sh ≤ 140) (hkc : kc ≤ 2200) (hm : m ≤ 5000) (hx : strN K' N' S' n' l' x sz) (hK : Ki s = (if m = 0 then -1 else nI (c 0)))
    (hc : ∀ i, i < m → c i < kc ∧ kX (c i) = (if i + 1 = m then -1 else nI (c (i + 1))) ∧ ∃ y sy, kN (c i) = nI y ∧ strN K N S n l y sy) :
    ∃ r : Int32, ∀ (gN gN' : Nat → Int64) (gS gS' gL gL' g10 g14 g16 : Nat → Int32), m_X9_symbol (ov n N gN) (ov n S gS) (ov l Lt gL) (ov sh Ki g10) (ov kc kN g14) (ov kc kX g16) (ov n' N' gN') (ov n' S' gS') (ov l' Lt' gL') (nI s) (nI x) = some r := by
  have go : ∀ (fuel i : Nat), i ≤ m → m - i < fuel → ∃ r : Int32, ∀ (gN gN' : Nat → Int64) (gS gS' gL gL' g10 g14 g16 : Nat → Int32), m_X9_symbol_11 (ov n N gN) (ov n S gS) (ov l Lt gL) (ov sh Ki g10) (ov kc kN g14) (ov kc kX g16) (ov n' N' gN') (ov n' S' gS') (ov l' Lt' gL') fuel (nI x) (nI i) (if i = m then -1 else nI (c i)) = some r := by
    intro fuel
    induction fuel with
    | zero => intro i _ hf; exact absurd hf (Nat.not_lt_zero _)
    | succ fuel ih =>
      intro i hi hf
      by_cases him : i = m
      · simp only [if_pos him, m_X9_symbol_11, if_pos (show (-1 : Int32) < 0 by decide)]
        exact ⟨_, fun _ _ _ _ _ _ _ _ _ => rfl⟩
      · obtain ⟨c1, c2, y, sy, c3, c4⟩ := hc i (by omega)
        obtain ⟨r, -, hr⟩ := same_ok (Lt := Lt) (Lt' := Lt') hn hl hn' hl' c4 hx
        simp only [if_neg him, m_X9_symbol_11, if_neg (nI_pos (show c i < 2 ^ 31 by omega)), bd_go (show c i < 2200 by omega) (by decide), bd_gc (show c i < 2200 by omega) (by decide), nI_clamp (show c i < 2 ^ 31 by omega), ov_lt c1, c2, c3, hr, Option.bind_some, nI_1]
        by_cases h0 : r = 0
        · simp only [if_pos h0]
          exact ih (i + 1) (by omega) (by omega)
        · simp only [if_neg h0]
          exact ⟨_, fun _ _ _ _ _ _ _ _ _ => rfl⟩
  have hstart : (if m = 0 then (-1 : Int32) else nI (c 0)) = (if 0 = m then -1 else nI (c 0)) := by
    by_cases hk : m = 0
    · rw [if_pos hk, if_pos hk.symm]
    · rw [if_neg hk, if_neg (fun q => hk q.symm)]
  simp only [m_X9_symbol, bd_go (show s < 140 by omega) (by decide), bd_gc (show s < 140 by omega) (by decide), nI_clamp (show s < 2 ^ 31 by omega), ov_lt hs, hK, hstart]
  exact go sr_fuel 0 (by omega) (by unfold sr_fuel; omega)
abbrev TY : Type := Int32 × Int32 × (Nat → Int32) × (Nat → Int32) × (Nat → Int32) × Int32 × (Nat → Int32) × (Nat → Int32) × (Nat → Int32) × (Nat → Int32)
def fpY : TY → Int32 × Int32 := fun u => (u.1, u.2.1)
theorem sym_dup {K F S I X Lt : Nat → Int32} {N : Nat → Int64} {n l : Nat} {Ki Ma Fa kS kN kD kX : Nat → Int32} {sh kc s v b sz m : Nat} {c : Nat → Nat} {fl pl x4 : Int32} {k88 : Gs → Int32 → Int32 → (Nat → Int32) → (Nat → Int32) → (Nat → Int32) → Int32 → (Nat → Int32) → (Nat → Int32) → (Nat → Int32) → (Nat → Int32) → Int32 → Int32 → Int32 → Int32 → Option (Except TY (Unit × TY))} {Q : Unit → (Gs → TY) → Prop}
    (hn : n ≤ 4200) (hl : l ≤ 4200) (hkc : kc ≤ 2200) (hb : strN K N S n l b sz)
    (hc : ∀ i, i < m → c i < kc ∧ kX (c i) = (if i + 1 = m then -1 else nI (c (i + 1))) ∧ ∃ y sy, kN (c i) = nI y ∧ strN K N S n l y sy)
    (hexit : RES (fun g => m_X9_symbols_120 (ov n K (g.1 0)) (ov n F (g.1 1)) (ov n N g.2) (ov n S (g.1 2)) (ov n I (g.1 3)) (ov n X (g.1 4)) (ov l Lt (g.1 5)) (k88 g) 1 fl pl (ov sh Ki (g.1 10)) (ow sh Ma (g.1 11)) (ow sh Fa (g.1 12)) (nI kc) (ov kc kS (g.1 13)) (ov kc kN (g.1 14)) (ov kc kD (g.1 15)) (ov kc kX (g.1 16)) (nI s) (nI v) x4 (nI b) (-1)) fpY Q) :
    ∀ (fuel i : Nat), i ≤ m → m - i < fuel → RES (fun g => m_X9_symbols_120 (ov n K (g.1 0)) (ov n F (g.1 1)) (ov n N g.2) (ov n S (g.1 2)) (ov n I (g.1 3)) (ov n X (g.1 4)) (ov l Lt (g.1 5)) (k88 g) fuel fl pl (ov sh Ki (g.1 10)) (ow sh Ma (g.1 11)) (ow sh Fa (g.1 12)) (nI kc) (ov kc kS (g.1 13)) (ov kc kN (g.1 14)) (ov kc kD (g.1 15)) (ov kc kX (g.1 16)) (nI s) (nI v) x4 (nI b) (if i = m then -1 else nI (c i))) fpY Q := by
  intro fuel
  induction fuel with
  | zero => intro i _ hf; exact absurd hf (Nat.not_lt_zero _)
  | succ fuel ih =>
    intro i hi hf
    have hbn := hb.1
    by_cases him : i = m
    · simp only [if_pos him]
      simp only [m_X9_symbols_120, if_pos (show (-1 : Int32) < 0 by decide)] at hexit ⊢
      exact hexit
    · obtain ⟨c1, c2, y, sy, c3, c4⟩ := hc i (by omega)
      obtain ⟨r, -, hr⟩ := same_ok (Lt := Lt) (Lt' := Lt) hn hl hn hl c4 hb
      simp only [if_neg him, m_X9_symbols_120, if_neg (nI_pos (show c i < 2 ^ 31 by omega)), bd_go (show c i < 2200 by omega) (by decide), bd_gc (show c i < 2200 by omega) (by decide), nI_clamp (show c i < 2 ^ 31 by omega), ov_lt c1, c3, hr, Option.bind_some, m_X9_symbols_148, bd_go (show b < 4200 by omega) (by decide), bd_gc (show b < 4200 by omega) (by decide), nI_clamp (show b < 2 ^ 31 by omega), ov_lt hbn, need_0, need_1, try_e, try_o, c2]
      refine RES.ite (fun _ => ?_) (fun _ => RES.er (fun g => rfl))
      exact ih (i + 1) (by omega) (by omega)
def symP (T : Nat → Nat → Prop) (fl pl : Int32) (sh s kc0 m lim : Nat) (Ki0 kS0 kN0 kD0 kX0 : Nat → Int32) (u : Gs → TY) : Prop :=
  ∃ (Ki Ma Fa kS kN kD kX : Nat → Int32) (W : Nat → Nat), u = (fun g => (fl, pl, ov sh Ki (g.1 10), ow sh Ma (g.1 11), ow sh Fa (g.1 12), nI (kc0 + m), ov (kc0 + m) kS (g.1 13), ov (kc0 + m) kN (g.1 14), ov (kc0 + m) kD (g.1 15), ov (kc0 + m) kX (g.1 16))) ∧ Ki s = nI kc0 ∧ (∀ j, j ≠ s → Ki j = Ki0 j) ∧ ag kc0 kS0 kS ∧ ag kc0 kN0 kN ∧ ag kc0 kD0 kD ∧ ag kc0 kX0 kX ∧ (∀ j, kc0 ≤ j → j < kc0 + m → kD j = -1) ∧ W 0 = 0 ∧ W m ≤ lim ∧
    ∀ i, i < m → kX (kc0 + i) = (if i + 1 = m then -1 else nI (kc0 + (i + 1))) ∧ ∃ y sy, kN (kc0 + i) = nI y ∧ T y sy ∧ W (i + 1) = W i + sy + 3
theorem sym_go {K F S I X Lt : Nat → Int32} {N : Nat → Int64} {n l : Nat} (hn : n ≤ 4200) (hl : l ≤ 4200) {P : Nat → Nat → Nat → Nat → Prop} {h v m p a k : Nat} {c e u r s' t : Nat → Nat} (hv : v < n) (hm : m ≤ n) (hk : k ≤ 5000) (hI : I v = (if k = 0 then -1 else nI (c 0))) (hP : ∀ i, i < k → ∃ h', Val K F N S I X l h' (c i + 1) (e i) (s' i) (t i)) (hO : kidsO P (keyV K F N S l) X v m p a k c e u r s' t)
    {x m2 p2 a2 k2 : Nat} {c2 e2 u2 t2 : Nat → Nat} (hm2 : m2 ≤ n) (hL2 : kidsL (Val K F N S I X l h) X x m2 p2 a2 k2 c2 e2 u2 t2)
    {sh s kc0 : Nat} (h6s : 6 ≤ s) (hs : s < sh) (hsh : sh ≤ 140) (hk2 : 0 < k2) (hk0 : kc0 + k2 ≤ 2200) {fl pl : Int32} {Ki0 Fa kS0 kN0 kD0 kX0 : Nat → Int32} : ∀ (fuel i kc : Nat) (Ki Ma kS kN kD kX : Nat → Int32) (W : Nat → Nat), i ≤ k2 → k2 - i < fuel → kc = kc0 + i → Ki s = (if i = 0 then -1 else nI kc0) → (∀ j, j ≠ s → Ki j = Ki0 j) → ag kc0 kS0 kS → ag kc0 kN0 kN → ag kc0 kD0 kD → ag kc0 kX0 kX → (∀ j, kc0 ≤ j → j < kc → kD j = -1) → W 0 = 0 → (i < k2 → W i + p2 + 1 ≤ u2 i) → (i = k2 → W i + p2 ≤ a2) →
    (∀ j, j < i → kX (kc0 + j) = (if j + 1 = i then -1 else nI (kc0 + (j + 1))) ∧ ∃ y sy, kN (kc0 + j) = nI y ∧ strN K N S n l y sy ∧ W (j + 1) = W j + sy + 3) →
    RES (fun g => m_X9_symbols_88 (ov n K (g.1 0)) (ov n F (g.1 1)) (ov n N g.2) (ov n S (g.1 2)) (ov n I (g.1 3)) (ov n X (g.1 4)) (ov l Lt (g.1 5)) fuel fl pl (ov sh Ki (g.1 10)) (ow sh Ma (g.1 11)) (ow sh Fa (g.1 12)) (nI kc) (ov kc kS (g.1 13)) (ov kc kN (g.1 14)) (ov kc kD (g.1 15)) (ov kc kX (g.1 16)) (nI s) (nI v) (if i = 0 then -1 else nI (kc0 + (i - 1))) (if i = k2 then -1 else nI (c2 i))) fpY (fun _ u => symP (strN K N S n l) fl pl sh s kc0 k2 (a2 - p2) Ki0 kS0 kN0 kD0 kX0 u) := by
  intro fuel
  induction fuel with
  | zero => intro i kc Ki Ma kS kN kD kX W _ hf; exact absurd hf (Nat.not_lt_zero _)
  | succ fuel ih =>
    intro i kc Ki Ma kS kN kD kX W hi hf hkc hKi hKo aS aN aD aX hD hW0 hW1 hW2 hch
    subst hkc
    by_cases hik : i = k2
    · subst hik
      have hfin : ∀ Fa' : Nat → Int32, symP (strN K N S n l) fl pl sh s kc0 i (a2 - p2) Ki0 kS0 kN0 kD0 kX0 (fun g => (fl, pl, ov sh Ki (g.1 10), ow sh Ma (g.1 11), ow sh Fa' (g.1 12), nI (kc0 + i), ov (kc0 + i) kS (g.1 13), ov (kc0 + i) kN (g.1 14), ov (kc0 + i) kD (g.1 15), ov (kc0 + i) kX (g.1 16))) := fun Fa' =>
        ⟨Ki, Ma, Fa', kS, kN, kD, kX, W, rfl, by rw [hKi, if_neg (by omega)], hKo, aS, aN, aD, aX, hD, hW0, by have := hW2 rfl; omega, hch⟩
      obtain ⟨y, hy, hy2⟩ := hO.mem (w := 59) (Lt := Lt) (by decide) hn hl hv hm hk hI
      simp only [if_true, m_X9_symbols_88, if_pos (show (-1 : Int32) < 0 by decide), hy2, Option.bind_some]
      rcases hy with rfl | ⟨j, hj, rfl, -⟩
      · simp only [if_pos (show (-1 : Int32) < 0 by decide)]
        exact RES.ok (hfin Fa)
      · obtain ⟨h', hval⟩ := hP j hj
        obtain ⟨q0, q1, q2, q2', q3, q4, q5, -⟩ := hO.1 j hj
        simp only [if_neg (nI_pos (show c j + 1 < 2 ^ 31 by omega)), bd_go (show c j + 1 < 4200 by omega) (by decide), bd_gc (show c j + 1 < 4200 by omega) (by decide), nI_clamp (show c j + 1 < 2 ^ 31 by omega), ov_lt (show c j + 1 < n by omega)]
        have her : RES (fun g => m_X9_symbols_244 (ov n K (g.1 0)) (ov n F (g.1 1)) (ov n N g.2) (ov n S (g.1 2)) (ov n I (g.1 3)) (ov n X (g.1 4)) (ov l Lt (g.1 5)) fl pl (ov sh Ki (g.1 10)) (ow sh Ma (g.1 11)) (ow sh Fa (g.1 12)) (nI (kc0 + i)) (ov (kc0 + i) kS (g.1 13)) (ov (kc0 + i) kN (g.1 14)) (ov (kc0 + i) kD (g.1 15)) (ov (kc0 + i) kX (g.1 16)) (nI s) (nI (c j + 1))) fpY (fun _ u => symP (strN K N S n l) fl pl sh s kc0 i (a2 - p2) Ki0 kS0 kN0 kD0 kX0 u) := by
          simp only [m_X9_symbols_244, m_X9_symbols_245, bd_go (show c j + 1 < 4200 by omega) (by decide), bd_gc (show c j + 1 < 4200 by omega) (by decide), nI_clamp (show c j + 1 < 2 ^ 31 by omega), ov_lt (show c j + 1 < n by omega), hval.basic.2.2, need_0, try_e]
          exact RES.er (fun g => rfl)
        refine RES.ite (fun hK2 => ?_) (fun _ => her)
        obtain ⟨sz, hsz, -⟩ := hval.str hK2 (show e j ≤ n by omega)
        obtain ⟨y, hy⟩ := symbol_ok (Lt := Lt) (Lt' := Lt) (c := fun z => kc0 + z) (Ki := Ki) (kN := kN) (kX := kX) (m := i) hn hl hn hl hs hsh (show kc0 + i ≤ 2200 by omega) (by omega) hsz hKi (fun z hz => by
          obtain ⟨z1, y, sy, z2, z3, -⟩ := hch z hz
          exact ⟨by omega, z1, y, sy, z2, z3⟩)
        simp only [hy, Option.bind_some]
        refine RES.ite (fun _ => her) (fun _ => ?_)
        simp only [m_X9_symbols_245, bd_go (show c j + 1 < 4200 by omega) (by decide), bd_gc (show c j + 1 < 4200 by omega) (by decide), nI_clamp (show c j + 1 < 2 ^ 31 by omega), need_1, try_o, hy, Option.bind_some, bd_go (show s < 140 by omega) (by decide), bd_gc (show s < 140 by omega) (by decide), nI_clamp (show s < 2 ^ 31 by omega), ow_up h6s hs]
        exact RES.ok (hfin _)
    · obtain ⟨q1, q2, q3, q4, q5, q6, q7, q8⟩ := hL2.1 i (by omega)
      have hrow := q1.row (n := n) (by omega)
      simp only [if_neg hik, m_X9_symbols_88, if_neg (nI_pos (show c2 i < 2 ^ 31 by omega))]
      refine RES.bind (nm_ok hrow.1 hn hl hrow.2) ?_
      rintro b (rfl | ⟨rfl, sz', hsz', -, -⟩)
      · simp only [bd_go (show c2 i < 4200 by omega) (by decide), bd_gc (show c2 i < 4200 by omega) (by decide), nI_clamp (show c2 i < 2 ^ 31 by omega), ov_lt hrow.1, q1.basic.2.2, need_0, try_e]
        exact RES.er (fun g => rfl)
      · obtain ⟨sz, hsz, hbytes⟩ := q1.str hsz'.2.1 (show e2 i ≤ n by omega)
        have hst : (if i = 0 then (-1 : Int32) else nI kc0) = (if 0 = i then -1 else nI (kc0 + 0)) := by
          by_cases h0 : i = 0
          · rw [if_pos h0, if_pos h0.symm]
          · rw [if_neg h0, if_neg (fun q => h0 q.symm)]; rfl
        simp only [bd_go (show c2 i < 4200 by omega) (by decide), bd_gc (show c2 i < 4200 by omega) (by decide), nI_clamp (show c2 i < 2 ^ 31 by omega), need_1, try_o, bd_go (show s < 140 by omega) (by decide), bd_gc (show s < 140 by omega) (by decide), nI_clamp (show s < 2 ^ 31 by omega), ov_lt hs, hKi, hst]
        refine sym_dup (c := fun z => kc0 + z) hn hl (show kc0 + i ≤ 2200 by omega) hsz (fun z hz => by
          obtain ⟨z1, y, sy, z2, z3, -⟩ := hch z hz
          exact ⟨by omega, z1, y, sy, z2, z3⟩) ?_ sr_fuel 0 (by omega) (by unfold sr_fuel; omega)
        have key : ∀ (Ki' : Nat → Int32) (kX' : Nat → Int32), Ki' s = nI kc0 → (∀ j, j ≠ s → Ki' j = Ki j) → (∀ j, j < kc0 → kX' j = kX j) → (∀ j, j < i → kX' (kc0 + j) = nI (kc0 + (j + 1))) → kX' (kc0 + i) = -1 →
            RES (fun g => m_X9_symbols_88 (ov n K (g.1 0)) (ov n F (g.1 1)) (ov n N g.2) (ov n S (g.1 2)) (ov n I (g.1 3)) (ov n X (g.1 4)) (ov l Lt (g.1 5)) fuel fl pl (ov sh Ki' (g.1 10)) (ow sh (upd Ma s (Ma s + 1)) (g.1 11)) (ow sh Fa (g.1 12)) (nI (kc0 + i + 1)) (ov (kc0 + i + 1) (upd kS (kc0 + i) (-1)) (g.1 13)) (ov (kc0 + i + 1) (upd kN (kc0 + i) (nI (c2 i))) (g.1 14)) (ov (kc0 + i + 1) (upd kD (kc0 + i) (-1)) (g.1 15)) (ov (kc0 + i + 1) kX' (g.1 16)) (nI s) (nI v) (nI (kc0 + i)) (if i + 1 = k2 then -1 else nI (c2 (i + 1)))) fpY (fun _ u => symP (strN K N S n l) fl pl sh s kc0 k2 (a2 - p2) Ki0 kS0 kN0 kD0 kX0 u) := by
          intro Ki' kX' k1 k2' x1 x2 x3
          have := ih (i + 1) (kc0 + i + 1) Ki' (upd Ma s (Ma s + 1)) (upd kS (kc0 + i) (-1)) (upd kN (kc0 + i) (nI (c2 i))) (upd kD (kc0 + i) (-1)) kX' (fun j => if j = i + 1 then W i + sz + 3 else W j) (by omega) (by omega) rfl (by rw [k1, if_neg (by omega)]) (fun j hj => by rw [k2' j hj]; exact hKo j hj) (aS.upd (by omega)) (aN.upd (by omega)) (aD.upd (by omega)) (fun j hj => by rw [x1 j hj]; exact aX j hj) (fun j j1 j2 => by
            by_cases hji : j = kc0 + i
            · rw [hji]; exact pk_us
            · rw [pk_un hji]; exact hD j j1 (by omega)) (by rw [if_neg (by omega)]; exact hW0) (fun hlt => by
            rw [if_pos rfl]
            have := hW1 (by omega)
            have := (hL2.2 i (i + 1) (by omega) hlt).2
            omega) (fun heq => by
            rw [if_pos rfl]
            have := hW1 (by omega)
            omega) (fun j hj => by
            by_cases hji : j = i
            · subst hji
              refine ⟨by rw [if_pos rfl]; exact x3, c2 j, sz, pk_us, hsz, ?_⟩
              rw [if_pos rfl, if_neg (by omega)]
            · obtain ⟨z1, y, sy, z2, z3, z4⟩ := hch j (by omega)
              refine ⟨by rw [if_neg (by omega)]; exact x2 j (by omega), y, sy, by rw [pk_un (by omega)]; exact z2, z3, ?_⟩
              rw [if_neg (by omega), if_neg (by omega)]; exact z4)
          simp only [if_neg (show ¬ i + 1 = 0 by omega), Nat.add_sub_cancel] at this
          exact this
        by_cases h0 : i = 0
        · simp only [m_X9_symbols_120, if_pos (show (-1 : Int32) < 0 by decide), if_pos h0, addKid_0 h6s hs hsh (show kc0 + i < 2200 by omega), Option.bind_some, bd_go (show kc0 + i < 2200 by omega) (by decide), bd_gc (show kc0 + i < 2200 by omega) (by decide), nI_clamp (show kc0 + i < 2 ^ 31 by omega), bd_go (show c2 i < 4200 by omega) (by decide), bd_gc (show c2 i < 4200 by omega) (by decide), nI_clamp (show c2 i < 2 ^ 31 by omega), ov_up (Nat.lt_succ_self (kc0 + i)), upd_upd, ov_lt hrow.1, q2]
          refine key _ _ (by rw [pk_us, h0, Nat.add_zero]) (fun j hj => pk_un hj) (fun j hj => pk_un (by omega)) (fun j hj => absurd hj (by omega)) pk_us
        · simp only [m_X9_symbols_120, if_pos (show (-1 : Int32) < 0 by decide), if_neg h0, addKid_1 h6s hs hsh (show kc0 + i < 2200 by omega) (show kc0 + (i - 1) < kc0 + i by omega), Option.bind_some, bd_go (show kc0 + i < 2200 by omega) (by decide), bd_gc (show kc0 + i < 2200 by omega) (by decide), nI_clamp (show kc0 + i < 2 ^ 31 by omega), bd_go (show c2 i < 4200 by omega) (by decide), bd_gc (show c2 i < 4200 by omega) (by decide), nI_clamp (show c2 i < 2 ^ 31 by omega), ov_up (Nat.lt_succ_self (kc0 + i)), upd_upd, ov_lt hrow.1, q2]
          refine key _ _ (by rw [hKi, if_neg h0]) (fun _ _ => rfl) (fun j hj => by rw [pk_un (by omega), pk_un (by omega)]) (fun j hj => ?_) (by rw [pk_un (by omega)]; exact pk_us)
          by_cases hj1 : j + 1 = i
          · rw [show kc0 + j = kc0 + (i - 1) by omega, pk_us, hj1]
          · rw [pk_un (by omega), pk_un (by omega), (hch j hj).1, if_neg hj1]
