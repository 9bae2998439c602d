-- keep: both sides count alike
/-- how many of the first places hold something -/
def cK (sz : Nat → Int32) : Nat → Nat
  | 0 => 0
  | n + 1 => cK sz n + (if sz n < 0 then 0 else 1)
theorem cK_le (sz : Nat → Int32) : ∀ n, cK sz n ≤ n := by
  intro n
  induction n with
  | zero => exact Nat.le_refl _
  | succ n ih =>
    show cK sz n + (if sz n < 0 then 0 else 1) ≤ n + 1
    split <;> omega
theorem cK_out {sz : Nat → Int32} {p : Nat} {v : Int32} : ∀ n, n ≤ p → cK (upd sz p v) n = cK sz n := by
  intro n
  induction n with
  | zero => intro _; rfl
  | succ n ih =>
    intro h
    show cK (upd sz p v) n + (if upd sz p v n < 0 then 0 else 1) = cK sz n + (if sz n < 0 then 0 else 1)
    rw [ih (by omega), pk_un (show n ≠ p by omega)]
theorem cK_new {sz : Nat → Int32} {p : Nat} {v : Int32} (h : sz p < 0) (hv : ¬ v < 0) : ∀ n, p < n → cK (upd sz p v) n = cK sz n + 1 := by
  intro n
  induction n with
  | zero => intro h; omega
  | succ n ih =>
    intro hn
    show cK (upd sz p v) n + (if upd sz p v n < 0 then 0 else 1) = cK sz n + (if sz n < 0 then 0 else 1) + 1
    by_cases e : n = p
    · subst e
      rw [cK_out n (Nat.le_refl _), pk_us, if_neg hv, if_pos h]
    · rw [ih (by omega), pk_un e]
      omega
theorem cK_old {sz : Nat → Int32} {p : Nat} {v : Int32} (h : ¬ sz p < 0) (hv : ¬ v < 0) : ∀ n, cK (upd sz p v) n = cK sz n := by
  intro n
  induction n with
  | zero => rfl
  | succ n ih =>
    show cK (upd sz p v) n + (if upd sz p v n < 0 then 0 else 1) = cK sz n + (if sz n < 0 then 0 else 1)
    by_cases e : n = p
    · subst e
      rw [ih, pk_us, if_neg hv, if_neg h]
    · rw [ih, pk_un e]
theorem cK_none {sz : Nat → Int32} (h : ∀ i, i < 8 → sz i = -1) : ∀ n, n ≤ 8 → cK sz n = 0 := by
  intro n
  induction n with
  | zero => intro _; rfl
  | succ n ih =>
    intro hn
    show cK sz n + (if sz n < 0 then 0 else 1) = 0
    rw [ih (by omega), h n (by omega), if_pos (by decide)]
section KEQ
variable {kept sizes yb : Nat → Int32}
theorem cnt95 (yl th h : Int32) (kept sizes : Nat → Int32) : ∀ (fuel j : Nat), j ≤ 8 → 8 - j < fuel → m_X10_keep_95 yb yl fuel th h kept sizes (nI (cK sizes j)) (nI j) = some (nI (cK sizes 8), (th, h, kept, sizes)) := by
  intro fuel
  induction fuel with
  | zero => intro j _ hf; exact absurd hf (Nat.not_lt_zero _)
  | succ fuel ih =>
    intro j hj hf
    by_cases hc : 8 ≤ j
    · have e : j = 8 := by omega
      subst e
      simp only [m_X10_keep_95, if_pos (show (8 : Int32) ≤ nI 8 by decide)]
    · simp only [m_X10_keep_95, nI_1]
      rw [if_neg (show ¬ (8 : Int32) ≤ nI j from nI_ge (b := 8) (by omega) (by omega)), bd_go (show j < 8 by omega) (by decide), nI_clamp (show j < 2 ^ 31 by omega)]
      have ih2 := ih (j + 1) (by omega) (by omega)
      by_cases q : sizes j < 0
      · rw [if_pos q]
        have e : cK sizes (j + 1) = cK sizes j := by
          show cK sizes j + (if sizes j < 0 then 0 else 1) = _
          rw [if_pos q]
          rfl
        rw [e] at ih2
        exact ih2
      · rw [if_neg q]
        have e : cK sizes (j + 1) = cK sizes j + 1 := by
          show cK sizes j + (if sizes j < 0 then 0 else 1) = _
          rw [if_neg q]
        rw [e] at ih2
        exact ih2
theorem k53 {L p : Nat} (hL : L ≤ 4096) (hp : p < 8) (sz : Nat → Int32) : ∀ (fuel j : Nat) (k' : Nat → Int32), j ≤ L → L - j < fuel → SP (m_X10_keep_53 yb (nI L) fuel 0 0 k' sz (nI p) (nI j)) (fun r => r.1 = nI (cK sz 8) ∧ r.2.1 = 0 ∧ r.2.2.1 = 0 ∧ r.2.2.2.2 = sz) := by
  intro fuel
  induction fuel with
  | zero => intro j k' _ hf; exact absurd hf (Nat.not_lt_zero _)
  | succ fuel ih =>
    intro j k' hj hf
    have e4 : (4096 : Int32) * nI p + nI j = nI (4096 * p + j) := by
      rw [show (4096 : Int32) = nI 4096 from rfl, nI_mul, nI_add]
    simp only [m_X10_keep_53, nI_1]
    refine SP.ite (fun hc => ?_) (fun hc => ?_)
    · have h0 := cnt95 (yb := yb) (nI L) 0 0 k' sz sr_fuel 0 (Nat.zero_le _) (by unfold sr_fuel; omega)
      have h0 : m_X10_keep_95 yb (nI L) sr_fuel 0 0 k' sz (nI 0) (nI 0) = some (nI (cK sz 8), (0, 0, k', sz)) := h0
      rw [nI_0] at h0
      rw [h0]
      exact SP.ok ⟨rfl, rfl, rfl, rfl⟩
    · have hlt : j < L := Nat.lt_of_not_le (fun q => hc (nI_le q (by omega)))
      rw [e4, bd_go (show j < 4096 by omega) (by decide), bd_go (show 4096 * p + j < 32768 by omega) (by decide)]
      exact ih (j + 1) _ (by omega) (by omega)
/-- what keep of the reference answers and leaves -/
def kwM (has : Int32) (sizes : Nat → Int32) (x : Int32) (r th' has' : Int32) (sizes' : Nat → Int32) : Prop :=
  ((∀ i, i < 8 → x ≠ nI i) ∧ th' = 1 ∧ has' = has ∧ sizes' = sizes) ∨
  ∃ p, p < 8 ∧ x = nI p ∧ ((has = 0 ∧ th' = 2 ∧ has' = has ∧ sizes' = sizes) ∨ (¬ has = 0 ∧ th' = 0 ∧ has' = 0 ∧ ∃ l, l ≤ 4096 ∧ sizes' = upd sizes p (nI l) ∧ r = nI (cK sizes' 8)))
theorem mke_w {has yl ps : Int32} (hH : HP has yb yl ps) (th x : Int32) : SP (m_X10_keep th has kept sizes yb yl x) (fun r => kwM has sizes x r.1 r.2.1 r.2.2.1 r.2.2.2.2) := by
  have n1 : ¬ (1 : Int32) = 0 := by decide
  by_cases hx : ∃ i, i < 8 ∧ x = nI i
  · obtain ⟨p, hp, rfl⟩ := hx
    unfold m_X10_keep
    rw [mpl_1 hp, Option.bind_some, if_neg n1]
    unfold m_X10_keep_13
    refine SP.ite (fun h0 => ?_) (fun h0 => ?_)
    · unfold m_X10_keep_25
      simp only [ref_2, Option.bind_some, if_neg n1]
      exact SP.ok (Or.inr ⟨p, hp, rfl, Or.inl ⟨h0, rfl, rfl, rfl⟩⟩)
    · rcases hH with e | ⟨-, B, L, w, hG, rfl, hB, -, -⟩
      · exact absurd e h0
      have hL := hG.1
      unfold m_X10_keep_25
      simp only [ref_0, Option.bind_some, if_true]
      rw [bd_go hp (by decide), nI_clamp (show p < 2 ^ 31 by omega)]
      have h1 := k53 (yb := yb) hL hp (upd sizes p (nI L)) sr_fuel 0 kept (Nat.zero_le _) (by unfold sr_fuel; omega)
      rw [nI_0] at h1
      refine h1.mono (fun r hr => Or.inr ⟨p, hp, rfl, Or.inr ⟨h0, hr.2.1, hr.2.2.1, L, hL, hr.2.2.2, ?_⟩⟩)
      rw [hr.2.2.2]
      exact hr.1
  · have hn : ∀ i, i < 8 → x ≠ nI i := fun i hi e => hx ⟨i, hi, e⟩
    unfold m_X10_keep
    refine SP.bind (mpl_sp x) (fun r hr => ?_)
    have e : r = 0 := by
      rcases hr with e | ⟨-, i, hi, e⟩
      · exact e
      · exact absurd e (hn i hi)
    subst e
    rw [if_pos rfl]
    unfold m_X10_keep_13
    refine SP.ite (fun h0 => ?_) (fun h0 => ?_)
    · unfold m_X10_keep_25
      simp only [ref_1, Option.bind_some, if_neg n1]
      exact SP.ok (Or.inl ⟨hn, rfl, rfl, rfl⟩)
    · unfold m_X10_keep_25
      simp only [ref_1, Option.bind_some, if_neg n1]
      exact SP.ok (Or.inl ⟨hn, rfl, rfl, rfl⟩)
theorem cpl_1 {p : Nat} (hp : p < 8) : m_X8_isPlace (nI p) = some 1 := by
  unfold m_X8_isPlace
  rw [if_neg (nI_pos (by omega)), if_neg (show ¬ (8 : Int32) ≤ nI p from nI_ge (b := 8) hp (by omega))]
theorem cpl_0 {x : Int32} (h : m_X8_isPlace x = some 0) : ∀ i, i < 8 → x ≠ nI i := by
  intro i hi e
  rw [e, cpl_1 hi] at h
  cases h
/-- what keep of the class answers and leaves -/
def kwC (xh xk : Int32) (kf : Nat → Option Nat) (x : Int32) (k : Int32) (o : Int64) (xh' xk' : Int32) (kf' : Nat → Option Nat) : Prop :=
  ((∀ i, i < 8 → x ≠ nI i) ∧ k = 1 ∧ xh' = xh ∧ xk' = xk ∧ kf' = kf) ∨
  ∃ p, p < 8 ∧ x = nI p ∧ ((xh = 0 ∧ k = 2 ∧ xh' = xh ∧ xk' = xk ∧ kf' = kf) ∨ (¬ xh = 0 ∧ k = 0 ∧ xh' = 0 ∧ xk' = (if kf p = none then xk + 1 else xk) ∧ o = xk'.toInt64 ∧ ∃ a, kf' = va_up kf p (some a)))
/-- what holds between what both keep -/
def lw_H (xh xk : Int32) (kf : Nat → Option Nat) (mh : Int32) (sz : Nat → Int32) : Prop := xh = mh ∧ (∀ p, p < 8 → (kf p = none ↔ sz p < 0)) ∧ xk = nI (cK sz 8)
theorem lw_H.keep {xh xk : Int32} {kf : Nat → Option Nat} {mh : Int32} {sz : Nat → Int32} (h : lw_H xh xk kf mh sz) {x k r th' mh' xh' xk' : Int32} {o : Int64} {kf' : Nat → Option Nat} {sz' : Nat → Int32} (hc : kwC xh xk kf x k o xh' xk' kf') (hm : kwM mh sz x r th' mh' sz') : lw_H xh' xk' kf' mh' sz' ∧ th' = k ∧ (k = 0 → r.toInt64 = o) := by
  obtain ⟨h1, h2, h3⟩ := h
  rcases hc with ⟨ha, rfl, rfl, rfl, rfl⟩ | ⟨p, hp, hx, hc⟩
  · rcases hm with ⟨-, rfl, rfl, rfl⟩ | ⟨q, hq, hxq, -⟩
    · exact ⟨⟨h1, h2, h3⟩, rfl, fun h => absurd h (by decide)⟩
    · exact absurd hxq (ha q hq)
  · rcases hm with ⟨hb, -⟩ | ⟨q, hq, hxq, hm⟩
    · exact absurd hx (hb p hp)
    have e : q = p := by
      rw [hx] at hxq
      exact ((nI_eq (show p < 2 ^ 31 by omega) (show q < 2 ^ 31 by omega)).mp hxq).symm
    subst e
    rcases hc with ⟨c0, rfl, rfl, rfl, rfl⟩ | ⟨c0, rfl, rfl, ck, co, a, rfl⟩
    · rcases hm with ⟨m0, rfl, rfl, rfl⟩ | ⟨m0, _⟩
      · exact ⟨⟨h1, h2, h3⟩, rfl, fun h => absurd h (by decide)⟩
      · exact absurd (h1.symm.trans c0) m0
    · rcases hm with ⟨m0, _⟩ | ⟨m0, rfl, rfl, l, hl, rfl, hr⟩
      · exact absurd (h1.trans m0) c0
      have hv : ¬ nI l < 0 := nI_pos (by omega)
      have hk : xk' = nI (cK (upd sz q (nI l)) 8) := by
        rw [ck]
        by_cases e : kf q = none
        · rw [if_pos e, h3, cK_new ((h2 q hq).mp e) hv 8 hq, nI_1]
        · rw [if_neg e, h3, cK_old (fun z => e ((h2 q hq).mpr z)) hv 8]
      refine ⟨⟨rfl, fun i hi => ?_, hk⟩, rfl, fun _ => ?_⟩
      · by_cases e : i = q
        · subst e
          rw [va_up_self, pk_us]
          exact ⟨fun z => (nomatch z), fun z => absurd z hv⟩
        · rw [va_up_ne _ _ e, pk_un e]
          exact h2 i hi
      · rw [hr, ← hk, co]
end KEQ
theorem lw_H.sch {xh xk : Int32} {kf : Nat → Option Nat} {mh : Int32} {sz : Nat → Int32} (h : lw_H xh xk kf mh sz) {z : Int32} : lw_H z xk kf z sz := ⟨rfl, h.2.1, h.2.2⟩
theorem cpl_i {x : Int32} (h : m_X8_isPlace x = some 1) : ∃ p, p < 8 ∧ x = nI p := by
  obtain ⟨r, h1, h2⟩ := plc_sp x
  rw [h] at h1
  have e := Option.some.inj h1
  subst e
  rcases h2 with e | ⟨-, i, hi, e⟩
  · exact absurd e (by decide)
  · exact ⟨i, hi, e⟩
