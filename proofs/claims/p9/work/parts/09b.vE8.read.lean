-- the whole text
def st0 : LSt := (0, 6, 0, [], (fun _ => none), [], (fun _ => mkN 12 0 0 0 [] []))
section RDS
variable (T : Nat → Int32) (L : Nat)
noncomputable def fdf (G : Nat → Nod) : List (Nat × Nat × Option Nat) → Option Nat
  | [] => none
  | x :: t => match x.2.2 with
    | none => fdf G t
    | some p => match fto T L G 25 x.2.1 p with
      | some z => some z
      | none => fdf G t
noncomputable def fdd (G : Nat → Nod) : List (Nat × Nat) → Option Nat
  | [] => none
  | x :: t => match fto T L G 25 x.1 x.2 with
    | some z => some z
    | none => fdd G t
noncomputable def rdS : (Nat × Nat) ⊕ LSt := match sread T L with
  | .inl w => .inl (1, w)
  | .inr p => match look T L 16 p false st0 with
    | .inl e => .inl e
    | .inr st => match fdf T L st.2.2.2.2.2.2 st.2.2.2.2.2.1 with
      | some z => .inl (12, z)
      | none => .inr st
end RDS
theorem fdd_eq {T : Nat → Int32} {L : Nat} {G : Nat → Nod} : ∀ fi : List (Nat × Nat × Option Nat), fdd T L G (dul fi) = fdf T L G fi := by
  intro fi
  induction fi with
  | nil => rfl
  | cons x t ih =>
    obtain ⟨a, b, o⟩ := x
    cases o with
    | none =>
      simp only [fdf]
      rw [← ih]
      rfl
    | some p =>
      simp only [fdf]
      rw [← ih, show dul ((a, b, some p) :: t) = (b, p) :: dul t from rfl]
      rfl
theorem dul_mem {fi : List (Nat × Nat × Option Nat)} {x : Nat × Nat} (h : x ∈ dul fi) : ∃ a, (a, x.1, some x.2) ∈ fi := by
  unfold dul at h
  obtain ⟨y, h1, h2⟩ := List.mem_filterMap.mp h
  obtain ⟨a, b, o⟩ := y
  cases o with
  | none => cases h2
  | some p =>
    cases h2
    exact ⟨a, h1⟩
section RDC
variable {T : Nat → Int32} {L : Nat} {Sd In Nx Am K F S I X Lt : Nat → Int32} {N : Nat → Int64} {l : Nat}
theorem VV.sv {n p q : Nat} (h : VV T L Sd In Nx Am K F N S I X Lt l n p q) : ∃ q', sval T L 25 p = .inr q' := by
  obtain ⟨d, m, h1, _, _, _, _, h25⟩ := h
  have := sval_mono h1 (25 - d)
  rw [show d + (25 - d) = 25 by omega] at this
  exact ⟨q, this⟩
theorem wf0 : WFs st0 := ⟨fun w d h => (by cases h), Nat.le_refl _⟩
theorem ci0 {Pl Ki Me Fi Ne Na Fn Ac Cf Cs : Nat → Int32} : CI Pl Ki Me Fi Ne Na Fn Ac (nI 0) (nI 0) Cf Cs (nI 0) st0 := ⟨rfl, by decide, rfl, by show 0 ≤ 4096; omega, fun i hi => absurd hi (Nat.not_lt_zero _), ⟨fun i hi => absurd hi (Nat.not_lt_zero _), fun w i h => (by cases h)⟩, fun i hi => absurd hi (Nat.not_lt_zero _), rfl, fun j hj => absurd hj (Nat.not_lt_zero _)⟩
theorem ri0 {So Nm Wi Kd kS kN kD kX Fi : Nat → Int32} (hS : ∀ t, t < 6 → So t = nI t) : RI T L Sd In Nx Am K F N S I X Lt l So Nm Wi Kd (nI 6) (nI 0) (nI 0) kS kN kD kX (nI 0) Fi st0 := ⟨rfl, Nat.le_refl _, Nat.le_refl _, rfl, by omega, rfl, by omega, rfl, by show 0 ≤ 2200; omega, hS, ⟨fun t h1 h2 => absurd h2 (by omega), fun w i h => (by cases h)⟩, fun i hi => absurd hi (Nat.not_lt_zero _), ⟨fun i j hi => absurd hi (Nat.not_lt_zero _), fun i j a hi => absurd hi (Nat.not_lt_zero _)⟩, fun j hj => absurd hj (Nat.not_lt_zero _)⟩
theorem chk_go (hL : L ≤ 4096) {Pl Ki Me Fi Ne Fn Ac Cf Cs : Nat → Int32} {pl : List Nat} {k0 : Nat} {G : Nat → Nod} {fi : List (Nat × Nat × Option Nat)} (hP : PLI Pl pl) (hpl : pl.length ≤ 4096) (h0 : k0 ≤ 128) (hC : LCs Ki Me Fi Ne Fn Ac pl k0 G) (hO : ∀ i, i < k0 → OKS G k0 i) (hD : DUI Cf Cs fi) (hn : (dul fi).length ≤ 128) (hV : ∀ x, x ∈ dul fi → x.1 < k0 ∧ ∃ n q, VV T L Sd In Nx Am K F N S I X Lt l n x.2 q) (lf lp : Int32) : ∀ (fuel j : Nat), j ≤ (dul fi).length → (dul fi).length - j < fuel → m_X4_checkDefaults_18 T Sd In Nx Am (nI L) Pl Ki Me Fi Ne Fn Ac (nI pl.length) Cf Cs (nI (dul fi).length) fuel lf lp (nI j) = some (match fdd T L G ((dul fi).drop j) with | none => (lf, lp) | some z => (12, nI z)) := by
  intro fuel
  induction fuel with
  | zero => intro j _ hf; exact absurd hf (Nat.not_lt_zero _)
  | succ fuel ih =>
    intro j hj hf
    simp only [m_X4_checkDefaults_18, m_X11_count, Option.bind_some, nI_1]
    by_cases e : j = (dul fi).length
    · rw [if_pos (nI_le (show (dul fi).length ≤ j by omega) (by omega)), e, List.drop_length]
      rfl
    · have hjl : j < (dul fi).length := by omega
      obtain ⟨d1, d2⟩ := hD j hjl
      have eg : (dul fi).getD j (0, 0) = (dul fi)[j] := by simp only [List.getD, List.getElem?_eq_getElem hjl, Option.getD_some]
      rw [eg] at d1 d2
      obtain ⟨v1, n, q, v2⟩ := hV _ (List.getElem_mem hjl)
      obtain ⟨c1, c2⟩ := c_fit hL hP hpl h0 hC hO 25 27 0 (by decide) (by decide) (dul fi)[j].1 (dul fi)[j].2 n q v1 v2
      rw [nI_0] at c1
      rw [if_neg (nI_ge hjl (by omega)), List.drop_eq_getElem_cons hjl]
      simp only [m_X11_first, m_X11_second, ent_eq (n := 128) (by decide) (show j < 128 by omega), d1, d2, Option.bind_some, c1, fdd, m_X4_refuse]
      cases hft : fto T L G 25 (dul fi)[j].1 (dul fi)[j].2 with
      | none =>
        simp only [oI, if_true]
        exact ih (j + 1) (by omega) (by omega)
      | some z =>
        have hz := c2 z hft
        dsimp only
        rw [show oI (some z) = nI z from rfl, if_neg (nI_m1 (show z < 2 ^ 31 by omega))]
/-- what looking at the whole leaves to be used, on both sides -/
theorem fi_vv {So Nm Wi Kd kS kN kD kX Fi : Nat → Int32} {shI lkI kcI dnI : Int32} {st : LSt} (hI : RI T L Sd In Nx Am K F N S I X Lt l So Nm Wi Kd shI lkI kcI kS kN kD kX dnI Fi st) : ∀ x, x ∈ dul st.2.2.2.2.2.1 → x.1 < st.1 ∧ ∃ n q, VV T L Sd In Nx Am K F N S I X Lt l n x.2 q := by
  obtain ⟨k, sh, kc, pl, D, fi, G⟩ := st
  obtain ⟨i1, i2, i3, i4, i5, i6, i7, i8, i9, i10, i11, i12, i13, i14⟩ := hI
  intro x hx
  obtain ⟨a, ha⟩ := dul_mem hx
  obtain ⟨j, hj, e⟩ := List.getElem_of_mem ha
  have eg : fi.getD j (0, 0, none) = (a, x.1, some x.2) := by simp only [List.getD, List.getElem?_eq_getElem hj, Option.getD_some]; exact e
  obtain ⟨f1, f2, ⟨s, i, b1, b2, b3, b4, b5, b6, b7⟩, f4⟩ := i14 j hj
  rw [eg] at b7 f4
  obtain ⟨n', q', _, hv⟩ := f4
  refine ⟨?_, n', q', hv⟩
  have := (((i12 s b1).2.2.2 b2).2.1 _ (ch_mem b4)).1
  rw [b7] at this
  exact this
end RDC
