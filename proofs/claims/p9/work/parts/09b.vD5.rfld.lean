-- the reference's fields
def RXU (x : Option (Except TS (Unit × TS))) (P : TS → LSt → Prop) : LRs → Prop
  | .inl e => x = none ∨ ∃ u, x = some (.error (nI e.1, (nI e.2, u)))
  | .inr st => x = none ∨ ∃ u, x = some (.ok ((), u)) ∧ P u st
theorem RXU.no {P : TS → LSt → Prop} {r : LRs} : RXU none P r := by
  cases r with
  | inl e => exact Or.inl rfl
  | inr st => exact Or.inl rfl
def PU (T : Nat → Int32) (L : Nat) (Sd In Nx Am K F : Nat → Int32) (N : Nat → Int64) (S I X Lt : Nat → Int32) (l : Nat) (kc0 : Nat) (kN0 kD0 : Nat → Int32) : TS → LSt → Prop
  | (_, _, sh, lk, So, Nm, Wi, Kd, _, _, kc, kS, kN, kD, kX, dn, Fi), st => RI T L Sd In Nx Am K F N S I X Lt l So Nm Wi Kd sh lk kc kS kN kD kX dn Fi st ∧ ∀ a, a < kc0 → kN a = kN0 a ∧ kD a = kD0 a
section RFLD
variable {T : Nat → Int32} {L : Nat} {Sd In Nx Am K F S I X Lt : Nat → Int32} {N : Nat → Int64} {l : Nat}
abbrev KFf : Type := Int32 → Int32 → Int32 → Int32 → (Nat → Int32) → (Nat → Int32) → (Nat → Int32) → (Nat → Int32) → (Nat → Int32) → (Nat → Int32) → Int32 → (Nat → Int32) → (Nat → Int32) → (Nat → Int32) → (Nat → Int32) → Int32 → (Nat → Int32) → Int32 → Int32 → Int32 → Int32 → Option (Except TS (Unit × TS))
theorem r_fld_in (hl : l ≤ 4200) {f : FS} {k85 : KFf} {fl pp : Int32} {So Nm Wi Kd Ma Fa kS kN kD kX Fi : Nat → Int32} {k sh kc : Nat} {pl : List Nat} {D : List Nat → Option Nat} {fi : List (Nat × Nat × Option Nat)} {G : Nat → Nod} (hI : RI T L Sd In Nx Am K F N S I X Lt l So Nm Wi Kd (nI sh) (nI k) (nI kc) kS kN kD kX (nI fi.length) Fi (k, sh, kc, pl, D, fi, G)) {s nn : Nat} {x3 x5 x6 b0 : Int32} {w : List Nat} (hs : s < k) (hm : n_me (G s) = s) (hk : n_kd (G s) = 10) (hlen : (n_ch (G s)).length = (n_kl (G s)).length) (h32 : (n_kl (G s)).length ≤ 32) (hnn : nn < 4200) (hw : RSt N S Lt l nn w) (hwb : ∀ v, v ∈ w → v ≤ 255) (hb0 : b0 = 0 ∨ b0 = 1) :
    m_X9_fields_178 f K F N S I X Lt k85 sr_fuel fl pp (nI sh) (nI k) So Nm Wi Kd Ma Fa (nI kc) kS kN kD kX (nI fi.length) Fi (nI (n_sg (G s))) x3 x5 x6 (nI nn) b0 (Kd (n_sg (G s))) = m_X9_fields_178 f K F N S I X Lt k85 1 fl pp (nI sh) (nI k) So Nm Wi Kd Ma Fa (nI kc) kS kN kD kX (nI fi.length) Fi (nI (n_sg (G s))) x3 x5 x6 (nI nn) (if dec (b0 = 1 ∧ ∀ c, c ∈ n_ch (G s) → n_fn (G c) ≠ w) = true then 1 else 0) (-1) := by
  obtain ⟨i1, i2, i3, i4, i5, i6, i7, i8, i9, i10, i11, i12, i13, i14⟩ := hI
  obtain ⟨s0, s1, s2, s3⟩ := i12 s hs
  obtain ⟨t1, t2, t3⟩ := s3 hm
  obtain ⟨c1, c2, c3, c4, c5, c6, c7, c8⟩ := t3 (by omega) (by omega)
  obtain ⟨R, hR⟩ : ∃ R : Int32 → Option (Except TS (Unit × TS)), ∀ fu b, m_X9_fields_178 f K F N S I X Lt k85 (fu + 1) fl pp (nI sh) (nI k) So Nm Wi Kd Ma Fa (nI kc) kS kN kD kX (nI fi.length) Fi (nI (n_sg (G s))) x3 x5 x6 (nI nn) b (-1) = R b := ⟨fun b => m_X9_fields_178 f K F N S I X Lt k85 1 fl pp (nI sh) (nI k) So Nm Wi Kd Ma Fa (nI kc) kS kN kD kX (nI fi.length) Fi (nI (n_sg (G s))) x3 x5 x6 (nI nn) b (-1), fun fu b => by simp only [m_X9_fields_178, if_pos (show (-1 : Int32) < 0 by decide)]⟩
  have go : ∀ (fuel j : Nat) (b : Int32), j ≤ (n_kl (G s)).length → (n_kl (G s)).length - j < fuel → (b = 0 ∨ b = 1) → (b = 1 ↔ (b0 = 1 ∧ ∀ i, i < j → n_fn (G ((n_ch (G s)).getD i 0)) ≠ w)) →
      m_X9_fields_178 f K F N S I X Lt k85 fuel fl pp (nI sh) (nI k) So Nm Wi Kd Ma Fa (nI kc) kS kN kD kX (nI fi.length) Fi (nI (n_sg (G s))) x3 x5 x6 (nI nn) b (if j = (n_kl (G s)).length then -1 else nI ((n_kl (G s)).getD j 0)) = R (if dec (b0 = 1 ∧ ∀ c, c ∈ n_ch (G s) → n_fn (G c) ≠ w) = true then 1 else 0) := by
    intro fuel
    induction fuel with
    | zero => intro j b _ hf; exact absurd hf (Nat.not_lt_zero _)
    | succ fuel ih =>
      intro j b hj hf hb ha
      by_cases e : j = (n_kl (G s)).length
      · rw [if_pos e, hR fuel]
        congr 1
        by_cases q : b0 = 1 ∧ ∀ c, c ∈ n_ch (G s) → n_fn (G c) ≠ w
        · rw [dec_t q, bT]
          exact ha.mpr ⟨q.1, fun i hi => q.2 _ (ch_mem (by omega))⟩
        · rw [dec_f q, bF]
          rcases hb with z | z
          · exact z
          · obtain ⟨z1, z2⟩ := ha.mp z
            exact absurd ⟨z1, fun c hc => by
              obtain ⟨i, hi, ei⟩ := mem_ch hc
              rw [← ei]
              exact z2 i (by omega)⟩ q
      · have hjk : j < (n_kl (G s)).length := by omega
        obtain ⟨d1, d2⟩ := c4.1 j hjk
        have d1 : (n_kl (G s)).getD j 0 < kc := d1
        obtain ⟨m, m1, m2, m3, m4⟩ := (c6 j (by omega)).2 hk
        rw [if_neg e]
        simp only [m_X9_fields_178, m_X9_fields_209, m_X9_fields_210, if_neg (nI_pos (show (n_kl (G s)).getD j 0 < 2 ^ 31 by omega)), bd_go (show (n_kl (G s)).getD j 0 < 2200 by omega) (by decide), bd_gc (show (n_kl (G s)).getD j 0 < 2200 by omega) (by decide), nI_clamp (show (n_kl (G s)).getD j 0 < 2 ^ 31 by omega), m1, same_r m2 hnn hl hl m3 hw m4 hwb, Option.bind_some, d2]
        have stop : ∀ b', (b' = 0 ∨ b' = 1) → (b' = 1 ↔ (b0 = 1 ∧ ∀ i, i < j + 1 → n_fn (G ((n_ch (G s)).getD i 0)) ≠ w)) → m_X9_fields_178 f K F N S I X Lt k85 fuel fl pp (nI sh) (nI k) So Nm Wi Kd Ma Fa (nI kc) kS kN kD kX (nI fi.length) Fi (nI (n_sg (G s))) x3 x5 x6 (nI nn) b' (if j + 1 = (n_kl (G s)).length then -1 else nI ((n_kl (G s)).getD (j + 1) 0)) = R (if dec (b0 = 1 ∧ ∀ c, c ∈ n_ch (G s) → n_fn (G c) ≠ w) = true then 1 else 0) := fun b' h1 h2 => ih (j + 1) b' (by omega) (by omega) h1 h2
        rcases hb with z | z
        · rw [if_pos z]
          refine stop 0 (Or.inl rfl) ⟨fun q => absurd q (by decide), fun q => ?_⟩
          have := ha.mpr ⟨q.1, fun i hi => q.2 i (by omega)⟩
          rw [z] at this
          exact absurd this (by decide)
        · rw [if_neg (show ¬ b = 0 by rw [z]; decide)]
          obtain ⟨z1, z2⟩ := ha.mp z
          by_cases q : n_fn (G ((n_ch (G s)).getD j 0)) = w
          · rw [if_pos q, I10]
            exact stop 0 (Or.inl rfl) ⟨fun q' => absurd q' (by decide), fun q' => absurd q (q'.2 j (by omega))⟩
          · rw [if_neg q, I00]
            refine stop 1 (Or.inr rfl) ⟨fun _ => ⟨z1, fun i hi => ?_⟩, fun _ => rfl⟩
            by_cases ei : i = j
            · rw [ei]; exact q
            · exact z2 i (by omega)
  have := go sr_fuel 0 b0 (by omega) (by unfold sr_fuel; omega) hb0 ⟨fun z => ⟨z, fun i hi => absurd hi (Nat.not_lt_zero _)⟩, fun z => z.1⟩
  rw [← c4.ptr] at this
  exact this.trans (hR 0 _).symm
theorem ri_fldj {So Nm Wi Kd kS kN kD kX Fi : Nat → Int32} {k sh kc : Nat} {pl : List Nat} {D : List Nat → Option Nat} {fi : List (Nat × Nat × Option Nat)} {G : Nat → Nod} (h : RI T L Sd In Nx Am K F N S I X Lt l So Nm Wi Kd (nI sh) (nI k) (nI kc) kS kN kD kX (nI fi.length) Fi (k, sh, kc, pl, D, fi, G)) {s c a : Nat} {w pl' : List Nat} {o : Option Nat} (hs : s < k) (hc : c < k) (hsc : s ≠ c) (hm : n_me (G s) = s) (h10 : n_kd (G s) = 10) (hp : n_pa (G c) = 999) (hl : (n_ch (G s)).length + 1 = (n_kl (G s)).length) (hfi : fi.length < 2200) (ha : (n_kl (G s)).getD (n_ch (G s)).length 0 = a) (hac : a < kc) (hn : RNm N S Lt l (kN a) w) (ho : match o with | none => kD a = -1 | some p => ∃ n q, kD a = nI n ∧ VV T L Sd In Nx Am K F N S I X Lt l n p q) :
    RI T L Sd In Nx Am K F N S I X Lt l So Nm Wi Kd (nI sh) (nI k) (nI kc) (upd kS a (nI (n_sg (G c)))) kN kD kX (nI (fi ++ [(a, c, o)]).length) (upd Fi fi.length (nI a)) (jon s c (k, sh, kc, pl', D, fi ++ [(a, c, o)], upG G c (fnN (G c) w))) := by
  obtain ⟨i1, i2, i3, i4, i5, i6, i7, i8, i9, i10, i11, i12, i13, i14⟩ := h
  have ef : ∀ {β : Type} (g : Nod → β), g (fnN (G c) w) = g (G c) → ∀ i, g (upG G c (fnN (G c) w) i) = g (G i) := fun g hg i => by
    by_cases q : i = c
    · rw [q, upG_s]; exact hg
    · rw [upG_n q]
  have hIf : RI T L Sd In Nx Am K F N S I X Lt l So Nm Wi Kd (nI sh) (nI k) (nI kc) kS kN kD kX (nI fi.length) Fi (k, sh, kc, pl', D, fi, upG G c (fnN (G c) w)) := ⟨rfl, i2, i3, rfl, i5, rfl, i7, rfl, i9, i10, i11.cg (fun _ i _ => ef n_sg rfl i), i12.fld i5 hp, i13.cg (fun i _ => ⟨ef _ rfl i, ef _ rfl i, ef _ rfl i, ef _ rfl i⟩), i14.cg (fun _ _ => rfl) (fun _ _ => rfl) (Nat.le_refl _) (Nat.le_refl _) (fun s' _ _ => ⟨ef _ rfl s', ef _ rfl s', ⟨[], by rw [ef n_ch rfl s', List.append_nil]⟩, ⟨[], by rw [ef n_kl rfl s', List.append_nil]⟩⟩)⟩
  have hIj := hIf.jon (s := s) (c := c) hs hc hsc ((ef n_me rfl s).trans hm) (by rw [ef n_kd rfl s]; omega) (by rw [ef n_kd rfl s]; omega) ((ef n_pa rfl c).trans hp) (by rw [ef n_ch rfl s, ef n_kl rfl s]; omega) (fun _ => by rw [ef n_ch rfl s, ef n_kl rfl s, ha, upG_s]; exact hn)
  rw [ef n_ch rfl s, ef n_kl rfl s, ha, ef n_sg rfl c] at hIj
  obtain ⟨j1, j2, j3, j4, j5, j6, j7, j8, j9, j10, j11, j12, j13, j14⟩ := hIj
  have hlen : (fi ++ [(a, c, o)]).length = fi.length + 1 := by rw [List.length_append]; rfl
  refine ⟨rfl, j2, j3, rfl, j5, rfl, j7, rfl, by rw [hlen]; omega, j10, j11, j12, j13, fun j hj => ?_⟩
  rw [hlen] at hj
  by_cases ej : j = fi.length
  · have eg : (fi ++ [(a, c, o)]).getD j (0, 0, none) = (a, c, o) := by rw [ej]; simp [List.getD]
    rw [eg, ej, pk_us]
    refine ⟨rfl, hac, ⟨s, (n_ch (G s)).length, hs, ?_, ?_, ?_, ?_, ?_, ?_⟩, ho⟩
    · rw [upG_n hsc, upG_s]; exact (ef n_me rfl s).trans hm
    · rw [upG_n hsc, upG_s]; exact (ef n_kd rfl s).trans h10
    · rw [upG_n hsc, upG_s]
      show (n_ch (G s)).length < (n_ch (upG G c (fnN (G c) w) s) ++ [c]).length
      rw [ef n_ch rfl s, List.length_append, List.length_singleton]; omega
    · rw [upG_n hsc, upG_s]
      show (n_ch (G s)).length < (n_kl (upG G c (fnN (G c) w) s)).length
      rw [ef n_kl rfl s]; omega
    · rw [upG_n hsc, upG_s]
      show (n_kl (upG G c (fnN (G c) w) s)).getD (n_ch (G s)).length 0 = a
      rw [ef n_kl rfl s]; exact ha
    · rw [upG_n hsc, upG_s]
      show (n_ch (upG G c (fnN (G c) w) s) ++ [c]).getD (n_ch (G s)).length 0 = c
      rw [ef n_ch rfl s]
      exact (congrFun snc_app.symm _).trans snc_s
  · have hj2 : j < fi.length := by omega
    have eg : (fi ++ [(a, c, o)]).getD j (0, 0, none) = fi.getD j (0, 0, none) := by simp [List.getD, List.getElem?_append_left hj2]
    rw [eg, pk_un ej]
    exact j14 j hj2
end RFLD
