-- the reference's look at unions and items
def FIN (T : Nat → Int32) (L : Nat) (Sd In Nx Am K F : Nat → Int32) (N : Nat → Int64) (S I X Lt : Nat → Int32) (l : Nat) (Fi kD : Nat → Int32) (kc k : Nat) (G : Nat → Nod) (fi : List (Nat × Nat × Option Nat)) : Prop := ∀ j, j < fi.length → Fi j = nI (fi.getD j (0, 0, none)).1 ∧ (fi.getD j (0, 0, none)).1 < kc ∧ (∃ s i, s < k ∧ n_me (G s) = s ∧ n_kd (G s) = 10 ∧ i < (n_ch (G s)).length ∧ i < (n_kl (G s)).length ∧ (n_kl (G s)).getD i 0 = (fi.getD j (0, 0, none)).1 ∧ (n_ch (G s)).getD i 0 = (fi.getD j (0, 0, none)).2.1) ∧ (match (fi.getD j (0, 0, none)).2.2 with | none => kD (fi.getD j (0, 0, none)).1 = -1 | some p => ∃ n q, kD (fi.getD j (0, 0, none)).1 = nI n ∧ VV T L Sd In Nx Am K F N S I X Lt l n p q)
def RI (T : Nat → Int32) (L : Nat) (Sd In Nx Am K F : Nat → Int32) (N : Nat → Int64) (S I X Lt : Nat → Int32) (l : Nat) (So Nm Wi Kd : Nat → Int32) (shI lkI kcI : Int32) (kS kN kD kX : Nat → Int32) (dnI : Int32) (Fi : Nat → Int32) : LSt → Prop
  | (k, sh, kc, _, D, fi, G) => shI = nI sh ∧ 6 ≤ sh ∧ sh ≤ 6 + k ∧ lkI = nI k ∧ k ≤ 128 ∧ kcI = nI kc ∧ kc ≤ 2200 ∧ dnI = nI fi.length ∧ fi.length ≤ 2200 ∧ (∀ t, t < 6 → So t = nI t) ∧ RN1 N S Lt l Nm sh D G ∧ RLs N S Lt l So Wi Kd kS kN kX sh kc k G ∧ SGI G k ∧ FIN T L Sd In Nx Am K F N S I X Lt l Fi kD kc k G fi
def RX (x : Option (Except TS (Int32 × TS))) (P : Int32 → TS → LSt → Prop) : LRs → Prop
  | .inl e => x = none ∨ ∃ u, x = some (.error (nI e.1, (nI e.2, u)))
  | .inr st => x = none ∨ ∃ v u, x = some (.ok (v, u)) ∧ P v u st
def PO (T : Nat → Int32) (L : Nat) (Sd In Nx Am K F : Nat → Int32) (N : Nat → Int64) (S I X Lt : Nat → Int32) (l : Nat) (s kc0 : Nat) (kN0 kD0 : Nat → Int32) (v : Int32) : TS → LSt → Prop
  | (_, _, sh, lk, So, Nm, Wi, Kd, _, _, kc, kS, kN, kD, kX, dn, Fi), st => RI T L Sd In Nx Am K F N S I X Lt l So Nm Wi Kd sh lk kc kS kN kD kX dn Fi st ∧ v = nI (n_sg (st.2.2.2.2.2.2 s)) ∧ ∀ a, a < kc0 → kN a = kN0 a ∧ kD a = kD0 a
def okRe (T : Nat → Int32) (L : Nat) (Sd In Nx Am K F : Nat → Int32) (N : Nat → Int64) (S I X Lt : Nat → Int32) (l : Nat) (f : FS) (d : Nat) (g : Nat → Bool → LSt → LRs) : Prop := ∀ (fl pp : Int32) (So Nm Wi Kd Ma Fa kS kN kD kX Fi : Nat → Int32) (shI lkI kcI dnI : Int32) (p : Nat) (br : Bool) (st : LSt) (n q : Nat), RI T L Sd In Nx Am K F N S I X Lt l So Nm Wi Kd shI lkI kcI kS kN kD kX dnI Fi st → WFs st → VV T L Sd In Nx Am K F N S I X Lt l n p q → RX (f fl pp K F N S I X Lt shI lkI So Nm Wi Kd Ma Fa kcI kS kN kD kX dnI Fi (nI n) (nI d) (if br = true then 1 else 0)) (PO T L Sd In Nx Am K F N S I X Lt l st.1 st.2.2.1 kN kD) (g p br st)
theorem RX.no {P : Int32 → TS → LSt → Prop} {r : LRs} : RX none P r := by
  cases r with
  | inl e => exact Or.inl rfl
  | inr st => exact Or.inl rfl
section RFIN
variable {T : Nat → Int32} {L : Nat} {Sd In Nx Am K F S I X Lt : Nat → Int32} {N : Nat → Int64} {l : Nat}
theorem FIN.cg {Fi kD Fi' kD' : Nat → Int32} {kc k kc' k' : Nat} {G G' : Nat → Nod} {fi : List (Nat × Nat × Option Nat)} (h : FIN T L Sd In Nx Am K F N S I X Lt l Fi kD kc k G fi) (h1 : ∀ j, j < fi.length → Fi' j = Fi j) (h2 : ∀ a, a < kc → kD' a = kD a) (h3 : kc ≤ kc') (h4 : k ≤ k') (hg : ∀ s, s < k → n_ch (G s) ≠ [] → n_me (G' s) = n_me (G s) ∧ n_kd (G' s) = n_kd (G s) ∧ (∃ t, n_ch (G' s) = n_ch (G s) ++ t) ∧ (∃ t, n_kl (G' s) = n_kl (G s) ++ t)) : FIN T L Sd In Nx Am K F N S I X Lt l Fi' kD' kc' k' G' fi := by
  intro j hj
  obtain ⟨a1, a2, ⟨s, i, b1, b2, b3, b4, b5, b6, b7⟩, a4⟩ := h j hj
  obtain ⟨g1, g2, ⟨t, g3⟩, ⟨u, g4⟩⟩ := hg s b1 (fun z => by rw [z] at b4; exact absurd b4 (Nat.not_lt_zero _))
  refine ⟨by rw [h1 j hj]; exact a1, by omega, ⟨s, i, by omega, by rw [g1]; exact b2, by rw [g2]; exact b3, by rw [g3, List.length_append]; omega, by rw [g4, List.length_append]; omega, by rw [g4, getD_l b5]; exact b6, by rw [g3, getD_l b4]; exact b7⟩, ?_⟩
  rw [h2 _ a2]
  exact a4
theorem same_ch (x : Nod) : (∃ t, n_ch x = n_ch x ++ t) ∧ (∃ t, n_kl x = n_kl x ++ t) := ⟨⟨[], (List.append_nil _).symm⟩, ⟨[], (List.append_nil _).symm⟩⟩
/-- an open slot gets another node, which has no inner slots yet -/
theorem FIN.fr {Fi kD : Nat → Int32} {kc k s : Nat} {G : Nat → Nod} {x : Nod} {fi : List (Nat × Nat × Option Nat)} (h : FIN T L Sd In Nx Am K F N S I X Lt l Fi kD kc k G fi) (hc : n_ch (G s) = []) : FIN T L Sd In Nx Am K F N S I X Lt l Fi kD kc k (upG G s x) fi := h.cg (fun _ _ => rfl) (fun _ _ => rfl) (Nat.le_refl _) (Nat.le_refl _) (fun s' _ hq => by
  by_cases e : s' = s
  · rw [e, hc] at hq
    exact absurd rfl hq
  · rw [upG_n e]
    exact ⟨rfl, rfl, same_ch _⟩)
theorem RI.kid {So Nm Wi Kd kS kN kD kX Fi : Nat → Int32} {k sh kc : Nat} {pl : List Nat} {D : List Nat → Option Nat} {fi : List (Nat × Nat × Option Nat)} {G : Nat → Nod} (h : RI T L Sd In Nx Am K F N S I X Lt l So Nm Wi Kd (nI sh) (nI k) (nI kc) kS kN kD kX (nI fi.length) Fi (k, sh, kc, pl, D, fi, G)) {s : Nat} {vS vN vD : Int32} {x : Nod} (hs : s < k) (hkc : kc < 2200) (hm : n_me (G s) = s) (h6 : 6 ≤ n_kd (G s)) (h11 : n_kd (G s) ≤ 11) (x1 : n_kd x = n_kd (G s)) (x2 : n_me x = n_me (G s)) (x3 : n_sg x = n_sg (G s)) (x4 : n_ch x = n_ch (G s)) (x5 : n_wd x = n_wd (G s)) (x6 : n_kl x = n_kl (G s) ++ [kc]) (x7 : n_pa x = n_pa (G s)) (x8 : n_fn x = n_fn (G s)) (hsy : n_kd (G s) = 9 → ∃ w, n_sy x = n_sy (G s) ++ [w] ∧ RNm N S Lt l vN w) (h9 : n_kd (G s) ≠ 9 → n_sy x = n_sy (G s)) :
    RI T L Sd In Nx Am K F N S I X Lt l So Nm Wi (if (n_kl (G s)).length = 0 then upd Kd (n_sg (G s)) (nI kc) else Kd) (nI sh) (nI k) (nI (kc + 1)) (upd kS kc vS) (upd kN kc vN) (upd kD kc vD) (if (n_kl (G s)).length = 0 then upd kX kc (-1) else upd (upd kX kc (-1)) ((n_kl (G s)).getD ((n_kl (G s)).length - 1) 0) (nI kc)) (nI fi.length) Fi (k, sh, kc + 1, pl, D, fi, upG G s x) := by
  obtain ⟨i1, i2, i3, i4, i5, i6, i7, i8, i9, i10, i11, i12, i13, i14⟩ := h
  refine ⟨rfl, i2, i3, rfl, i5, rfl, by omega, rfl, i9, i10, i11.cg (fun w i _ => ?_), i12.kid i13 hs hm h6 h11 x1 x2 x3 x4 x5 x6 x7 x8 hsy h9, ?_, i14.cg (fun _ _ => rfl) (fun a ha => pk_un (by omega)) (by omega) (Nat.le_refl _) (fun s' _ _ => ?_)⟩
  · by_cases q : i = s
    · rw [q, upG_s]; exact x3
    · rw [upG_n q]
  · refine SGI.one i13 (fun i a hi ei ha hc => ?_) (fun q1 q2 i hi ei q3 q4 q5 q6 => ?_)
    · rw [x6] at ha
      rcases List.mem_append.mp ha with q | q
      · exact ei (i13.2 i s a hi hs hc q)
      · rw [List.mem_singleton.mp q] at hc
        have := (i12 i hi).2.1 kc hc
        omega
    · rw [x3] at q6
      exact ei (i13.1 i s hi hs q3 hm q4 q5 h6 h11 q6)
  · by_cases q : s' = s
    · rw [q, upG_s]
      exact ⟨x2, x1, ⟨[], by rw [x4, List.append_nil]⟩, ⟨[kc], x6⟩⟩
    · rw [upG_n q]
      exact ⟨rfl, rfl, same_ch _⟩
theorem RI.jon {So Nm Wi Kd kS kN kD kX Fi : Nat → Int32} {k sh kc : Nat} {pl : List Nat} {D : List Nat → Option Nat} {fi : List (Nat × Nat × Option Nat)} {G : Nat → Nod} (h : RI T L Sd In Nx Am K F N S I X Lt l So Nm Wi Kd (nI sh) (nI k) (nI kc) kS kN kD kX (nI fi.length) Fi (k, sh, kc, pl, D, fi, G)) {s c : Nat} (hs : s < k) (hc : c < k) (hsc : s ≠ c) (hm : n_me (G s) = s) (h6 : 6 ≤ n_kd (G s)) (h11 : n_kd (G s) ≤ 11) (hp : n_pa (G c) = 999) (hl : (n_ch (G s)).length < (n_kl (G s)).length) (hf : n_kd (G s) = 10 → RNm N S Lt l (kN ((n_kl (G s)).getD (n_ch (G s)).length 0)) (n_fn (G c))) :
    RI T L Sd In Nx Am K F N S I X Lt l So Nm Wi Kd (nI sh) (nI k) (nI kc) (upd kS ((n_kl (G s)).getD (n_ch (G s)).length 0) (nI (n_sg (G c)))) kN kD kX (nI fi.length) Fi (jon s c (k, sh, kc, pl, D, fi, G)) := by
  obtain ⟨i1, i2, i3, i4, i5, i6, i7, i8, i9, i10, i11, i12, i13, i14⟩ := h
  have e : ∀ {β : Type} (g : Nod → β), (∀ x, g (chN x c) = g x) → (∀ x, g (paN x s) = g x) → ∀ i, g (upG (upG G s (chN (G s) c)) c (paN (G c) s) i) = g (G i) := fun g h1 h2 i => by
    by_cases q : i = c
    · rw [q, upG_s]; exact h2 _
    · rw [upG_n q]
      by_cases q2 : i = s
      · rw [q2, upG_s]; exact h1 _
      · rw [upG_n q2]
  have ek := e n_kd (fun _ => rfl) (fun _ => rfl)
  have em := e n_me (fun _ => rfl) (fun _ => rfl)
  have es := e n_sg (fun _ => rfl) (fun _ => rfl)
  have el := e n_kl (fun _ => rfl) (fun _ => rfl)
  refine ⟨rfl, i2, i3, rfl, i5, rfl, i7, rfl, i9, i10, i11.cg (fun _ i _ => es i), i12.jon i13 i5 hs hc hsc hm h6 h11 hp hl hf, i13.cg (fun i _ => ⟨ek i, em i, es i, el i⟩), i14.cg (fun _ _ => rfl) (fun _ _ => rfl) (Nat.le_refl _) (Nat.le_refl _) (fun s' _ _ => ⟨em s', ek s', ?_, ⟨[], by rw [el, List.append_nil]⟩⟩)⟩
  by_cases q : s' = c
  · rw [q, upG_s]; exact (same_ch _).1
  · rw [upG_n q]
    by_cases q2 : s' = s
    · rw [q2, upG_s]; exact ⟨[c], rfl⟩
    · rw [upG_n q2]; exact (same_ch _).1
end RFIN
section RUNI
variable {T : Nat → Int32} {L : Nat} {Sd In Nx Am K F S I X Lt : Nat → Int32} {N : Nat → Int64} {l : Nat}
theorem r_uni_in {f : FS} {k75 : KU} {fl pp : Int32} {So Nm Wi Kd Ma Fa kS kN kD kX Fi : Nat → Int32} {k sh kc : Nat} {pl : List Nat} {D : List Nat → Option Nat} {fi : List (Nat × Nat × Option Nat)} {G : Nat → Nod} (hI : RI T L Sd In Nx Am K F N S I X Lt l So Nm Wi Kd (nI sh) (nI k) (nI kc) kS kN kD kX (nI fi.length) Fi (k, sh, kc, pl, D, fi, G)) {s c d n p q : Nat} {x5 : Int32} (hs : s < k) (hc : c < k) (hm : n_me (G s) = s) (hk : n_kd (G s) = 11) (hlen : (n_ch (G s)).length = (n_kl (G s)).length) (h16 : (n_kl (G s)).length ≤ 16) (hkd : ∀ x, x ∈ n_ch (G s) → KD1 G x ∧ n_kd (G (n_me (G x))) ≤ 10) (hkc : KD1 G c) (hv : VV T L Sd In Nx Am K F N S I X Lt l n p q) :
    (hlk s c (k, sh, kc, pl, D, fi, G) = true ∧ ∃ u, m_X9_union_101 f K F N S I X Lt k75 sr_fuel fl pp (nI sh) (nI k) So Nm Wi Kd Ma Fa (nI kc) kS kN kD kX (nI fi.length) Fi (nI d) (nI (n_sg (G s))) x5 (nI n) (nI (n_sg (G c))) (Kd (n_sg (G s))) = some (.error (6, nI p, u))) ∨ (hlk s c (k, sh, kc, pl, D, fi, G) = false ∧ m_X9_union_101 f K F N S I X Lt k75 sr_fuel fl pp (nI sh) (nI k) So Nm Wi Kd Ma Fa (nI kc) kS kN kD kX (nI fi.length) Fi (nI d) (nI (n_sg (G s))) x5 (nI n) (nI (n_sg (G c))) (Kd (n_sg (G s))) = m_X9_union_101 f K F N S I X Lt k75 1 fl pp (nI sh) (nI k) So Nm Wi Kd Ma Fa (nI kc) kS kN kD kX (nI fi.length) Fi (nI d) (nI (n_sg (G s))) x5 (nI n) (nI (n_sg (G c))) (-1)) := by
  obtain ⟨i1, i2, i3, i4, i5, i6, i7, i8, i9, i10, i11, i12, i13, i14⟩ := hI
  obtain ⟨s0, s1, s2, s3⟩ := i12 s hs
  obtain ⟨t1, t2, t3⟩ := s3 hm
  obtain ⟨c1, c2, c3, c4, c5, c6, c7, c8⟩ := t3 (by omega) (by omega)
  have hb := hv.base
  obtain ⟨R, hR⟩ : ∃ R, ∀ fu, m_X9_union_101 f K F N S I X Lt k75 (fu + 1) fl pp (nI sh) (nI k) So Nm Wi Kd Ma Fa (nI kc) kS kN kD kX (nI fi.length) Fi (nI d) (nI (n_sg (G s))) x5 (nI n) (nI (n_sg (G c))) (-1) = R := ⟨m_X9_union_101 f K F N S I X Lt k75 1 fl pp (nI sh) (nI k) So Nm Wi Kd Ma Fa (nI kc) kS kN kD kX (nI fi.length) Fi (nI d) (nI (n_sg (G s))) x5 (nI n) (nI (n_sg (G c))) (-1), fun fu => by simp only [m_X9_union_101, if_pos (show (-1 : Int32) < 0 by decide)]⟩
  have go : ∀ (fuel j : Nat), j ≤ (n_kl (G s)).length → (n_kl (G s)).length - j < fuel → ((n_ch (G s)).take j).any (fun b => alk G b c) = false →
      ((n_ch (G s)).any (fun b => alk G b c) = true ∧ ∃ u, m_X9_union_101 f K F N S I X Lt k75 fuel fl pp (nI sh) (nI k) So Nm Wi Kd Ma Fa (nI kc) kS kN kD kX (nI fi.length) Fi (nI d) (nI (n_sg (G s))) x5 (nI n) (nI (n_sg (G c))) (if j = (n_kl (G s)).length then -1 else nI ((n_kl (G s)).getD j 0)) = some (.error (6, nI p, u))) ∨ ((n_ch (G s)).any (fun b => alk G b c) = false ∧ m_X9_union_101 f K F N S I X Lt k75 fuel fl pp (nI sh) (nI k) So Nm Wi Kd Ma Fa (nI kc) kS kN kD kX (nI fi.length) Fi (nI d) (nI (n_sg (G s))) x5 (nI n) (nI (n_sg (G c))) (if j = (n_kl (G s)).length then -1 else nI ((n_kl (G s)).getD j 0)) = R) := by
    intro fuel
    induction fuel with
    | zero => intro j _ hf; exact absurd hf (Nat.not_lt_zero _)
    | succ fuel ih =>
      intro j hj hf ha
      by_cases e : j = (n_kl (G s)).length
      · rw [if_pos e]
        rw [e, ← hlen, List.take_length] at ha
        exact Or.inr ⟨ha, hR fuel⟩
      · have hjk : j < (n_kl (G s)).length := by omega
        have hjl : j < (n_ch (G s)).length := by omega
        obtain ⟨d1, d2⟩ := c4.1 j hjk
        have d1 : (n_kl (G s)).getD j 0 < kc := d1
        obtain ⟨e1, _⟩ := c6 j hjl
        have hmem := ch_mem hjl
        obtain ⟨x1, x2⟩ := t2 _ hmem
        rw [if_neg e]
        simp only [m_X9_union_101, if_neg (nI_pos (show (n_kl (G s)).getD j 0 < 2 ^ 31 by omega)), bd_go (show (n_kl (G s)).getD j 0 < 2200 by omega) (by decide), bd_gc (show (n_kl (G s)).getD j 0 < 2200 by omega) (by decide), nI_clamp (show (n_kl (G s)).getD j 0 < 2 ^ 31 by omega), e1, alk_r i12 i13 i10 (by omega) i2 x1 hc (hkd _ hmem).1 hkc (hkd _ hmem).2, Option.bind_some, m_X9_union_128, bd_go (show n < 4200 by omega) (by decide), bd_gc (show n < 4200 by omega) (by decide), nI_clamp (show n < 2 ^ 31 by omega)]
        by_cases q : alk G ((n_ch (G s)).getD j 0) c = true
        · rw [if_pos q, I10, nd0, trE, hb.2.2.2]
          exact Or.inl ⟨List.any_eq_true.mpr ⟨_, hmem, q⟩, _, rfl⟩
        · rw [if_neg q, I00, nd1, trO, d2]
          refine ih (j + 1) (by omega) (by omega) ?_
          rw [List.take_succ_eq_append_getElem hjl, List.any_append, ha]
          rw [ls_get hjl] at q
          simp [q]
  have := go sr_fuel 0 (by omega) (by unfold sr_fuel; omega) rfl
  rw [← c4.ptr] at this
  exact this.imp id (fun z => ⟨z.1, z.2.trans (hR 0).symm⟩)
end RUNI
