-- the class's look at words, unions, items
/-- a result of the class's against the telling's -/
def CX (lf lp : Int32) (x : Option (Int32 × TL)) (good bad : Int32) : LRs → Prop
  | .inl e => ∃ u, x = some (bad, (nI e.1, (nI e.2, u)))
  | .inr st => ∃ Pl Ki Me Fi Ne Na Fn Ac Fd Ed lc sc Cf Cs cc, x = some (good, (lf, lp, Pl, Ki, Me, Fi, Ne, Na, Fn, Ac, Fd, Ed, lc, sc, Cf, Cs, cc)) ∧ CI Pl Ki Me Fi Ne Na Fn Ac lc sc Cf Cs cc st
def okCl (T : Nat → Int32) (L : Nat) (Sd In Nx Am K F : Nat → Int32) (N : Nat → Int64) (S I X Lt : Nat → Int32) (l : Nat) (f : FL) (d : Nat) (g : Nat → Bool → LSt → LRs) : Prop := ∀ (lf lp : Int32) (Pl Ki Me Fi Ne Na Fn Ac Fd Ed : Nat → Int32) (lc sc : Int32) (Cf Cs : Nat → Int32) (cc : Int32) (p : Nat) (br : Bool) (st : LSt) (n q : Nat), CI Pl Ki Me Fi Ne Na Fn Ac lc sc Cf Cs cc st → WFs st → VV T L Sd In Nx Am K F N S I X Lt l n p q → st.2.2.2.1.length + (q - p) ≤ 4096 → CX lf lp (f lf lp T Sd In Nx Am (nI L) Pl Ki Me Fi Ne Na Fn Ac Fd Ed lc sc Cf Cs cc (nI p) (nI d) (if br = true then 1 else 0)) (nI st.1) (-1) (g p br st)
theorem alk_i {G : Nat → Nod} {b c : Nat} : alk G b c = true ↔ (n_kd (G (n_me (G b))) = n_kd (G (n_me (G c))) ∧ (¬ (8 ≤ n_kd (G (n_me (G b))) ∧ n_kd (G (n_me (G b))) ≤ 10) ∨ n_me (G b) = n_me (G c))) := decide_eq_true_iff
section CWORD
variable {T : Nat → Int32} {L : Nat} {Sd In Nx Am K F S I X Lt : Nat → Int32} {N : Nat → Int64} {l : Nat}
theorem law_c (hL : L ≤ 4096) (lf lp : Int32) {Pl Ki Me Fi Ne Na Fn Ac : Nat → Int32} {lc sc : Int32} {Cf Cs : Nat → Int32} {cc : Int32} {k sh kc : Nat} {pl : List Nat} {D : List Nat → Option Nat} {fi : List (Nat × Nat × Option Nat)} {G : Nat → Nod} {s n p q : Nat} (hI : CI Pl Ki Me Fi Ne Na Fn Ac lc sc Cf Cs cc (k, sh, kc, pl, D, fi, G)) (hs : s + 1 = k) (hG : G s = mkN 12 s 0 0 [] []) (hD : ∀ w d, D w = some d → d < s) (hv : VV T L Sd In Nx Am K F N S I X Lt l n p q) (hc : cb T L p = 34) (hb : pl.length + (q - p) ≤ 4096) :
    (∃ e, lwd T L s p (k, sh, kc, pl, D, fi, G) = .inl e ∧ ∃ u, m_X4_lookAtWord lf lp T Sd Am (nI L) Pl Ki Me Na lc sc (nI s) (nI p) = some (0, (nI e.1, nI e.2, u))) ∨ (∃ st' Pl' Ki' Me' lc', lwd T L s p (k, sh, kc, pl, D, fi, G) = .inr st' ∧ m_X4_lookAtWord lf lp T Sd Am (nI L) Pl Ki Me Na lc sc (nI s) (nI p) = some (1, (lf, lp, Pl', Ki', Me', lc')) ∧ CI Pl' Ki' Me' Fi Ne Na Fn Ac lc' sc Cf Cs cc st') := by
  obtain ⟨i1, i2, i3, i4, i5, i6, i7, i8, i9⟩ := hI
  subst i1
  subst i3
  obtain ⟨s0, y1, y2, y3, y4, y5, y6⟩ := hv.str hc
  have hp := hv.base
  have hdf := dfn_c (Sd := Sd) (Am := Am) i2 i5 i4 i6 y3
  obtain ⟨Pl', w1, w2⟩ := wsL y3 y6 i5 (by omega)
  have hln : (pl ++ qt s0).length ≤ 4096 := by rw [List.length_append, qt_len]; omega
  simp only [lwd, y2, m_X4_lookAtWord, ksaid_eq hL hc y3, Option.bind_some]
  have h31 : kw6 s0 = -1 → (∃ e, (match D s0 with | none => Sum.inl (3, p) | some d => Sum.inr (k, sh, kc, pl ++ qt s0, D, fi, upG G s (mkN 12 d (n_sg (G d)) 0 [] []))) = (Sum.inl e : LRs) ∧ ∃ u, m_X4_lookAtWord_31 T Sd Am (nI L) Na (nI k) lf lp Pl Ki Me (nI pl.length) (nI s) (nI p) = some (0, (nI e.1, nI e.2, u))) ∨ (∃ st' Pl' Ki' Me' lc', (match D s0 with | none => Sum.inl (3, p) | some d => Sum.inr (k, sh, kc, pl ++ qt s0, D, fi, upG G s (mkN 12 d (n_sg (G d)) 0 [] []))) = (Sum.inr st' : LRs) ∧ m_X4_lookAtWord_31 T Sd Am (nI L) Na (nI k) lf lp Pl Ki Me (nI pl.length) (nI s) (nI p) = some (1, (lf, lp, Pl', Ki', Me', lc')) ∧ CI Pl' Ki' Me' Fi Ne Na Fn Ac lc' (nI k) Cf Cs cc st') := by
    intro _
    unfold m_X4_lookAtWord_31
    rw [hdf]
    cases hd : D s0 with
    | none =>
      simp only [Option.bind_some, if_true, m_X4_refuse, true_or]
      exact Or.inl ⟨(3, p), rfl, _, rfl⟩
    | some d =>
      have hds := hD s0 d hd
      simp only [Option.bind_some, if_neg (nI_m1 (show d < 2 ^ 31 by omega)), stm_eq (show s < 128 by omega), m_X4_lookAtWord_68, w1]
      exact Or.inr ⟨_, _, _, _, _, rfl, rfl, rfl, i2, rfl, hln, w2, i6.wr _, (i7.mea (by omega) hds hG).wr _, i8, i9⟩
  rcases kw6_of s0 with ⟨k6, k1, k2, k3⟩ | ⟨k1, k2⟩
  · rw [if_neg (show ¬ kw6 s0 = -1 by rw [k3]; exact nI_m1 (by omega)), k2, if_neg (nI_m1 (show k6 < 2 ^ 31 by omega)), if_neg (show ¬ (5 : Int32) < nI k6 from Int32.not_lt.mpr (nI_le (a := k6) (b := 5) (by omega) (by decide))), stk_eq (show s < 128 by omega)]
    simp only [Option.bind_some, m_X4_lookAtWord_68, w1]
    rw [k3, nI_clamp (by omega)]
    exact Or.inr ⟨_, _, _, _, _, rfl, rfl, rfl, i2, rfl, hln, w2, i6.wr _, (i7.set (by omega) hG).wr _, i8, i9⟩
  · rw [if_pos k1]
    rcases k2 with e | ⟨k6, a1, a2, a3, a4⟩
    · rw [e, if_pos rfl]
      exact h31 k1
    · rw [a3, if_neg (nI_m1 (show k6 < 2 ^ 31 by omega)), if_pos (show (5 : Int32) < nI k6 from nI_lt (a := 5) (by omega) (by omega))]
      exact h31 k1
theorem hal_eq {Ki Me Fi Ne Fn Ac : Nat → Int32} {pl : List Nat} {k : Nat} {G : Nat → Nod} (hk : k ≤ 128) (h : LCs Ki Me Fi Ne Fn Ac pl k G) {s c : Nat} (hs : s < k) (hc : c < k) (hm : n_me (G s) = s) (h8 : n_kd (G s) = 11) (hkd : ∀ x, x ∈ n_ch (G s) → n_kd (G (n_me (G x))) ≤ 11 ∧ n_me (G (n_me (G x))) = n_me (G x)) (hkc : n_kd (G (n_me (G c))) ≤ 11 ∧ n_me (G (n_me (G c))) = n_me (G c)) : m_X4_hasAlike Ki Me Fi Ne Ac (nI s) (nI c) = some (if (n_ch (G s)).any (fun b => alk G b c) = true then 1 else 0) := by
  obtain ⟨s1, s2, s3, s4⟩ := h s hs
  obtain ⟨t1, t2, t3, t4⟩ := s4 hm
  obtain ⟨u1, u2, u3, u4⟩ := t2 (by omega) (by omega)
  rw [hm] at s1
  have kof : ∀ x, x < k → (n_kd (G (n_me (G x))) ≤ 11 ∧ n_me (G (n_me (G x))) = n_me (G x)) → m_X6_kind Ki Me (nI x) = some (nI (n_kd (G (n_me (G x))))) ∧ m_X6_meant Me (nI x) = some (nI (n_me (G x))) ∧ n_me (G x) < k := by
    intro x hx hq
    obtain ⟨x1, x2, x3, x4⟩ := h x hx
    obtain ⟨z1, z2, z3, z4⟩ := h _ x2
    refine ⟨?_, ?_, x2⟩
    · rw [knd_eq (by omega) (by omega) x1, (z4 hq.2).1 hq.1]
    · unfold m_X6_meant
      rw [ent_eq (n := 128) (by decide) (by omega), x1]
      rfl
  have alk_eq : ∀ x, x < k → (n_kd (G (n_me (G x))) ≤ 11 ∧ n_me (G (n_me (G x))) = n_me (G x)) → m_X6_isAlike Ki Me (nI x) (nI c) = some (if alk G x c = true then 1 else 0) := by
    intro x hx hq
    obtain ⟨x1, x2, x3⟩ := kof x hx hq
    obtain ⟨c1, c2, c3⟩ := kof c hc hkc
    unfold m_X6_isAlike
    simp only [x1, c1, Option.bind_some, nam_k (show n_kd (G (n_me (G x))) < 2 ^ 31 by omega), x2, c2]
    by_cases e : n_kd (G (n_me (G x))) = n_kd (G (n_me (G c)))
    · rw [if_pos (by rw [e])]
      by_cases nn : 8 ≤ n_kd (G (n_me (G x))) ∧ n_kd (G (n_me (G x))) ≤ 10
      · rw [if_pos nn, if_neg (show ¬ (1 : Int32) = 0 by decide)]
        by_cases mm : n_me (G x) = n_me (G c)
        · rw [if_pos (by rw [mm]), if_pos (alk_i.mpr ⟨e, Or.inr mm⟩)]
        · rw [if_neg (fun z => mm ((nI_eq (by omega) (by omega)).mp z)), if_neg (fun z => (alk_i.mp z).2.elim (fun w => w nn) mm)]
      · rw [if_neg nn, if_pos rfl, if_pos (alk_i.mpr ⟨e, Or.inl nn⟩)]
    · rw [if_neg (fun z => e ((nI_eq (by omega) (by omega)).mp z)), if_neg (fun z => e (alk_i.mp z).1)]
  have go : ∀ (fuel j : Nat), j ≤ (n_ch (G s)).length → (n_ch (G s)).length - j < fuel → ((n_ch (G s)).take j).any (fun b => alk G b c) = false → m_X4_hasAlike_12 Ki Me Fi Ne Ac fuel (nI s) (nI c) (if j = (n_ch (G s)).length then -1 else nI ((n_ch (G s)).getD j 0)) (nI j) = some (if (n_ch (G s)).any (fun b => alk G b c) = true then 1 else 0) := by
    intro fuel
    induction fuel with
    | zero => intro j _ hf; exact absurd hf (Nat.not_lt_zero _)
    | succ fuel ih =>
      intro j hj hf ha
      simp only [m_X4_hasAlike_12, m_X6_amount, ent_eq (n := 128) (by decide) (show s < 128 by omega), s1, u2, Option.bind_some, nI_1]
      by_cases e : j = (n_ch (G s)).length
      · rw [if_pos (nI_le (show (n_ch (G s)).length ≤ j by omega) (by omega))]
        rw [e, List.take_length] at ha
        rw [ha]
        rfl
      · have hjl : j < (n_ch (G s)).length := by omega
        obtain ⟨d1, d2⟩ := u1.1 j hjl
        have d1 : (n_ch (G s)).getD j 0 < k := d1
        have hmem := ch_mem hjl
        rw [if_neg (nI_ge hjl (by omega)), if_neg e, alk_eq _ d1 (hkd _ hmem)]
        simp only [Option.bind_some]
        by_cases q : alk G ((n_ch (G s)).getD j 0) c = true
        · rw [if_pos q, if_neg (show ¬ (1 : Int32) = 0 by decide), if_pos (List.any_eq_true.mpr ⟨_, hmem, q⟩)]
        · rw [if_neg q, if_pos rfl]
          unfold m_X6_next
          rw [ent_eq (n := 128) (by decide) (show (n_ch (G s)).getD j 0 < 128 by omega), d2]
          simp only [Option.bind_some]
          refine ih (j + 1) (by omega) (by omega) ?_
          rw [List.take_succ_eq_append_getElem hjl, List.any_append, ha]
          rw [ls_get hjl] at q
          simp [q]
  unfold m_X4_hasAlike
  simp only [m_X6_first, ent_eq (n := 128) (by decide) (show s < 128 by omega), s1, Option.bind_some]
  have := go sr_fuel 0 (by omega) (by unfold sr_fuel; omega) rfl
  rw [nI_0, ← u1.ptr] at this
  exact this
end CWORD
