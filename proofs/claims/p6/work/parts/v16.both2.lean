-- both programs' rows once a text is read
section RDC
variable {T B : Nat → Int32} {L : Nat}
/-- the reference's rows tell what was read -/
def RTU (T : Nat → Int32) (L : Nat) (st : LSt) (u : TR) : Prop := ∃ (Sd In Nx Am : Nat → Int32) (l p n b : Nat), l ≤ 4200 ∧ match u with
  | (u1, u2, u3, u4, u5, u6, K, F, N, S, I, X, Lt, u14, sh, lk, So, Nm, Wi, Kd, u21, u22, kc, kS, kN, kD, kX, dn, Fi, rt) => VV T L Sd In Nx Am K F N S I X Lt l n p b ∧ look T L 16 p false st0 = .inr st ∧ (∀ i, i < st.1 → n_me (st.2.2.2.2.2.2 i) = i → n_kd (st.2.2.2.2.2.2 i) = 8 → n_wd (st.2.2.2.2.2.2 i) ≤ 64) ∧ RI T L Sd In Nx Am K F N S I X Lt l So Nm Wi Kd sh lk kc kS kN kD kX dn Fi st ∧ rt = nI (n_sg (st.2.2.2.2.2.2 0))
/-- the class's rows tell what was read -/
def CLU (u : TRC) (st : LSt) : Prop := match u with
  | (sd9, in9, nx9, am9, wp9, Pl9, Ki9, Me9, Fi9, Ne9, Na9, Fn9, Ac9, Fd9, Ed9, lc9, sc9, Cf9, Cs9, cc9, kh9, kp9, ko9, kn9, kc9) => CI Pl9 Ki9 Me9 Fi9 Ne9 Na9 Fn9 Ac9 lc9 sc9 Cf9 Cs9 cc9 st
theorem r59_rows {B : Nat → Int32} {a0 a1 a2 a5 a6 a14 sh lk kc dn rt : Int32} {K F S I X Lt So Nm Wi Kd Ma Fa kS kN kD kX Fi : Nat → Int32} {N : Nat → Int64} : ∀ (fuel : Nat) (fl pp j : Int32) (u : TR), m_X9_readAll_59 B a0 fuel a1 a2 fl pp a5 a6 K F N S I X Lt a14 sh lk So Nm Wi Kd Ma Fa kc kS kN kD kX dn Fi rt j = some (.ok ((), u)) → ∃ fl' pp', u = (a1, a2, fl', pp', a5, a6, K, F, N, S, I, X, Lt, a14, sh, lk, So, Nm, Wi, Kd, Ma, Fa, kc, kS, kN, kD, kX, dn, Fi, rt) := by
  intro fuel
  induction fuel with
  | zero => intro fl pp j u h; cases h
  | succ fuel ih =>
    intro fl pp j u h
    simp only [m_X9_readAll_59] at h
    split at h
    · cases h
      exact ⟨_, _, rfl⟩
    split at h
    · cases h
    split at h
    · cases h
    split at h
    · exact ih _ _ _ _ h
    generalize hx : m_X9_fit 60 fl pp K F N S I X Lt So Wi Kd kS kN kX _ _ = x at h
    cases x with
    | none => cases h
    | some y =>
      cases y with
      | error e => cases h
      | ok z =>
        obtain ⟨z1, z2, z3⟩ := z
        exact ih _ _ _ _ h
theorem rd_ref2 (hB : BY B L) (hL : L ≤ 4096) (hcb : cb B L = cb T L) {e0 rt : Int32} {K F S I X Lt So Nm Wi Kd Ma Fa kS kN kD kX Fi : Nat → Int32} {N : Nat → Int64} {r : Except TR (Unit × TR)} (hS : ∀ t, t < 6 → So t = nI t) (h : m_X9_readAll B (nI L) (nI 0) (nI 0) 0 (-1) e0 (nI 0) K F N S I X Lt (nI 0) (nI 6) (nI 0) So Nm Wi Kd Ma Fa (nI 0) kS kN kD kX (nI 0) Fi rt = some r) :
    (∃ e u, rdS T L = .inl e ∧ r = .error u ∧ fpR u = (nI e.1, nI e.2)) ∨ (∃ st u, rdS T L = .inr st ∧ r = .ok ((), u) ∧ RTU T L st u) := by
  rcases rda_unf hB hL h with ⟨w, u, h1, h2, h3⟩ | ⟨p, n', l', b, K', F', N', S', I', X', Lt', h1, h2, h3, h4, h5, h6, h7⟩
  · rw [cg_sread hcb] at h1
    refine Or.inl ⟨(1, w), u, ?_, h2, h3⟩
    unfold rdS
    rw [h1]
  · rw [cg_sread hcb] at h1
    obtain ⟨Sd, In, Nx, Am, hT⟩ := tre_ex hL h1
    have hV := VV.mk hcb hT h4 h5 h3 h6
    have hVb := hV.base
    have hr := r_look (T := T) (Sd := Sd) (In := In) (Nx := Nx) (Am := Am) (K := K') (F := F') (N := N') (S := S') (I := I') (X := X') (Lt := Lt') hL h2 16 18 0 rfl (by decide) 0 (-1) So Nm Wi Kd Ma Fa kS kN kD kX Fi _ _ _ _ p false st0 0 b (ri0 hS) wf0 hV
    have hc := c_look (T := T) (Sd := Sd) (In := In) (Nx := Nx) (Am := Am) (K := K') (F := F') (N := N') (S := S') (I := I') (X := X') (Lt := Lt') hL h2 16 18 0 rfl (by decide) 0 (-1) (fun _ => 0) (fun _ => 0) (fun _ => 0) (fun _ => 0) (fun _ => 0) (fun _ => 0) (fun _ => 0) (fun _ => 0) (fun _ => 0) (fun _ => 0) _ _ (fun _ => 0) (fun _ => 0) _ p false st0 0 b ci0 wf0 hV (by show 0 + (b - p) ≤ 4096; omega)
    rw [bF] at hr
    unfold m_X9_readAll_38 at h7
    rw [nd1, trO] at h7
    simp only [nI_0] at h7 hr
    unfold rdS
    rw [h1]
    dsimp only
    cases hlk : look T L 16 p false st0 with
    | inl e =>
      rw [hlk] at hr
      rcases hr with hu | ⟨u, hu⟩
      · rw [hu, trN] at h7; cases h7
      · rw [hu, trE] at h7
        obtain ⟨u1, u2, u3, u4, u5, u6, u7, u8, u9, u10, u11, u12, u13, u14, u15⟩ := u
        exact Or.inl ⟨e, _, rfl, (Option.some.inj h7).symm, rfl⟩
    | inr st =>
      have hO := look_f (T := T) (Sd := Sd) (In := In) (Nx := Nx) (Am := Am) (K := K') (F := F') (N := N') (S := S') (I := I') (X := X') (Lt := Lt') hL h2 16 p false st0 st 0 b hV wf0 hlk
      rw [hlk] at hr hc
      rcases hr with hu | ⟨v, u, hu, hP⟩
      · rw [hu, trN] at h7; cases h7
      rw [hu, trO] at h7
      obtain ⟨k1, sh1, kc1, pl1, D1, fi1, G1⟩ := st
      obtain ⟨fl1, pp1, shI, lkI, So1, Nm1, Wi1, Kd1, Ma1, Fa1, kcI, kS1, kN1, kD1, kX1, dnI, Fi1⟩ := u
      obtain ⟨hI2, hvr, _⟩ := hP
      obtain ⟨j1, j2, j3, j4, j5, j6, j7, j8, j9, j10, j11, j12, j13, j14⟩ := hI2
      subst j1
      subst j4
      subst j6
      subst j8
      obtain ⟨Pl2, Ki2, Me2, Fi2, Ne2, Na2, Fn2, Ac2, Fd2, Ed2, lc2, sc2, Cf2, Cs2, cc2, _, hI3⟩ := hc
      have hW := wd_of hI3.2.2.2.2.2.2.1
      have h59 := rda_59 hL h2 (B := B) (Ma := Ma1) (Fa := Fa1) (a1 := nI L) (a2 := 0) (a5 := nI b) (a6 := nI n') (a14 := nI l') (rt := v) (So := So1) (Nm := Nm1) (Wi := Wi1) (Kd := Kd1) (kS := kS1) (kN := kN1) (kD := kD1) (kX := kX1) (Fi := Fi1) (pl := pl1) (D := D1) (show RI T L Sd In Nx Am K' F' N' S' I' X' Lt' l' So1 Nm1 Wi1 Kd1 (nI sh1) (nI k1) (nI kc1) kS1 kN1 kD1 kX1 (nI fi1.length) Fi1 (k1, sh1, kc1, pl1, D1, fi1, G1) from ⟨rfl, j2, j3, rfl, j5, rfl, j7, rfl, j9, j10, j11, j12, j13, j14⟩) (fun i hi => hO i (Nat.zero_le _) hi) hW sr_fuel 0 fl1 pp1 (Nat.zero_le _) (by unfold sr_fuel; omega)
      rw [nI_0, List.drop_zero] at h59
      dsimp only at h7 ⊢
      rcases h59 with ⟨u, d1, d2⟩ | ⟨z, u, d1, d2, d3⟩
      · rw [d2] at h7
        rw [d1]
        have hh := (Option.some.inj h7).symm
        obtain ⟨fl9, pp9, hu9⟩ := r59_rows _ _ _ _ _ d2
        refine Or.inr ⟨_, _, rfl, hh, Sd, In, Nx, Am, l', p, 0, b, h2, ?_⟩
        rw [hu9]
        exact ⟨hV, hlk, hW, ⟨rfl, j2, j3, rfl, j5, rfl, j7, rfl, j9, j10, j11, j12, j13, j14⟩, hvr⟩
      · rw [d2] at h7
        rw [d1]
        exact Or.inl ⟨(12, z), _, rfl, (Option.some.inj h7).symm, d3⟩
theorem rd_cls2 (hT : BY T L) (hL : L ≤ 4096) (lf lp wp : Int32) (Sd0 In0 Nx0 Am0 Pl Ki Me Fi Ne Na Fn Ac Fd Ed Cf Cs kh kp ko kn : Nat → Int32) (lc sc cc kc : Int32) :
    (∃ e u, rdS T L = .inl e ∧ m_X4_read lf lp T Sd0 In0 Nx0 Am0 (nI L) wp Pl Ki Me Fi Ne Na Fn Ac Fd Ed lc sc Cf Cs cc kh kp ko kn kc = some (nI e.1, (nI e.1, nI e.2, u))) ∨ (∃ st u, rdS T L = .inr st ∧ m_X4_read lf lp T Sd0 In0 Nx0 Am0 (nI L) wp Pl Ki Me Fi Ne Na Fn Ac Fd Ed lc sc Cf Cs cc kh kp ko kn kc = some (lf, (lf, lp, u)) ∧ CLU u st) := by
  unfold m_X4_read rdS
  simp only [m_X6_clear, m_X11_clear, Option.bind_some]
  rcases read_eq (T := T) hL Sd0 In0 Nx0 Am0 wp kh kp ko kn kc with ⟨w, u, h1, h2, h3⟩ | ⟨p, u, h1, h2, h3, h4⟩
  · rw [h1, h2]
    obtain ⟨u1, u2, u3, u4, u5, u6, u7, u8, u9, u10⟩ := u
    have h3 : u5 = nI w := h3
    simp only [Option.bind_some, if_true, m_X7_wrongPlace, m_X4_refuse, h3]
    exact Or.inl ⟨_, _, rfl, rfl⟩
  · rw [h1, h2]
    obtain ⟨Sd, In, Nx, Am, u5, u6, u7, u8, u9, u10⟩ := u
    have h4 : TRE T L Sd In Nx Am 25 p := h4
    dsimp only
    simp only [Option.bind_some, if_neg (nI_m1 (show p < 2 ^ 31 by omega))]
    obtain ⟨n', l', b, K', F', N', S', I', X', Lt', So, Nm, Wi, Kd, Ma, Fa, kS, kN, kD, kX, Fir, g1, g2, g3, g4, g5, g6, y, g7⟩ := ref_run hT hL h1
    have hV := VV.mk (T := T) (B := T) rfl h4 g3 g4 g2 g5
    have hVb := hV.base
    have hr := r_look (T := T) (Sd := Sd) (In := In) (Nx := Nx) (Am := Am) (K := K') (F := F') (N := N') (S := S') (I := I') (X := X') (Lt := Lt') hL g1 16 18 0 rfl (by decide) 0 (-1) So Nm Wi Kd Ma Fa kS kN kD kX Fir _ _ _ _ p false st0 0 b (ri0 g6) wf0 hV
    have hc := c_look (T := T) (Sd := Sd) (In := In) (Nx := Nx) (Am := Am) (K := K') (F := F') (N := N') (S := S') (I := I') (X := X') (Lt := Lt') hL g1 16 18 0 rfl (by decide) lf lp Pl Ki Me Fi Ne Na Fn Ac Fd Ed _ _ Cf Cs _ p false st0 0 b ci0 wf0 hV (by show 0 + (b - p) ≤ 4096; omega)
    rw [bF] at hr hc
    simp only [nI_0] at hr hc
    rw [g7] at hr
    cases hlk : look T L 16 p false st0 with
    | inl e =>
      rw [hlk] at hc
      obtain ⟨u, hu⟩ := hc
      rw [hu]
      obtain ⟨v1, v2, v3, v4, v5, v6, v7, v8, v9, v10, v11, v12, v13, v14, v15⟩ := u
      simp only [Option.bind_some, if_true]
      exact Or.inl ⟨_, _, rfl, rfl⟩
    | inr st =>
      have hO := look_f (T := T) (Sd := Sd) (In := In) (Nx := Nx) (Am := Am) (K := K') (F := F') (N := N') (S := S') (I := I') (X := X') (Lt := Lt') hL g1 16 p false st0 st 0 b hV wf0 hlk
      have hfp := (look_p (T := T) (Sd := Sd) (In := In) (Nx := Nx) (Am := Am) (K := K') (F := F') (N := N') (S := S') (I := I') (X := X') (Lt := Lt') hL g1 16 p false st0 st 0 b hV wf0 hlk).1
      rw [hlk] at hr hc
      rcases hr with hu0 | ⟨v, ur, hu0, hP⟩
      · cases hu0
      obtain ⟨Pl2, Ki2, Me2, Fi2, Ne2, Na2, Fn2, Ac2, Fd2, Ed2, lc2, sc2, Cf2, Cs2, cc2, hu, hI3⟩ := hc
      rw [hu]
      obtain ⟨fl1, pp1, shI, lkI, So1, Nm1, Wi1, Kd1, Ma1, Fa1, kcI, kS1, kN1, kD1, kX1, dnI, Fi1⟩ := ur
      have hfv := fi_vv hP.1
      obtain ⟨k1, sh1, kc1, pl1, D1, fi1, G1⟩ := st
      have hCI := hI3
      obtain ⟨i1, i2, i3, i4, i5, i6, i7, i8, i9⟩ := hI3
      have hdl : (dul fi1).length ≤ 128 := by
        have hx : (dul fi1).length + 0 + 1 ≤ 0 + k1 := hfp.2.2.2.2.2.2.2.1
        omega
      have hck := chk_go hL i5 i4 i2 i7 (fun i hi => hO i (Nat.zero_le _) hi) i9 hdl hfv lf lp sr_fuel 0 (Nat.zero_le _) (by unfold sr_fuel; omega)
      rw [List.drop_zero, fdd_eq, nI_0] at hck
      simp only [Option.bind_some]
      rw [if_neg (show ¬ nI st0.1 = -1 from by show ¬ nI 0 = -1; decide)]
      unfold m_X4_checkDefaults
      rw [i3, i8, hck]
      cases hfd : fdf T L G1 fi1 with
      | none =>
        simp only [Option.bind_some]
        exact Or.inr ⟨_, _, rfl, rfl, ⟨i1, i2, rfl, i4, i5, i6, i7, rfl, i9⟩⟩
      | some z =>
        simp only [Option.bind_some]
        exact Or.inl ⟨_, _, rfl, rfl⟩
end RDC
