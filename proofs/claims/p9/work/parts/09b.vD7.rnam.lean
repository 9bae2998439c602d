-- the reference's definitions, objects, values
section RLOOK
variable {T : Nat → Int32} {L : Nat} {Sd In Nx Am K F S I X Lt : Nat → Int32} {N : Nat → Int64} {l : Nat}
theorem ri_nam {So Nm Wi Kd kS kN kD kX Fi : Nat → Int32} {k sh kc : Nat} {pl : List Nat} {D : List Nat → Option Nat} {fi : List (Nat × Nat × Option Nat)} {G : Nat → Nod} (h : RI T L Sd In Nx Am K F N S I X Lt l So Nm Wi Kd (nI sh) (nI k) (nI kc) kS kN kD kX (nI fi.length) Fi (k, sh, kc, pl, D, fi, G)) {s x : Nat} {v : Int32} {w : List Nat} (hs : s + 1 = k) (hsh : sh < 6 + k) (hG : G s = mkN 12 s 0 0 [] []) (hD : ∀ w d, D w = some d → d < s) (hx6 : 6 ≤ x) (hx : x ≤ 11) (hm : ∀ i, i < k → n_me (G i) = s → i = s) (hn : D w = none) (hv : RNm N S Lt l v w) : RI T L Sd In Nx Am K F N S I X Lt l (upd So sh (nI (srt x))) (upd (upd Nm sh (-1)) sh v) (upd Wi sh 0) (upd Kd sh (-1)) (nI (sh + 1)) (nI k) (nI kc) kS kN kD kX (nI fi.length) Fi (dfS w s x k sh kc pl D fi G) := by
  have h1 := h.shp (pl' := pl ++ (litN 21 ++ (qt w ++ (litN 22 ++ (litN (3 + x) ++ [34]))))) (x := x) hs hsh hG hD hx6 hx hm
  obtain ⟨i1, i2, i3, i4, i5, i6, i7, i8, i9, i10, i11, i12, i13, i14⟩ := h1
  exact ⟨i1, i2, i3, i4, i5, i6, i7, i8, i9, i10, h.2.2.2.2.2.2.2.2.2.2.1.nam h.2.1 hn (fun u i q => by have := hD u i q; rw [upG_n (by omega)]) (by rw [upG_s]; rfl) hv, i12, i13, i14⟩
theorem r_fix (hL : L ≤ 4096) (hl : l ≤ 4200) {f : FS} {fl pp : Int32} {s n p q : Nat} {So Nm Wi Kd Ma Fa kS kN kD kX Fi : Nat → Int32} {k sh kc : Nat} {pl : List Nat} {D : List Nat → Option Nat} {fi : List (Nat × Nat × Option Nat)} {G : Nat → Nod} (hI : RI T L Sd In Nx Am K F N S I X Lt l So Nm Wi Kd (nI sh) (nI k) (nI kc) kS kN kD kX (nI fi.length) Fi (k, sh, kc, pl, D, fi, G)) (hs : s < k) (hG : ∃ sg, G s = mkN 8 s sg 0 [] []) (hv : VV T L Sd In Nx Am K F N S I X Lt l n p q) (hc : cb T L p = 123) :
    RX ((m_X9_member K N S I X Lt (nI n) 57).bind fun r16 => (if r16 < 0 then m_X9_named_225 f K F N S I X Lt fl pp (nI sh) (nI k) So Nm Wi Kd Ma Fa (nI kc) kS kN kD kX (nI fi.length) Fi (nI n) (nI (n_sg (G s))) r16 0 else m_X9_named_225 f K F N S I X Lt fl pp (nI sh) (nI k) So Nm Wi Kd Ma Fa (nI kc) kS kN kD kX (nI fi.length) Fi (nI n) (nI (n_sg (G s))) r16 1)) (PO T L Sd In Nx Am K F N S I X Lt l s kc kN kD) (lfx T L s p (k, sh, kc, pl, D, fi, G)) := by
  have hb := hv.base
  obtain ⟨sg, hG⟩ := hG
  have hm : n_me (G s) = s := by rw [hG]; rfl
  have hk : n_kd (G s) = 8 := by rw [hG]; rfl
  obtain ⟨g1, g2, g3, g4, _⟩ := hI.sg hs hm (by omega) (by omega)
  simp only [lfx]
  have em := mbr_r hl hv hc (w := 57) (by decide) hL
  rw [lit_r.2.2.2.2.1] at em
  simp only [m_X9_named_225, m_X9_named_278, m_X9_named_279, bd_go (show n < 4200 by omega) (by decide), bd_gc (show n < 4200 by omega) (by decide), nI_clamp (show n < 2 ^ 31 by omega), hb.2.2.2]
  rcases em with ⟨e, em⟩ | ⟨v, c, b, e, em, z1⟩
  · rw [e, em]
    simp only [Option.bind_some, if_pos (show (-1 : Int32) < 0 by decide)]
    rw [nd0, trE]
    exact Or.inr ⟨_, rfl⟩
  rw [e, em]
  have hzb := z1.base
  have hkk := z1.kk.2.2.2
  simp only [Option.bind_some, if_neg (nI_pos (show c < 2 ^ 31 by omega))]
  rw [nd1, trO]
  simp only [bd_go (show c < 4200 by omega) (by decide), bd_gc (show c < 4200 by omega) (by decide), nI_clamp (show c < 2 ^ 31 by omega), hzb.2.2.2]
  by_cases cn : cb T L v = 45 ∨ (48 ≤ cb T L v ∧ cb T L v ≤ 57)
  rotate_left
  · rw [if_neg (fun z => cn (hkk.mp z)), if_neg cn, nd0, trE]
    exact Or.inr ⟨_, rfl⟩
  rw [if_pos (hkk.mpr cn), if_pos cn, (z1.num cn).1]
  cases hz : lsz (snv T L v) with
  | none =>
    rcases lsz_n hz with q | q
    · rw [if_pos q, nd0, trE]
      exact Or.inr ⟨_, rfl⟩
    · by_cases q2 : lg_cmp (snv T L v) 0 < 0
      · rw [if_pos q2, nd0, trE]
        exact Or.inr ⟨_, rfl⟩
      · rw [if_neg q2, if_pos (Int32.not_le.mp q), nd0, trE]
        exact Or.inr ⟨_, rfl⟩
  | some w =>
    obtain ⟨w1, w2⟩ := lsz_of hz
    obtain ⟨l1, l2, l3, l4⟩ := lN_clamp w w2
    rw [w1, if_neg l3, if_neg (Int32.not_lt.mpr l4), nd1, trO, l2]
    simp only [bd_go g1 (by decide), bd_gc g1 (by decide), nI_clamp (show n_sg (G s) < 2 ^ 31 by omega)]
    obtain ⟨i1, i2, i3, i4, i5, i6, i7, i8, i9, i10, i11, i12, i13, i14⟩ := hI
    have e1 : ∀ {β : Type} (h : Nod → β), h (mkN 8 s (n_sg (G s)) w [] []) = h (G s) → ∀ i, h (upG G s (mkN 8 s (n_sg (G s)) w [] []) i) = h (G i) := fun h hh i => by
      by_cases q : i = s
      · rw [q, upG_s]; exact hh
      · rw [upG_n q]
    have es : n_sg (mkN 8 s (n_sg (G s)) w [] []) = n_sg (G s) := rfl
    refine Or.inr ⟨_, _, rfl, ⟨rfl, i2, i3, rfl, i5, rfl, i7, rfl, i9, i10, i11.cg (fun _ i _ => e1 n_sg es i), i12.wid i13 hs hm hk (by rw [hG]; rfl) (by rw [hG]; rfl) (by rw [hG]; rfl) (by rw [hG]; rfl), i13.cg (fun i _ => ⟨e1 n_kd hk.symm i, e1 n_me hm.symm i, e1 n_sg es i, e1 n_kl (by rw [hG]; rfl) i⟩), i14.fr (by rw [hG]; rfl)⟩, ?_, fun _ _ => ⟨rfl, rfl⟩⟩
    show nI (n_sg (G s)) = nI (n_sg (upG G s (mkN 8 s (n_sg (G s)) w [] []) s))
    rw [upG_s]
    rfl
theorem r_nam (hL : L ≤ 4096) (hl : l ≤ 4200) {f : FS} {g : Nat → Bool → LSt → LRs} {d : Nat} (hf : okRe T L Sd In Nx Am K F N S I X Lt l f (d + 1) g) (hg : okSp T L Sd In Nx Am K F N S I X Lt l g) {fl pp : Int32} {s n p q tn tv tb kk : Nat} (hkk : kk = 8 ∨ kk = 9 ∨ kk = 10) {So Nm Wi Kd Ma Fa kS kN kD kX Fi : Nat → Int32} {k sh kc : Nat} {pl : List Nat} {D : List Nat → Option Nat} {fi : List (Nat × Nat × Option Nat)} {G : Nat → Nod} (hI : RI T L Sd In Nx Am K F N S I X Lt l So Nm Wi Kd (nI sh) (nI k) (nI kc) kS kN kD kX (nI fi.length) Fi (k, sh, kc, pl, D, fi, G)) (hs : s + 1 = k) (hsh : sh < 6 + k) (hG : G s = mkN 12 s 0 0 [] []) (hD : ∀ w d, D w = some d → d < s) (hm : ∀ i, i < k → n_me (G i) = s → i = s) (hw : WFs (k, sh, kc, pl, D, fi, G)) (hv : VV T L Sd In Nx Am K F N S I X Lt l n p q) (hc : cb T L p = 123) (ht : VV T L Sd In Nx Am K F N S I X Lt l tn tv tb) (ht34 : cb T L tv = 34) (hts : ts T L tv = litN (3 + kk)) :
    RX (m_X9_named f fl pp K F N S I X Lt (nI sh) (nI k) So Nm Wi Kd Ma Fa (nI kc) kS kN kD kX (nI fi.length) Fi (nI n) (nI tn) (nI d)) (PO T L Sd In Nx Am K F N S I X Lt l s kc kN kD) (ldf T L g s p kk (k, sh, kc, pl, D, fi, G)) := by
  have hb := hv.base
  have htb := ht.base
  obtain ⟨st0, p1, p2, p3, p4, p5, p6⟩ := ht.str ht34
  rw [p2] at hts
  subst hts
  have htk := ht.kk.1.mpr ht34
  have i2 := hI.2.1
  have i3 := hI.2.2.1
  have i5 := hI.2.2.2.2.1
  have i11 := hI.2.2.2.2.2.2.2.2.2.2.1
  unfold m_X9_named
  have em := mbr_r hl hv hc (w := 56) (by decide) hL
  rw [lit_r.2.2.2.1] at em
  simp only [ldf, m_X9_named_30, m_X9_named_31, m_X9_named_128, m_X9_named_129, bd_go (show n < 4200 by omega) (by decide), bd_gc (show n < 4200 by omega) (by decide), nI_clamp (show n < 2 ^ 31 by omega), hb.2.2.2]
  rcases em with ⟨e, em⟩ | ⟨v, c, b, e, em, z1⟩
  · rw [e, em]
    simp only [Option.bind_some, if_pos (show (-1 : Int32) < 0 by decide)]
    rw [nd0, trE]
    exact Or.inr ⟨_, rfl⟩
  rw [e, em]
  have hzb := z1.base
  have hzk := z1.kk.1
  simp only [Option.bind_some, if_neg (nI_pos (show c < 2 ^ 31 by omega)), bd_go (show c < 4200 by omega) (by decide), bd_gc (show c < 4200 by omega) (by decide), nI_clamp (show c < 2 ^ 31 by omega), hzb.2.2.2]
  by_cases c34 : cb T L v = 34
  rotate_left
  · rw [if_neg (fun z => c34 (hzk.mp z)), if_neg c34, nd0, trE]
    exact Or.inr ⟨_, rfl⟩
  have hzk2 := hzk.mpr c34
  rw [if_pos hzk2, if_pos c34, nd1, trO]
  obtain ⟨s0, y1, y2, y3, y4, y5, y6⟩ := z1.str c34
  rw [y2]
  have isq : ∀ {w : Nat}, w < 75 → m_X9_is K N S Lt (nI c) w = some (if s0 = litN w then 1 else 0) := fun hw => isr_eq hl hzb.2.2.1 hzk2 y4 y6 hw
  have ist : ∀ {w : Nat}, w < 75 → m_X9_is K N S Lt (nI tn) w = some (if litN (3 + kk) = litN w then 1 else 0) := fun hw => isr_eq hl htb.2.2.1 htk p4 p6 hw
  have bad : ∀ r : LRs, r = .inl (9, v) → RX (mr_try (m_X9_need fl pp 0 9 (nI v)) (fun r6 (x : Int32 × Int32) => ((m_X9_is K N S Lt (nI tn) 53).bind fun r7 => (if r7 = 0 then ((m_X9_is K N S Lt (nI tn) 54).bind fun r31 => (if r31 = 0 then m_X9_named_179 f K F N S I X Lt x.1 x.2 (nI sh) (nI k) So Nm Wi Kd Ma Fa (nI kc) kS kN kD kX (nI fi.length) Fi (nI n) (nI d) (nI c) 11 else m_X9_named_179 f K F N S I X Lt x.1 x.2 (nI sh) (nI k) So Nm Wi Kd Ma Fa (nI kc) kS kN kD kX (nI fi.length) Fi (nI n) (nI d) (nI c) 10)) else m_X9_named_179 f K F N S I X Lt x.1 x.2 (nI sh) (nI k) So Nm Wi Kd Ma Fa (nI kc) kS kN kD kX (nI fi.length) Fi (nI n) (nI d) (nI c) 9))) (fun x : Int32 × Int32 => (x.1, x.2, nI sh, nI k, So, Nm, Wi, Kd, Ma, Fa, nI kc, kS, kN, kD, kX, nI fi.length, Fi))) (PO T L Sd In Nx Am K F N S I X Lt l s kc kN kD) r := by
    intro r hr
    rw [hr, nd0, trE]
    exact Or.inr ⟨_, rfl⟩
  rcases inm_eq hl hzb.2.2.1 hzk2 y4 y6 with ⟨n1, n2⟩ | ⟨n1, n2⟩
  rotate_left
  · rw [n2]
    simp only [Option.bind_some, if_true]
    exact bad _ (by rw [dec_f (fun z => n1 z.1), bF])
  rw [n2, word_eq hl hzb.2.2.1 hzk2 y4 y6, dfn_r hl i11 i2 (by omega) hzb.2.2.1 y4 y6]
  simp only [Option.bind_some, if_neg (show ¬ (1 : Int32) = 0 by decide)]
  have kl := kw_lit
  rcases kw6_of s0 with ⟨k6, k1, k2, k3⟩ | ⟨k1, k2⟩
  · rw [k3, if_pos (nI_pos' (show k6 < 2 ^ 31 by omega))]
    exact bad _ (by rw [dec_f (fun z => by have := z.2.1; rw [k2] at this; exact nI_m1 (show k6 < 2 ^ 31 by omega) this), bF])
  rw [k1, if_neg (show ¬ (0 : Int32) ≤ -1 by decide), isq (w := 49) (by decide), isq (w := 50) (by decide), isq (w := 53) (by decide), isq (w := 54) (by decide), isq (w := 55) (by decide)]
  simp only [Option.bind_some, lit_r.2.2.2.2.2.2.2.2.1, lit_r.2.2.2.2.2.2.2.2.2.1, lit_r.2.2.2.2.2.2.2.2.2.2.1, lit_r.2.2.2.2.2.2.2.2.2.2.2.1, lit_r.2.2.2.2.2.2.2.2.2.2.2.2]
  have nope : ∀ j, s0 = litN j → kw (litN j) ≠ -1 → dec (isNm s0 ∧ kw s0 = -1 ∧ D s0 = none) = false := fun j h1 h2 => dec_f (fun z => h2 (by rw [← h1]; exact z.2.1))
  by_cases e9 : s0 = litN 9
  · rw [if_pos e9, I10]
    exact bad _ (by rw [nope 9 e9 (by rw [kl.2.2.2.2.2.2.1]; decide), bF])
  rw [if_neg e9, I00]
  by_cases e10 : s0 = litN 10
  · rw [if_pos e10, I10]
    exact bad _ (by rw [nope 10 e10 (by rw [kl.2.2.2.2.2.2.2.1]; decide), bF])
  rw [if_neg e10, I00]
  by_cases e11 : s0 = litN 11
  · rw [if_pos e11, I10]
    exact bad _ (by rw [nope 11 e11 (by rw [kl.2.2.2.2.2.2.2.2.1]; decide), bF])
  rw [if_neg e11, I00]
  by_cases e12 : s0 = litN 12
  · rw [if_pos e12, I10]
    exact bad _ (by rw [nope 12 e12 (by rw [kl.2.2.2.2.2.2.2.2.2.1]; decide), bF])
  rw [if_neg e12, I00]
  by_cases e13 : s0 = litN 13
  · rw [if_pos e13, I10]
    exact bad _ (by rw [nope 13 e13 (by rw [kl.2.2.2.2.2.2.2.2.2.2]; decide), bF])
  rw [if_neg e13, I00]
  have ck : kw s0 = -1 := by
    rcases k2 with z | ⟨k', a1, a2, a3, a4⟩
    · exact z
    · have : k' = 6 ∨ k' = 7 ∨ k' = 8 ∨ k' = 9 ∨ k' = 10 := by omega
      rcases this with z | z | z | z | z <;> (subst z; first | exact absurd a4 e9 | exact absurd a4 e10 | exact absurd a4 e11 | exact absurd a4 e12 | exact absurd a4 e13)
  cases hd : D s0 with
  | some d0 =>
    have hsg := (i11.2 s0 d0 hd).2.1
    dsimp only
    rw [if_pos (nI_pos' (show n_sg (G d0) < 2 ^ 31 by omega))]
    exact bad _ (by rw [dec_f (fun z => by have := z.2.2; cases this), bF])
  | none =>
    dsimp only
    rw [if_neg (show ¬ (0 : Int32) ≤ -1 by decide), nd1, trO, dec_t (show isNm s0 ∧ kw s0 = -1 ∧ (none : Option Nat) = none from ⟨n1, ck, rfl⟩), bT, ist (w := 53) (by decide), ist (w := 54) (by decide)]
    simp only [Option.bind_some, lit_r.2.2.2.2.2.2.2.2.2.2.1, lit_r.2.2.2.2.2.2.2.2.2.2.2.1]
    have hI1 := ri_nam (v := nI c) (w := s0) hI (x := kk) hs hsh hG hD (by omega) (by omega) hm hd ⟨c, rfl, hzb.2.2.1, y4, y6⟩
    have hw1 : WFs (dfS s0 s kk k sh kc pl D fi G) := by
      refine ⟨fun w d0 hdd => ?_, hw.2⟩
      have hdd : (if w = s0 then some s else D w) = some d0 := hdd
      by_cases ew : w = s0
      · rw [if_pos ew] at hdd
        have e := Option.some.inj hdd
        subst e
        rw [upG_s]
        exact ⟨by omega, rfl, show 8 ≤ kk by omega, show kk ≤ 10 by omega⟩
      · rw [if_neg ew] at hdd
        have := hD w d0 hdd
        rw [upG_n (by omega)]
        exact hw.1 w d0 hdd
    have h140 : sh < 140 := by omega
    have esg : n_sg (upG G s (mkN kk s sh 0 [] []) s) = sh := by rw [upG_s]; rfl
    have n179 : ∀ y0, y0 = nI (srt kk) → RX (m_X9_named_179 f K F N S I X Lt fl pp (nI sh) (nI k) So Nm Wi Kd Ma Fa (nI kc) kS kN kD kX (nI fi.length) Fi (nI n) (nI d) (nI c) y0) (PO T L Sd In Nx Am K F N S I X Lt l s kc kN kD) (if kk = 8 then lfx T L s p (dfS s0 s kk k sh kc pl D fi G) else if kk = 9 then len T L s p (dfS s0 s kk k sh kc pl D fi G) else lrc T L g s p (dfS s0 s kk k sh kc pl D fi G)) := by
      intro y0 hy0
      subst hy0
      unfold m_X9_named_179
      rw [shp_eq h140]
      simp only [Option.bind_some, bd_go h140 (by decide), bd_gc h140 (by decide), nI_clamp (show sh < 2 ^ 31 by omega), pk_us]
      by_cases k8 : kk = 8
      · subst k8
        rw [if_pos (show nI (srt 8) = 9 by decide), if_pos rfl]
        have := r_fix hL hl (f := f) (fl := fl) (pp := pp) (Ma := upd Ma sh 0) (Fa := upd Fa sh (-1)) hI1 (s := s) (by omega) ⟨sh, upG_s⟩ hv hc
        rw [esg] at this
        exact this
      by_cases k9 : kk = 9
      · subst k9
        rw [if_neg (show ¬ nI (srt 9) = 9 by decide), if_pos (show nI (srt 9) = 10 by decide), if_neg (by decide), if_pos rfl]
        have hsy := r_sym hL hl (fl := fl) (pp := pp) (Ma := upd Ma sh 0) (Fa := upd Fa sh (-1)) hI1 (s := s) (by omega) ⟨sh, upG_s⟩ hv hc
        rw [esg] at hsy
        have hsy : RXY (m_X9_symbols fl pp K F N S I X Lt (upd Kd sh (-1)) (upd Ma sh 0) (upd Fa sh (-1)) (nI kc) kS kN kD kX (nI sh) (nI n)) _ (len T L s p (dfS s0 s 9 k sh kc pl D fi G)) := hsy
        cases hr : len T L s p (dfS s0 s 9 k sh kc pl D fi G) with
        | inl e =>
          rw [hr] at hsy
          rcases hsy with hu | ⟨u, hu⟩
          · rw [hu, trN]; exact RX.no
          · rw [hu, trE]
            obtain ⟨u1, u2, u3, u4, u5, u6, u7, u8⟩ := u
            exact Or.inr ⟨_, rfl⟩
        | inr st' =>
          have hpu := (len_p hL hl (show s < k by omega) (by rw [upG_s]; rfl) hw1 hv hc hr).1
          rw [hr] at hsy
          rcases hsy with hu | ⟨u, hu, hP⟩
          · rw [hu, trN]; exact RX.no
          · rw [hu, trO]
            obtain ⟨u1, u2, u3, u4, u5, u6, u7, u8, u9, u10⟩ := u
            obtain ⟨k1, sh1, kc1, pl1, D1, fi1, G1⟩ := st'
            have e12 : n_sg (G1 s) = n_sg (upG G s (mkN 9 s sh 0 [] []) s) := hpu.2.2.2.2.2.2.2.2.2.2.2.1
            rw [esg] at e12
            exact Or.inr ⟨_, _, rfl, hP.1, by show nI sh = nI (n_sg (G1 s)); rw [e12], hP.2⟩
      have k10 : kk = 10 := by omega
      subst k10
      rw [if_neg (show ¬ nI (srt 10) = 9 by decide), if_neg (show ¬ nI (srt 10) = 10 by decide), if_neg (by decide), if_neg (by decide)]
      have hrc := r_rec hL hl hf hg (fl := fl) (pp := pp) (Ma := upd Ma sh 0) (Fa := upd Fa sh (-1)) hI1 hw1 (s := s) (by omega) ⟨sh, upG_s⟩ hv hc
      rw [esg] at hrc
      have hrc : RXU (m_X9_fields f fl pp K F N S I X Lt (nI (sh + 1)) (nI k) (upd So sh (nI (srt 10))) (upd (upd Nm sh (-1)) sh (nI c)) (upd Wi sh 0) (upd Kd sh (-1)) (upd Ma sh 0) (upd Fa sh (-1)) (nI kc) kS kN kD kX (nI fi.length) Fi (nI sh) (nI n) (nI d)) _ (lrc T L g s p (dfS s0 s 10 k sh kc pl D fi G)) := hrc
      cases hr : lrc T L g s p (dfS s0 s 10 k sh kc pl D fi G) with
      | inl e =>
        rw [hr] at hrc
        rcases hrc with hu | ⟨u, hu⟩
        · rw [hu, trN]; exact RX.no
        · rw [hu, trE]
          obtain ⟨u1, u2, u3, u4, u5, u6, u7, u8, u9, u10, u11, u12, u13, u14, u15⟩ := u
          exact Or.inr ⟨_, rfl⟩
      | inr st' =>
        have hpu := (lrc_p hL hl hg (show s < k by omega) hw1 hv hc hr).1
        rw [hr] at hrc
        rcases hrc with hu | ⟨u, hu, hP⟩
        · rw [hu, trN]; exact RX.no
        · rw [hu, trO]
          obtain ⟨u1, u2, u3, u4, u5, u6, u7, u8, u9, u10, u11, u12, u13, u14, u15, u16, u17⟩ := u
          obtain ⟨k1, sh1, kc1, pl1, D1, fi1, G1⟩ := st'
          have e12 : n_sg (G1 s) = n_sg (upG G s (mkN 10 s sh 0 [] []) s) := hpu.2.2.2.2.2.2.2.2.2.2.2.1
          rw [esg] at e12
          exact Or.inr ⟨_, _, rfl, hP.1, by show nI sh = nI (n_sg (G1 s)); rw [e12], hP.2⟩
    have efin : (if kk = 8 then lfx T L s p (k, sh + 1, kc, pl ++ (litN 21 ++ (qt s0 ++ (litN 22 ++ (litN (3 + kk) ++ [34])))), (fun u => if u = s0 then some s else D u), fi, upG G s (mkN kk s sh 0 [] [])) else if kk = 9 then len T L s p (k, sh + 1, kc, pl ++ (litN 21 ++ (qt s0 ++ (litN 22 ++ (litN (3 + kk) ++ [34])))), (fun u => if u = s0 then some s else D u), fi, upG G s (mkN kk s sh 0 [] [])) else lrc T L g s p (k, sh + 1, kc, pl ++ (litN 21 ++ (qt s0 ++ (litN 22 ++ (litN (3 + kk) ++ [34])))), (fun u => if u = s0 then some s else D u), fi, upG G s (mkN kk s sh 0 [] []))) = (if kk = 8 then lfx T L s p (dfS s0 s kk k sh kc pl D fi G) else if kk = 9 then len T L s p (dfS s0 s kk k sh kc pl D fi G) else lrc T L g s p (dfS s0 s kk k sh kc pl D fi G)) := rfl
    rw [efin]
    by_cases k8 : kk = 8
    · rw [if_pos (show litN (3 + kk) = litN 11 by rw [k8]), I10]
      exact n179 9 (by rw [k8]; rfl)
    rw [if_neg (show ¬ litN (3 + kk) = litN 11 by have : kk = 9 ∨ kk = 10 := by omega
                                                  rcases this with z | z <;> (subst z; decide)), I00]
    by_cases k9 : kk = 9
    · rw [if_pos (show litN (3 + kk) = litN 12 by rw [k9]), I10]
      exact n179 10 (by rw [k9]; rfl)
    have k10 : kk = 10 := by omega
    rw [if_neg (show ¬ litN (3 + kk) = litN 12 by subst k10; decide), I00]
    exact n179 11 (by rw [k10]; rfl)
end RLOOK
