-- the reference's schemas
theorem arr_ok {K F S I X Lt : Nat → Int32} {N : Nat → Int64} {n l : Nat} {fs : FS} {d h : Nat} (hfs : okS K F N S I X Lt n l fs (d + 1) h) {hv x m p q len sh lk kc dn : Nat} {So Na Wi Ki Ma Fa kS kN kD kX Fi : Nat → Int32} {fl pl br y : Int32} (hhv : hv ≤ 24) (hm : m ≤ n) (hV : Val K F N S I X l hv x m p q) (hy : y = 6 ∨ y = 7) (hlen : (if y = 6 then 25 else 24) + (q - p) ≤ len) (hpre : preS (strN K N S n l) (valN K F N S I X n l) sh lk kc dn So Na kD Fi kS) (hlk : sh < 6 + lk) (hbud : 2 * kc + len ≤ 4100) :
    RES (fun g => m_X9_schemaOf_305 fs (ov n K (g.1 0)) (ov n F (g.1 1)) (ov n N g.2) (ov n S (g.1 2)) (ov n I (g.1 3)) (ov n X (g.1 4)) (ov l Lt (g.1 5)) fl pl (nI sh) (nI lk) (ov sh So (g.1 7)) (ov sh Na (g.1 8)) (ow sh Wi (g.1 9)) (ov sh Ki (g.1 10)) (ow sh Ma (g.1 11)) (ow sh Fa (g.1 12)) (nI kc) (ov kc kS (g.1 13)) (ov kc kN (g.1 14)) (ov kc kD (g.1 15)) (ov kc kX (g.1 16)) (nI dn) (ov dn Fi (g.1 17)) (nI d) (nI x) y) fpC (postS (strN K N S n l) (valN K F N S I X n l) (h + 1) len sh kc dn So Na Wi Ki kS kN kD kX Fi br fl pl) := by
  obtain ⟨p1, p2, p3, p4, p5, p6, p7⟩ := hpre
  have h24 : 24 + (q - p) ≤ len := by
    by_cases q : y = 6
    · rw [if_pos q] at hlen; omega
    · rw [if_neg q] at hlen; omega
  simp only [m_X9_schemaOf_305, shape_eq p1 (show sh < 140 by omega), Option.bind_some, addKid_0 p1 (show sh < sh + 1 by omega) (show sh + 1 ≤ 140 by omega) (show kc < 2200 by omega), nI_1]
  refine RES.try (hfs hv x m p q (sh + 1) lk (kc + 1) dn (upd So sh y) (upd Na sh (-1)) (upd Wi sh 0) (upd (upd Ki sh (-1)) sh (nI kc)) (upd (upd Ma sh 0) sh ((upd Ma sh 0) sh + 1)) (upd Fa sh (-1)) (upd kS kc (-1)) (upd kN kc (-1)) (upd kD kc (-1)) (upd kX kc (-1)) Fi fl pl 0 hhv hm hV ⟨by omega, by omega, p3, by omega, shOK_push p1 p5 (Or.inl ⟨hy.imp id Or.inl, rfl⟩), fun j hj => ?_, fun j hj => ?_⟩ (by omega) (Or.inl rfl)) ?_ (fun g u => rfl)
  · by_cases hjk : j = kc
    · subst hjk; exact Or.inl pk_us
    · rw [pk_un hjk]; exact p6 j (by omega)
  · obtain ⟨x, y, x1, x2, x3, x4⟩ := p7 j hj
    exact ⟨x, y, by omega, x2, by rw [pk_un (by omega)]; exact x3, by omega⟩
  rintro _ _ ⟨s, sh', lk', kc', dn', w, So', Na', Wi', Ki', Ma', Fa', kS', kN', kD', kX', Fi', rfl, rfl, r1, r2, r3, r4, r5, ⟨p1', p2', p3', p4', p5', p6', p7'⟩, r7, hocc, hw, -⟩
  dsimp only
  simp only [bd_go (show kc < 2200 by omega) (by decide), bd_gc (show kc < 2200 by omega) (by decide), nI_clamp (show kc < 2 ^ 31 by omega), ov_up (show kc < kc' by omega)]
  obtain ⟨e1, e2, e3, e4⟩ := r7.1 sh (Nat.lt_succ_self sh)
  obtain ⟨k1, k2, k3, k4⟩ := r7.2.1 kc (Nat.lt_succ_self kc)
  rw [pk_us] at e1 e2 e3 e4 k1 k2 k3 k4
  refine RES.ok ⟨sh, sh', lk', kc', dn', (if So' sh = 6 then 25 else 24) + w, So', Na', Wi', Ki', Ma', Fa', upd kS' kc (nI s), kN', kD', kX', Fi', rfl, rfl, by omega, by omega, r3, by omega, by omega, ⟨p1', p2', p3', p4', p5', p6', fun j hj => by
    obtain ⟨x, y, x1, x2, x3, x4⟩ := p7' j hj
    by_cases hxk : x = kc
    · exact ⟨x, s, x1, x2, by rw [hxk]; exact pk_us, hocc.lt (by omega)⟩
    · exact ⟨x, y, x1, x2, by rw [pk_un hxk]; exact x3, x4⟩⟩, ⟨fun i hi => ?_, fun i hi => ?_, fun i hi => r7.2.2 i hi⟩, Or.inr ⟨rfl, by omega, Or.inl ⟨by rw [← e1]; exact hy, s, w, e4.symm, k4.symm, by omega, pk_us, ?_, rfl⟩⟩, ?_, fun _ => ?_⟩
  · obtain ⟨a1, a2, a3, a4⟩ := r7.1 i (by omega)
    rw [pk_un (by omega)] at a1 a2 a3 a4
    rw [pk_un (by omega)] at a4
    exact ⟨a1, a2, a3, a4⟩
  · obtain ⟨a1, a2, a3, a4⟩ := r7.2.1 i (by omega)
    rw [pk_un (by omega)] at a1 a2 a3 a4
    exact ⟨by rw [pk_un (by omega)]; exact a1, a2, a3, a4⟩
  · exact Occ.keep h _ _ _ _ _ _ (by omega) hocc (fun _ _ => ⟨rfl, rfl⟩) (fun _ _ _ => ⟨rfl, rfl⟩) (fun i i1 i2 => ⟨by rw [pk_un (by omega)], rfl, rfl⟩)
  · rw [← e1]; omega
  · rw [← e1]
    rcases hy with rfl | rfl <;> decide
theorem sch_ok {K F S I X Lt : Nat → Int32} {N : Nat → Int64} {n l : Nat} (hn : n ≤ 4200) (hl : l ≤ 4200) : ∀ (D d : Nat), d ≤ 16 → 16 - d < D → okS K F N S I X Lt n l (m_X9_schemaOf D) d (16 - d) := by
  intro D
  induction D with
  | zero => intro d _ hf; exact absurd hf (Nat.not_lt_zero _)
  | succ D ih =>
    intro d hd hf hv v m p q sh lk kc dn So Na Wi Ki Ma Fa kS kN kD kX Fi fl pl br hhv hm hV hpre hbud hbr
    have hvn : v < n := Nat.lt_of_lt_of_le hV.basic.1 hm
    have hFv := hV.basic.2.2
    obtain ⟨p1, p2, p3, p4, p5, p6, p7⟩ := hpre
    by_cases h128 : 128 ≤ lk
    · simp only [m_X9_schemaOf, if_pos (show (128 : Int32) ≤ nI lk from nI_le (a := 128) h128 (by omega)), m_X9_schemaOf_16, bd_go (show v < 4200 by omega) (by decide), bd_gc (show v < 4200 by omega) (by decide), nI_clamp (show v < 2 ^ 31 by omega), ov_lt hvn, hFv, need_0, try_e]
      exact RES.er (fun g => rfl)
    by_cases h16 : 16 ≤ d
    · simp only [m_X9_schemaOf, if_neg (show ¬ (128 : Int32) ≤ nI lk from nI_ge (b := 128) (by omega) (by omega)), m_X9_schemaOf_16, bd_go (show v < 4200 by omega) (by decide), bd_gc (show v < 4200 by omega) (by decide), nI_clamp (show v < 2 ^ 31 by omega), need_1, try_o, if_pos (show (16 : Int32) ≤ nI d from nI_le (a := 16) h16 (by omega)), m_X9_schemaOf_49, ov_lt hvn, hFv, need_0, try_e]
      exact RES.er (fun g => rfl)
    have hfs := ih (d + 1) (by omega) (by omega)
    have hh : 16 - d = 16 - (d + 1) + 1 := by omega
    rw [hh]
    generalize 16 - (d + 1) = h at hfs
    have hpre : preS (strN K N S n l) (valN K F N S I X n l) sh (lk + 1) kc dn So Na kD Fi kS := ⟨p1, by omega, by omega, p4, p5, p6, p7⟩
    have hNa : ∀ s, 6 ≤ s → s < sh → Na s = -1 ∨ ∃ y sy, Na s = nI y ∧ strN K N S n l y sy := fun s s6 hs => by
      rcases p5.2 s s6 hs with ⟨-, q⟩ | ⟨-, x, sz, q1, q2⟩
      · exact Or.inl q
      · exact Or.inr ⟨x, sz, q1, q2⟩
    have hword : ∀ (x j pp qq : Nat), StrIs K N S Lt n l x (42 + j) → j < 6 → (∃ sz, strN K N S n l x sz ∧ pp + sz + 2 ≤ qq) → p ≤ pp → qq ≤ q → p + 2 ≤ q → RES (fun g => some (Except.ok (nI j, ((fl, pl, nI sh, nI (lk + 1), ov sh So (g.1 7), ov sh Na (g.1 8), ow sh Wi (g.1 9), ov sh Ki (g.1 10), ow sh Ma (g.1 11), ow sh Fa (g.1 12), nI kc, ov kc kS (g.1 13), ov kc kN (g.1 14), ov kc kD (g.1 15), ov kc kX (g.1 16), nI dn, ov dn Fi (g.1 17)) : TS)))) fpC (postS (strN K N S n l) (valN K F N S I X n l) (h + 1) (q - p) sh kc dn So Na Wi Ki kS kN kD kX Fi br fl pl) := by
      rintro x j pp qq hst hj ⟨sz, hsz, hb⟩ hp1 hq1 hpq
      have hlw := len_lt (42 + j) (by omega)
      have : sz = lenS.getD (42 + j) 0 := by
        obtain ⟨-, -, z1, st, -, z2⟩ := hsz
        exact (nI_eq (by omega) (by omega)).mp (z1.symm.trans hst.2.2.1)
      refine RES.ok ⟨j, sh, lk + 1, kc, dn, wl j, So, Na, Wi, Ki, Ma, Fa, kS, kN, kD, kX, Fi, rfl, rfl, Nat.le_refl _, Nat.le_refl _, Nat.le_refl _, by omega, by omega, hpre, ⟨fun _ _ => ⟨rfl, rfl, rfl, rfl⟩, fun _ _ => ⟨rfl, rfl, rfl, rfl⟩, fun _ _ => rfl⟩, Or.inl ⟨rfl, Or.inl ⟨hj, rfl⟩⟩, by unfold wl; omega, fun _ => ?_⟩
      rw [p5.1 j hj]
      have : ∀ j, j < 6 → nI j ≠ 8 := by decide
      exact this j hj
    have href : ∀ (x s y sz pp qq : Nat), 6 ≤ s → s < sh → Na s = nI y → strN K N S n l y sz → strN K N S n l x sz → pp + sz + 2 ≤ qq → p ≤ pp → qq ≤ q → RES (fun g => some (Except.ok (nI s, ((fl, pl, nI sh, nI (lk + 1), ov sh So (g.1 7), ov sh Na (g.1 8), ow sh Wi (g.1 9), ov sh Ki (g.1 10), ow sh Ma (g.1 11), ow sh Fa (g.1 12), nI kc, ov kc kS (g.1 13), ov kc kN (g.1 14), ov kc kD (g.1 15), ov kc kX (g.1 16), nI dn, ov dn Fi (g.1 17)) : TS)))) fpC (postS (strN K N S n l) (valN K F N S I X n l) (h + 1) (q - p) sh kc dn So Na Wi Ki kS kN kD kX Fi br fl pl) := by
      intro x s y sz pp qq h6 hs hna hy hx hb hp1 hq1
      rcases p5.2 s h6 hs with ⟨-, e⟩ | ⟨hso, -⟩
      · rw [hna] at e
        have hyn := hy.1
        have : ¬ nI y < 0 := nI_pos (by omega)
        rw [e] at this
        exact absurd (by decide) this
      · refine RES.ok ⟨s, sh, lk + 1, kc, dn, sz + 2, So, Na, Wi, Ki, Ma, Fa, kS, kN, kD, kX, Fi, rfl, rfl, Nat.le_refl _, Nat.le_refl _, Nat.le_refl _, by omega, by omega, hpre, ⟨fun _ _ => ⟨rfl, rfl, rfl, rfl⟩, fun _ _ => ⟨rfl, rfl, rfl, rfl⟩, fun _ _ => rfl⟩, Or.inl ⟨rfl, Or.inr ⟨h6, hs, hso, y, sz, hna, hy, rfl⟩⟩, by omega, fun _ => ?_⟩
        rcases hso with e | e | e <;> rw [e] <;> decide
    simp only [m_X9_schemaOf, if_neg (show ¬ (128 : Int32) ≤ nI lk from nI_ge (b := 128) (by omega) (by omega)), m_X9_schemaOf_16, bd_go (show v < 4200 by omega) (by decide), bd_gc (show v < 4200 by omega) (by decide), nI_clamp (show v < 2 ^ 31 by omega), need_1, try_o, if_neg (show ¬ (16 : Int32) ≤ nI d from nI_ge (b := 16) (by omega) (by omega)), m_X9_schemaOf_49, ov_lt hvn, nI_1]
    refine RES.ite (fun hK2 => ?_) (fun hK2 => RES.ite (fun hK1 => ?_) (fun hK1 => ?_))
    · -- a string
      obtain ⟨sz, hsz, hszb⟩ := hV.str hK2 hm
      obtain ⟨bw, hbw, hbw2⟩ := word_ok (Lt := Lt) hvn hn hl (fun _ => ⟨sz, hsz⟩)
      simp only [hbw2, Option.bind_some, m_X9_schemaOf_92, m_X9_schemaOf_105, bd_go (show v < 4200 by omega) (by decide), bd_gc (show v < 4200 by omega) (by decide), nI_clamp (show v < 2 ^ 31 by omega), ov_lt hvn, hFv, need_0, need_1, try_o, try_e]
      rcases hbw with rfl | ⟨j, hj, rfl, hj2⟩
      · obtain ⟨bd, hbd, hbd2⟩ := def_ok (Lt := Lt) (Na := Na) (sh := sh) hn hl hsz p1 (by omega) hNa
        simp only [if_pos (show (-1 : Int32) < 0 by decide), hbd2, Option.bind_some]
        rcases hbd with rfl | ⟨s, y, s6, hs, rfl, hna, hy⟩
        · simp only [if_pos (show (-1 : Int32) < 0 by decide)]
          exact RES.er (fun g => rfl)
        · simp only [if_neg (nI_pos (show s < 2 ^ 31 by omega))]
          exact href v s y sz p q s6 hs hna hy hsz hszb (Nat.le_refl _) (Nat.le_refl _)
      · simp only [if_neg (nI_pos (show j < 2 ^ 31 by omega))]
        exact hword v j p q hj2 hj ⟨sz, hsz, hszb⟩ (Nat.le_refl _) (Nat.le_refl _) (by omega)
    · -- a list
      exact RES.try (uni_ok hn hl hfs hhv hm hV hK1 hpre (by omega) hbud hbr) (fun v u h => RES.ok h) (fun g u => rfl)
    · -- an object, or nothing of the kind
      by_cases hK0 : K v = 0
      case neg =>
        simp only [if_neg hK0, m_X9_schemaOf_151, bd_go (show v < 4200 by omega) (by decide), bd_gc (show v < 4200 by omega) (by decide), nI_clamp (show v < 2 ^ 31 by omega), ov_lt hvn, hFv, need_0, try_e]
        exact RES.er (fun g => rfl)
      obtain ⟨h', a, k, c, e, u, r, s', t, rfl, rfl, hka, hI, hO⟩ := hV.obj hK0
      have hmem : ∀ w, w < 75 → _ := fun w hw => hO.mem (w := w) (Lt := Lt) hw hn hl hvn hm (show k ≤ 5000 by omega) hI
      obtain ⟨yt, hyt, hyt2⟩ := hmem 48 (by decide)
      simp only [if_pos hK0, m_X9_schemaOf_151, bd_go (show v < 4200 by omega) (by decide), bd_gc (show v < 4200 by omega) (by decide), nI_clamp (show v < 2 ^ 31 by omega), need_1, try_o, hyt2, Option.bind_some]
      have her7 : ∀ {x : Int32} {Q : Int32 → (Gs → TS) → Prop}, RES (fun g => m_X9_schemaOf_191 (m_X9_schemaOf D) (ov n K (g.1 0)) (ov n F (g.1 1)) (ov n N g.2) (ov n S (g.1 2)) (ov n I (g.1 3)) (ov n X (g.1 4)) (ov l Lt (g.1 5)) fl pl (nI sh) (nI (lk + 1)) (ov sh So (g.1 7)) (ov sh Na (g.1 8)) (ow sh Wi (g.1 9)) (ov sh Ki (g.1 10)) (ow sh Ma (g.1 11)) (ow sh Fa (g.1 12)) (nI kc) (ov kc kS (g.1 13)) (ov kc kN (g.1 14)) (ov kc kD (g.1 15)) (ov kc kX (g.1 16)) (nI dn) (ov dn Fi (g.1 17)) (nI v) (nI d) x) fpC Q := by
        intro x Q
        simp only [m_X9_schemaOf_191, m_X9_schemaOf_192, bd_go (show v < 4200 by omega) (by decide), bd_gc (show v < 4200 by omega) (by decide), nI_clamp (show v < 2 ^ 31 by omega), ov_lt hvn, hFv, need_0, try_e]
        exact RES.er (fun g => rfl)
      rcases hyt with rfl | ⟨jt, hjt, rfl, hjt2, hjt3⟩
      · simp only [if_pos (show (-1 : Int32) < 0 by decide)]
        exact her7
      obtain ⟨t0, t1, t2, t2', t3, t4, t5, t6, t7, t8, t9, t10⟩ := hO.1 jt hjt
      have htn : c jt + 1 < n := by omega
      have l48 : lenS.getD 48 0 = 4 := by decide +kernel
      rw [l48] at hjt3
      simp only [if_neg (nI_pos (show c jt + 1 < 2 ^ 31 by omega)), bd_go (show c jt + 1 < 4200 by omega) (by decide), bd_gc (show c jt + 1 < 4200 by omega) (by decide), nI_clamp (show c jt + 1 < 2 ^ 31 by omega), ov_lt htn]
      refine RES.ite (fun hKt => ?_) (fun _ => her7)
      obtain ⟨sz, hsz, hszb⟩ := t1.str hKt (show e jt ≤ n by omega)
      have hsr : K (c jt + 1) = 2 → ∃ sz, strN K N S n l (c jt + 1) sz := fun _ => ⟨sz, hsz⟩
      obtain ⟨bw, hbw, hbw2⟩ := word_ok (Lt := Lt) htn hn hl hsr
      obtain ⟨bd, hbd, hbd2⟩ := def_ok (Lt := Lt) (Na := Na) (sh := sh) hn hl hsz p1 (by omega) hNa
      have hlenof : ∀ (w len : Nat), w < 75 → lenS.getD w 0 = len → StrIs K N S Lt n l (c jt + 1) w → s' jt + len + 2 ≤ t jt := by
        intro w len hw hlen hst
        have := len_lt w hw
        obtain ⟨-, -, z1, st, -, z2⟩ := hsz
        have := (nI_eq (by omega) (by omega)).mp (z1.symm.trans hst.2.2.1)
        omega
      have harr : StrIs K N S Lt n l (c jt + 1) 49 ∨ StrIs K N S Lt n l (c jt + 1) 50 → RES (fun g => m_X9_schemaOf_241 (m_X9_schemaOf D) (ov n K (g.1 0)) (ov n F (g.1 1)) (ov n N g.2) (ov n S (g.1 2)) (ov n I (g.1 3)) (ov n X (g.1 4)) (ov l Lt (g.1 5)) fl pl (nI sh) (nI (lk + 1)) (ov sh So (g.1 7)) (ov sh Na (g.1 8)) (ow sh Wi (g.1 9)) (ov sh Ki (g.1 10)) (ow sh Ma (g.1 11)) (ow sh Fa (g.1 12)) (nI kc) (ov kc kS (g.1 13)) (ov kc kN (g.1 14)) (ov kc kD (g.1 15)) (ov kc kX (g.1 16)) (nI dn) (ov dn Fi (g.1 17)) (nI v) (nI d) (nI (c jt + 1))) fpC (postS (strN K N S n l) (valN K F N S I X n l) (h + 1) (a + 1 - p) sh kc dn So Na Wi Ki kS kN kD kX Fi br fl pl) := by
        intro hst
        have one : ∀ (x5 : Int32) (w li tl : Nat), w < 75 → lenS.getD w 0 = li → (∀ ji, StrIs K N S Lt n l (c ji) w → jt ≠ ji) → s' jt + tl ≤ t jt → (if (if x5 = 0 then (7 : Int32) else 6) = 6 then 25 else 24) ≤ 6 + 1 + tl + li + 2 + 1 + 3 →
            RES (fun g => m_X9_schemaOf_265 (m_X9_schemaOf D) (ov n K (g.1 0)) (ov n F (g.1 1)) (ov n N g.2) (ov n S (g.1 2)) (ov n I (g.1 3)) (ov n X (g.1 4)) (ov l Lt (g.1 5)) fl pl (nI sh) (nI (lk + 1)) (ov sh So (g.1 7)) (ov sh Na (g.1 8)) (ow sh Wi (g.1 9)) (ov sh Ki (g.1 10)) (ow sh Ma (g.1 11)) (ow sh Fa (g.1 12)) (nI kc) (ov kc kS (g.1 13)) (ov kc kN (g.1 14)) (ov kc kD (g.1 15)) (ov kc kX (g.1 16)) (nI dn) (ov dn Fi (g.1 17)) (nI v) (nI d) x5 w (nI v)) fpC (postS (strN K N S n l) (valN K F N S I X n l) (h + 1) (a + 1 - p) sh kc dn So Na Wi Ki kS kN kD kX Fi br fl pl) := by
          intro x5 w li tl hw hli hne htl hcost
          obtain ⟨yi, hyi, hyi2⟩ := hmem w hw
          simp only [m_X9_schemaOf_265, hyi2, Option.bind_some]
          rcases hyi with rfl | ⟨ji, hji, rfl, hji2, hji3⟩
          · simp only [if_pos (show (-1 : Int32) < 0 by decide), m_X9_schemaOf_281, bd_go (show v < 4200 by omega) (by decide), bd_gc (show v < 4200 by omega) (by decide), nI_clamp (show v < 2 ^ 31 by omega), ov_lt hvn, hFv, need_0, try_e]
            exact RES.er (fun g => rfl)
          · obtain ⟨i0, i1, i2, i2', i3, i4, i5, i6, i7, i8, i9, i10⟩ := hO.1 ji hji
            have hb := mem2 hO hjt hji (hne ji hji2)
            rw [hli] at hji3
            have hgo : ∀ y : Int32, (y = 6 ∨ y = 7) → (if y = 6 then 25 else 24) ≤ 6 + 1 + tl + li + 2 + 1 + 3 → RES (fun g => m_X9_schemaOf_305 (m_X9_schemaOf D) (ov n K (g.1 0)) (ov n F (g.1 1)) (ov n N g.2) (ov n S (g.1 2)) (ov n I (g.1 3)) (ov n X (g.1 4)) (ov l Lt (g.1 5)) fl pl (nI sh) (nI (lk + 1)) (ov sh So (g.1 7)) (ov sh Na (g.1 8)) (ow sh Wi (g.1 9)) (ov sh Ki (g.1 10)) (ow sh Ma (g.1 11)) (ow sh Fa (g.1 12)) (nI kc) (ov kc kS (g.1 13)) (ov kc kN (g.1 14)) (ov kc kD (g.1 15)) (ov kc kX (g.1 16)) (nI dn) (ov dn Fi (g.1 17)) (nI d) (nI (c ji + 1)) y) fpC (postS (strN K N S n l) (valN K F N S I X n l) (h + 1) (a + 1 - p) sh kc dn So Na Wi Ki kS kN kD kX Fi br fl pl) := fun y hy hc =>
              arr_ok hfs (show h' ≤ 24 by omega) (show e ji ≤ n by omega) i1 hy (by omega) hpre (by omega) hbud
            simp only [if_neg (nI_pos (show c ji + 1 < 2 ^ 31 by omega)), m_X9_schemaOf_281, bd_go (show v < 4200 by omega) (by decide), bd_gc (show v < 4200 by omega) (by decide), nI_clamp (show v < 2 ^ 31 by omega), need_1, try_o]
            refine RES.ite (fun h5 => ?_) (fun h5 => ?_)
            · rw [if_pos h5] at hcost
              exact hgo 7 (Or.inr rfl) hcost
            · rw [if_neg h5] at hcost
              exact hgo 6 (Or.inl rfl) hcost
        simp only [m_X9_schemaOf_241, is_eq (show 49 < 75 by decide) htn hn hl hsr, Option.bind_some]
        refine RES.ite (fun h49 => ?_) (fun h49 => ?_)
        · have h50 : StrIs K N S Lt n l (c jt + 1) 50 := by
            rcases hst with q | q
            · rw [isV_t q] at h49; exact absurd h49 (by decide)
            · exact q
          refine one _ 52 6 5 (by decide) (by decide +kernel) (fun ji hq e => ?_) (hlenof 50 3 (by decide) (by decide +kernel) h50) (by rw [if_pos h49]; decide)
          subst e
          have := StrIs.same (by decide) (by decide) hl hjt2 hq
          exact absurd this.1 (by decide +kernel)
        · refine one _ 51 5 7 (by decide) (by decide +kernel) (fun ji hq e => ?_) (hlenof 49 5 (by decide) (by decide +kernel) (isV_n h49)) (by rw [if_neg h49]; decide)
          subst e
          have := StrIs.same (by decide) (by decide) hl hjt2 hq
          exact absurd this.1 (by decide +kernel)
      have hnam : StrIs K N S Lt n l (c jt + 1) 53 ∨ StrIs K N S Lt n l (c jt + 1) 54 ∨ StrIs K N S Lt n l (c jt + 1) 55 → RES (fun g => m_X9_schemaOf_372 (m_X9_schemaOf D) (ov n K (g.1 0)) (ov n F (g.1 1)) (ov n N g.2) (ov n S (g.1 2)) (ov n I (g.1 3)) (ov n X (g.1 4)) (ov l Lt (g.1 5)) fl pl (nI sh) (nI (lk + 1)) (ov sh So (g.1 7)) (ov sh Na (g.1 8)) (ow sh Wi (g.1 9)) (ov sh Ki (g.1 10)) (ow sh Ma (g.1 11)) (ow sh Fa (g.1 12)) (nI kc) (ov kc kS (g.1 13)) (ov kc kN (g.1 14)) (ov kc kD (g.1 15)) (ov kc kX (g.1 16)) (nI dn) (ov dn Fi (g.1 17)) (nI v) (nI d) (nI (c jt + 1))) fpC (postS (strN K N S n l) (valN K F N S I X n l) (h + 1) (a + 1 - p) sh kc dn So Na Wi Ki kS kN kD kX Fi br fl pl) := by
        intro hst
        simp only [m_X9_schemaOf_372]
        exact RES.try (named_ok hn hl hfs (show h' ≤ 23 by omega) hvn hFv hm hka (show a + 1 - p ≤ 4100 by omega) hI hO hjt hjt2 (show u jt + 6 ≤ r jt by omega) hst hpre (by omega) hbud) (fun v u h => RES.ok h) (fun g u => rfl)
      simp only [m_X9_schemaOf_192, bd_go (show v < 4200 by omega) (by decide), bd_gc (show v < 4200 by omega) (by decide), nI_clamp (show v < 2 ^ 31 by omega), need_1, try_o, hbw2, hbd2, Option.bind_some, is_eq (show 49 < 75 by decide) htn hn hl hsr, is_eq (show 50 < 75 by decide) htn hn hl hsr, is_eq (show 53 < 75 by decide) htn hn hl hsr, is_eq (show 54 < 75 by decide) htn hn hl hsr, is_eq (show 55 < 75 by decide) htn hn hl hsr, m_X9_schemaOf_400, bd_go (show c jt + 1 < 4200 by omega) (by decide), bd_gc (show c jt + 1 < 4200 by omega) (by decide), nI_clamp (show c jt + 1 < 2 ^ 31 by omega), ov_lt htn, t1.basic.2.2, need_0, try_e]
      rcases hbw with rfl | ⟨j, hj, rfl, hj2⟩
      · simp only [if_pos (show (-1 : Int32) < 0 by decide)]
        refine RES.ite (fun _ => RES.ite (fun _ => RES.ite (fun _ => RES.ite (fun _ => RES.ite (fun _ => ?_) (fun q => hnam (Or.inr (Or.inr (isV_n q))))) (fun q => hnam (Or.inr (Or.inl (isV_n q))))) (fun q => hnam (Or.inl (isV_n q)))) (fun q => harr (Or.inr (isV_n q)))) (fun q => harr (Or.inl (isV_n q)))
        rcases hbd with rfl | ⟨s, y, s6, hs, rfl, hna, hy⟩
        · simp only [if_pos (show (-1 : Int32) < 0 by decide)]
          exact RES.er (fun g => rfl)
        · simp only [if_neg (nI_pos (show s < 2 ^ 31 by omega))]
          exact href (c jt + 1) s y sz (s' jt) (t jt) s6 hs hna hy hsz hszb (by omega) (by omega)
      · simp only [if_neg (nI_pos (show j < 2 ^ 31 by omega))]
        exact hword (c jt + 1) j (s' jt) (t jt) hj2 hj ⟨sz, hsz, hszb⟩ (by omega) (by omega) (by omega)
