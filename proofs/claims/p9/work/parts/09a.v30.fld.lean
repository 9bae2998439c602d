-- the reference's fields
theorem mem2 {P : Nat → Nat → Nat → Nat → Prop} {Q : Nat → Nat → Nat → Prop} {X : Nat → Int32} {v m p a k : Nat} {c e u r s t : Nat → Nat} (hO : kidsO P Q X v m p a k c e u r s t) {i j : Nat} (hi : i < k) (hj : j < k) (hij : i ≠ j) : (t i - u i) + (t j - u j) + 3 ≤ a + 1 - p := by
  obtain ⟨-, -, -, -, -, -, -, i1, i2, i3, i4, i5⟩ := hO.1 i hi
  obtain ⟨-, -, -, -, -, -, -, j1, j2, j3, j4, j5⟩ := hO.1 j hj
  rcases Nat.lt_or_gt_of_ne hij with h | h
  · have := (hO.2 i j h hj).2; omega
  · have := (hO.2 j i h hi).2; omega
theorem mem3 {P : Nat → Nat → Nat → Nat → Prop} {Q : Nat → Nat → Nat → Prop} {X : Nat → Int32} {v m p a k : Nat} {c e u r s t : Nat → Nat} (hO : kidsO P Q X v m p a k c e u r s t) {i j o : Nat} (hi : i < k) (hj : j < k) (ho : o < k) (hij : i ≠ j) (hio : i ≠ o) (hjo : j ≠ o) : (t i - u i) + (t j - u j) + (t o - u o) + 4 ≤ a + 1 - p := by
  obtain ⟨-, -, -, -, -, -, -, i1, i2, i3, i4, i5⟩ := hO.1 i hi
  obtain ⟨-, -, -, -, -, -, -, j1, j2, j3, j4, j5⟩ := hO.1 j hj
  obtain ⟨-, -, -, -, -, -, -, o1, o2, o3, o4, o5⟩ := hO.1 o ho
  have a1 : i < j ∧ t i < u j ∨ j < i ∧ t j < u i := by
    rcases Nat.lt_or_gt_of_ne hij with h | h
    · exact Or.inl ⟨h, (hO.2 i j h hj).2⟩
    · exact Or.inr ⟨h, (hO.2 j i h hi).2⟩
  have a2 : i < o ∧ t i < u o ∨ o < i ∧ t o < u i := by
    rcases Nat.lt_or_gt_of_ne hio with h | h
    · exact Or.inl ⟨h, (hO.2 i o h ho).2⟩
    · exact Or.inr ⟨h, (hO.2 o i h hi).2⟩
  have a3 : j < o ∧ t j < u o ∨ o < j ∧ t o < u j := by
    rcases Nat.lt_or_gt_of_ne hjo with h | h
    · exact Or.inl ⟨h, (hO.2 j o h ho).2⟩
    · exact Or.inr ⟨h, (hO.2 o j h hj).2⟩
  omega
theorem fld_dup {K F S I X Lt : Nat → Int32} {N : Nat → Int64} {n l : Nat} {So Na Wi Ki Ma Fa kS kN kD kX Fi : Nat → Int32} {fs : FS} {sh lk kc dn s0 x7 sz f m : Nat} {ck : Nat → Nat} {fl pl x3 x5 : Int32} {k85 : Gs → Int32 → Int32 → Int32 → Int32 → (Nat → Int32) → (Nat → Int32) → (Nat → Int32) → (Nat → Int32) → (Nat → Int32) → (Nat → Int32) → Int32 → (Nat → Int32) → (Nat → Int32) → (Nat → Int32) → (Nat → Int32) → Int32 → (Nat → Int32) → Int32 → Int32 → Int32 → Int32 → Option (Except TS (Unit × TS))} {Q : Unit → (Gs → TS) → Prop}
    (hn : n ≤ 4200) (hl : l ≤ 4200) (hx : strN K N S n l x7 sz) (hkc : kc ≤ 2200)
    (hc : ∀ i, i < m → ck i < kc ∧ kX (ck i) = (if i + 1 = m then -1 else nI (ck (i + 1))) ∧ ∃ y sy, kN (ck i) = nI y ∧ strN K N S n l y sy)
    (hexit : RES (fun g => m_X9_fields_178 fs (ov n K (g.1 0)) (ov n F (g.1 1)) (ov n N g.2) (ov n S (g.1 2)) (ov n I (g.1 3)) (ov n X (g.1 4)) (ov l Lt (g.1 5)) (k85 g) 1 fl pl (nI sh) (nI lk) (ov sh So (g.1 7)) (ov sh Na (g.1 8)) (ow sh Wi (g.1 9)) (ov sh Ki (g.1 10)) (ow sh Ma (g.1 11)) (ow sh Fa (g.1 12)) (nI kc) (ov kc kS (g.1 13)) (ov kc kN (g.1 14)) (ov kc kD (g.1 15)) (ov kc kX (g.1 16)) (nI dn) (ov dn Fi (g.1 17)) (nI s0) x3 x5 (nI f) (nI x7) 1 (-1)) fpC Q) :
    ∀ (fuel i : Nat) (x8 : Int32), (x8 = 0 ∨ x8 = 1) → i ≤ m → m - i < fuel → RES (fun g => m_X9_fields_178 fs (ov n K (g.1 0)) (ov n F (g.1 1)) (ov n N g.2) (ov n S (g.1 2)) (ov n I (g.1 3)) (ov n X (g.1 4)) (ov l Lt (g.1 5)) (k85 g) fuel fl pl (nI sh) (nI lk) (ov sh So (g.1 7)) (ov sh Na (g.1 8)) (ow sh Wi (g.1 9)) (ov sh Ki (g.1 10)) (ow sh Ma (g.1 11)) (ow sh Fa (g.1 12)) (nI kc) (ov kc kS (g.1 13)) (ov kc kN (g.1 14)) (ov kc kD (g.1 15)) (ov kc kX (g.1 16)) (nI dn) (ov dn Fi (g.1 17)) (nI s0) x3 x5 (nI f) (nI x7) x8 (if i = m then -1 else nI (ck i))) fpC Q := by
  have hx7 := hx.1
  intro fuel
  induction fuel with
  | zero => intro i x8 _ _ hf; exact absurd hf (Nat.not_lt_zero _)
  | succ fuel ih =>
    intro i x8 hx8 hi hf
    by_cases him : i = m
    · simp only [if_pos him]
      rcases hx8 with rfl | rfl
      · simp only [m_X9_fields_178, if_pos (show (-1 : Int32) < 0 by decide), bd_go (show x7 < 4200 by omega) (by decide), bd_gc (show x7 < 4200 by omega) (by decide), nI_clamp (show x7 < 2 ^ 31 by omega), ov_lt hx7, need_0, try_e]
        exact RES.er (fun g => rfl)
      · simp only [m_X9_fields_178, if_pos (show (-1 : Int32) < 0 by decide)] at hexit ⊢
        exact hexit
    · obtain ⟨c1, c2, y, sy, c3, c4⟩ := hc i (by omega)
      obtain ⟨r, -, hr⟩ := same_ok (Lt := Lt) (Lt' := Lt) hn hl hn hl c4 hx
      have ih0 := ih (i + 1) 0 (Or.inl rfl) (by omega) (by omega)
      have ih1 := ih (i + 1) 1 (Or.inr rfl) (by omega) (by omega)
      simp only [if_neg him, m_X9_fields_178, if_neg (nI_pos (show ck i < 2 ^ 31 by omega)), bd_go (show ck i < 2200 by omega) (by decide), bd_gc (show ck i < 2200 by omega) (by decide), nI_clamp (show ck i < 2 ^ 31 by omega), ov_lt c1, c3, hr, Option.bind_some, m_X9_fields_209, m_X9_fields_210, c2]
      exact RES.ite (fun _ => ih0) (fun _ => RES.ite (fun _ => ih1) (fun _ => ih0))
def postF (T : Nat → Nat → Prop) (V : Nat → Prop) (h len sz s0 kc0 dn0 : Nat) (So0 Na0 Wi0 Ki0 kS0 kN0 kD0 kX0 Fi0 : Nat → Int32) (fl pl : Int32) (u : Gs → TS) : Prop :=
  ∃ (sh lk kc dn w : Nat) (So Na Wi Ki Ma Fa kS kN kD kX Fi : Nat → Int32), u = (fun g => (fl, pl, nI sh, nI lk, ov sh So (g.1 7), ov sh Na (g.1 8), ow sh Wi (g.1 9), ov sh Ki (g.1 10), ow sh Ma (g.1 11), ow sh Fa (g.1 12), nI kc, ov kc kS (g.1 13), ov kc kN (g.1 14), ov kc kD (g.1 15), ov kc kX (g.1 16), nI dn, ov dn Fi (g.1 17))) ∧ s0 < sh ∧ kc0 ≤ kc ∧ dn0 ≤ dn ∧ dn + kc0 ≤ dn0 + kc ∧ 2 * kc + 2 ≤ 2 * kc0 + len ∧ preS T V sh lk kc dn So Na kD Fi kS ∧ agS s0 kc0 dn0 So0 Na0 Wi0 Ki0 kS0 kN0 kD0 kX0 Fi0 So Na Wi Ki kS kN kD kX Fi ∧
    Cre T So Na Wi Ki kS kN kX (Occ T So Na Wi Ki kS kN kX h) s0 sh kc0 kc (39 + sz + w) ∧ w + 2 ≤ len ∧ So s0 = 11
theorem fld_go {K F S I X Lt : Nat → Int32} {N : Nat → Int64} {n l : Nat} (hn : n ≤ 4200) (hl : l ≤ 4200) {fs : FS} {d h : Nat} (hfs : okS K F N S I X Lt n l fs (d + 1) h) {hv v m p a k : Nat} {c e u z : Nat → Nat} (hhv : hv ≤ 24) (hm : m ≤ n) (hk : k ≤ 32) (hka : k + p < a) (hL : kidsL (Val K F N S I X l hv) X v m p a k c e u z)
    {s0 kc0 dn0 nx sz : Nat} {So0 Na0 Wi0 Ki0 kS0 kN0 kD0 kX0 Fi0 : Nat → Int32} {fl pl : Int32} (h60 : 6 ≤ s0) (hT : strN K N S n l nx sz) (hbud : 2 * kc0 + (a + 1 - p) ≤ 4100) : ∀ (fuel i sh lk kc dn : Nat) (So Na Wi Ki Ma Fa kS kN kD kX Fi : Nat → Int32) (ck t b W : Nat → Nat), i ≤ k → k - i < fuel → preS (strN K N S n l) (valN K F N S I X n l) sh lk kc dn So Na kD Fi kS → s0 < sh → kc0 ≤ kc → dn0 ≤ dn → dn + kc0 ≤ dn0 + kc → agS s0 kc0 dn0 So0 Na0 Wi0 Ki0 kS0 kN0 kD0 kX0 Fi0 So Na Wi Ki kS kN kD kX Fi →
    So s0 = 11 → Na s0 = nI nx → Ki s0 = (if i = 0 then -1 else nI (ck 0)) → t 0 = s0 + 1 → t i = sh → W 0 = 0 → (i < k → W i + p + 1 ≤ u i ∧ 2 * kc + p + 1 ≤ 2 * kc0 + u i) → (i = k → W i + p ≤ a ∧ 2 * kc + p + 1 ≤ 2 * kc0 + a) → (∀ j j', j < j' → j' < i → b j ≤ ck j') →
    (∀ j, j < i → s0 < t j ∧ t (j + 1) ≤ sh ∧ kc0 ≤ ck j ∧ ck j < b j ∧ b j ≤ kc ∧ kX (ck j) = (if j + 1 = i then -1 else nI (ck (j + 1))) ∧ ∃ y sy x w', kN (ck j) = nI y ∧ strN K N S n l y sy ∧ kS (ck j) = nI x ∧ Occ (strN K N S n l) So Na Wi Ki kS kN kX h x (t j) (t (j + 1)) (ck j + 1) (b j) w' ∧ W (j + 1) = W j + w' + sy + 20) →
    RES (fun g => m_X9_fields_85 fs (ov n K (g.1 0)) (ov n F (g.1 1)) (ov n N g.2) (ov n S (g.1 2)) (ov n I (g.1 3)) (ov n X (g.1 4)) (ov l Lt (g.1 5)) fuel fl pl (nI sh) (nI lk) (ov sh So (g.1 7)) (ov sh Na (g.1 8)) (ow sh Wi (g.1 9)) (ov sh Ki (g.1 10)) (ow sh Ma (g.1 11)) (ow sh Fa (g.1 12)) (nI kc) (ov kc kS (g.1 13)) (ov kc kN (g.1 14)) (ov kc kD (g.1 15)) (ov kc kX (g.1 16)) (nI dn) (ov dn Fi (g.1 17)) (nI s0) (nI d) (if i = 0 then -1 else nI (ck (i - 1))) (if i = k then -1 else nI (c i))) fpC (fun _ u => postF (strN K N S n l) (valN K F N S I X n l) h (a + 1 - p) sz s0 kc0 dn0 So0 Na0 Wi0 Ki0 kS0 kN0 kD0 kX0 Fi0 fl pl u) := by
  intro fuel
  induction fuel with
  | zero => intro i sh lk kc dn So Na Wi Ki Ma Fa kS kN kD kX Fi ck t b W _ hf; exact absurd hf (Nat.not_lt_zero _)
  | succ fuel ih =>
    intro i sh lk kc dn So Na Wi Ki Ma Fa kS kN kD kX Fi ck t b W hi hf hpre hs0 hkc hdn hdk hag hSo hNa hKi ht0 hti hW0 hW1 hW2 hck hch
    by_cases hik : i = k
    · subst hik
      obtain ⟨w1, w2⟩ := hW2 rfl
      simp only [if_true, m_X9_fields_85, if_pos (show (-1 : Int32) < 0 by decide)]
      exact RES.ok ⟨sh, lk, kc, dn, W i - 1, So, Na, Wi, Ki, Ma, Fa, kS, kN, kD, kX, Fi, rfl, hs0, hkc, hdn, hdk, by omega, hpre, hag, Or.inr (Or.inr (Or.inr (Or.inr ⟨hSo, nx, sz, i, ck, t, b, W, hNa, ⟨hT, hk⟩, hKi, ht0, hti, hW0, rfl, hch⟩))), by omega, hSo⟩
    · obtain ⟨q1, q2, q3, q4, q5, q6, q7, q8⟩ := hL.1 i (by omega)
      obtain ⟨w1, w2⟩ := hW1 (by omega)
      obtain ⟨p1, p2, p3, p4, p5, p6, p7⟩ := hpre
      have hcn : c i < n := by omega
      simp only [if_neg hik, m_X9_fields_85, if_neg (nI_pos (show c i < 2 ^ 31 by omega)), bd_go (show c i < 4200 by omega) (by decide), bd_gc (show c i < 4200 by omega) (by decide), nI_clamp (show c i < 2 ^ 31 by omega), ov_lt hcn]
      by_cases hK0 : K (c i) = 0
      case neg =>
        simp only [if_neg hK0, m_X9_fields_106, bd_go (show c i < 4200 by omega) (by decide), bd_gc (show c i < 4200 by omega) (by decide), nI_clamp (show c i < 2 ^ 31 by omega), ov_lt hcn, q1.basic.2.2, need_0, try_e]
        exact RES.er (fun g => rfl)
      obtain ⟨hf', af, kf, cf, ef, uf, rf, sf, tf, rfl, haf, hkf, hIf, hO⟩ := q1.obj hK0
      have hmem : ∀ w, w < 75 → _ := fun w hw => hO.mem (w := w) (Lt := Lt) hw hn hl hcn (show e i ≤ n by omega) (show kf ≤ 5000 by omega) hIf
      obtain ⟨yn, hyn, hyn2⟩ := hmem 56 (by decide)
      simp only [if_pos hK0, m_X9_fields_106, bd_go (show c i < 4200 by omega) (by decide), bd_gc (show c i < 4200 by omega) (by decide), nI_clamp (show c i < 2 ^ 31 by omega), need_1, try_o, hyn2, Option.bind_some]
      have her8 : ∀ x : Int32, RES (fun g => m_X9_fields_149 fs (ov n K (g.1 0)) (ov n F (g.1 1)) (ov n N g.2) (ov n S (g.1 2)) (ov n I (g.1 3)) (ov n X (g.1 4)) (ov l Lt (g.1 5)) (m_X9_fields_85 fs (ov n K (g.1 0)) (ov n F (g.1 1)) (ov n N g.2) (ov n S (g.1 2)) (ov n I (g.1 3)) (ov n X (g.1 4)) (ov l Lt (g.1 5)) fuel) fl pl (nI sh) (nI lk) (ov sh So (g.1 7)) (ov sh Na (g.1 8)) (ow sh Wi (g.1 9)) (ov sh Ki (g.1 10)) (ow sh Ma (g.1 11)) (ow sh Fa (g.1 12)) (nI kc) (ov kc kS (g.1 13)) (ov kc kN (g.1 14)) (ov kc kD (g.1 15)) (ov kc kX (g.1 16)) (nI dn) (ov dn Fi (g.1 17)) (nI s0) (nI d) (if i = 0 then -1 else nI (ck (i - 1))) (nI (c i)) x) fpC (fun _ u => postF (strN K N S n l) (valN K F N S I X n l) h (a + 1 - p) sz s0 kc0 dn0 So0 Na0 Wi0 Ki0 kS0 kN0 kD0 kX0 Fi0 fl pl u) := fun x => by
        simp only [m_X9_fields_149, m_X9_fields_150, bd_go (show c i < 4200 by omega) (by decide), bd_gc (show c i < 4200 by omega) (by decide), nI_clamp (show c i < 2 ^ 31 by omega), ov_lt hcn, q1.basic.2.2, need_0, try_e]
        exact RES.er (fun g => rfl)
      rcases hyn with rfl | ⟨jn, hjn, rfl, hjn2, hjn3⟩
      · simp only [if_pos (show (-1 : Int32) < 0 by decide)]
        exact her8 _
      obtain ⟨n0, n1, n2, n2', n3, n4, n5, n6, n7, n8, n9, n10⟩ := hO.1 jn hjn
      simp only [if_neg (nI_pos (show cf jn + 1 < 2 ^ 31 by omega)), bd_go (show cf jn + 1 < 4200 by omega) (by decide), bd_gc (show cf jn + 1 < 4200 by omega) (by decide), nI_clamp (show cf jn + 1 < 2 ^ 31 by omega), ov_lt (show cf jn + 1 < n by omega)]
      refine RES.ite (fun hK2 => ?_) (fun _ => her8 _)
      obtain ⟨sy, hsy, hsyb⟩ := n1.str hK2 (show ef jn ≤ n by omega)
      obtain ⟨bn, hbn, hbn2⟩ := nm_ok (Lt := Lt) hsy.1 hn hl (fun _ => ⟨sy, hsy⟩)
      have hKs : Ki s0 = (if 0 = i then -1 else nI (ck 0)) := by
        rw [hKi]
        by_cases h0 : i = 0
        · rw [if_pos h0, if_pos h0.symm]
        · rw [if_neg h0, if_neg (fun q => h0 q.symm)]
      simp only [m_X9_fields_150, bd_go (show c i < 4200 by omega) (by decide), bd_gc (show c i < 4200 by omega) (by decide), nI_clamp (show c i < 2 ^ 31 by omega), need_1, try_o, hbn2, Option.bind_some, bd_go (show s0 < 140 by omega) (by decide), bd_gc (show s0 < 140 by omega) (by decide), nI_clamp (show s0 < 2 ^ 31 by omega), ov_lt hs0, hKs]
      refine fld_dup (ck := ck) hn hl hsy (show kc ≤ 2200 by omega) (fun j hj => ?_) ?_ sr_fuel 0 bn (hbn.imp id (fun q => q.1)) (by omega) (by unfold sr_fuel; omega)
      · obtain ⟨d1, d2, d3, d4, d5, d6, y, sy', x, w', d7, d8, d9, d10, d11⟩ := hch j hj
        exact ⟨by omega, d6, y, sy', d7, d8⟩
      obtain ⟨yt, hyt, hyt2⟩ := hmem 48 (by decide)
      obtain ⟨yd, hyd, hyd2⟩ := hmem 59 (by decide)
      simp only [m_X9_fields_178, if_pos (show (-1 : Int32) < 0 by decide), bd_go (show cf jn + 1 < 4200 by omega) (by decide), bd_gc (show cf jn + 1 < 4200 by omega) (by decide), nI_clamp (show cf jn + 1 < 2 ^ 31 by omega), need_1, try_o, hyt2, Option.bind_some]
      rcases hyt with rfl | ⟨jt, hjt, rfl, hjt2, hjt3⟩
      · simp only [if_pos (show (-1 : Int32) < 0 by decide), m_X9_fields_260, bd_go (show c i < 4200 by omega) (by decide), bd_gc (show c i < 4200 by omega) (by decide), nI_clamp (show c i < 2 ^ 31 by omega), ov_lt hcn, q1.basic.2.2, need_0, try_e]
        exact RES.er (fun g => rfl)
      obtain ⟨t0, t1, t2, t2', t3, t4, t5, t6, t7, t8, t9, t10⟩ := hO.1 jt hjt
      have hnt : jn ≠ jt := by
        intro q
        subst q
        have := StrIs.same (by decide) (by decide) hl hjn2 hjt2
        exact absurd (this.2 0 (by decide)) (by decide +kernel)
      have hbytes := mem2 hO hjn hjt hnt
      have l56 : lenS.getD 56 0 = 4 := by decide +kernel
      have l48 : lenS.getD 48 0 = 4 := by decide +kernel
      rw [l56] at hjn3
      rw [l48] at hjt3
      have hyd3 : yd = -1 ∨ ∃ x, yd = nI x ∧ valN K F N S I X n l x := by
        rcases hyd with h | ⟨jd, hjd, h, -⟩
        · exact Or.inl h
        · obtain ⟨d0, d1, d2, d2', d3, d4, d5, d6, d7, d8, d9, d10⟩ := hO.1 jd hjd
          exact Or.inr ⟨_, h, hf', ef jd, sf jd, tf jd, by omega, by omega, by omega, d1⟩
      obtain ⟨Ki1, kX1, y1, y2, y3, y4, y5, hadd⟩ : ∃ Ki1 kX1 : Nat → Int32, Ki1 s0 = nI (snc ck i kc 0) ∧ (∀ j, j ≠ s0 → Ki1 j = Ki j) ∧ (∀ j, j < kc → (∀ j', j' + 1 = i → j ≠ ck j') → kX1 j = kX j) ∧ (∀ j, j + 1 = i → kX1 (ck j) = nI kc) ∧ kX1 kc = -1 ∧
          ∀ g10 g11 g13 g14 g15 g16 : Nat → Int32, m_X9_addKid (ov sh Ki g10) (ow sh Ma g11) (nI kc) (ov kc kS g13) (ov kc kN g14) (ov kc kD g15) (ov kc kX g16) (nI s0) (if i = 0 then -1 else nI (ck (i - 1))) = some (nI kc, (ov sh Ki1 g10, ow sh (upd Ma s0 (Ma s0 + 1)) g11, nI (kc + 1), ov (kc + 1) (upd kS kc (-1)) g13, ov (kc + 1) (upd kN kc (-1)) g14, ov (kc + 1) (upd kD kc (-1)) g15, ov (kc + 1) kX1 g16)) := by
        by_cases h0 : i = 0
        · refine ⟨upd Ki s0 (nI kc), upd kX kc (-1), by rw [pk_us, h0, snc_s], fun j hj => pk_un hj, fun j hj _ => pk_un (by omega), fun j hj => absurd hj (by omega), pk_us, fun g10 g11 g13 g14 g15 g16 => ?_⟩
          rw [if_pos h0]
          exact addKid_0 h60 hs0 (by omega) (by omega)
        · obtain ⟨d1, d2, d3, d4, d5, -⟩ := hch (i - 1) (by omega)
          refine ⟨Ki, upd (upd kX kc (-1)) (ck (i - 1)) (nI kc), by rw [hKi, if_neg h0, snc_n (by omega)], fun _ _ => rfl, fun j hj hc => by rw [pk_un (hc (i - 1) (by omega)), pk_un (by omega)], fun j hj => ?_, by rw [pk_un (by omega)]; exact pk_us, fun g10 g11 g13 g14 g15 g16 => ?_⟩
          · rw [show j = i - 1 by omega, pk_us]
          · rw [if_neg h0]
            exact addKid_1 h60 hs0 (by omega) (by omega) (by omega)
      simp only [if_neg (nI_pos (show cf jt + 1 < 2 ^ 31 by omega)), m_X9_fields_260, bd_go (show c i < 4200 by omega) (by decide), bd_gc (show c i < 4200 by omega) (by decide), nI_clamp (show c i < 2 ^ 31 by omega), need_1, try_o, hadd, Option.bind_some, bd_go (show kc < 2200 by omega) (by decide), bd_gc (show kc < 2200 by omega) (by decide), nI_clamp (show kc < 2 ^ 31 by omega), hyd2, ov_up (Nat.lt_succ_self kc), upd_upd, nI_1]
      refine RES.try (hfs hf' (cf jt + 1) (ef jt) (sf jt) (tf jt) sh lk (kc + 1) dn So Na Wi Ki1 (upd Ma s0 (Ma s0 + 1)) Fa (upd kS kc (-1)) (upd kN kc (nI (cf jn + 1))) (upd kD kc yd) kX1 Fi fl pl 0 (by omega) (by omega) t1 ⟨p1, p2, p3, by omega, p5, fun j hj => ?_, fun j hj => ?_⟩ (by omega) (Or.inl rfl)) ?_ (fun g u => rfl)
      · by_cases hjk : j = kc
        · subst hjk; rw [pk_us]; exact hyd3
        · rw [pk_un hjk]; exact p6 j (by omega)
      · obtain ⟨x, y, x1, x2, x3, x4⟩ := p7 j hj
        exact ⟨x, y, by omega, x2, by rw [pk_un (by omega)]; exact x3, x4⟩
      rintro _ _ ⟨s, sh', lk', kc', dn', w, So', Na', Wi', Ki', Ma', Fa', kS', kN', kD', kX', Fi', rfl, rfl, r1, r2, r3, r4, r5, ⟨p1', p2', p3', p4', p5', p6', p7'⟩, r7, hocc, hw, -⟩
      dsimp only
      simp only [bd_go (show kc < 2200 by omega) (by decide), bd_gc (show kc < 2200 by omega) (by decide), nI_clamp (show kc < 2 ^ 31 by omega), bd_go (show dn' < 2200 by omega) (by decide), bd_gc (show dn' < 2200 by omega) (by decide), nI_clamp (show dn' < 2 ^ 31 by omega), bd_go (show c i < 4200 by omega) (by decide), bd_gc (show c i < 4200 by omega) (by decide), nI_clamp (show c i < 2 ^ 31 by omega), ov_lt hcn, q2, ov_up (show kc < kc' by omega), ov_push, nI_1]
      have hckl : ∀ j, j < i → ∀ x, x < b j → ck j < x → ∀ j', j' + 1 = i → x ≠ ck j' := fun j hj x hx hx2 j' hj' => by
        by_cases hjj : j = j'
        · subst hjj; omega
        · have := hck j j' (by omega) (by omega); omega
      have := ih (i + 1) sh' lk' kc' (dn' + 1) So' Na' Wi' Ki' Ma' Fa' (upd kS' kc (nI s)) kN' kD' kX' (upd Fi' dn' (nI kc)) (snc ck i kc) (snc t (i + 1) sh') (snc b i kc') (snc W (i + 1) (W i + w + sy + 20)) (by omega) (by omega) ⟨p1', p2', p3', by omega, p5', p6', fun j hj => by
          by_cases hjd : j = dn'
          · subst hjd; exact ⟨kc, s, by omega, pk_us, pk_us, hocc.lt p1⟩
          · obtain ⟨x, y, x1, x2, x3, x4⟩ := p7' j (by omega)
            rw [pk_un hjd]
            by_cases hxk : x = kc
            · exact ⟨x, s, x1, x2, by rw [hxk]; exact pk_us, hocc.lt p1⟩
            · exact ⟨x, y, x1, x2, by rw [pk_un hxk]; exact x3, x4⟩⟩ (by omega) (by omega) (by omega) (by omega) ⟨fun j hj => by
          obtain ⟨a1, a2, a3, a4⟩ := hag.1 j hj
          obtain ⟨b1, b2, b3, b4⟩ := r7.1 j (by omega)
          exact ⟨a1.trans b1, a2.trans b2, a3.trans b3, by rw [← b4, y2 j (by omega)]; exact a4⟩, fun j hj => by
          obtain ⟨a1, a2, a3, a4⟩ := hag.2.1 j hj
          obtain ⟨b1, b2, b3, b4⟩ := r7.2.1 j (by omega)
          rw [pk_un (by omega)] at b1 b2 b3
          refine ⟨by rw [pk_un (by omega)]; exact a1.trans b1, a2.trans b2, a3.trans b3, ?_⟩
          rw [← b4, y3 j (by omega) (fun j' hj' hc => ?_)]
          · exact a4
          · obtain ⟨d1, d2, d3, -⟩ := hch j' (by omega)
            omega, fun j hj => by
          rw [pk_un (by omega)]; exact (hag.2.2 j hj).trans (r7.2.2 j (by omega))⟩ (by rw [← (r7.1 s0 hs0).1]; exact hSo) (by rw [← (r7.1 s0 hs0).2.1]; exact hNa) (by rw [← (r7.1 s0 hs0).2.2.2, y1, if_neg (by omega)]) (by rw [snc_n (by omega)]; exact ht0) snc_s (by rw [snc_n (by omega)]; exact hW0) (fun hlt => by
          rw [snc_s]
          have := (hL.2 i (i + 1) (by omega) hlt).2
          omega) (fun heq => by
          rw [snc_s]
          omega) (fun j j' hjj hj' => by
          by_cases hj2 : j' = i
          · subst hj2
            rw [snc_s, snc_n (by omega)]
            exact (hch j (by omega)).2.2.2.2.1
          · rw [snc_n hj2, snc_n (by omega)]
            exact hck j j' hjj (by omega)) (fun j hj => by
          by_cases hji : j = i
          · subst hji
            obtain ⟨b1, b2, b3, b4⟩ := r7.2.1 kc (by omega)
            simp only [snc_s]
            rw [snc_n (show j ≠ j + 1 by omega), snc_n (show j ≠ j + 1 by omega), hti]
            refine ⟨hs0, Nat.le_refl _, hkc, by omega, Nat.le_refl _, by rw [if_pos trivial, ← b4]; exact y5, cf jn + 1, sy, s, w, by rw [← b2]; exact pk_us, hsy, pk_us, ?_, rfl⟩
            exact Occ.keep h _ _ _ _ _ _ p1 hocc (fun _ _ => ⟨rfl, rfl⟩) (fun _ _ _ => ⟨rfl, rfl⟩) (fun x x1 x2 => ⟨by rw [pk_un (by omega)], rfl, rfl⟩)
          · obtain ⟨d1, d2, d3, d4, d5, d6, y, sy', x, w', d7, d8, d9, d10, d11⟩ := hch j (by omega)
            obtain ⟨f1, f2, f3, f4⟩ := r7.2.1 (ck j) (by omega)
            rw [pk_un (by omega)] at f1 f2 f3
            rw [snc_n (show j ≠ i + 1 by omega), snc_n (show j + 1 ≠ i + 1 by omega), snc_n hji, snc_n hji, snc_n (show j + 1 ≠ i + 1 by omega), snc_n (show j ≠ i + 1 by omega)]
            refine ⟨d1, by omega, d3, d4, by omega, ?_, y, sy', x, w', by rw [← f2]; exact d7, d8, by rw [pk_un (by omega), ← f1]; exact d9, ?_, d11⟩
            · rw [if_neg (by omega), ← f4]
              by_cases hj1 : j + 1 = i
              · rw [hj1, snc_s]; exact y4 j hj1
              · rw [snc_n hj1, y3 (ck j) (by omega) (fun j' hj' hc => by have := hck j j' (by omega) (by omega); omega), d6, if_neg hj1]
            · refine Occ.keep h _ _ _ _ _ _ (by omega) d10 (fun y hy => ⟨(r7.1 y (by omega)).1, (r7.1 y (by omega)).2.1⟩) (fun y y1' y2' => ⟨(r7.1 y (by omega)).2.2.1, ?_⟩) (fun y y1' y2' => ?_)
              · rw [← (r7.1 y (by omega)).2.2.2, y2 y (by omega)]
              · obtain ⟨g1, g2, g3, g4⟩ := r7.2.1 y (by omega)
                rw [pk_un (by omega)] at g1 g2 g3
                refine ⟨by rw [pk_un (by omega)]; exact g1, g2, ?_⟩
                rw [← g4, y3 y (by omega) (hckl j (by omega) y y2' (by omega))])
      simp only [if_neg (show ¬ i + 1 = 0 by omega), Nat.add_sub_cancel, snc_s] at this
      exact this
