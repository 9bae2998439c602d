-- the reference's schemas: what a look at a value leaves; unions
abbrev TS : Type := Int32 × Int32 × Int32 × Int32 × (Nat → Int32) × (Nat → Int32) × (Nat → Int32) × (Nat → Int32) × (Nat → Int32) × (Nat → Int32) × Int32 × (Nat → Int32) × (Nat → Int32) × (Nat → Int32) × (Nat → Int32) × Int32 × (Nat → Int32)
abbrev FS : Type := Int32 → Int32 → (Nat → Int32) → (Nat → Int32) → (Nat → Int64) → (Nat → Int32) → (Nat → Int32) → (Nat → Int32) → (Nat → Int32) → Int32 → Int32 → (Nat → Int32) → (Nat → Int32) → (Nat → Int32) → (Nat → Int32) → (Nat → Int32) → (Nat → Int32) → Int32 → (Nat → Int32) → (Nat → Int32) → (Nat → Int32) → (Nat → Int32) → Int32 → (Nat → Int32) → Int32 → Int32 → Int32 → Option (Except TS (Int32 × TS))
def fpC : TS → Int32 × Int32 := fun u => (u.1, u.2.1)
def shOK (T : Nat → Nat → Prop) (So Na : Nat → Int32) (sh : Nat) : Prop := (∀ s, s < 6 → So s = nI s) ∧ ∀ s, 6 ≤ s → s < sh → ((So s = 6 ∨ So s = 7 ∨ So s = 8) ∧ Na s = -1) ∨ ((So s = 9 ∨ So s = 10 ∨ So s = 11) ∧ ∃ x sz, Na s = nI x ∧ T x sz)
def kdOK (V : Nat → Prop) (kD : Nat → Int32) (kc : Nat) : Prop := ∀ k, k < kc → kD k = -1 ∨ ∃ x, kD k = nI x ∧ V x
def fiOK (Fi kS : Nat → Int32) (dn kc sh : Nat) : Prop := ∀ i, i < dn → ∃ k t, k < kc ∧ Fi i = nI k ∧ kS k = nI t ∧ t < sh
def valN (K F : Nat → Int32) (N : Nat → Int64) (S I X : Nat → Int32) (n l x : Nat) : Prop := ∃ h m p q, h ≤ 24 ∧ m ≤ n ∧ q ≤ p + 4100 ∧ Val K F N S I X l h x m p q
def preS (T : Nat → Nat → Prop) (V : Nat → Prop) (sh lk kc dn : Nat) (So Na kD Fi kS : Nat → Int32) : Prop := 6 ≤ sh ∧ sh ≤ 6 + lk ∧ lk ≤ 128 ∧ dn ≤ kc ∧ shOK T So Na sh ∧ kdOK V kD kc ∧ fiOK Fi kS dn kc sh
def agS (sh kc dn : Nat) (So Na Wi Ki kS kN kD kX Fi So' Na' Wi' Ki' kS' kN' kD' kX' Fi' : Nat → Int32) : Prop :=
  (∀ i, i < sh → So i = So' i ∧ Na i = Na' i ∧ Wi i = Wi' i ∧ Ki i = Ki' i) ∧ (∀ i, i < kc → kS i = kS' i ∧ kN i = kN' i ∧ kD i = kD' i ∧ kX i = kX' i) ∧ ∀ i, i < dn → Fi i = Fi' i
theorem agS.trans {sh kc dn sh1 kc1 dn1 : Nat} {So Na Wi Ki kS kN kD kX Fi So1 Na1 Wi1 Ki1 kS1 kN1 kD1 kX1 Fi1 So2 Na2 Wi2 Ki2 kS2 kN2 kD2 kX2 Fi2 : Nat → Int32} (a : agS sh kc dn So Na Wi Ki kS kN kD kX Fi So1 Na1 Wi1 Ki1 kS1 kN1 kD1 kX1 Fi1) (b : agS sh1 kc1 dn1 So1 Na1 Wi1 Ki1 kS1 kN1 kD1 kX1 Fi1 So2 Na2 Wi2 Ki2 kS2 kN2 kD2 kX2 Fi2) (h1 : sh ≤ sh1) (h2 : kc ≤ kc1) (h3 : dn ≤ dn1) : agS sh kc dn So Na Wi Ki kS kN kD kX Fi So2 Na2 Wi2 Ki2 kS2 kN2 kD2 kX2 Fi2 := by
  refine ⟨fun i hi => ?_, fun i hi => ?_, fun i hi => ?_⟩
  · obtain ⟨a1, a2, a3, a4⟩ := a.1 i hi
    obtain ⟨b1, b2, b3, b4⟩ := b.1 i (by omega)
    exact ⟨a1.trans b1, a2.trans b2, a3.trans b3, a4.trans b4⟩
  · obtain ⟨a1, a2, a3, a4⟩ := a.2.1 i hi
    obtain ⟨b1, b2, b3, b4⟩ := b.2.1 i (by omega)
    exact ⟨a1.trans b1, a2.trans b2, a3.trans b3, a4.trans b4⟩
  · exact (a.2.2 i hi).trans (b.2.2 i (by omega))
def postS (T : Nat → Nat → Prop) (V : Nat → Prop) (h len sh0 kc0 dn0 : Nat) (So0 Na0 Wi0 Ki0 kS0 kN0 kD0 kX0 Fi0 : Nat → Int32) (br fl pl r : Int32) (u : Gs → TS) : Prop :=
  ∃ (s sh lk kc dn w : Nat) (So Na Wi Ki Ma Fa kS kN kD kX Fi : Nat → Int32), r = nI s ∧ u = (fun g => (fl, pl, nI sh, nI lk, ov sh So (g.1 7), ov sh Na (g.1 8), ow sh Wi (g.1 9), ov sh Ki (g.1 10), ow sh Ma (g.1 11), ow sh Fa (g.1 12), nI kc, ov kc kS (g.1 13), ov kc kN (g.1 14), ov kc kD (g.1 15), ov kc kX (g.1 16), nI dn, ov dn Fi (g.1 17))) ∧ sh0 ≤ sh ∧ kc0 ≤ kc ∧ dn0 ≤ dn ∧ dn + kc0 ≤ dn0 + kc ∧ 2 * kc + 2 ≤ 2 * kc0 + len ∧ preS T V sh lk kc dn So Na kD Fi kS ∧ agS sh0 kc0 dn0 So0 Na0 Wi0 Ki0 kS0 kN0 kD0 kX0 Fi0 So Na Wi Ki kS kN kD kX Fi ∧
    Occ T So Na Wi Ki kS kN kX h s sh0 sh kc0 kc w ∧ w ≤ len ∧ (br = 1 → So s ≠ 8)
def okS (K F : Nat → Int32) (N : Nat → Int64) (S I X Lt : Nat → Int32) (n l : Nat) (fs : FS) (d h : Nat) : Prop :=
  ∀ (hv v m p q sh lk kc dn : Nat) (So Na Wi Ki Ma Fa kS kN kD kX Fi : Nat → Int32) (fl pl br : Int32), hv ≤ 24 → m ≤ n → Val K F N S I X l hv v m p q → preS (strN K N S n l) (valN K F N S I X n l) sh lk kc dn So Na kD Fi kS → 2 * kc + (q - p) ≤ 4100 → (br = 0 ∨ br = 1) →
    RES (fun g => fs fl pl (ov n K (g.1 0)) (ov n F (g.1 1)) (ov n N g.2) (ov n S (g.1 2)) (ov n I (g.1 3)) (ov n X (g.1 4)) (ov l Lt (g.1 5)) (nI sh) (nI lk) (ov sh So (g.1 7)) (ov sh Na (g.1 8)) (ow sh Wi (g.1 9)) (ov sh Ki (g.1 10)) (ow sh Ma (g.1 11)) (ow sh Fa (g.1 12)) (nI kc) (ov kc kS (g.1 13)) (ov kc kN (g.1 14)) (ov kc kD (g.1 15)) (ov kc kX (g.1 16)) (nI dn) (ov dn Fi (g.1 17)) (nI v) (nI d) br) fpC (postS (strN K N S n l) (valN K F N S I X n l) h (q - p) sh kc dn So Na Wi Ki kS kN kD kX Fi br fl pl)
theorem alike_ok {So : Nat → Int32} {sh a b : Nat} (ha : a < sh) (hb : b < sh) (hsh : sh ≤ 140) : ∃ r : Int32, ∀ g, m_X9_alike (ov sh So g) (nI a) (nI b) = some r := by
  simp only [m_X9_alike, bd_go (show a < 140 by omega) (by decide), bd_gc (show a < 140 by omega) (by decide), nI_clamp (show a < 2 ^ 31 by omega), bd_go (show b < 140 by omega) (by decide), bd_gc (show b < 140 by omega) (by decide), nI_clamp (show b < 2 ^ 31 by omega), ov_lt ha, ov_lt hb]
  by_cases h1 : nI a = nI b
  · simp only [if_pos h1]; exact ⟨_, fun _ => rfl⟩
  · simp only [if_neg h1]
    by_cases h2 : So a = So b
    · simp only [if_pos h2]
      by_cases h3 : So a = 6
      · simp only [if_pos h3]; exact ⟨_, fun _ => rfl⟩
      · simp only [if_neg h3]
        by_cases h4 : So a = 7
        · simp only [if_pos h4]; exact ⟨_, fun _ => rfl⟩
        · simp only [if_neg h4]; exact ⟨_, fun _ => rfl⟩
    · simp only [if_neg h2]; exact ⟨_, fun _ => rfl⟩
abbrev KU : Type := Int32 → Int32 → Int32 → Int32 → (Nat → Int32) → (Nat → Int32) → (Nat → Int32) → (Nat → Int32) → (Nat → Int32) → (Nat → Int32) → Int32 → (Nat → Int32) → (Nat → Int32) → (Nat → Int32) → (Nat → Int32) → Int32 → (Nat → Int32) → Int32 → Int32 → Int32 → Int32 → Option (Except TS (Int32 × TS))
theorem uni_dup {K F S I X Lt : Nat → Int32} {N : Nat → Int64} {n l : Nat} {So Na Wi Ki Ma Fa kS kN kD kX Fi : Nat → Int32} {fs : FS} {sh lk kc dn s0 s b m : Nat} {ck : Nat → Nat} {fl pl x2 x5 : Int32} {k75 : Gs → KU} {Q : Int32 → (Gs → TS) → Prop}
    (hn : n ≤ 4200) (hb : b < n) (hsh : sh ≤ 140) (hs : s < sh) (hkc : kc ≤ 2200)
    (hc : ∀ i, i < m → ck i < kc ∧ kX (ck i) = (if i + 1 = m then -1 else nI (ck (i + 1))) ∧ ∃ x, kS (ck i) = nI x ∧ x < sh)
    (hexit : RES (fun g => m_X9_union_101 fs (ov n K (g.1 0)) (ov n F (g.1 1)) (ov n N g.2) (ov n S (g.1 2)) (ov n I (g.1 3)) (ov n X (g.1 4)) (ov l Lt (g.1 5)) (k75 g) 1 fl pl (nI sh) (nI lk) (ov sh So (g.1 7)) (ov sh Na (g.1 8)) (ow sh Wi (g.1 9)) (ov sh Ki (g.1 10)) (ow sh Ma (g.1 11)) (ow sh Fa (g.1 12)) (nI kc) (ov kc kS (g.1 13)) (ov kc kN (g.1 14)) (ov kc kD (g.1 15)) (ov kc kX (g.1 16)) (nI dn) (ov dn Fi (g.1 17)) x2 (nI s0) x5 (nI b) (nI s) (-1)) fpC Q) :
    ∀ (fuel i : Nat), i ≤ m → m - i < fuel → RES (fun g => m_X9_union_101 fs (ov n K (g.1 0)) (ov n F (g.1 1)) (ov n N g.2) (ov n S (g.1 2)) (ov n I (g.1 3)) (ov n X (g.1 4)) (ov l Lt (g.1 5)) (k75 g) fuel fl pl (nI sh) (nI lk) (ov sh So (g.1 7)) (ov sh Na (g.1 8)) (ow sh Wi (g.1 9)) (ov sh Ki (g.1 10)) (ow sh Ma (g.1 11)) (ow sh Fa (g.1 12)) (nI kc) (ov kc kS (g.1 13)) (ov kc kN (g.1 14)) (ov kc kD (g.1 15)) (ov kc kX (g.1 16)) (nI dn) (ov dn Fi (g.1 17)) x2 (nI s0) x5 (nI b) (nI s) (if i = m then -1 else nI (ck i))) fpC Q := by
  intro fuel
  induction fuel with
  | zero => intro i _ hf; exact absurd hf (Nat.not_lt_zero _)
  | succ fuel ih =>
    intro i hi hf
    by_cases him : i = m
    · simp only [if_pos him]
      simp only [m_X9_union_101, if_pos (show (-1 : Int32) < 0 by decide)] at hexit ⊢
      exact hexit
    · obtain ⟨c1, c2, x, c3, c4⟩ := hc i (by omega)
      obtain ⟨r, hr⟩ := alike_ok (So := So) c4 hs hsh
      simp only [if_neg him, m_X9_union_101, if_neg (nI_pos (show ck i < 2 ^ 31 by omega)), bd_go (show ck i < 2200 by omega) (by decide), bd_gc (show ck i < 2200 by omega) (by decide), nI_clamp (show ck i < 2 ^ 31 by omega), ov_lt c1, c3, hr, Option.bind_some, m_X9_union_128, bd_go (show b < 4200 by omega) (by decide), bd_gc (show b < 4200 by omega) (by decide), nI_clamp (show b < 2 ^ 31 by omega), ov_lt hb, need_0, need_1, try_e, try_o, c2]
      refine RES.ite (fun _ => ?_) (fun _ => RES.er (fun g => rfl))
      exact ih (i + 1) (by omega) (by omega)
theorem uni_go {K F S I X Lt : Nat → Int32} {N : Nat → Int64} {n l : Nat} (hn : n ≤ 4200) (hl : l ≤ 4200) {fs : FS} {d h : Nat} (hfs : okS K F N S I X Lt n l fs (d + 1) h) {hv v m p a k : Nat} {c e u z : Nat → Nat} (hhv : hv ≤ 24) (hm : m ≤ n) (hk0 : 0 < k) (hk : k ≤ 16) (hL : kidsL (Val K F N S I X l hv) X v m p a k c e u z)
    {s0 kc0 dn0 : Nat} {So0 Na0 Wi0 Ki0 kS0 kN0 kD0 kX0 Fi0 : Nat → Int32} {fl pl : Int32} (h60 : 6 ≤ s0) (hbud : 2 * kc0 + (a + 1 - p) ≤ 4100) : ∀ (fuel i sh lk kc dn : Nat) (So Na Wi Ki Ma Fa kS kN kD kX Fi : Nat → Int32) (ck t b W : Nat → Nat), i ≤ k → k - i < fuel → preS (strN K N S n l) (valN K F N S I X n l) sh lk kc dn So Na kD Fi kS → s0 < sh → kc0 ≤ kc → dn0 ≤ dn → dn + kc0 ≤ dn0 + kc → agS s0 kc0 dn0 So0 Na0 Wi0 Ki0 kS0 kN0 kD0 kX0 Fi0 So Na Wi Ki kS kN kD kX Fi →
    So s0 = 8 → Ki s0 = (if i = 0 then -1 else nI (ck 0)) → t 0 = s0 + 1 → t i = sh → W 0 = 0 → (i < k → W i + p + 1 ≤ u i ∧ 2 * kc + p + 1 ≤ 2 * kc0 + u i) → (i = k → W i + p ≤ a ∧ 2 * kc + p + 1 ≤ 2 * kc0 + a) → (∀ j j', j < j' → j' < i → ck j < ck j') →
    (∀ j, j < i → s0 < t j ∧ t (j + 1) ≤ sh ∧ kc0 ≤ b j ∧ b j ≤ ck j ∧ ck j < kc ∧ kX (ck j) = (if j + 1 = i then -1 else nI (ck (j + 1))) ∧ ∃ x w', kS (ck j) = nI x ∧ Occ (strN K N S n l) So Na Wi Ki kS kN kX h x (t j) (t (j + 1)) (b j) (ck j) w' ∧ So x ≠ 8 ∧ W (j + 1) = W j + w' + 1) →
    RES (fun g => m_X9_union_75 fs (ov n K (g.1 0)) (ov n F (g.1 1)) (ov n N g.2) (ov n S (g.1 2)) (ov n I (g.1 3)) (ov n X (g.1 4)) (ov l Lt (g.1 5)) fuel fl pl (nI sh) (nI lk) (ov sh So (g.1 7)) (ov sh Na (g.1 8)) (ow sh Wi (g.1 9)) (ov sh Ki (g.1 10)) (ow sh Ma (g.1 11)) (ow sh Fa (g.1 12)) (nI kc) (ov kc kS (g.1 13)) (ov kc kN (g.1 14)) (ov kc kD (g.1 15)) (ov kc kX (g.1 16)) (nI dn) (ov dn Fi (g.1 17)) (nI d) (nI s0) (if i = 0 then -1 else nI (ck (i - 1))) (if i = k then -1 else nI (c i))) fpC (postS (strN K N S n l) (valN K F N S I X n l) (h + 1) (a + 1 - p) s0 kc0 dn0 So0 Na0 Wi0 Ki0 kS0 kN0 kD0 kX0 Fi0 0 fl pl) := by
  intro fuel
  induction fuel with
  | zero => intro i sh lk kc dn So Na Wi Ki Ma Fa kS kN kD kX Fi ck t b W _ hf; exact absurd hf (Nat.not_lt_zero _)
  | succ fuel ih =>
    intro i sh lk kc dn So Na Wi Ki Ma Fa kS kN kD kX Fi ck t b W hi hf hpre hs0 hkc hdn hdk hag hSo hKi ht0 hti hW0 hW1 hW2 hck hch
    by_cases hik : i = k
    · subst hik
      obtain ⟨w1, w2⟩ := hW2 rfl
      simp only [if_true, m_X9_union_75, if_pos (show (-1 : Int32) < 0 by decide)]
      refine RES.ok ⟨s0, sh, lk, kc, dn, 2 + (W i - 1), So, Na, Wi, Ki, Ma, Fa, kS, kN, kD, kX, Fi, rfl, rfl, by omega, hkc, hdn, hdk, by omega, hpre, hag, Or.inr ⟨rfl, hs0, Or.inr (Or.inl ⟨hSo, i, ck, t, b, W, ⟨hk0, by omega⟩, by rw [hKi, if_neg (by omega)], ht0, hti, hW0, rfl, hch⟩)⟩, by omega, fun q => absurd q (by decide)⟩
    · obtain ⟨q1, q2, q3, q4, q5, q6, q7, q8⟩ := hL.1 i (by omega)
      obtain ⟨w1, w2⟩ := hW1 (by omega)
      obtain ⟨p1, p2, p3, p4, p5, p6, p7⟩ := hpre
      simp only [if_neg hik, m_X9_union_75, if_neg (nI_pos (show c i < 2 ^ 31 by omega)), nI_1]
      refine RES.try (hfs hv (c i) (e i) (u i) (z i) sh lk kc dn So Na Wi Ki Ma Fa kS kN kD kX Fi fl pl 1 hhv (by omega) q1 ⟨p1, p2, p3, p4, p5, p6, p7⟩ (by omega) (Or.inr rfl)) ?_ (fun g u => rfl)
      rintro _ _ ⟨s, sh', lk', kc', dn', w, So', Na', Wi', Ki', Ma', Fa', kS', kN', kD', kX', Fi', rfl, rfl, r1, r2, r3, r4, r5, ⟨p1', p2', p3', p4', p5', p6', p7'⟩, r7, hocc, hw, hbr⟩
      have hs' : s < sh' := hocc.lt p1
      dsimp only
      have hKs : Ki' s0 = (if 0 = i then -1 else nI (ck 0)) := by
        rw [← (r7.1 s0 hs0).2.2.2, hKi]
        by_cases h0 : i = 0
        · rw [if_pos h0, if_pos h0.symm]
        · rw [if_neg h0, if_neg (fun q => h0 q.symm)]
      simp only [bd_go (show s0 < 140 by omega) (by decide), bd_gc (show s0 < 140 by omega) (by decide), nI_clamp (show s0 < 2 ^ 31 by omega), ov_lt (show s0 < sh' by omega), hKs]
      have hocc' : ∀ j, j < i → ∀ x w', Occ (strN K N S n l) So Na Wi Ki kS kN kX h x (t j) (t (j + 1)) (b j) (ck j) w' → x < sh := fun j hj x w' ho => by
        obtain ⟨d1, d2, -⟩ := hch j hj
        have := ho.lt (by omega)
        omega
      refine uni_dup (ck := ck) hn (show c i < n by omega) (show sh' ≤ 140 by omega) hs' (show kc' ≤ 2200 by omega) (fun j hj => ?_) ?_ sr_fuel 0 (by omega) (by unfold sr_fuel; omega)
      · obtain ⟨d1, d2, d3, d4, d5, d6, x, w', d7, d8, d9, d10⟩ := hch j hj
        obtain ⟨f1, f2, f3, f4⟩ := r7.2.1 (ck j) d5
        exact ⟨by omega, by rw [← f4]; exact d6, x, by rw [← f1]; exact d7, by have := hocc' j hj x w' d8; omega⟩
      · have key : ∀ (Ki2 kX2 : Nat → Int32), Ki2 s0 = nI (snc ck i kc' 0) → (∀ j, j ≠ s0 → Ki2 j = Ki' j) → (∀ j, j < kc' → (∀ j', j' + 1 = i → j ≠ ck j') → kX2 j = kX' j) → (∀ j, j + 1 = i → kX2 (ck j) = nI kc') → kX2 kc' = -1 →
            RES (fun g => m_X9_union_75 fs (ov n K (g.1 0)) (ov n F (g.1 1)) (ov n N g.2) (ov n S (g.1 2)) (ov n I (g.1 3)) (ov n X (g.1 4)) (ov l Lt (g.1 5)) fuel fl pl (nI sh') (nI lk') (ov sh' So' (g.1 7)) (ov sh' Na' (g.1 8)) (ow sh' Wi' (g.1 9)) (ov sh' Ki2 (g.1 10)) (ow sh' (upd Ma' s0 (Ma' s0 + 1)) (g.1 11)) (ow sh' Fa' (g.1 12)) (nI (kc' + 1)) (ov (kc' + 1) (upd kS' kc' (nI s)) (g.1 13)) (ov (kc' + 1) (upd kN' kc' (-1)) (g.1 14)) (ov (kc' + 1) (upd kD' kc' (-1)) (g.1 15)) (ov (kc' + 1) kX2 (g.1 16)) (nI dn') (ov dn' Fi' (g.1 17)) (nI d) (nI s0) (nI kc') (if i + 1 = k then -1 else nI (c (i + 1)))) fpC (postS (strN K N S n l) (valN K F N S I X n l) (h + 1) (a + 1 - p) s0 kc0 dn0 So0 Na0 Wi0 Ki0 kS0 kN0 kD0 kX0 Fi0 0 fl pl) := by
          intro Ki2 kX2 y1 y2 y3 y4 y5
          have hckl : ∀ j j', j < i → j' + 1 = i → ∀ x, x < ck j → x ≠ ck j' := fun j j' hj hj' x hx => by
            by_cases hjj : j = j'
            · subst hjj; omega
            · have := hck j j' (by omega) (by omega); omega
          have := ih (i + 1) sh' lk' (kc' + 1) dn' So' Na' Wi' Ki2 (upd Ma' s0 (Ma' s0 + 1)) Fa' (upd kS' kc' (nI s)) (upd kN' kc' (-1)) (upd kD' kc' (-1)) kX2 Fi' (snc ck i kc') (snc t (i + 1) sh') (snc b i kc) (snc W (i + 1) (W i + w + 1)) (by omega) (by omega) ⟨p1', p2', p3', by omega, p5', fun j hj => by
              by_cases hjk : j = kc'
              · subst hjk; exact Or.inl pk_us
              · rw [pk_un hjk]; exact p6' j (by omega), fun j hj => by
              obtain ⟨x, y, x1, x2, x3, x4⟩ := p7' j hj
              exact ⟨x, y, by omega, x2, by rw [pk_un (by omega)]; exact x3, x4⟩⟩ (by omega) (by omega) (by omega) (by omega) ⟨fun j hj => by
              obtain ⟨a1, a2, a3, a4⟩ := hag.1 j hj
              obtain ⟨b1, b2, b3, b4⟩ := r7.1 j (by omega)
              exact ⟨a1.trans b1, a2.trans b2, a3.trans b3, by rw [y2 j (by omega)]; exact a4.trans b4⟩, fun j hj => by
              obtain ⟨a1, a2, a3, a4⟩ := hag.2.1 j hj
              obtain ⟨b1, b2, b3, b4⟩ := r7.2.1 j (by omega)
              refine ⟨by rw [pk_un (by omega)]; exact a1.trans b1, by rw [pk_un (by omega)]; exact a2.trans b2, by rw [pk_un (by omega)]; exact a3.trans b3, ?_⟩
              rw [y3 j (by omega) (fun j' hj' hc => ?_)]
              · exact a4.trans b4
              · obtain ⟨d1, d2, d3, d4, d5, -⟩ := hch j' (by omega)
                omega, fun j hj => (hag.2.2 j hj).trans (r7.2.2 j (by omega))⟩ (by rw [← (r7.1 s0 hs0).1]; exact hSo) (by rw [y1, if_neg (by omega)]) (by rw [snc_n (by omega)]; exact ht0) snc_s (by rw [snc_n (by omega)]; exact hW0) (fun hlt => by
              rw [snc_s]
              have := (hL.2 i (i + 1) (by omega) hlt).2
              omega) (fun heq => by
              rw [snc_s]
              omega) (fun j j' hjj hj' => by
              by_cases hj2 : j' = i
              · subst hj2
                rw [snc_s, snc_n (by omega)]
                have := (hch j (by omega)).2.2.2.2.1
                omega
              · rw [snc_n hj2, snc_n (by omega)]
                exact hck j j' hjj (by omega)) (fun j hj => by
              by_cases hji : j = i
              · subst hji
                simp only [snc_s]
                rw [snc_n (show j ≠ j + 1 by omega), snc_n (show j ≠ j + 1 by omega), hti]
                refine ⟨hs0, Nat.le_refl _, hkc, r2, by omega, by rw [if_pos trivial]; exact y5, s, w, pk_us, ?_, hbr rfl, rfl⟩
                refine Occ.keep h _ _ _ _ _ _ p1 hocc (fun _ _ => ⟨rfl, rfl⟩) (fun x x1 x2 => ⟨rfl, (y2 x (by omega)).symm⟩) (fun x x1 x2 => ⟨by rw [pk_un (by omega)], by rw [pk_un (by omega)], ?_⟩)
                rw [y3 x (by omega) (fun j' hj' hc => ?_)]
                obtain ⟨d1, d2, d3, d4, d5, -⟩ := hch j' (by omega)
                omega
              · obtain ⟨d1, d2, d3, d4, d5, d6, x, w', d7, d8, d9, d10⟩ := hch j (by omega)
                have hx := hocc' j (by omega) x w' d8
                obtain ⟨f1, f2, f3, f4⟩ := r7.2.1 (ck j) d5
                rw [snc_n (show j ≠ i + 1 by omega), snc_n (show j + 1 ≠ i + 1 by omega), snc_n hji, snc_n hji, snc_n (show j + 1 ≠ i + 1 by omega), snc_n (show j ≠ i + 1 by omega)]
                refine ⟨d1, by omega, d3, d4, by omega, ?_, x, w', by rw [pk_un (by omega), ← f1]; exact d7, ?_, by rw [← (r7.1 x hx).1]; exact d9, d10⟩
                · rw [if_neg (by omega)]
                  by_cases hj1 : j + 1 = i
                  · rw [hj1, snc_s]; exact y4 j hj1
                  · rw [snc_n hj1, y3 (ck j) (by omega) (fun j' hj' hc => by have := hck j j' (by omega) (by omega); omega), ← f4, d6, if_neg hj1]
                · refine Occ.keep h _ _ _ _ _ _ (by omega) d8 (fun y hy => ⟨(r7.1 y (by omega)).1, (r7.1 y (by omega)).2.1⟩) (fun y y1' y2' => ⟨(r7.1 y (by omega)).2.2.1, ?_⟩) (fun y y1' y2' => ?_)
                  · rw [y2 y (by omega)]; exact (r7.1 y (by omega)).2.2.2
                  · obtain ⟨g1, g2, g3, g4⟩ := r7.2.1 y (by omega)
                    refine ⟨by rw [pk_un (by omega)]; exact g1, by rw [pk_un (by omega)]; exact g2, ?_⟩
                    rw [y3 y (by omega) (fun j' hj' => hckl j j' (by omega) hj' y y2')]
                    exact g4)
          simp only [if_neg (show ¬ i + 1 = 0 by omega), Nat.add_sub_cancel, snc_s] at this
          exact this
        by_cases h0 : i = 0
        · simp only [m_X9_union_101, if_pos (show (-1 : Int32) < 0 by decide), if_pos h0, addKid_0 h60 (show s0 < sh' by omega) (show sh' ≤ 140 by omega) (show kc' < 2200 by omega), Option.bind_some, bd_go (show kc' < 2200 by omega) (by decide), bd_gc (show kc' < 2200 by omega) (by decide), nI_clamp (show kc' < 2 ^ 31 by omega), bd_go (show c i < 4200 by omega) (by decide), bd_gc (show c i < 4200 by omega) (by decide), nI_clamp (show c i < 2 ^ 31 by omega), ov_up (Nat.lt_succ_self kc'), upd_upd, ov_lt (show c i < n by omega), q2]
          exact key _ _ (by rw [pk_us, h0, snc_s]) (fun j hj => pk_un hj) (fun j hj _ => pk_un (by omega)) (fun j hj => absurd hj (by omega)) pk_us
        · obtain ⟨d1, d2, d3, d4, d5, -⟩ := hch (i - 1) (by omega)
          simp only [m_X9_union_101, if_pos (show (-1 : Int32) < 0 by decide), if_neg h0, addKid_1 h60 (show s0 < sh' by omega) (show sh' ≤ 140 by omega) (show kc' < 2200 by omega) (show ck (i - 1) < kc' by omega), Option.bind_some, bd_go (show kc' < 2200 by omega) (by decide), bd_gc (show kc' < 2200 by omega) (by decide), nI_clamp (show kc' < 2 ^ 31 by omega), bd_go (show c i < 4200 by omega) (by decide), bd_gc (show c i < 4200 by omega) (by decide), nI_clamp (show c i < 2 ^ 31 by omega), ov_up (Nat.lt_succ_self kc'), upd_upd, ov_lt (show c i < n by omega), q2]
          refine key _ _ (by rw [hKs, if_neg (fun q => h0 q.symm), snc_n (by omega)]) (fun _ _ => rfl) (fun j hj hc => by rw [pk_un (hc (i - 1) (by omega)), pk_un (by omega)]) (fun j hj => ?_) (by rw [pk_un (by omega)]; exact pk_us)
          rw [show j = i - 1 by omega, pk_us]
theorem uni_ok {K F S I X Lt : Nat → Int32} {N : Nat → Int64} {n l : Nat} (hn : n ≤ 4200) (hl : l ≤ 4200) {fs : FS} {d h : Nat} (hfs : okS K F N S I X Lt n l fs (d + 1) h) {hv v m p q sh lk kc dn : Nat} {So Na Wi Ki Ma Fa kS kN kD kX Fi : Nat → Int32} {fl pl br : Int32} (hhv : hv ≤ 24) (hm : m ≤ n) (hV : Val K F N S I X l hv v m p q) (hK1 : K v = 1) (hpre : preS (strN K N S n l) (valN K F N S I X n l) sh lk kc dn So Na kD Fi kS) (hlk : sh < 6 + lk) (hbud : 2 * kc + (q - p) ≤ 4100) (hbr : br = 0 ∨ br = 1) :
    RES (fun g => m_X9_union fs fl pl (ov n K (g.1 0)) (ov n F (g.1 1)) (ov n N g.2) (ov n S (g.1 2)) (ov n I (g.1 3)) (ov n X (g.1 4)) (ov l Lt (g.1 5)) (nI sh) (nI lk) (ov sh So (g.1 7)) (ov sh Na (g.1 8)) (ow sh Wi (g.1 9)) (ov sh Ki (g.1 10)) (ow sh Ma (g.1 11)) (ow sh Fa (g.1 12)) (nI kc) (ov kc kS (g.1 13)) (ov kc kN (g.1 14)) (ov kc kD (g.1 15)) (ov kc kX (g.1 16)) (nI dn) (ov dn Fi (g.1 17)) (nI v) (nI d) br) fpC (postS (strN K N S n l) (valN K F N S I X n l) (h + 1) (q - p) sh kc dn So Na Wi Ki kS kN kD kX Fi br fl pl) := by
  obtain ⟨h', a, k, c, e, u, t, rfl, rfl, hka, hS, hI, hL⟩ := hV.lst hK1
  have hvn : v < n := Nat.lt_of_lt_of_le hV.basic.1 hm
  obtain ⟨p1, p2, p3, p4, p5, p6, p7⟩ := hpre
  rcases hbr with rfl | rfl
  · simp only [m_X9_union, if_true, m_X9_union_10, bd_go (show v < 4200 by omega) (by decide), bd_gc (show v < 4200 by omega) (by decide), nI_clamp (show v < 2 ^ 31 by omega), ov_lt hvn, need_1, try_o, hS, m_X9_union_45]
    have her : ∀ {Q : Int32 → (Gs → TS) → Prop}, RES (fun g => m_X9_union_46 fs (ov n K (g.1 0)) (ov n F (g.1 1)) (ov n N g.2) (ov n S (g.1 2)) (ov n I (g.1 3)) (ov n X (g.1 4)) (ov l Lt (g.1 5)) fl pl (nI sh) (nI lk) (ov sh So (g.1 7)) (ov sh Na (g.1 8)) (ow sh Wi (g.1 9)) (ov sh Ki (g.1 10)) (ow sh Ma (g.1 11)) (ow sh Fa (g.1 12)) (nI kc) (ov kc kS (g.1 13)) (ov kc kN (g.1 14)) (ov kc kD (g.1 15)) (ov kc kX (g.1 16)) (nI dn) (ov dn Fi (g.1 17)) (nI v) (nI d) 0) fpC Q := by
      intro Q
      simp only [m_X9_union_46, bd_go (show v < 4200 by omega) (by decide), bd_gc (show v < 4200 by omega) (by decide), nI_clamp (show v < 2 ^ 31 by omega), ov_lt hvn, hV.basic.2.2, need_0, try_e]
      exact RES.er (fun g => rfl)
    refine RES.ite (fun _ => her) (fun h0 => RES.ite (fun _ => her) (fun h17 => ?_))
    have hk0 : 0 < k := by
      apply Nat.pos_of_ne_zero
      intro q
      exact h0 (by rw [q, nI_0]; decide)
    have hk16 : k ≤ 16 := by
      apply Nat.le_of_not_lt
      intro q
      exact h17 (nI_le (a := 17) q (by omega))
    simp only [m_X9_union_46, bd_go (show v < 4200 by omega) (by decide), bd_gc (show v < 4200 by omega) (by decide), nI_clamp (show v < 2 ^ 31 by omega), need_1, try_o, shape_eq p1 (show sh < 140 by omega), Option.bind_some, ov_lt hvn, hI]
    have hst : (if k = 0 then (-1 : Int32) else nI (c 0)) = (if 0 = k then -1 else nI (c 0)) := by
      rw [if_neg (by omega), if_neg (by omega)]
    simp only [hst]
    refine uni_go hn hl hfs (by omega) hm hk0 hk16 hL p1 hbud sr_fuel 0 (sh + 1) lk kc dn _ _ _ _ _ _ kS kN kD kX Fi id (fun _ => sh + 1) id (fun _ => 0) (by omega) (by unfold sr_fuel; omega) ⟨by omega, by omega, p3, p4, ⟨fun s hs => by rw [pk_un (by omega)]; exact p5.1 s hs, fun s s6 hs => ?_⟩, p6, fun j hj => by
      obtain ⟨x, y, x1, x2, x3, x4⟩ := p7 j hj
      exact ⟨x, y, x1, x2, x3, by omega⟩⟩ (by omega) (Nat.le_refl _) (Nat.le_refl _) (by omega) ⟨fun i hi => ⟨by rw [pk_un (by omega)], by rw [pk_un (by omega)], by rw [pk_un (by omega)], by rw [pk_un (by omega)]⟩, fun _ _ => ⟨rfl, rfl, rfl, rfl⟩, fun _ _ => rfl⟩ pk_us pk_us rfl rfl rfl (fun _ => ?_) (fun q => absurd q (by omega)) (fun j j' _ hj => absurd hj (Nat.not_lt_zero _)) (fun j hj => absurd hj (Nat.not_lt_zero _))
    · by_cases hss : s = sh
      · subst hss; exact Or.inl ⟨by rw [pk_us]; exact Or.inr (Or.inr rfl), pk_us⟩
      · rw [pk_un hss, pk_un hss]; exact p5.2 s s6 (by omega)
    · have := (hL.1 0 hk0).2.2.2.2.2.1
      omega
  · simp only [m_X9_union, if_neg (show ¬ (1 : Int32) = 0 by decide), m_X9_union_10, bd_go (show v < 4200 by omega) (by decide), bd_gc (show v < 4200 by omega) (by decide), nI_clamp (show v < 2 ^ 31 by omega), ov_lt hvn, hV.basic.2.2, need_0, try_e]
    exact RES.er (fun g => rfl)
