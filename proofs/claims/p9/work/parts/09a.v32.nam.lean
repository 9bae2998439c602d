-- the reference's symbols, fields, names
theorem symbols_ok {K F S I X Lt : Nat → Int32} {N : Nat → Int64} {n l : Nat} (hn : n ≤ 4200) (hl : l ≤ 4200) {hv v m p a k : Nat} {c e u r s' t : Nat → Nat} (hhv : hv ≤ 23) (hvn : v < n) (hF : F v = nI p) (hm : m ≤ n) (hka : k + p < a) (hp : a + 1 - p ≤ 4100) (hI : I v = (if k = 0 then -1 else nI (c 0))) (hO : kidsO (Val K F N S I X l hv) (keyV K F N S l) X v m p a k c e u r s' t) {sh s kc : Nat} {Ki Ma Fa kS kN kD kX : Nat → Int32} {fl pl : Int32} (h6s : 6 ≤ s) (hs : s < sh) (hsh : sh ≤ 140) (hkc : kc ≤ 2100) (hKs : Ki s = -1) :
    RES (fun g => m_X9_symbols fl pl (ov n K (g.1 0)) (ov n F (g.1 1)) (ov n N g.2) (ov n S (g.1 2)) (ov n I (g.1 3)) (ov n X (g.1 4)) (ov l Lt (g.1 5)) (ov sh Ki (g.1 10)) (ow sh Ma (g.1 11)) (ow sh Fa (g.1 12)) (nI kc) (ov kc kS (g.1 13)) (ov kc kN (g.1 14)) (ov kc kD (g.1 15)) (ov kc kX (g.1 16)) (nI s) (nI v)) fpY (fun _ w => ∃ js m' lim, js < k ∧ StrIs K N S Lt n l (c js) 58 ∧ u js + 9 ≤ r js ∧ s' js + lim + 1 = t js ∧ 0 < m' ∧ m' ≤ 32 ∧ symP (strN K N S n l) fl pl sh s kc m' lim Ki kS kN kD kX w) := by
  obtain ⟨y, hy, hy2⟩ := hO.mem (w := 58) (Lt := Lt) (by decide) hn hl hvn hm (by omega) hI
  simp only [m_X9_symbols, hy2, Option.bind_some]
  rcases hy with rfl | ⟨js, hjs, rfl, hjs2, hjs3⟩
  · simp only [if_pos (show (-1 : Int32) < 0 by decide), m_X9_symbols_19, bd_go (show v < 4200 by omega) (by decide), bd_gc (show v < 4200 by omega) (by decide), nI_clamp (show v < 2 ^ 31 by omega), ov_lt hvn, hF, need_0, try_e]
    exact RES.er (fun g => rfl)
  · obtain ⟨q0, q1, q2, q2', q3, q4, q5, q6, q7, q8, q9, q10⟩ := hO.1 js hjs
    have l58 : lenS.getD 58 0 = 7 := by decide +kernel
    rw [l58] at hjs3
    simp only [if_neg (nI_pos (show c js + 1 < 2 ^ 31 by omega)), m_X9_symbols_19, bd_go (show v < 4200 by omega) (by decide), bd_gc (show v < 4200 by omega) (by decide), nI_clamp (show v < 2 ^ 31 by omega), need_1, try_o, bd_go (show c js + 1 < 4200 by omega) (by decide), bd_gc (show c js + 1 < 4200 by omega) (by decide), nI_clamp (show c js + 1 < 2 ^ 31 by omega), ov_lt (show c js + 1 < n by omega), m_X9_symbols_65]
    have her : ∀ {Q : Unit → (Gs → TY) → Prop}, RES (fun g => m_X9_symbols_66 (ov n K (g.1 0)) (ov n F (g.1 1)) (ov n N g.2) (ov n S (g.1 2)) (ov n I (g.1 3)) (ov n X (g.1 4)) (ov l Lt (g.1 5)) fl pl (ov sh Ki (g.1 10)) (ow sh Ma (g.1 11)) (ow sh Fa (g.1 12)) (nI kc) (ov kc kS (g.1 13)) (ov kc kN (g.1 14)) (ov kc kD (g.1 15)) (ov kc kX (g.1 16)) (nI s) (nI v) (nI (c js + 1)) 0) fpY Q := by
      intro Q
      simp only [m_X9_symbols_66, bd_go (show c js + 1 < 4200 by omega) (by decide), bd_gc (show c js + 1 < 4200 by omega) (by decide), nI_clamp (show c js + 1 < 2 ^ 31 by omega), ov_lt (show c js + 1 < n by omega), q1.basic.2.2, need_0, try_e]
      exact RES.er (fun g => rfl)
    refine RES.ite (fun hK1 => ?_) (fun _ => her)
    obtain ⟨h2, a2, k2, c2, e2, u2, t2, rfl, ha2, hka2, hS2, hI2, hL2⟩ := q1.lst hK1
    simp only [hS2]
    refine RES.ite (fun _ => her) (fun h0 => RES.ite (fun _ => her) (fun h33 => ?_))
    have hk0 : 0 < k2 := by
      apply Nat.pos_of_ne_zero
      intro q
      exact h0 (by rw [q, nI_0]; decide)
    have hk32 : k2 ≤ 32 := by
      apply Nat.le_of_not_lt
      intro q
      exact h33 (nI_le (a := 33) q (by omega))
    have hst : (if k2 = 0 then (-1 : Int32) else nI (c2 0)) = (if 0 = k2 then -1 else nI (c2 0)) := by
      rw [if_neg (by omega), if_neg (by omega)]
    simp only [m_X9_symbols_66, bd_go (show c js + 1 < 4200 by omega) (by decide), bd_gc (show c js + 1 < 4200 by omega) (by decide), nI_clamp (show c js + 1 < 2 ^ 31 by omega), need_1, try_o, ov_lt (show c js + 1 < n by omega), hI2, hst]
    refine (sym_go hn hl hvn hm (by omega) hI (fun i hi => ⟨_, (hO.1 i hi).2.1⟩) hO (show e js ≤ n by omega) hL2 h6s hs hsh hk0 (show kc + k2 ≤ 2200 by omega) (Ki0 := Ki) (kS0 := kS) (kN0 := kN) (kD0 := kD) (kX0 := kX) sr_fuel 0 kc Ki Ma kS kN kD kX (fun _ => 0) (by omega) (by unfold sr_fuel; omega) rfl hKs (fun _ _ => rfl) ag.rfl' ag.rfl' ag.rfl' ag.rfl' (fun j j1 j2 => absurd j2 (by omega)) rfl (fun _ => ?_) (fun q => absurd q (by omega)) (fun j hj => absurd hj (Nat.not_lt_zero _))).mono ?_
    · have := (hL2.1 0 hk0).2.2.2.2.2.1
      omega
    · intro _ w hw
      exact ⟨js, k2, a2 - s' js, hjs, hjs2, by omega, by omega, hk0, hk32, hw⟩
theorem fields_ok {K F S I X Lt : Nat → Int32} {N : Nat → Int64} {n l : Nat} (hn : n ≤ 4200) (hl : l ≤ 4200) {fs : FS} {d h : Nat} (hfs : okS K F N S I X Lt n l fs (d + 1) h) {hv v m p a k : Nat} {c e u r s' t : Nat → Nat} (hhv : hv ≤ 23) (hvn : v < n) (hF : F v = nI p) (hm : m ≤ n) (hka : k + p < a) (hp : a + 1 - p ≤ 4100) (hI : I v = (if k = 0 then -1 else nI (c 0))) (hO : kidsO (Val K F N S I X l hv) (keyV K F N S l) X v m p a k c e u r s' t) {s0 sh lk kc dn nx sz : Nat} {So Na Wi Ki Ma Fa kS kN kD kX Fi So0 Na0 Wi0 Ki0 : Nat → Int32} {fl pl : Int32} (hsh : sh = s0 + 1) (h60 : 6 ≤ s0) (hT : strN K N S n l nx sz) (hpre : preS (strN K N S n l) (valN K F N S I X n l) sh lk kc dn So Na kD Fi kS) (hbud : 2 * kc + (a + 1 - p) ≤ 4100) (hSo : So s0 = 11) (hNa : Na s0 = nI nx) (hKi : Ki s0 = -1)
    (hag : ∀ i, i < s0 → So0 i = So i ∧ Na0 i = Na i ∧ Wi0 i = Wi i ∧ Ki0 i = Ki i) :
    RES (fun g => m_X9_fields fs fl pl (ov n K (g.1 0)) (ov n F (g.1 1)) (ov n N g.2) (ov n S (g.1 2)) (ov n I (g.1 3)) (ov n X (g.1 4)) (ov l Lt (g.1 5)) (nI sh) (nI lk) (ov sh So (g.1 7)) (ov sh Na (g.1 8)) (ow sh Wi (g.1 9)) (ov sh Ki (g.1 10)) (ow sh Ma (g.1 11)) (ow sh Fa (g.1 12)) (nI kc) (ov kc kS (g.1 13)) (ov kc kN (g.1 14)) (ov kc kD (g.1 15)) (ov kc kX (g.1 16)) (nI dn) (ov dn Fi (g.1 17)) (nI s0) (nI v) (nI d)) fpC (fun _ w => ∃ jf, jf < k ∧ StrIs K N S Lt n l (c jf) 60 ∧ u jf + 8 ≤ r jf ∧ postF (strN K N S n l) (valN K F N S I X n l) h (t jf - s' jf) sz s0 kc dn So0 Na0 Wi0 Ki0 kS kN kD kX Fi fl pl w) := by
  subst hsh
  obtain ⟨y, hy, hy2⟩ := hO.mem (w := 60) (Lt := Lt) (by decide) hn hl hvn hm (by omega) hI
  simp only [m_X9_fields, hy2, Option.bind_some]
  rcases hy with rfl | ⟨jf, hjf, rfl, hjf2, hjf3⟩
  · simp only [if_pos (show (-1 : Int32) < 0 by decide), m_X9_fields_21, bd_go (show v < 4200 by omega) (by decide), bd_gc (show v < 4200 by omega) (by decide), nI_clamp (show v < 2 ^ 31 by omega), ov_lt hvn, hF, need_0, try_e]
    exact RES.er (fun g => rfl)
  · obtain ⟨q0, q1, q2, q2', q3, q4, q5, q6, q7, q8, q9, q10⟩ := hO.1 jf hjf
    have l60 : lenS.getD 60 0 = 6 := by decide +kernel
    rw [l60] at hjf3
    obtain ⟨p1, p2, p3, p4, p5, p6, p7⟩ := hpre
    simp only [if_neg (nI_pos (show c jf + 1 < 2 ^ 31 by omega)), m_X9_fields_21, bd_go (show v < 4200 by omega) (by decide), bd_gc (show v < 4200 by omega) (by decide), nI_clamp (show v < 2 ^ 31 by omega), need_1, try_o, bd_go (show c jf + 1 < 4200 by omega) (by decide), bd_gc (show c jf + 1 < 4200 by omega) (by decide), nI_clamp (show c jf + 1 < 2 ^ 31 by omega), ov_lt (show c jf + 1 < n by omega), m_X9_fields_60]
    have her : ∀ {Q : Unit → (Gs → TS) → Prop}, RES (fun g => m_X9_fields_61 fs (ov n K (g.1 0)) (ov n F (g.1 1)) (ov n N g.2) (ov n S (g.1 2)) (ov n I (g.1 3)) (ov n X (g.1 4)) (ov l Lt (g.1 5)) fl pl (nI (s0 + 1)) (nI lk) (ov (s0 + 1) So (g.1 7)) (ov (s0 + 1) Na (g.1 8)) (ow (s0 + 1) Wi (g.1 9)) (ov (s0 + 1) Ki (g.1 10)) (ow (s0 + 1) Ma (g.1 11)) (ow (s0 + 1) Fa (g.1 12)) (nI kc) (ov kc kS (g.1 13)) (ov kc kN (g.1 14)) (ov kc kD (g.1 15)) (ov kc kX (g.1 16)) (nI dn) (ov dn Fi (g.1 17)) (nI s0) (nI d) (nI (c jf + 1)) 0) fpC Q := by
      intro Q
      simp only [m_X9_fields_61, bd_go (show c jf + 1 < 4200 by omega) (by decide), bd_gc (show c jf + 1 < 4200 by omega) (by decide), nI_clamp (show c jf + 1 < 2 ^ 31 by omega), ov_lt (show c jf + 1 < n by omega), q1.basic.2.2, need_0, try_e]
      exact RES.er (fun g => rfl)
    refine RES.ite (fun hK1 => ?_) (fun _ => her)
    obtain ⟨h2, a2, k2, c2, e2, u2, t2, rfl, ha2, hka2, hS2, hI2, hL2⟩ := q1.lst hK1
    simp only [hS2]
    refine RES.ite (fun _ => her) (fun h33 => ?_)
    have hk32 : k2 ≤ 32 := by
      apply Nat.le_of_not_lt
      intro q
      exact h33 (nI_le (a := 33) q (by omega))
    have hst : (if k2 = 0 then (-1 : Int32) else nI (c2 0)) = (if 0 = k2 then -1 else nI (c2 0)) := by
      by_cases h0 : k2 = 0
      · rw [if_pos h0, if_pos h0.symm]
      · rw [if_neg h0, if_neg (fun q => h0 q.symm)]
    simp only [m_X9_fields_61, bd_go (show c jf + 1 < 4200 by omega) (by decide), bd_gc (show c jf + 1 < 4200 by omega) (by decide), nI_clamp (show c jf + 1 < 2 ^ 31 by omega), need_1, try_o, ov_lt (show c jf + 1 < n by omega), hI2, hst]
    refine (fld_go hn hl hfs (show h2 ≤ 24 by omega) (show e jf ≤ n by omega) hk32 hka2 hL2 h60 hT (kc0 := kc) (dn0 := dn) (So0 := So0) (Na0 := Na0) (Wi0 := Wi0) (Ki0 := Ki0) (kS0 := kS) (kN0 := kN) (kD0 := kD) (kX0 := kX) (Fi0 := Fi) (by omega) sr_fuel 0 (s0 + 1) lk kc dn So Na Wi Ki Ma Fa kS kN kD kX Fi id (fun _ => s0 + 1) id (fun _ => 0) (by omega) (by unfold sr_fuel; omega) ⟨p1, p2, p3, p4, p5, p6, p7⟩ (by omega) (Nat.le_refl _) (Nat.le_refl _) (by omega) ⟨hag, fun _ _ => ⟨rfl, rfl, rfl, rfl⟩, fun _ _ => rfl⟩ hSo hNa hKi rfl rfl rfl (fun h0 => ?_) (fun q => ?_) (fun j j' _ hj => absurd hj (Nat.not_lt_zero _)) (fun j hj => absurd hj (Nat.not_lt_zero _))).mono ?_
    · have := (hL2.1 0 h0).2.2.2.2.2.1
      omega
    · omega
    · intro _ w hw
      refine ⟨jf, hjf, hjf2, by omega, ?_⟩
      rw [show t jf - s' jf = a2 + 1 - s' jf by omega]
      exact hw
theorem lgc {z : Int64} (h1 : ¬ lg_cmp z 0 < 0) (h2 : ¬ 0 < lg_cmp z 64) : ∃ d : Nat, d ≤ 64 ∧ z = lN d := by
  have a1 : 0 ≤ z.toInt := by
    unfold lg_cmp at h1
    by_cases q : z > 0
    · have := Int64.lt_iff_toInt_lt.mp q
      rw [show (0 : Int64).toInt = 0 by decide] at this
      omega
    · rw [if_neg q] at h1
      by_cases q2 : z = 0
      · subst q2; decide
      · rw [if_neg q2] at h1
        exact absurd (by decide) h1
  have a2 : z.toInt ≤ 64 := by
    unfold lg_cmp at h2
    by_cases q : z > 64
    · rw [if_pos q] at h2
      exact absurd (by decide) h2
    · have : ¬ (64 : Int64).toInt < z.toInt := fun h => q (Int64.lt_iff_toInt_lt.mpr h)
      rw [show (64 : Int64).toInt = 64 by decide] at this
      omega
  refine ⟨z.toInt.toNat, by omega, Int64.toInt_inj.mp ?_⟩
  rw [lN_toInt (by omega)]
  omega
theorem lN_9 {d : Nat} (h : d ≤ 64) : (9 < d → (9 : Int64) < lN d) := by
  intro q
  exact (lN_lt (a := 9) (by omega) (by omega)).mpr q
theorem Val.num {K F S I X : Nat → Int32} {N : Nat → Int64} {l h v m p q : Nat} (hv : Val K F N S I X l h v m p q) (h3 : K v = 3) : 9 < N v → p + 2 ≤ q := by
  have leaf : leafV K F N S l v m p q → 9 < N v → p + 2 ≤ q := by
    rintro ⟨-, -, -, ⟨hk, -⟩ | ⟨-, hk⟩ | hk | hk | hk⟩
    · rw [h3] at hk; exact absurd hk (by decide)
    · exact hk
    all_goals rw [h3] at hk; exact absurd hk (by decide)
  cases h with
  | zero => exact leaf hv
  | succ h =>
    rcases hv with hv | ⟨hk, -⟩ | ⟨hk, -⟩
    · exact leaf hv
    all_goals rw [h3] at hk; exact absurd hk (by decide)
theorem W3 {W : Nat → Nat} {P : Nat → Nat → Prop} : ∀ m, W 0 = 0 → (∀ i, i < m → ∃ sy, W (i + 1) = W i + sy + 3) → 3 * m ≤ W m := by
  intro m
  induction m with
  | zero => intro h _; omega
  | succ m ih =>
    intro h0 h
    have := ih h0 (fun i hi => h i (by omega))
    obtain ⟨sy, e⟩ := h m (by omega)
    omega
theorem shOK_push {T : Nat → Nat → Prop} {So Na : Nat → Int32} {sh : Nat} {y nm : Int32} (h6 : 6 ≤ sh) (h : shOK T So Na sh) (hy : ((y = 6 ∨ y = 7 ∨ y = 8) ∧ nm = -1) ∨ ((y = 9 ∨ y = 10 ∨ y = 11) ∧ ∃ x sz, nm = nI x ∧ T x sz)) : shOK T (upd So sh y) (upd Na sh nm) (sh + 1) := by
  refine ⟨fun s hs => by rw [pk_un (by omega)]; exact h.1 s hs, fun s s6 hs => ?_⟩
  by_cases e : s = sh
  · subst e; rw [pk_us, pk_us]; exact hy
  · rw [pk_un e, pk_un e]; exact h.2 s s6 (by omega)
theorem named_ok {K F S I X Lt : Nat → Int32} {N : Nat → Int64} {n l : Nat} (hn : n ≤ 4200) (hl : l ≤ 4200) {fs : FS} {d h : Nat} (hfs : okS K F N S I X Lt n l fs (d + 1) h) {hv v m p a k : Nat} {c e u r s' t : Nat → Nat} (hhv : hv ≤ 23) (hvn : v < n) (hF : F v = nI p) (hm : m ≤ n) (hka : k + p < a) (hp : a + 1 - p ≤ 4100) (hI : I v = (if k = 0 then -1 else nI (c 0))) (hO : kidsO (Val K F N S I X l hv) (keyV K F N S l) X v m p a k c e u r s' t) {jt sh lk kc dn : Nat} {So Na Wi Ki Ma Fa kS kN kD kX Fi : Nat → Int32} {fl pl br : Int32} (hjt : jt < k) (hjt2 : StrIs K N S Lt n l (c jt) 48) (hjt3 : u jt + 6 ≤ r jt)
    (ht : StrIs K N S Lt n l (c jt + 1) 53 ∨ StrIs K N S Lt n l (c jt + 1) 54 ∨ StrIs K N S Lt n l (c jt + 1) 55) (hpre : preS (strN K N S n l) (valN K F N S I X n l) sh lk kc dn So Na kD Fi kS) (hlk : sh < 6 + lk) (hbud : 2 * kc + (a + 1 - p) ≤ 4100) :
    RES (fun g => m_X9_named fs fl pl (ov n K (g.1 0)) (ov n F (g.1 1)) (ov n N g.2) (ov n S (g.1 2)) (ov n I (g.1 3)) (ov n X (g.1 4)) (ov l Lt (g.1 5)) (nI sh) (nI lk) (ov sh So (g.1 7)) (ov sh Na (g.1 8)) (ow sh Wi (g.1 9)) (ov sh Ki (g.1 10)) (ow sh Ma (g.1 11)) (ow sh Fa (g.1 12)) (nI kc) (ov kc kS (g.1 13)) (ov kc kN (g.1 14)) (ov kc kD (g.1 15)) (ov kc kX (g.1 16)) (nI dn) (ov dn Fi (g.1 17)) (nI v) (nI (c jt + 1)) (nI d)) fpC (postS (strN K N S n l) (valN K F N S I X n l) (h + 1) (a + 1 - p) sh kc dn So Na Wi Ki kS kN kD kX Fi br fl pl) := by
  obtain ⟨p1, p2, p3, p4, p5, p6, p7⟩ := hpre
  have hmem : ∀ w, w < 75 → _ := fun w hw => hO.mem (w := w) (Lt := Lt) hw hn hl hvn hm (show k ≤ 5000 by omega) hI
  obtain ⟨t0, t1, t2, t2', t3, t4, t5, t6, t7, t8, t9, t10⟩ := hO.1 jt hjt
  have htr := t1.row (n := n) (by omega)
  obtain ⟨yn, hyn, hyn2⟩ := hmem 56 (by decide)
  simp only [m_X9_named, hyn2, Option.bind_some]
  have her8 : ∀ {x : Int32} {Q : Int32 → (Gs → TS) → Prop}, RES (fun g => m_X9_named_30 fs (ov n K (g.1 0)) (ov n F (g.1 1)) (ov n N g.2) (ov n S (g.1 2)) (ov n I (g.1 3)) (ov n X (g.1 4)) (ov l Lt (g.1 5)) fl pl (nI sh) (nI lk) (ov sh So (g.1 7)) (ov sh Na (g.1 8)) (ow sh Wi (g.1 9)) (ov sh Ki (g.1 10)) (ow sh Ma (g.1 11)) (ow sh Fa (g.1 12)) (nI kc) (ov kc kS (g.1 13)) (ov kc kN (g.1 14)) (ov kc kD (g.1 15)) (ov kc kX (g.1 16)) (nI dn) (ov dn Fi (g.1 17)) (nI v) (nI (c jt + 1)) (nI d) x) fpC Q := by
    intro x Q
    simp only [m_X9_named_30, m_X9_named_31, bd_go (show v < 4200 by omega) (by decide), bd_gc (show v < 4200 by omega) (by decide), nI_clamp (show v < 2 ^ 31 by omega), ov_lt hvn, hF, need_0, try_e]
    exact RES.er (fun g => rfl)
  rcases hyn with rfl | ⟨jn, hjn, rfl, hjn2, hjn3⟩
  · simp only [if_pos (show (-1 : Int32) < 0 by decide)]
    exact her8
  obtain ⟨n0, n1, n2, n2', n3, n4, n5, n6, n7, n8, n9, n10⟩ := hO.1 jn hjn
  have l56 : lenS.getD 56 0 = 4 := by decide +kernel
  rw [l56] at hjn3
  simp only [if_neg (nI_pos (show c jn + 1 < 2 ^ 31 by omega)), bd_go (show c jn + 1 < 4200 by omega) (by decide), bd_gc (show c jn + 1 < 4200 by omega) (by decide), nI_clamp (show c jn + 1 < 2 ^ 31 by omega), ov_lt (show c jn + 1 < n by omega)]
  refine RES.ite (fun hK2 => ?_) (fun _ => her8)
  obtain ⟨sy, hsy, hsyb⟩ := n1.str hK2 (show e jn ≤ n by omega)
  have hsr : K (c jn + 1) = 2 → ∃ sz, strN K N S n l (c jn + 1) sz := fun _ => ⟨sy, hsy⟩
  have her9 : ∀ {Q : Int32 → (Gs → TS) → Prop}, RES (fun g => m_X9_named_128 fs (ov n K (g.1 0)) (ov n F (g.1 1)) (ov n N g.2) (ov n S (g.1 2)) (ov n I (g.1 3)) (ov n X (g.1 4)) (ov l Lt (g.1 5)) fl pl (nI sh) (nI lk) (ov sh So (g.1 7)) (ov sh Na (g.1 8)) (ow sh Wi (g.1 9)) (ov sh Ki (g.1 10)) (ow sh Ma (g.1 11)) (ow sh Fa (g.1 12)) (nI kc) (ov kc kS (g.1 13)) (ov kc kN (g.1 14)) (ov kc kD (g.1 15)) (ov kc kX (g.1 16)) (nI dn) (ov dn Fi (g.1 17)) (nI v) (nI (c jt + 1)) (nI d) (nI (c jn + 1))) fpC Q := by
    intro Q
    simp only [m_X9_named_128, m_X9_named_129, bd_go (show c jn + 1 < 4200 by omega) (by decide), bd_gc (show c jn + 1 < 4200 by omega) (by decide), nI_clamp (show c jn + 1 < 2 ^ 31 by omega), ov_lt (show c jn + 1 < n by omega), n1.basic.2.2, need_0, try_e]
    exact RES.er (fun g => rfl)
  obtain ⟨bn, hbn, hbn2⟩ := nm_ok (Lt := Lt) hsy.1 hn hl hsr
  obtain ⟨bw, hbw, hbw2⟩ := word_ok (Lt := Lt) hsy.1 hn hl hsr
  obtain ⟨bd, hbd, hbd2⟩ := def_ok (Lt := Lt) (Na := Na) (sh := sh) hn hl hsy p1 (by omega) (fun s s6 hs => by
    rcases p5.2 s s6 hs with ⟨-, q⟩ | ⟨-, x, sz, q1, q2⟩
    · exact Or.inl q
    · exact Or.inr ⟨x, sz, q1, q2⟩)
  simp only [m_X9_named_31, bd_go (show v < 4200 by omega) (by decide), bd_gc (show v < 4200 by omega) (by decide), nI_clamp (show v < 2 ^ 31 by omega), need_1, try_o, hbn2, hbw2, hbd2, Option.bind_some, is_eq (show 49 < 75 by decide) hsy.1 hn hl hsr, is_eq (show 50 < 75 by decide) hsy.1 hn hl hsr, is_eq (show 53 < 75 by decide) hsy.1 hn hl hsr, is_eq (show 54 < 75 by decide) hsy.1 hn hl hsr, is_eq (show 55 < 75 by decide) hsy.1 hn hl hsr]
  refine RES.ite (fun _ => her9) (fun _ => RES.ite (fun _ => her9) (fun _ => RES.ite (fun _ => RES.ite (fun _ => RES.ite (fun _ => RES.ite (fun _ => RES.ite (fun _ => RES.ite (fun _ => her9) (fun _ => ?_)) (fun _ => her9)) (fun _ => her9)) (fun _ => her9)) (fun _ => her9)) (fun _ => her9)))
  have hnt : jn ≠ jt := by
    intro q
    subst q
    have := StrIs.same (by decide) (by decide) hl hjn2 hjt2
    exact absurd (this.2 0 (by decide)) (by decide +kernel)
  have key : ∀ (w len : Nat), w < 75 → lenS.getD w 0 = len → StrIs K N S Lt n l (c jt + 1) w → s' jt + len + 2 ≤ t jt := by
    intro w len hw hlen hst
    obtain ⟨sz, z1, z2⟩ := t1.str hst.2.1 (show e jt ≤ n by omega)
    have := len_lt w hw
    have q := z1.2.2.1.symm.trans hst.2.2.1
    have := z1.2.2.2
    obtain ⟨st, -, hle⟩ := this
    have := (nI_eq (by omega) (by omega)).mp q
    omega
  simp only [m_X9_named_129, bd_go (show c jn + 1 < 4200 by omega) (by decide), bd_gc (show c jn + 1 < 4200 by omega) (by decide), nI_clamp (show c jn + 1 < 2 ^ 31 by omega), need_1, try_o, is_eq (show 53 < 75 by decide) htr.1 hn hl htr.2, is_eq (show 54 < 75 by decide) htr.1 hn hl htr.2, Option.bind_some]
  have hsh : sh < 140 := by omega
  refine RES.ite (fun h53 => RES.ite (fun h54 => ?_) (fun h54 => ?_)) (fun h53 => ?_)
  · -- a record
    have h55 : StrIs K N S Lt n l (c jt + 1) 55 := by
      rcases ht with q | q | q
      · rw [isV_t q] at h53; exact absurd h53 (by decide)
      · rw [isV_t q] at h54; exact absurd h54 (by decide)
      · exact q
    have htl := key 55 6 (by decide) (by decide +kernel) h55
    simp only [m_X9_named_179, shape_eq p1 hsh, Option.bind_some, bd_go (show sh < 140 by omega) (by decide), bd_gc (show sh < 140 by omega) (by decide), nI_clamp (show sh < 2 ^ 31 by omega), ov_lt (show sh < sh + 1 by omega), pk_us, if_neg (show ¬ (11 : Int32) = 9 by decide), if_neg (show ¬ (11 : Int32) = 10 by decide), ov_up (show sh < sh + 1 by omega), upd_upd]
    refine RES.try (fields_ok hn hl hfs hhv hvn hF hm hka hp hI hO (s0 := sh) (sh := sh + 1) (lk := lk) (kc := kc) (dn := dn) (nx := c jn + 1) (sz := sy) (So0 := So) (Na0 := Na) (Wi0 := Wi) (Ki0 := Ki) rfl p1 hsy ⟨by omega, by omega, p3, p4, shOK_push p1 p5 (Or.inr ⟨Or.inr (Or.inr rfl), _, sy, rfl, hsy⟩), p6, fun j hj => by
      obtain ⟨x, y, x1, x2, x3, x4⟩ := p7 j hj
      exact ⟨x, y, x1, x2, x3, by omega⟩⟩ hbud pk_us pk_us pk_us (fun i hi => ⟨by rw [pk_un (by omega)], by rw [pk_un (by omega)], by rw [pk_un (by omega)], by rw [pk_un (by omega)]⟩)) ?_ (fun g u => rfl)
    rintro _ _ ⟨jf, hjf, hjf2, hjf3, sh', lk', kc', dn', w, So', Na', Wi', Ki', Ma', Fa', kS', kN', kD', kX', Fi', rfl, r1, r2, r3, r4, r5, r6, r7, hcre, hw, hSo'⟩
    dsimp only
    have h1 : jn ≠ jf := by
      intro q
      subst q
      have := StrIs.same (by decide) (by decide) hl hjn2 hjf2
      exact absurd (this.2 0 (by decide)) (by decide +kernel)
    have h2 : jt ≠ jf := by
      intro q
      subst q
      have := StrIs.same (by decide) (by decide) hl hjt2 hjf2
      exact absurd (this.2 0 (by decide)) (by decide +kernel)
    have hb := mem3 hO hjn hjt hjf hnt h1 h2
    obtain ⟨-, -, -, -, -, -, -, f6, f7, f8, f9, f10⟩ := hO.1 jf hjf
    exact RES.ok ⟨sh, sh', lk', kc', dn', 39 + sy + w, So', Na', Wi', Ki', Ma', Fa', kS', kN', kD', kX', Fi', rfl, rfl, by omega, r2, r3, r4, by omega, r6, r7, Or.inr ⟨rfl, r1, hcre⟩, by omega, fun _ => by rw [hSo']; decide⟩
  · -- an enum
    have htl := key 54 4 (by decide) (by decide +kernel) (isV_n h54)
    simp only [m_X9_named_179, shape_eq p1 hsh, Option.bind_some, bd_go (show sh < 140 by omega) (by decide), bd_gc (show sh < 140 by omega) (by decide), nI_clamp (show sh < 2 ^ 31 by omega), ov_lt (show sh < sh + 1 by omega), pk_us, if_neg (show ¬ (10 : Int32) = 9 by decide), if_true, ov_up (show sh < sh + 1 by omega), upd_upd]
    refine RES.try (symbols_ok hn hl hhv hvn hF hm hka hp hI hO p1 (show sh < sh + 1 by omega) (show sh + 1 ≤ 140 by omega) (show kc ≤ 2100 by omega) pk_us) ?_ (fun g u => rfl)
    rintro _ _ ⟨js, m', lim, hjs, hjs2, hjs3, hjs4, hm0, hm32, Ki', Ma', Fa', kS', kN', kD', kX', W, rfl, k1, k2, aS, aN, aD, aX, hD, hW0, hWl, hch⟩
    dsimp only
    have h1 : jn ≠ js := by
      intro q
      subst q
      have := StrIs.same (by decide) (by decide) hl hjn2 hjs2
      exact absurd (this.2 0 (by decide)) (by decide +kernel)
    have h2 : jt ≠ js := by
      intro q
      subst q
      have := StrIs.same (by decide) (by decide) hl hjt2 hjs2
      exact absurd (this.2 0 (by decide)) (by decide +kernel)
    have hb := mem3 hO hjn hjt hjs hnt h1 h2
    obtain ⟨-, -, -, -, -, -, -, f6, f7, f8, f9, f10⟩ := hO.1 js hjs
    have hW3 : 3 * m' ≤ W m' := W3 (P := fun _ _ => True) m' hW0 (fun i hi => by
      obtain ⟨-, y, sy, -, -, q⟩ := hch i hi
      exact ⟨sy, q⟩)
    refine RES.ok ⟨sh, sh + 1, lk, kc + m', dn, 38 + sy + (W m' - 1), upd So sh 10, upd Na sh (nI (c jn + 1)), upd Wi sh 0, Ki', Ma', Fa', kS', kN', kD', kX', Fi, rfl, rfl, by omega, by omega, Nat.le_refl _, by omega, by omega, ⟨by omega, by omega, p3, by omega, shOK_push p1 p5 (Or.inr ⟨Or.inr (Or.inl rfl), _, sy, rfl, hsy⟩), fun j hj => ?_, fun j hj => ?_⟩, ⟨fun i hi => ⟨by rw [pk_un (by omega)], by rw [pk_un (by omega)], by rw [pk_un (by omega)], by rw [k2 i (by omega), pk_un (by omega)]⟩, fun i hi => ⟨aS i hi, aN i hi, aD i hi, aX i hi⟩, fun _ _ => rfl⟩, Or.inr ⟨rfl, Nat.lt_succ_self _, Or.inr (Or.inr (Or.inr (Or.inl ⟨pk_us, rfl, c jn + 1, sy, m', fun i => kc + i, W, pk_us, hsy, ⟨hm0, hm32⟩, k1, hW0, rfl, fun i hi => ?_⟩)))⟩, by omega, fun _ => by rw [pk_us]; decide⟩
    · by_cases hj2 : j < kc
      · rw [← aD j hj2]; exact p6 j hj2
      · exact Or.inl (hD j (by omega) hj)
    · obtain ⟨x, y, x1, x2, x3, x4⟩ := p7 j hj
      exact ⟨x, y, by omega, x2, by rw [← aS x x1]; exact x3, by omega⟩
    · obtain ⟨z1, y, sy', z2, z3, z4⟩ := hch i hi
      exact ⟨Nat.le_add_right _ _, Nat.add_lt_add_left hi _, z1, y, sy', z2, z3, z4⟩
  · -- a fixed
    have htl := key 53 5 (by decide) (by decide +kernel) (isV_n h53)
    obtain ⟨ys, hys, hys2⟩ := hmem 57 (by decide)
    simp only [m_X9_named_179, shape_eq p1 hsh, Option.bind_some, bd_go (show sh < 140 by omega) (by decide), bd_gc (show sh < 140 by omega) (by decide), nI_clamp (show sh < 2 ^ 31 by omega), ov_lt (show sh < sh + 1 by omega), pk_us, if_true, ov_up (show sh < sh + 1 by omega), upd_upd, hys2]
    rcases hys with rfl | ⟨js, hjs, rfl, hjs2, hjs3⟩
    · simp only [if_pos (show (-1 : Int32) < 0 by decide), m_X9_named_225, bd_go (show v < 4200 by omega) (by decide), bd_gc (show v < 4200 by omega) (by decide), nI_clamp (show v < 2 ^ 31 by omega), ov_lt hvn, hF, need_0, try_e]
      exact RES.er (fun g => rfl)
    have l57 : lenS.getD 57 0 = 4 := by decide +kernel
    rw [l57] at hjs3
    obtain ⟨f0, f1, f2, f2', f3, f4, f5, f6, f7, f8, f9, f10⟩ := hO.1 js hjs
    simp only [if_neg (nI_pos (show c js + 1 < 2 ^ 31 by omega)), m_X9_named_225, m_X9_named_278, bd_go (show v < 4200 by omega) (by decide), bd_gc (show v < 4200 by omega) (by decide), nI_clamp (show v < 2 ^ 31 by omega), need_1, try_o, bd_go (show c js + 1 < 4200 by omega) (by decide), bd_gc (show c js + 1 < 4200 by omega) (by decide), nI_clamp (show c js + 1 < 2 ^ 31 by omega), ov_lt (show c js + 1 < n by omega)]
    have her : ∀ {So1 Na1 Wi1 Ki1 Ma1 Fa1 : Nat → Int32} {Q : Int32 → (Gs → TS) → Prop}, RES (fun g => m_X9_named_279 fs (ov n K (g.1 0)) (ov n F (g.1 1)) (ov n N g.2) (ov n S (g.1 2)) (ov n I (g.1 3)) (ov n X (g.1 4)) (ov l Lt (g.1 5)) fl pl (nI (sh + 1)) (nI lk) (ov (sh + 1) So1 (g.1 7)) (ov (sh + 1) Na1 (g.1 8)) (ow (sh + 1) Wi1 (g.1 9)) (ov (sh + 1) Ki1 (g.1 10)) (ow (sh + 1) Ma1 (g.1 11)) (ow (sh + 1) Fa1 (g.1 12)) (nI kc) (ov kc kS (g.1 13)) (ov kc kN (g.1 14)) (ov kc kD (g.1 15)) (ov kc kX (g.1 16)) (nI dn) (ov dn Fi (g.1 17)) (nI sh) (nI (c js + 1)) 0) fpC Q := by
      intro So1 Na1 Wi1 Ki1 Ma1 Fa1 Q
      simp only [m_X9_named_279, bd_go (show c js + 1 < 4200 by omega) (by decide), bd_gc (show c js + 1 < 4200 by omega) (by decide), nI_clamp (show c js + 1 < 2 ^ 31 by omega), ov_lt (show c js + 1 < n by omega), f1.basic.2.2, need_0, try_e]
      exact RES.er (fun g => rfl)
    refine RES.ite (fun hK3 => RES.ite (fun _ => her) (fun hz1 => RES.ite (fun _ => her) (fun hz2 => ?_))) (fun _ => her)
    obtain ⟨dd, hdd, hz⟩ := lgc hz1 hz2
    have h1 : jn ≠ js := by
      intro q
      subst q
      have := StrIs.same (by decide) (by decide) hl hjn2 hjs2
      exact absurd (this.2 0 (by decide)) (by decide +kernel)
    have h2 : jt ≠ js := by
      intro q
      subst q
      have := StrIs.same (by decide) (by decide) hl hjt2 hjs2
      exact absurd (this.2 0 (by decide)) (by decide +kernel)
    have hb := mem3 hO hjn hjt hjs hnt h1 h2
    have hdig : s' js + (if 9 < dd then 2 else 1) ≤ t js := by
      by_cases q : 9 < dd
      · rw [if_pos q]
        exact f1.num hK3 (by rw [hz]; exact lN_9 hdd q)
      · rw [if_neg q]; omega
    simp only [m_X9_named_279, bd_go (show c js + 1 < 4200 by omega) (by decide), bd_gc (show c js + 1 < 4200 by omega) (by decide), nI_clamp (show c js + 1 < 2 ^ 31 by omega), need_1, try_o, ov_lt (show c js + 1 < n by omega), hz, lN_i, bd_go (show sh < 140 by omega) (by decide), bd_gc (show sh < 140 by omega) (by decide), nI_clamp (show sh < 2 ^ 31 by omega), ow_up p1 (show sh < sh + 1 by omega), upd_upd]
    exact RES.ok ⟨sh, sh + 1, lk, kc, dn, 34 + sy + (if 9 < dd then 2 else 1), upd So sh 9, upd Na sh (nI (c jn + 1)), upd Wi sh (nI dd), upd Ki sh (-1), upd Ma sh 0, upd Fa sh (-1), kS, kN, kD, kX, Fi, rfl, rfl, by omega, Nat.le_refl _, Nat.le_refl _, by omega, by omega, ⟨by omega, by omega, p3, p4, shOK_push p1 p5 (Or.inr ⟨Or.inl rfl, _, sy, rfl, hsy⟩), p6, fun j hj => by
      obtain ⟨x, y, x1, x2, x3, x4⟩ := p7 j hj
      exact ⟨x, y, x1, x2, x3, by omega⟩⟩, ⟨fun i hi => ⟨by rw [pk_un (by omega)], by rw [pk_un (by omega)], by rw [pk_un (by omega)], by rw [pk_un (by omega)]⟩, fun _ _ => ⟨rfl, rfl, rfl, rfl⟩, fun _ _ => rfl⟩, Or.inr ⟨rfl, Nat.lt_succ_self _, Or.inr (Or.inr (Or.inl ⟨pk_us, rfl, c jn + 1, sy, dd, pk_us, hsy, pk_us, hdd, rfl⟩))⟩, by omega, fun _ => by rw [pk_us]; decide⟩
