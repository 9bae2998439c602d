-- the reference's objects
theorem obj_dup {B : Nat → Int32} {L : Nat} {fv : FV} {d a n n1 l1 n0 k : Nat} {c : Nat → Nat} {K1 F1 S1 I1 X1 Lt1 : Nat → Int32} {N1 : Nat → Int64} {fl pl x2 : Int32} {k37 : Gs → Int32 → Int32 → Int32 → Int32 → Int32 → (Nat → Int32) → (Nat → Int32) → (Nat → Int64) → (Nat → Int32) → (Nat → Int32) → (Nat → Int32) → (Nat → Int32) → Int32 → Int32 → Int32 → Int32 → Option (Except TV (Int32 × TV))} {Q : Int32 → (Gs → TV) → Prop}
    (hn : n < n1) (hn1 : n1 ≤ 4200) (hl1 : l1 ≤ 4200) (hkey : ∃ st sz, S1 n = nI sz ∧ N1 n = lN st ∧ st + sz ≤ l1)
    (hc : ∀ i, i < k → c i + 1 < n1 ∧ X1 (c i) = nI (c i + 1) ∧ X1 (c i + 1) = (if i + 1 = k then -1 else nI (c (i + 1))) ∧ ∃ st sz, S1 (c i) = nI sz ∧ N1 (c i) = lN st ∧ st + sz ≤ l1)
    (hexit : RES (fun g => m_X9_object_78 fv (ov L B (g.1 6)) (nI L) (k37 g) 1 (nI a) (nI d) fl pl (nI n1) (ov n1 K1 (g.1 0)) (ov n1 F1 (g.1 1)) (ov n1 N1 g.2) (ov n1 S1 (g.1 2)) (ov n1 I1 (g.1 3)) (ov n1 X1 (g.1 4)) (ov l1 Lt1 (g.1 5)) (nI l1) (nI n0) x2 (nI n) (-1)) fpV Q) :
    ∀ (fuel i : Nat), i ≤ k → k - i < fuel → RES (fun g => m_X9_object_78 fv (ov L B (g.1 6)) (nI L) (k37 g) fuel (nI a) (nI d) fl pl (nI n1) (ov n1 K1 (g.1 0)) (ov n1 F1 (g.1 1)) (ov n1 N1 g.2) (ov n1 S1 (g.1 2)) (ov n1 I1 (g.1 3)) (ov n1 X1 (g.1 4)) (ov l1 Lt1 (g.1 5)) (nI l1) (nI n0) x2 (nI n) (if i = k then -1 else nI (c i))) fpV Q := by
  intro fuel
  induction fuel with
  | zero => intro i _ hf; exact absurd hf (Nat.not_lt_zero _)
  | succ fuel ih =>
    intro i hi hf
    by_cases hik : i = k
    · simp only [if_pos hik]
      simp only [m_X9_object_78, if_pos (show (-1 : Int32) < 0 by decide)] at hexit ⊢
      exact hexit
    · obtain ⟨c1, c2, c3, st, sz, c4, c5, c6⟩ := hc i (by omega)
      obtain ⟨st', sz', k4, k5, k6⟩ := hkey
      simp only [if_neg hik, m_X9_object_78, if_neg (nI_pos (show c i < 2 ^ 31 by omega))]
      by_cases hs : sz = sz' ∧ ∀ j, j < sz → Lt1 (st + j) = Lt1 (st' + j)
      · have e : ∀ g : Gs, m_X9_same (ov n1 N1 g.2) (ov n1 S1 (g.1 2)) (ov l1 Lt1 (g.1 5)) (ov n1 N1 g.2) (ov n1 S1 (g.1 2)) (ov l1 Lt1 (g.1 5)) (nI (c i)) (nI n) = some 1 := fun g => by
          obtain ⟨rfl, hs2⟩ := hs
          refine same_t (st := st) (sz := sz) (st' := st') (by omega) (by omega) (by rw [ov_lt (by omega)]; exact c5) (by rw [ov_lt (by omega)]; exact c4) (by rw [ov_lt (by omega)]; exact k5) (by rw [ov_lt (by omega)]; exact k4) (by omega) (by omega) (fun j hj => ?_)
          rw [ov_lt (by omega), ov_lt (by omega)]; exact hs2 j hj
        simp only [e, Option.bind_some, if_neg (show ¬ (1 : Int32) = 0 by decide), m_X9_object_101, bd_go (show n < 4200 by omega) (by decide), bd_gc (show n < 4200 by omega) (by decide), nI_clamp (show n < 2 ^ 31 by omega), ov_lt hn, need_0, try_e]
        exact RES.er (fun g => rfl)
      · have e : ∀ g : Gs, m_X9_same (ov n1 N1 g.2) (ov n1 S1 (g.1 2)) (ov l1 Lt1 (g.1 5)) (ov n1 N1 g.2) (ov n1 S1 (g.1 2)) (ov l1 Lt1 (g.1 5)) (nI (c i)) (nI n) = some 0 := fun g => by
          refine same_f (st := st) (sz := sz) (st' := st') (sz' := sz') (by omega) (by omega) (by rw [ov_lt (by omega)]; exact c5) (by rw [ov_lt (by omega)]; exact c4) (by rw [ov_lt (by omega)]; exact k5) (by rw [ov_lt (by omega)]; exact k4) (by omega) (by omega) (fun hq => hs ⟨hq.1, fun j hj => ?_⟩)
          have := hq.2 j hj
          rw [ov_lt (by omega), ov_lt (by have := hq.1; omega)] at this
          exact this
        simp only [e, Option.bind_some, if_pos (rfl : (0 : Int32) = 0), m_X9_object_101, bd_go (show n < 4200 by omega) (by decide), bd_gc (show n < 4200 by omega) (by decide), nI_clamp (show n < 2 ^ 31 by omega), need_1, try_o, bd_go (show c i < 4200 by omega) (by decide), bd_gc (show c i < 4200 by omega) (by decide), nI_clamp (show c i < 2 ^ 31 by omega), ov_lt (show c i < n1 by omega), c2, bd_go (show c i + 1 < 4200 by omega) (by decide), bd_gc (show c i + 1 < 4200 by omega) (by decide), nI_clamp (show c i + 1 < 2 ^ 31 by omega), ov_lt c1, c3]
        exact ih (i + 1) (by omega) (by omega)
theorem obj_go {B : Nat → Int32} {L : Nat} (hL : L ≤ 4096) {fv : FV} {d h : Nat} (hv : okV B L fv d h) {n0 p0 l0 : Nat} {K0 F0 S0 I0 X0 Lt0 : Nat → Int32} {N0 : Nat → Int64} {fl pl : Int32} : ∀ (fuel a n l : Nat) (K F : Nat → Int32) (N : Nat → Int64) (S I X Lt : Nat → Int32) (k : Nat) (c e u r s v : Nat → Nat) (more : Int32),
    a ≤ L → L - a < fuel → n0 < n → n + p0 ≤ n0 + a → l0 ≤ l → l + p0 ≤ l0 + a → n ≤ a → l ≤ a → k + p0 < a → agR n0 K0 F0 N0 S0 I0 X0 K F N S I X → ag l0 Lt0 Lt → K n0 = 0 → F n0 = nI p0 → I n0 = (if k = 0 then -1 else nI (c 0)) → X n0 = -1 → kidsO (Val K F N S I X l h) (keyV K F N S l) X n0 n p0 a k c e u r s v →
    (more = 0 ∨ more = 1 ∧ ∀ i, i < k → v i < a) →
    RES (fun g => m_X9_object_37 fv (ov L B (g.1 6)) (nI L) fuel (nI a) (nI d) fl pl (nI n) (ov n K (g.1 0)) (ov n F (g.1 1)) (ov n N g.2) (ov n S (g.1 2)) (ov n I (g.1 3)) (ov n X (g.1 4)) (ov l Lt (g.1 5)) (nI l) (nI n0) (if k = 0 then -1 else nI (c (k - 1) + 1)) more) fpV (postV L (h + 1) p0 n0 l0 d fl pl K0 F0 N0 S0 I0 X0 Lt0) := by
  intro fuel
  induction fuel with
  | zero => intro a n l K F N S I X Lt k c e u r s v more _ hf; exact absurd hf (Nat.not_lt_zero _)
  | succ fuel ih =>
    intro a n l K F N S I X Lt k c e u r s v more ha hf hn0 hna hl0 hla hn hl hka hag hagL hK hF hI hX hkids hmore
    simp only [m_X9_object_37]
    rcases hmore with rfl | ⟨rfl, hva⟩
    · simp only [if_pos (rfl : (0 : Int32) = 0), take_eq hL ha]
      by_cases h125 : rk B L a = 125
      · simp only [if_pos h125, try_o]
        have hlt : a < L := rk_lt h125 (by decide)
        exact RES.ok ⟨a + 1, n, l, K, F, N, S, I, X, Lt, rfl, rfl, by omega, by omega, by omega, hl0, by omega, hag, hagL, hX, Or.inr (Or.inr ⟨hK, hF, hn0, a, k, c, e, u, r, s, v, rfl, hka, hI, hkids⟩)⟩
      · simp only [if_neg h125, try_e]
        exact RES.er (fun g => rfl)
    · simp only [if_neg (show ¬ (1 : Int32) = 0 by decide), look_eq hL ha, Option.bind_some]
      refine RES.ite (fun h34 => ?_) (fun h34 => ?_)
      case refine_2 =>
        simp only [m_X9_object_56, need_0, try_e]
        exact RES.er (fun g => rfl)
      have hlt : a < L := rk_lt h34 (by decide)
      simp only [m_X9_object_56, need_1, try_o]
      refine RES.try (str_ok hL hlt hn hl) ?_ (fun g u => rfl)
      rintro _ _ ⟨w, sz, Lt1, rfl, rfl, hw1, hw2, gL1⟩
      dsimp only
      simp only [bd_go (show n0 < 4200 by omega) (by decide), bd_gc (show n0 < 4200 by omega) (by decide), nI_clamp (show n0 < 2 ^ 31 by omega), ov_lt (show n0 < n + 1 by omega), pk_un (show n0 ≠ n by omega), hI]
      have hcs : ∀ i, i < k → c i + 1 < n + 1 ∧ (upd X n (-1)) (c i) = nI (c i + 1) ∧ (upd X n (-1)) (c i + 1) = (if i + 1 = k then -1 else nI (c (i + 1))) ∧ ∃ st sz', (upd S n (nI sz)) (c i) = nI sz' ∧ (vp_updL N n (lN l)) (c i) = lN st ∧ st + sz' ≤ l + sz := by
        intro i hi
        obtain ⟨⟨-, -, st, sz', s1, s2, s3, -⟩, q1, q2, q2', q3, q4, q5, -⟩ := hkids.1 i hi
        exact ⟨by omega, by rw [pk_un (by omega)]; exact q2, by rw [pk_un (by omega)]; exact q2', st, sz', by rw [pk_un (by omega)]; exact s1, by rw [pk_uLn (by omega)]; exact s2, by omega⟩
      have hstart : (if k = 0 then (-1 : Int32) else nI (c 0)) = (if 0 = k then -1 else nI (c 0)) := by
        by_cases hk : k = 0
        · rw [if_pos hk, if_pos hk.symm]
        · rw [if_neg hk, if_neg (fun q => hk q.symm)]
      simp only [hstart]
      refine obj_dup (n1 := n + 1) (l1 := l + sz) (Nat.lt_succ_self n) (by omega) (by omega) ⟨l, sz, pk_us, pk_uLs, Nat.le_refl _⟩ hcs ?_ sr_fuel 0 (by omega) (by unfold sr_fuel; omega)
      obtain ⟨w1, hb1, hb2, hb3⟩ := blanks_ok B hL hw2
      simp only [m_X9_object_78, if_pos (show (-1 : Int32) < 0 by decide), hb3, Option.bind_some, take_eq hL hb2]
      by_cases h58 : rk B L w1 = 58
      case neg =>
        simp only [if_neg h58, try_e]
        exact RES.er (fun g => rfl)
      have hlt1 : w1 < L := rk_lt h58 (by decide)
      obtain ⟨y, hy1, hy2, hy3⟩ := blanks_ok B hL (show w1 + 1 ≤ L by omega)
      simp only [if_pos h58, try_o, hy3, Option.bind_some]
      refine RES.try (hv y (n + 1) (l + sz) _ _ _ _ _ _ Lt1 fl pl hy2 (by omega) (by omega)) ?_ (fun g u => rfl)
      rintro _ _ ⟨b, n', l', K', F', N', S', I', X', Lt', rfl, rfl, h1, h2, h4, h5, h6, ⟨gK, gF, gN, gS, gI, gX⟩, gL, hXn, hVal⟩
      have h3 : n + 1 < n' := hVal.basic.1
      dsimp only
      have eK : ∀ j, j < n → K j = K' j := fun j hj => by rw [← gK j (by omega), pk_un (by omega)]
      have eF : ∀ j, j < n → F j = F' j := fun j hj => by rw [← gF j (by omega), pk_un (by omega)]
      have eN : ∀ j, j < n → N j = N' j := fun j hj => by rw [← gN j (by omega), pk_uLn (by omega)]
      have eS : ∀ j, j < n → S j = S' j := fun j hj => by rw [← gS j (by omega), pk_un (by omega)]
      have eI : ∀ j, j < n → I j = I' j := fun j hj => by rw [← gI j (by omega), pk_un (by omega)]
      have eX : ∀ j, j < n → X j = X' j := fun j hj => by rw [← gX j (by omega), pk_un (by omega)]
      have tail : ∀ (I2 X2 : Nat → Int32), (∀ i, i ≠ n0 → I2 i = I' i) → I2 n0 = nI (snc c k n 0) → (∀ i, i < n → (∀ j, j + 1 = k → i ≠ c j + 1) → X2 i = X' i) → (∀ i, n ≤ i → X2 i = X' i) → (∀ i, i + 1 = k → X2 (c i + 1) = nI n) →
          RES (fun g => m_X9_object_172 fv (ov L B (g.1 6)) (nI L) (m_X9_object_37 fv (ov L B (g.1 6)) (nI L) fuel) (nI b) (nI d) fl pl (nI n') (ov n' K' (g.1 0)) (ov n' F' (g.1 1)) (ov n' N' g.2) (ov n' S' (g.1 2)) (ov n' I2 (g.1 3)) (ov n' X2 (g.1 4)) (ov l' Lt' (g.1 5)) (nI l') (nI n0) (nI n) (nI (n + 1))) fpV (postV L (h + 1) p0 n0 l0 d fl pl K0 F0 N0 S0 I0 X0 Lt0) := by
        intro I2 X2 i1 i2 x1 x2 x3
        obtain ⟨b', hb1', hb2', hb3'⟩ := blanks_ok B hL h2
        simp only [m_X9_object_172, bd_go (show n < 4200 by omega) (by decide), bd_gc (show n < 4200 by omega) (by decide), nI_clamp (show n < 2 ^ 31 by omega), ov_up (show n < n' by omega), hb3', Option.bind_some, look_eq hL hb2']
        have hkn : kidsO (Val K' F' N' S' I2 (upd X2 n (nI (n + 1))) l' h) (keyV K' F' N' S' l') (upd X2 n (nI (n + 1))) n0 n' p0 b (k + 1) (snc c k n) (snc e k n') (snc u k a) (snc r k w) (snc s k y) (snc v k b) := by
          refine kidsO_push hkids hva hn0 h3 (by omega) (by omega) (by omega) h1 (fun i hi hp => ?_) (fun i hi hp => ?_) ?_ ?_ (fun i hi => ?_) (fun i hi => ?_) (fun i hi => ?_) pk_us ?_
          · obtain ⟨q0, q1, q2, q2', q3, q4, q5, q6, q7, q8⟩ := hkids.1 i hi
            refine Val.keep h _ _ _ _ hp (fun j j1 j2 => ⟨eK j (by omega), eF j (by omega), eN j (by omega), eS j (by omega), ?_⟩) (fun j j1 j2 => ?_) (by omega)
            · rw [i1 j (by omega)]; exact eI j (by omega)
            · rw [pk_un (by omega), x1 j (by omega) (fun i' hi' hc => ?_)]
              · exact eX j (by omega)
              · by_cases hii : i = i'
                · subst hii; omega
                · have := (hkids.2 i i' (by omega) (by omega)).1
                  omega
          · obtain ⟨q0, q1, q2, q2', q3, q4, q5, q6, q7, q8⟩ := hkids.1 i hi
            exact keyV.keep hp (eK _ (by omega)) (eF _ (by omega)) (eN _ (by omega)) (eS _ (by omega)) (by omega)
          · refine Val.keep h _ _ _ _ hVal (fun j j1 j2 => ⟨rfl, rfl, rfl, rfl, ?_⟩) (fun j j1 j2 => ?_) (Nat.le_refl _)
            · rw [i1 j (by omega)]
            · rw [pk_un (by omega), x2 j (by omega)]
          · exact ⟨by rw [← gK n (by omega)]; exact pk_us, by rw [← gF n (by omega)]; exact pk_us, l, sz, by rw [← gS n (by omega)]; exact pk_us, by rw [← gN n (by omega)]; exact pk_uLs, by omega, by omega⟩
          · obtain ⟨q0, q1, q2, q2', q3, q4, q5, q6, q7, q8⟩ := hkids.1 i hi
            rw [pk_un (by omega), x1 (c i) (by omega) (fun j hj hc => ?_)]
            · exact (eX (c i) (by omega)).symm
            · by_cases hij : i = j
              · subst hij; omega
              · have := (hkids.2 i j (by omega) (by omega)).1
                omega
          · obtain ⟨q0, q1, q2, q2', q3, q4, q5, q6, q7, q8⟩ := hkids.1 i (by omega)
            rw [pk_un (by omega), x1 (c i + 1) (by omega) (fun j hj hc => ?_)]
            · exact (eX (c i + 1) (by omega)).symm
            · have := (hkids.2 i j (by omega) (by omega)).1
              omega
          · obtain ⟨q0, q1, q2, q2', q3, q4, q5, q6, q7, q8⟩ := hkids.1 i (by omega)
            rw [pk_un (by omega)]
            exact x3 i hi
          · rw [pk_un (by omega), x2 (n + 1) (by omega)]
            exact hXn
        have hx0 : (upd X2 n (nI (n + 1))) n0 = -1 := by
          rw [pk_un (by omega), x1 n0 hn0 (fun j hj hc => ?_), ← eX n0 hn0]
          · exact hX
          · have := (hkids.1 j (by omega)).2.2.2.2.1
            omega
        have hag2 : agR n0 K0 F0 N0 S0 I0 X0 K' F' N' S' I2 (upd X2 n (nI (n + 1))) := by
          obtain ⟨a1, a2, a3, a4, a5, a6⟩ := hag
          refine ⟨fun i hi => (a1 i hi).trans (eK i (by omega)), fun i hi => (a2 i hi).trans (eF i (by omega)), fun i hi => (a3 i hi).trans (eN i (by omega)), fun i hi => (a4 i hi).trans (eS i (by omega)), fun i hi => ?_, fun i hi => ?_⟩
          · rw [i1 i (by omega), ← eI i (by omega)]; exact a5 i hi
          · rw [pk_un (by omega), x1 i (by omega) (fun j hj hc => ?_), ← eX i (by omega)]
            · exact a6 i hi
            · have := (hkids.1 j (by omega)).2.2.2.2.1
              omega
        have hagL2 : ag l0 Lt0 Lt' := (hagL.trans gL1 (by omega)).trans gL (by omega)
        have hup : ∀ b2, b ≤ b2 → kidsO (Val K' F' N' S' I2 (upd X2 n (nI (n + 1))) l' h) (keyV K' F' N' S' l') (upd X2 n (nI (n + 1))) n0 n' p0 b2 (k + 1) (snc c k n) (snc e k n') (snc u k a) (snc r k w) (snc s k y) (snc v k b) := fun b2 hb => ⟨fun i hi => by
          obtain ⟨q0, q1, q2, q2', q3, q4, q5, q6, q7, q8, q9, q10⟩ := hkn.1 i hi
          exact ⟨q0, q1, q2, q2', q3, q4, q5, q6, q7, q8, q9, by omega⟩, hkn.2⟩
        have hlast : (if k + 1 = 0 then (-1 : Int32) else nI (snc c k n (k + 1 - 1) + 1)) = nI (n + 1) := by
          rw [if_neg (by omega), Nat.add_sub_cancel, snc_s]
        have hfirst : I2 n0 = (if k + 1 = 0 then (-1 : Int32) else nI (snc c k n 0)) := by
          rw [if_neg (by omega)]; exact i2
        refine RES.ite (fun h44 => ?_) (fun h44 => ?_)
        · have hlt2 : b' < L := rk_lt h44 (by decide)
          obtain ⟨b2, hc1, hc2, hc3⟩ := blanks_ok B hL (show b' + 1 ≤ L by omega)
          simp only [m_X9_object_202, if_neg (show ¬ (1 : Int32) = 0 by decide), nI_1, hc3, Option.bind_some]
          have := ih b2 n' l' K' F' N' S' I2 (upd X2 n (nI (n + 1))) Lt' (k + 1) (snc c k n) (snc e k n') (snc u k a) (snc r k w) (snc s k y) (snc v k b) 1 hc2 (by omega) (by omega) (by omega) (by omega) (by omega) (by omega) (by omega) (by omega) hag2 hagL2 (by rw [← eK n0 hn0]; exact hK) (by rw [← eF n0 hn0]; exact hF) hfirst hx0 (hup b2 (by omega)) (Or.inr ⟨rfl, fun i hi => by
            have := (hkn.1 i hi).2.2.2.2.2.2.2.2.2.2.2
            omega⟩)
          rw [hlast] at this
          exact this
        · simp only [m_X9_object_202, if_pos (rfl : (0 : Int32) = 0)]
          have := ih b' n' l' K' F' N' S' I2 (upd X2 n (nI (n + 1))) Lt' (k + 1) (snc c k n) (snc e k n') (snc u k a) (snc r k w) (snc s k y) (snc v k b) 0 hb2' (by omega) (by omega) (by omega) (by omega) (by omega) (by omega) (by omega) (by omega) hag2 hagL2 (by rw [← eK n0 hn0]; exact hK) (by rw [← eF n0 hn0]; exact hF) hfirst hx0 (hup b' hb1') (Or.inl rfl)
          rw [hlast] at this
          exact this
      by_cases hk : k = 0
      · subst hk
        simp only [if_true, if_neg (show ¬ (0 : Int32) ≤ -1 by decide), bd_go (show n0 < 4200 by omega) (by decide), bd_gc (show n0 < 4200 by omega) (by decide), nI_clamp (show n0 < 2 ^ 31 by omega), ov_up (show n0 < n' by omega)]
        exact tail _ X' (fun i hi => pk_un hi) (by rw [pk_us, snc_s]) (fun _ _ _ => rfl) (fun _ _ => rfl) (fun i hi => absurd hi (by omega))
      · obtain ⟨q0, q1, q2, q2', q3, q4, q5, -⟩ := hkids.1 (k - 1) (by omega)
        simp only [if_neg hk, if_pos (nI_pos' (show c (k - 1) + 1 < 2 ^ 31 by omega)), bd_go (show c (k - 1) + 1 < 4200 by omega) (by decide), bd_gc (show c (k - 1) + 1 < 4200 by omega) (by decide), nI_clamp (show c (k - 1) + 1 < 2 ^ 31 by omega), ov_up (show c (k - 1) + 1 < n' by omega)]
        refine tail I' _ (fun _ _ => rfl) ?_ (fun i hi hc => pk_un (hc (k - 1) (by omega))) (fun i hi => pk_un (by omega)) (fun i hi => ?_)
        · rw [snc_n (by omega), ← eI n0 hn0, hI, if_neg hk]
        · have : i = k - 1 := by omega
          subst this
          exact pk_us
theorem obj_ok {B : Nat → Int32} {L : Nat} (hL : L ≤ 4096) {fv : FV} {d h : Nat} (hv : okV B L fv d h) {a n l : Nat} {K F S I X Lt : Nat → Int32} {N : Nat → Int64} {fl pl : Int32} (ha : a < L) (hn : n ≤ a) (hl : l ≤ a) :
    RES (fun g => m_X9_object fv (ov L B (g.1 6)) (nI L) (nI a) (nI d) fl pl (nI n) (ov n K (g.1 0)) (ov n F (g.1 1)) (ov n N g.2) (ov n S (g.1 2)) (ov n I (g.1 3)) (ov n X (g.1 4)) (ov l Lt (g.1 5)) (nI l)) fpV (postV L (h + 1) a n l d fl pl K F N S I X Lt) := by
  obtain ⟨b, hb1, hb2, hb3⟩ := blanks_ok B hL (show a + 1 ≤ L by omega)
  simp only [m_X9_object, node_eq (show n < 4200 by omega), Option.bind_some, nI_1, hb3, look_eq hL hb2]
  have go : ∀ more : Int32, more = 0 ∨ more = 1 → RES (fun g => m_X9_object_37 fv (ov L B (g.1 6)) (nI L) sr_fuel (nI b) (nI d) fl pl (nI (n + 1)) (ov (n + 1) (upd K n 0) (g.1 0)) (ov (n + 1) (upd F n (nI a)) (g.1 1)) (ov (n + 1) (vp_updL N n 0) g.2) (ov (n + 1) (upd S n 0) (g.1 2)) (ov (n + 1) (upd I n (-1)) (g.1 3)) (ov (n + 1) (upd X n (-1)) (g.1 4)) (ov l Lt (g.1 5)) (nI l) (nI n) (-1) more) fpV (postV L (h + 1) a n l d fl pl K F N S I X Lt) := by
    intro more hm
    refine obj_go hL hv (n0 := n) (p0 := a) (l0 := l) (K0 := K) (F0 := F) (N0 := N) (S0 := S) (I0 := I) (X0 := X) (Lt0 := Lt) sr_fuel b (n + 1) l _ _ _ _ _ _ Lt 0 id id id id id id more hb2 (by unfold sr_fuel; omega) (by omega) (by omega) (by omega) (by omega) (by omega) (by omega) (by omega) ⟨ag.rfl'.upd (Nat.le_refl _), ag.rfl'.upd (Nat.le_refl _), ag.rfl'.updL (Nat.le_refl _), ag.rfl'.upd (Nat.le_refl _), ag.rfl'.upd (Nat.le_refl _), ag.rfl'.upd (Nat.le_refl _)⟩ ag.rfl' pk_us pk_us pk_us pk_us ⟨fun i hi => absurd hi (Nat.not_lt_zero _), fun i j hij hj => absurd hj (Nat.not_lt_zero _)⟩ ?_
    rcases hm with rfl | rfl
    · exact Or.inl rfl
    · exact Or.inr ⟨rfl, fun i hi => absurd hi (Nat.not_lt_zero _)⟩
  exact RES.ite (fun _ => go 0 (Or.inl rfl)) (fun _ => go 1 (Or.inr rfl))
