section
-- the reference's objects
theorem obj_dup {B : Nat → Int32} {L : Nat} {fv : FV} {d a n n1 l1 n0 k : Nat} {c : Nat → Nat} {K1 F1 S1 I1 X1 Lt1 : Nat → Int32} {N1 : Nat → Int64} {fl pl x2 : Int32} {k37 : Gs → Int32 → Int32 → Int32 → Int32 → Int32 → (Nat → Int32) → (Nat → Int32) → (Nat → Int64) → (Nat → Int32) → (Nat → Int32) → (Nat → Int32) → (Nat → Int32) → Int32 → Int32 → Int32 → Int32 → Option (Except TV (Int32 × TV))} {Q : Int32 → (Gs → TV) → Prop}
    (hn : n < n1) (hn1 : n1 ≤ 4200) (hl1 : l1 ≤ 4200) (hkey : ∃ st sz, S1 n = nI sz ∧ N1 n = lN st ∧ st + sz ≤ l1)
    (hc : ∀ i, i < k → c i + 1 < n1 ∧ X1 (c i) = nI (c i + 1) ∧ X1 (c i + 1) = (if i + 1 = k then -1 else nI (c (i + 1))) ∧ ∃ st sz, S1 (c i) = nI sz ∧ N1 (c i) = lN st ∧ st + sz ≤ l1)
    (hexit : RES (fun g => m_X9_object_78 fv (ov L B (g.1 6)) (nI L) (k37 g) 1 (nI a) (nI d) fl pl (nI n1) (ov n1 K1 (g.1 0)) (ov n1 F1 (g.1 1)) (ov n1 N1 g.2) (ov n1 S1 (g.1 2)) (ov n1 I1 (g.1 3)) (ov n1 X1 (g.1 4)) (ov l1 Lt1 (g.1 5)) (nI l1) (nI n0) x2 (nI n) (-1)) fpV Q) :
    ∀ (fuel i : Nat), i ≤ k → k - i < fuel → RES (fun g => m_X9_object_78 fv (ov L B (g.1 6)) (nI L) (k37 g) fuel (nI a) (nI d) fl pl (nI n1) (ov n1 K1 (g.1 0)) (ov n1 F1 (g.1 1)) (ov n1 N1 g.2) (ov n1 S1 (g.1 2)) (ov n1 I1 (g.1 3)) (ov n1 X1 (g.1 4)) (ov l1 Lt1 (g.1 5)) (nI l1) (nI n0) x2 (nI n) (if i = k then -1 else nI (c i))) fpV Q := by
  intro fuel
  induction fuel with
  | zero => intro i _ hf; exact absurd hf (Nat.not_lt_zero _)
  | succ fuel ih =>
    intro i hi hf
    by_cases hik : i = k
    · simp only [if_pos hik]
      simp only [m_X9_object_78, if_pos (show (-1 : Int32) < 0 by decide)] at hexit ⊢
      exact hexit
    · obtain ⟨c1, c2, c3, st, sz, c4, c5, c6⟩ := hc i (by omega)
      obtain ⟨st', sz', k4, k5, k6⟩ := hkey
      simp only [if_neg hik, m_X9_object_78, if_neg (nI_pos (show c i < 2 ^ 31 by omega))]
      by_cases hs : sz = sz' ∧ ∀ j, j < sz → Lt1 (st + j) = Lt1 (st' + j)
      · have e : ∀ g : Gs, m_X9_same (ov n1 N1 g.2) (ov n1 S1 (g.1 2)) (ov l1 Lt1 (g.1 5)) (ov n1 N1 g.2) (ov n1 S1 (g.1 2)) (ov l1 Lt1 (g.1 5)) (nI (c i)) (nI n) = some 1 := fun g => by
          obtain ⟨rfl, hs2⟩ := hs
          refine same_t (st := st) (sz := sz) (st' := st') (by omega) (by omega) (by rw [ov_lt (by omega)]; exact c5) (by rw [ov_lt (by omega)]; exact c4) (by rw [ov_lt (by omega)]; exact k5) (by rw [ov_lt (by omega)]; exact k4) (by omega) (by omega) (fun j hj => ?_)
          rw [ov_lt (by omega), ov_lt (by omega)]; exact hs2 j hj
        simp only [e, Option.bind_some, if_neg (show ¬ (1 : Int32) = 0 by decide), m_X9_object_101, bd_go (show n < 4200 by omega) (by decide), bd_gc (show n < 4200 by omega) (by decide), nI_clamp (show n < 2 ^ 31 by omega), ov_lt hn, need_0, try_e]
        exact RES.er (fun g => rfl)
      · have e : ∀ g : Gs, m_X9_same (ov n1 N1 g.2) (ov n1 S1 (g.1 2)) (ov l1 Lt1 (g.1 5)) (ov n1 N1 g.2) (ov n1 S1 (g.1 2)) (ov l1 Lt1 (g.1 5)) (nI (c i)) (nI n) = some 0 := fun g => by
          refine same_f (st := st) (sz := sz) (st' := st') (sz' := sz') (by omega) (by omega) (by rw [ov_lt (by omega)]; exact c5) (by rw [ov_lt (by omega)]; exact c4) (by rw [ov_lt (by omega)]; exact k5) (by rw [ov_lt (by omega)]; exact k4) (by omega) (by omega) (fun hq => hs ⟨hq.1, fun j hj => ?_⟩)
          have := hq.2 j hj
          rw [ov_lt (by omega), ov_lt (by have := hq.1; omega)] at this
          exact this
        simp only [e, Option.bind_some, if_pos (rfl : (0 : Int32) = 0), m_X9_object_101, bd_go (show n < 4200 by omega) (by decide), bd_gc (show n < 4200 by omega) (by decide), nI_clamp (show n < 2 ^ 31 by omega), need_1, try_o, bd_go (show c i < 4200 by omega) (by decide), bd_gc (show c i < 4200 by omega) (by decide), nI_clamp (show c i < 2 ^ 31 by omega), ov_lt (show c i < n1 by omega), c2, bd_go (show c i + 1 < 4200 by omega) (by decide), bd_gc (show c i + 1 < 4200 by omega) (by decide), nI_clamp (show c i + 1 < 2 ^ 31 by omega), ov_lt c1, c3]
        exact ih (i + 1) (by omega) (by omega)
theorem obj_go {B : Nat → Int32} {L : Nat} (hL : L ≤ 4096) {fv : FV} {d h : Nat} (hv : okV B L fv d h) {n0 p0 l0 : Nat} {K0 F0 S0 I0 X0 Lt0 : Nat → Int32} {N0 : Nat → Int64} {fl pl : Int32} : ∀ (fuel a n l : Nat) (K F : Nat → Int32) (N : Nat → Int64) (S I X Lt : Nat → Int32) (k : Nat) (c e u r s v : Nat → Nat) (more : Int32),
    a ≤ L → L - a < fuel → n0 < n → n + p0 ≤ n0 + a → l0 ≤ l → l + p0 ≤ l0 + a → n ≤ a → l ≤ a → k + p0 < a → agR n0 K0 F0 N0 S0 I0 X0 K F N S I X → ag l0 Lt0 Lt → K n0 = 0 → F n0 = nI p0 → I n0 = (if k = 0 then -1 else nI (c 0)) → X n0 = -1 → kidsO (Val K F N S I X l h) (keyV K F N S l) X n0 n p0 a k c e u r s v →
    (more = 0 ∨ more = 1 ∧ ∀ i, i < k → v i < a) →
    RES (fun g => m_X9_object_37 fv (ov L B (g.1 6)) (nI L) fuel (nI a) (nI d) fl pl (nI n) (ov n K (g.1 0)) (ov n F (g.1 1)) (ov n N g.2) (ov n S (g.1 2)) (ov n I (g.1 3)) (ov n X (g.1 4)) (ov l Lt (g.1 5)) (nI l) (nI n0) (if k = 0 then -1 else nI (c (k - 1) + 1)) more) fpV (postV L (h + 1) p0 n0 l0 d fl pl K0 F0 N0 S0 I0 X0 Lt0) := by
  intro fuel
  induction fuel with
  | zero => intro a n l K F N S I X Lt k c e u r s v more _ hf; exact absurd hf (Nat.not_lt_zero _)
  | succ fuel ih =>
    intro a n l K F N S I X Lt k c e u r s v more ha hf hn0 hna hl0 hla hn hl hka hag hagL hK hF hI hX hkids hmore
    simp only [m_X9_object_37]
    rcases hmore with rfl | ⟨rfl, hva⟩
    · simp only [if_pos (rfl : (0 : Int32) = 0), take_eq hL ha]
      by_cases h125 : rk B L a = 125
      · simp only [if_pos h125, try_o]
        have hlt : a < L := rk_lt h125 (by decide)
        exact RES.ok ⟨a + 1, n, l, K, F, N, S, I, X, Lt, rfl, rfl, by omega, by omega, by omega, hl0, by omega, hag, hagL, hX, Or.inr (Or.inr ⟨hK, hF, hn0, a, k, c, e, u, r, s, v, rfl, hka, hI, hkids⟩)⟩
      · simp only [if_neg h125, try_e]
        exact RES.er (fun g => rfl)
    · simp only [if_neg (show ¬ (1 : Int32) = 0 by decide), look_eq hL ha, Option.bind_some]
      refine RES.ite (fun h34 => ?_) (fun h34 => ?_)
      case refine_2 =>
        simp only [m_X9_object_56, need_0, try_e]
        exact RES.er (fun g => rfl)
      have hlt : a < L := rk_lt h34 (by decide)
      simp only [m_X9_object_56, need_1, try_o]
      refine RES.try (str_ok hL hlt hn hl) ?_ (fun g u => rfl)
      rintro _ _ ⟨w, sz, Lt1, rfl, rfl, hw1, hw2, gL1⟩
      dsimp only
      simp only [bd_go (show n0 < 4200 by omega) (by decide), bd_gc (show n0 < 4200 by omega) (by decide), nI_clamp (show n0 < 2 ^ 31 by omega), ov_lt (show n0 < n + 1 by omega), pk_un (show n0 ≠ n by omega), hI]
      have hcs : ∀ i, i < k → c i + 1 < n + 1 ∧ (upd X n (-1)) (c i) = nI (c i + 1) ∧ (upd X n (-1)) (c i + 1) = (if i + 1 = k then -1 else nI (c (i + 1))) ∧ ∃ st sz', (upd S n (nI sz)) (c i) = nI sz' ∧ (vp_updL N n (lN l)) (c i) = lN st ∧ st + sz' ≤ l + sz := by
        intro i hi
        obtain ⟨⟨-, -, st, sz', s1, s2, s3, -⟩, q1, q2, q2', q3, q4, q5, -⟩ := hkids.1 i hi
        exact ⟨by omega, by rw [pk_un (by omega)]; exact q2, by rw [pk_un (by omega)]; exact q2', st, sz', by rw [pk_un (by omega)]; exact s1, by rw [pk_uLn (by omega)]; exact s2, by omega⟩
      have hstart : (if k = 0 then (-1 : Int32) else nI (c 0)) = (if 0 = k then -1 else nI (c 0)) := by
        by_cases hk : k = 0
        · rw [if_pos hk, if_pos hk.symm]
        · rw [if_neg hk, if_neg (fun q => hk q.symm)]
      simp only [hstart]
      refine obj_dup (n1 := n + 1) (l1 := l + sz) (Nat.lt_succ_self n) (by omega) (by omega) ⟨l, sz, pk_us, pk_uLs, Nat.le_refl _⟩ hcs ?_ sr_fuel 0 (by omega) (by unfold sr_fuel; omega)
      obtain ⟨w1, hb1, hb2, hb3⟩ := blanks_ok B hL hw2
      simp only [m_X9_object_78, if_pos (show (-1 : Int32) < 0 by decide), hb3, Option.bind_some, take_eq hL hb2]
      by_cases h58 : rk B L w1 = 58
      case neg =>
        simp only [if_neg h58, try_e]
        exact RES.er (fun g => rfl)
      have hlt1 : w1 < L := rk_lt h58 (by decide)
      obtain ⟨y, hy1, hy2, hy3⟩ := blanks_ok B hL (show w1 + 1 ≤ L by omega)
      simp only [if_pos h58, try_o, hy3, Option.bind_some]
      refine RES.try (hv y (n + 1) (l + sz) _ _ _ _ _ _ Lt1 fl pl hy2 (by omega) (by omega)) ?_ (fun g u => rfl)
      rintro _ _ ⟨b, n', l', K', F', N', S', I', X', Lt', rfl, rfl, h1, h2, h4, h5, h6, ⟨gK, gF, gN, gS, gI, gX⟩, gL, hXn, hVal⟩
      have h3 : n + 1 < n' := hVal.basic.1
      dsimp only
      have eK : ∀ j, j < n → K j = K' j := fun j hj => by rw [← gK j (by omega), pk_un (by omega)]
      have eF : ∀ j, j < n → F j = F' j := fun j hj => by rw [← gF j (by omega), pk_un (by omega)]
      have eN : ∀ j, j < n → N j = N' j := fun j hj => by rw [← gN j (by omega), pk_uLn (by omega)]
      have eS : ∀ j, j < n → S j = S' j := fun j hj => by rw [← gS j (by omega), pk_un (by omega)]
      have eI : ∀ j, j < n → I j = I' j := fun j hj => by rw [← gI j (by omega), pk_un (by omega)]
      have eX : ∀ j, j < n → X j = X' j := fun j hj => by rw [← gX j (by omega), pk_un (by omega)]
      have tail : ∀ (I2 X2 : Nat → Int32), (∀ i, i ≠ n0 → I2 i = I' i) → I2 n0 = nI (snc c k n 0) → (∀ i, i < n → (∀ j, j + 1 = k → i ≠ c j + 1) → X2 i = X' i) → (∀ i, n ≤ i → X2 i = X' i) → (∀ i, i + 1 = k → X2 (c i + 1) = nI n) →
          RES (fun g => m_X9_object_172 fv (ov L B (g.1 6)) (nI L) (m_X9_object_37 fv (ov L B (g.1 6)) (nI L) fuel) (nI b) (nI d) fl pl (nI n') (ov n' K' (g.1 0)) (ov n' F' (g.1 1)) (ov n' N' g.2) (ov n' S' (g.1 2)) (ov n' I2 (g.1 3)) (ov n' X2 (g.1 4)) (ov l' Lt' (g.1 5)) (nI l') (nI n0) (nI n) (nI (n + 1))) fpV (postV L (h + 1) p0 n0 l0 d fl pl K0 F0 N0 S0 I0 X0 Lt0) := by
        intro I2 X2 i1 i2 x1 x2 x3
        obtain ⟨b', hb1', hb2', hb3'⟩ := blanks_ok B hL h2
        simp only [m_X9_object_172, bd_go (show n < 4200 by omega) (by decide), bd_gc (show n < 4200 by omega) (by decide), nI_clamp (show n < 2 ^ 31 by omega), ov_up (show n < n' by omega), hb3', Option.bind_some, look_eq hL hb2']
        have hkn : kidsO (Val K' F' N' S' I2 (upd X2 n (nI (n + 1))) l' h) (keyV K' F' N' S' l') (upd X2 n (nI (n + 1))) n0 n' p0 b (k + 1) (snc c k n) (snc e k n') (snc u k a) (snc r k w) (snc s k y) (snc v k b) := by
          refine kidsO_push hkids hva hn0 h3 (by omega) (by omega) (by omega) h1 (fun i hi hp => ?_) (fun i hi hp => ?_) ?_ ?_ (fun i hi => ?_) (fun i hi => ?_) (fun i hi => ?_) pk_us ?_
          · obtain ⟨q0, q1, q2, q2', q3, q4, q5, q6, q7, q8⟩ := hkids.1 i hi
            refine Val.keep h _ _ _ _ hp (fun j j1 j2 => ⟨eK j (by omega), eF j (by omega), eN j (by omega), eS j (by omega), ?_⟩) (fun j j1 j2 => ?_) (by omega)
            · rw [i1 j (by omega)]; exact eI j (by omega)
            · rw [pk_un (by omega), x1 j (by omega) (fun i' hi' hc => ?_)]
              · exact eX j (by omega)
              · by_cases hii : i = i'
                · subst hii; omega
                · have := (hkids.2 i i' (by omega) (by omega)).1
                  omega
          · obtain ⟨q0, q1, q2, q2', q3, q4, q5, q6, q7, q8⟩ := hkids.1 i hi
            exact keyV.keep hp (eK _ (by omega)) (eF _ (by omega)) (eN _ (by omega)) (eS _ (by omega)) (by omega)
          · refine Val.keep h _ _ _ _ hVal (fun j j1 j2 => ⟨rfl, rfl, rfl, rfl, ?_⟩) (fun j j1 j2 => ?_) (Nat.le_refl _)
            · rw [i1 j (by omega)]
            · rw [pk_un (by omega), x2 j (by omega)]
          · exact ⟨by rw [← gK n (by omega)]; exact pk_us, by rw [← gF n (by omega)]; exact pk_us, l, sz, by rw [← gS n (by omega)]; exact pk_us, by rw [← gN n (by omega)]; exact pk_uLs, by omega, by omega⟩
          · obtain ⟨q0, q1, q2, q2', q3, q4, q5, q6, q7, q8⟩ := hkids.1 i hi
            rw [pk_un (by omega), x1 (c i) (by omega) (fun j hj hc => ?_)]
            · exact (eX (c i) (by omega)).symm
            · by_cases hij : i = j
              · subst hij; omega
              · have := (hkids.2 i j (by omega) (by omega)).1
                omega
          · obtain ⟨q0, q1, q2, q2', q3, q4, q5, q6, q7, q8⟩ := hkids.1 i (by omega)
            rw [pk_un (by omega), x1 (c i + 1) (by omega) (fun j hj hc => ?_)]
            · exact (eX (c i + 1) (by omega)).symm
            · have := (hkids.2 i j (by omega) (by omega)).1
              omega
          · obtain ⟨q0, q1, q2, q2', q3, q4, q5, q6, q7, q8⟩ := hkids.1 i (by omega)
            rw [pk_un (by omega)]
            exact x3 i hi
          · rw [pk_un (by omega), x2 (n + 1) (by omega)]
            exact hXn
        have hx0 : (upd X2 n (nI (n + 1))) n0 = -1 := by
          rw [pk_un (by omega), x1 n0 hn0 (fun j hj hc => ?_), ← eX n0 hn0]
          · exact hX
          · have := (hkids.1 j (by omega)).2.2.2.2.1
            omega
        have hag2 : agR n0 K0 F0 N0 S0 I0 X0 K' F' N' S' I2 (upd X2 n (nI (n + 1))) := by
          obtain ⟨a1, a2, a3, a4, a5, a6⟩ := hag
          refine ⟨fun i hi => (a1 i hi).trans (eK i (by omega)), fun i hi => (a2 i hi).trans (eF i (by omega)), fun i hi => (a3 i hi).trans (eN i (by omega)), fun i hi => (a4 i hi).trans (eS i (by omega)), fun i hi => ?_, fun i hi => ?_⟩
          · rw [i1 i (by omega), ← eI i (by omega)]; exact a5 i hi
          · rw [pk_un (by omega), x1 i (by omega) (fun j hj hc => ?_), ← eX i (by omega)]
            · exact a6 i hi
            · have := (hkids.1 j (by omega)).2.2.2.2.1
              omega
        have hagL2 : ag l0 Lt0 Lt' := (hagL.trans gL1 (by omega)).trans gL (by omega)
        have hup : ∀ b2, b ≤ b2 → kidsO (Val K' F' N' S' I2 (upd X2 n (nI (n + 1))) l' h) (keyV K' F' N' S' l') (upd X2 n (nI (n + 1))) n0 n' p0 b2 (k + 1) (snc c k n) (snc e k n') (snc u k a) (snc r k w) (snc s k y) (snc v k b) := fun b2 hb => ⟨fun i hi => by
          obtain ⟨q0, q1, q2, q2', q3, q4, q5, q6, q7, q8, q9, q10⟩ := hkn.1 i hi
          exact ⟨q0, q1, q2, q2', q3, q4, q5, q6, q7, q8, q9, by omega⟩, hkn.2⟩
        have hlast : (if k + 1 = 0 then (-1 : Int32) else nI (snc c k n (k + 1 - 1) + 1)) = nI (n + 1) := by
          rw [if_neg (by omega), Nat.add_sub_cancel, snc_s]
        have hfirst : I2 n0 = (if k + 1 = 0 then (-1 : Int32) else nI (snc c k n 0)) := by
          rw [if_neg (by omega)]; exact i2
        refine RES.ite (fun h44 => ?_) (fun h44 => ?_)
        · have hlt2 : b' < L := rk_lt h44 (by decide)
          obtain ⟨b2, hc1, hc2, hc3⟩ := blanks_ok B hL (show b' + 1 ≤ L by omega)
          simp only [m_X9_object_202, if_neg (show ¬ (1 : Int32) = 0 by decide), nI_1, hc3, Option.bind_some]
          have := ih b2 n' l' K' F' N' S' I2 (upd X2 n (nI (n + 1))) Lt' (k + 1) (snc c k n) (snc e k n') (snc u k a) (snc r k w) (snc s k y) (snc v k b) 1 hc2 (by omega) (by omega) (by omega) (by omega) (by omega) (by omega) (by omega) (by omega) hag2 hagL2 (by rw [← eK n0 hn0]; exact hK) (by rw [← eF n0 hn0]; exact hF) hfirst hx0 (hup b2 (by omega)) (Or.inr ⟨rfl, fun i hi => by
            have := (hkn.1 i hi).2.2.2.2.2.2.2.2.2.2.2
            omega⟩)
          rw [hlast] at this
          exact this
        · simp only [m_X9_object_202, if_pos (rfl : (0 : Int32) = 0)]
          have := ih b' n' l' K' F' N' S' I2 (upd X2 n (nI (n + 1))) Lt' (k + 1) (snc c k n) (snc e k n') (snc u k a) (snc r k w) (snc s k y) (snc v k b) 0 hb2' (by omega) (by omega) (by omega) (by omega) (by omega) (by omega) (by omega) (by omega) hag2 hagL2 (by rw [← eK n0 hn0]; exact hK) (by rw [← eF n0 hn0]; exact hF) hfirst hx0 (hup b' hb1') (Or.inl rfl)
          rw [hlast] at this
          exact this
      by_cases hk : k = 0
      · subst hk
        simp only [if_true, if_neg (show ¬ (0 : Int32) ≤ -1 by decide), bd_go (show n0 < 4200 by omega) (by decide), bd_gc (show n0 < 4200 by omega) (by decide), nI_clamp (show n0 < 2 ^ 31 by omega), ov_up (show n0 < n' by omega)]
        exact tail _ X' (fun i hi => pk_un hi) (by rw [pk_us, snc_s]) (fun _ _ _ => rfl) (fun _ _ => rfl) (fun i hi => absurd hi (by omega))
      · obtain ⟨q0, q1, q2, q2', q3, q4, q5, -⟩ := hkids.1 (k - 1) (by omega)
        simp only [if_neg hk, if_pos (nI_pos' (show c (k - 1) + 1 < 2 ^ 31 by omega)), bd_go (show c (k - 1) + 1 < 4200 by omega) (by decide), bd_gc (show c (k - 1) + 1 < 4200 by omega) (by decide), nI_clamp (show c (k - 1) + 1 < 2 ^ 31 by omega), ov_up (show c (k - 1) + 1 < n' by omega)]
        refine tail I' _ (fun _ _ => rfl) ?_ (fun i hi hc => pk_un (hc (k - 1) (by omega))) (fun i hi => pk_un (by omega)) (fun i hi => ?_)
        · rw [snc_n (by omega), ← eI n0 hn0, hI, if_neg hk]
        · have : i = k - 1 := by omega
          subst this
          exact pk_us
theorem obj_ok {B : Nat → Int32} {L : Nat} (hL : L ≤ 4096) {fv : FV} {d h : Nat} (hv : okV B L fv d h) {a n l : Nat} {K F S I X Lt : Nat → Int32} {N : Nat → Int64} {fl pl : Int32} (ha : a < L) (hn : n ≤ a) (hl : l ≤ a) :
    RES (fun g => m_X9_object fv (ov L B (g.1 6)) (nI L) (nI a) (nI d) fl pl (nI n) (ov n K (g.1 0)) (ov n F (g.1 1)) (ov n N g.2) (ov n S (g.1 2)) (ov n I (g.1 3)) (ov n X (g.1 4)) (ov l Lt (g.1 5)) (nI l)) fpV (postV L (h + 1) a n l d fl pl K F N S I X Lt) := by
  obtain ⟨b, hb1, hb2, hb3⟩ := blanks_ok B hL (show a + 1 ≤ L by omega)
  simp only [m_X9_object, node_eq (show n < 4200 by omega), Option.bind_some, nI_1, hb3, look_eq hL hb2]
  have go : ∀ more : Int32, more = 0 ∨ more = 1 → RES (fun g => m_X9_object_37 fv (ov L B (g.1 6)) (nI L) sr_fuel (nI b) (nI d) fl pl (nI (n + 1)) (ov (n + 1) (upd K n 0) (g.1 0)) (ov (n + 1) (upd F n (nI a)) (g.1 1)) (ov (n + 1) (vp_updL N n 0) g.2) (ov (n + 1) (upd S n 0) (g.1 2)) (ov (n + 1) (upd I n (-1)) (g.1 3)) (ov (n + 1) (upd X n (-1)) (g.1 4)) (ov l Lt (g.1 5)) (nI l) (nI n) (-1) more) fpV (postV L (h + 1) a n l d fl pl K F N S I X Lt) := by
    intro more hm
    refine obj_go hL hv (n0 := n) (p0 := a) (l0 := l) (K0 := K) (F0 := F) (N0 := N) (S0 := S) (I0 := I) (X0 := X) (Lt0 := Lt) sr_fuel b (n + 1) l _ _ _ _ _ _ Lt 0 id id id id id id more hb2 (by unfold sr_fuel; omega) (by omega) (by omega) (by omega) (by omega) (by omega) (by omega) (by omega) ⟨ag.rfl'.upd (Nat.le_refl _), ag.rfl'.upd (Nat.le_refl _), ag.rfl'.updL (Nat.le_refl _), ag.rfl'.upd (Nat.le_refl _), ag.rfl'.upd (Nat.le_refl _), ag.rfl'.upd (Nat.le_refl _)⟩ ag.rfl' pk_us pk_us pk_us pk_us ⟨fun i hi => absurd hi (Nat.not_lt_zero _), fun i j hij hj => absurd hj (Nat.not_lt_zero _)⟩ ?_
    rcases hm with rfl | rfl
    · exact Or.inl rfl
    · exact Or.inr ⟨rfl, fun i hi => absurd hi (Nat.not_lt_zero _)⟩
  exact RES.ite (fun _ => go 0 (Or.inl rfl)) (fun _ => go 1 (Or.inr rfl))
end
section
-- the reference's values
theorem wrd_go {B : Nat → Int32} {L : Nat} (hL : L ≤ 4096) {fv : FV} {d n l w len : Nat} {K F S I X Lt : Nat → Int32} {N : Nat → Int64} {fl pl x2 : Int32} (hw : w < 75) (hlen : lenS.getD w 0 = len) (hl8 : len < 8) (hb : ∀ j, j < len → ¬ (bytS.getD w []).getD j 0 = -1) : ∀ (fuel j a : Nat), j ≤ len → len - j < fuel → a ≤ L →
    RES (fun g => m_X9_value_169 fv (ov L B (g.1 6)) (nI L) fuel (nI a) (nI d) fl pl (nI n) (ov n K (g.1 0)) (ov n F (g.1 1)) (ov n N g.2) (ov n S (g.1 2)) (ov n I (g.1 3)) (ov n X (g.1 4)) (ov l Lt (g.1 5)) (nI l) x2 w (nI j)) fpV
      (fun v u => v = x2 ∧ u = (fun g => (nI (a + (len - j)), nI d, fl, pl, nI n, ov n K (g.1 0), ov n F (g.1 1), ov n N g.2, ov n S (g.1 2), ov n I (g.1 3), ov n X (g.1 4), ov l Lt (g.1 5), nI l)) ∧ a + (len - j) ≤ L) := by
  intro fuel
  induction fuel with
  | zero => intro j a _ hf; exact absurd hf (Nat.not_lt_zero _)
  | succ fuel ih =>
    intro j a hj hf ha
    simp only [m_X9_value_169, if_neg (show ¬ nS ≤ w by unfold nS; omega), len_eq w hw, hlen, Option.bind_some]
    by_cases hc : len ≤ j
    · simp only [if_pos (nI_le hc (by omega))]
      exact RES.ok ⟨rfl, by rw [show len - j = 0 by omega]; rfl, by omega⟩
    · simp only [if_neg (nI_ge (show j < len by omega) (by omega)), chr_eq w hw j (by omega), Option.bind_some, take_eq hL ha]
      by_cases hq : rk B L a = (bytS.getD w []).getD j 0
      · have hlt : a < L := rk_lt hq (hb j (by omega))
        simp only [if_pos hq, try_o, nI_1]
        refine (ih (j + 1) (a + 1) (by omega) (by omega) (by omega)).mono ?_
        rintro v u ⟨h1, h2, h3⟩
        rw [show a + 1 + (len - (j + 1)) = a + (len - j) by omega] at h2 h3
        exact ⟨h1, h2, h3⟩
      · simp only [if_neg hq, try_e]
        exact RES.er (fun g => rfl)
theorem val_ok {B : Nat → Int32} {L : Nat} (hL : L ≤ 4096) : ∀ (D d : Nat), d ≤ 24 → 24 - d < D → okV B L (m_X9_value D) d (24 - d) := by
  intro D
  induction D with
  | zero => intro d _ hf; exact absurd hf (Nat.not_lt_zero _)
  | succ D ih =>
    intro d hd hf a n l K F N S I X Lt fl pl ha hn hl
    simp only [m_X9_value, look_eq hL ha, Option.bind_some]
    have brk : ∀ x1 : Int32, a < L → RES (fun g => m_X9_value_17 (m_X9_value D) (ov L B (g.1 6)) (nI L) (nI a) (nI d) fl pl (nI n) (ov n K (g.1 0)) (ov n F (g.1 1)) (ov n N g.2) (ov n S (g.1 2)) (ov n I (g.1 3)) (ov n X (g.1 4)) (ov l Lt (g.1 5)) (nI l) x1) fpV (postV L (24 - d) a n l d fl pl K F N S I X Lt) := by
      intro x1 hlt
      by_cases h24 : 24 ≤ d
      · simp only [m_X9_value_17, if_pos (show (24 : Int32) ≤ nI d from nI_le (a := 24) h24 (by omega)), m_X9_value_32, need_0, try_e]
        exact RES.er (fun g => rfl)
      · simp only [m_X9_value_17, if_neg (show ¬ (24 : Int32) ≤ nI d from nI_ge (b := 24) (by omega) (by omega)), m_X9_value_32, need_1, try_o, nI_1]
        have hv := ih (d + 1) (by omega) (by omega)
        have he : 24 - d = 24 - (d + 1) + 1 := by omega
        have fin : ∀ (v : Int32) (u : Gs → TV), postV L (24 - (d + 1) + 1) a n l (d + 1) fl pl K F N S I X Lt v u → RES (fun g => some (.ok (v, ((u g).1, (u g).2.1 - 1, (u g).2.2.1, (u g).2.2.2.1, (u g).2.2.2.2.1, (u g).2.2.2.2.2.1, (u g).2.2.2.2.2.2.1, (u g).2.2.2.2.2.2.2.1, (u g).2.2.2.2.2.2.2.2.1, (u g).2.2.2.2.2.2.2.2.2.1, (u g).2.2.2.2.2.2.2.2.2.2.1, (u g).2.2.2.2.2.2.2.2.2.2.2.1, (u g).2.2.2.2.2.2.2.2.2.2.2.2)))) fpV (postV L (24 - d) a n l d fl pl K F N S I X Lt) := by
          rintro _ _ ⟨b, n', l', K', F', N', S', I', X', Lt', rfl, rfl, h⟩
          rw [← he] at h
          dsimp only
          exact RES.ok ⟨b, n', l', K', F', N', S', I', X', Lt', rfl, by simp only [nI_pred], h⟩
        refine RES.ite (fun _ => ?_) (fun _ => ?_)
        · exact RES.try (obj_ok hL hv hlt hn hl) fin (fun g u => rfl)
        · exact RES.try (lst_ok hL hv hlt hn hl) fin (fun g u => rfl)
    have hnum : a < L → RES (fun g => mr_try (m_X9_number (ov L B (g.1 6)) (nI L) (nI a) fl pl (nI n) (ov n K (g.1 0)) (ov n F (g.1 1)) (ov n N g.2) (ov n S (g.1 2)) (ov n I (g.1 3)) (ov n X (g.1 4))) (fun r (x : Int32 × Int32 × Int32 × Int32 × (Nat → Int32) × (Nat → Int32) × (Nat → Int64) × (Nat → Int32) × (Nat → Int32) × (Nat → Int32)) => some (Except.ok (r, (x.1, nI d, x.2.1, x.2.2.1, x.2.2.2.1, x.2.2.2.2.1, x.2.2.2.2.2.1, x.2.2.2.2.2.2.1, x.2.2.2.2.2.2.2.1, x.2.2.2.2.2.2.2.2.1, x.2.2.2.2.2.2.2.2.2, ov l Lt (g.1 5), nI l)))) (fun x => (x.1, nI d, x.2.1, x.2.2.1, x.2.2.2.1, x.2.2.2.2.1, x.2.2.2.2.2.1, x.2.2.2.2.2.2.1, x.2.2.2.2.2.2.2.1, x.2.2.2.2.2.2.2.2.1, x.2.2.2.2.2.2.2.2.2, ov l Lt (g.1 5), nI l))) fpV (postV L (24 - d) a n l d fl pl K F N S I X Lt) := by
      intro hlt
      refine RES.try (num_ok hL hlt hn) ?_ (fun g u => rfl)
      rintro _ _ ⟨b, sz, z, rfl, rfl, h1, h2, h3⟩
      dsimp only
      refine RES.ok ⟨b, n + 1, l, _, _, _, _, _, _, Lt, rfl, rfl, h1, h2, by omega, Nat.le_refl _, by omega, ⟨ag.rfl'.upd (Nat.le_refl _), ag.rfl'.upd (Nat.le_refl _), ag.rfl'.updL (Nat.le_refl _), ag.rfl'.upd (Nat.le_refl _), ag.rfl'.upd (Nat.le_refl _), ag.rfl'.upd (Nat.le_refl _)⟩, ag.rfl', pk_us, Val.leaf ⟨rfl, h1, pk_us, Or.inr (Or.inl ⟨pk_us, ?_⟩)⟩⟩
      rw [pk_uLs]; exact h3
    have hwrd : RES (fun g => m_X9_value_114 (m_X9_value D) (ov L B (g.1 6)) (nI L) (nI a) (nI d) fl pl (nI n) (ov n K (g.1 0)) (ov n F (g.1 1)) (ov n N g.2) (ov n S (g.1 2)) (ov n I (g.1 3)) (ov n X (g.1 4)) (ov l Lt (g.1 5)) (nI l) (rk B L a)) fpV (postV L (24 - d) a n l d fl pl K F N S I X Lt) := by
      have go : ∀ (w len : Nat) (kd : Int32), w < 75 → lenS.getD w 0 = len → 0 < len → len < 8 → (∀ j, j < len → ¬ (bytS.getD w []).getD j 0 = -1) → (kd = 4 ∨ kd = 5 ∨ kd = 6) → RES (fun g => m_X9_value_169 (m_X9_value D) (ov L B (g.1 6)) (nI L) sr_fuel (nI a) (nI d) fl pl (nI (n + 1)) (ov (n + 1) (upd K n kd) (g.1 0)) (ov (n + 1) (upd F n (nI a)) (g.1 1)) (ov (n + 1) (vp_updL N n 0) g.2) (ov (n + 1) (upd S n 0) (g.1 2)) (ov (n + 1) (upd I n (-1)) (g.1 3)) (ov (n + 1) (upd X n (-1)) (g.1 4)) (ov l Lt (g.1 5)) (nI l) (nI n) w 0) fpV (postV L (24 - d) a n l d fl pl K F N S I X Lt) := by
        intro w len kd hw hlen h0 h8 hb hkd
        refine (wrd_go hL hw hlen h8 hb sr_fuel 0 a (by omega) (by unfold sr_fuel; omega) ha).mono ?_
        rintro _ _ ⟨rfl, rfl, h1⟩
        refine ⟨a + (len - 0), n + 1, l, _, _, _, _, _, _, Lt, rfl, rfl, by omega, h1, by omega, Nat.le_refl _, by omega, ⟨ag.rfl'.upd (Nat.le_refl _), ag.rfl'.upd (Nat.le_refl _), ag.rfl'.updL (Nat.le_refl _), ag.rfl'.upd (Nat.le_refl _), ag.rfl'.upd (Nat.le_refl _), ag.rfl'.upd (Nat.le_refl _)⟩, ag.rfl', pk_us, Val.leaf ⟨rfl, by omega, pk_us, Or.inr (Or.inr ?_)⟩⟩
        rw [pk_us]; exact hkd
      have g40 : ∀ kd : Int32, (kd = 4 ∨ kd = 5 ∨ kd = 6) → _ := fun kd hk => go 40 4 kd (by decide) (by decide +kernel) (by decide) (by decide) (by decide +kernel) hk
      have g41 : ∀ kd : Int32, (kd = 4 ∨ kd = 5 ∨ kd = 6) → _ := fun kd hk => go 41 5 kd (by decide) (by decide +kernel) (by decide) (by decide) (by decide +kernel) hk
      have g42 : ∀ kd : Int32, (kd = 4 ∨ kd = 5 ∨ kd = 6) → _ := fun kd hk => go 42 4 kd (by decide) (by decide +kernel) (by decide) (by decide) (by decide +kernel) hk
      simp only [m_X9_value_114, m_X9_value_137, node_eq (show n < 4200 by omega), Option.bind_some]
      refine RES.ite (fun _ => ?_) (fun _ => RES.ite (fun _ => ?_) (fun _ => ?_))
      · exact RES.ite (fun _ => g40 4 (Or.inl rfl)) (fun _ => RES.ite (fun _ => g41 4 (Or.inl rfl)) (fun _ => g42 4 (Or.inl rfl)))
      · exact RES.ite (fun _ => g40 5 (Or.inr (Or.inl rfl))) (fun _ => RES.ite (fun _ => g41 5 (Or.inr (Or.inl rfl))) (fun _ => g42 5 (Or.inr (Or.inl rfl))))
      · exact RES.ite (fun _ => g40 6 (Or.inr (Or.inr rfl))) (fun _ => RES.ite (fun _ => g41 6 (Or.inr (Or.inr rfl))) (fun _ => g42 6 (Or.inr (Or.inr rfl))))
    refine RES.ite (fun h => brk _ (rk_lt h (by decide))) (fun _ => RES.ite (fun h => brk _ (rk_lt h (by decide))) (fun _ => RES.ite (fun h => ?_) (fun _ => RES.ite (fun h => hnum (rk_lt h (by decide))) (fun _ => RES.ite (fun h => hwrd) (fun h1 => RES.ite (fun h => hwrd) (fun h2 => hnum ?_))))))
    · have hlt : a < L := rk_lt h (by decide)
      refine RES.try (str_ok hL hlt hn hl) ?_ (fun g u => rfl)
      rintro _ _ ⟨b, sz, Lt', rfl, rfl, h1, h2, h3⟩
      dsimp only
      refine RES.ok ⟨b, n + 1, l + sz, _, _, _, _, _, _, Lt', rfl, rfl, by omega, h2, by omega, by omega, by omega, ⟨ag.rfl'.upd (Nat.le_refl _), ag.rfl'.upd (Nat.le_refl _), ag.rfl'.updL (Nat.le_refl _), ag.rfl'.upd (Nat.le_refl _), ag.rfl'.upd (Nat.le_refl _), ag.rfl'.upd (Nat.le_refl _)⟩, h3, pk_us, Val.leaf ⟨rfl, by omega, pk_us, Or.inl ⟨pk_us, l, sz, pk_us, pk_uLs, Nat.le_refl _, h1⟩⟩⟩
    · apply Nat.lt_of_not_le
      intro h3
      rw [rk_end h3] at h1
      exact h1 (by decide)
end
section
-- strings in the rows: names, words, members
/-- one answer, whatever lay in the stale rows -/
def DET {α : Type} (x : Gs → Option α) (P : α → Prop) : Prop := ∃ r, P r ∧ ∀ g, x g = some r
section DETs
variable {α β : Type} {P : α → Prop} {Q : β → Prop}
theorem DET.ok {r : α} (h : P r) : DET (fun _ => some r) P := ⟨r, h, fun _ => rfl⟩
theorem DET.ite {c : Prop} {i : Decidable c} {x y : Gs → Option α} (ht : c → DET x P) (hf : ¬ c → DET y P) : DET (fun g => @ite _ c i (x g) (y g)) P := by
  by_cases h : c
  · simp only [if_pos h]; exact ht h
  · simp only [if_neg h]; exact hf h
theorem DET.bind {x : Gs → Option α} {k : Gs → α → Option β} (h : DET x P) (hk : ∀ r, P r → DET (fun g => k g r) Q) : DET (fun g => (x g).bind (k g)) Q := by
  obtain ⟨r, h1, h2⟩ := h
  simp only [h2, Option.bind_some]
  exact hk r h1
theorem DET.mono {P' : α → Prop} {x : Gs → Option α} (h : DET x P) (hk : ∀ r, P r → P' r) : DET x P' := by
  obtain ⟨r, h1, h2⟩ := h
  exact ⟨r, hk r h1, h2⟩
theorem RES.bind {U V : Type} {fp : U → Int32 × Int32} {R : V → (Gs → U) → Prop} {x : Gs → Option α} {k : Gs → α → Option (Except U (V × U))} (h : DET x P) (hk : ∀ r, P r → RES (fun g => k g r) fp R) : RES (fun g => (x g).bind (k g)) fp R := by
  obtain ⟨r, h1, h2⟩ := h
  simp only [h2, Option.bind_some]
  exact hk r h1
end DETs
/-- the row x is a string of sz letters -/
def strN (K : Nat → Int32) (N : Nat → Int64) (S : Nat → Int32) (n l x sz : Nat) : Prop := x < n ∧ K x = 2 ∧ S x = nI sz ∧ ∃ st, N x = lN st ∧ st + sz ≤ l
/-- the row x says the literal w -/
def StrIs (K : Nat → Int32) (N : Nat → Int64) (S Lt : Nat → Int32) (n l x w : Nat) : Prop :=
  x < n ∧ K x = 2 ∧ S x = nI (lenS.getD w 0) ∧ ∃ st, N x = lN st ∧ st + lenS.getD w 0 ≤ l ∧ ∀ j, j < lenS.getD w 0 → Lt (st + j) = (bytS.getD w []).getD j 0
noncomputable def isV (K : Nat → Int32) (N : Nat → Int64) (S Lt : Nat → Int32) (n l x w : Nat) : Int32 := @ite Int32 (StrIs K N S Lt n l x w) (Classical.propDecidable _) 1 0
theorem isV_t {K S Lt : Nat → Int32} {N : Nat → Int64} {n l x w : Nat} (h : StrIs K N S Lt n l x w) : isV K N S Lt n l x w = 1 := if_pos h
theorem isV_f {K S Lt : Nat → Int32} {N : Nat → Int64} {n l x w : Nat} (h : ¬ StrIs K N S Lt n l x w) : isV K N S Lt n l x w = 0 := if_neg h
theorem isV_n {K S Lt : Nat → Int32} {N : Nat → Int64} {n l x w : Nat} (h : ¬ isV K N S Lt n l x w = 0) : StrIs K N S Lt n l x w := by
  by_cases hs : StrIs K N S Lt n l x w
  · exact hs
  · exact absurd (isV_f hs) h
theorem len_lt : ∀ w, w < 75 → lenS.getD w 0 < 40 := by decide +kernel
theorem is0 {tK tS tL : Nat → Int32} {tN : Nat → Int64} {n w : Nat} {x x4 : Int32} (hw : w < 75) : m_X9_is_32 tK tN tS tL (n + 1) x w 0 x4 = some 0 := by
  simp only [m_X9_is_32, if_neg (show ¬ nS ≤ w by unfold nS; omega), len_eq w hw, Option.bind_some]
  split <;> simp
theorem is_eq {K S Lt gK gS gL : Nat → Int32} {N gN : Nat → Int64} {n l x w : Nat} (hw : w < 75) (hx : x < n) (hn : n ≤ 4200) (hl : l ≤ 4200) (hs : K x = 2 → ∃ sz, strN K N S n l x sz) : m_X9_is (ov n K gK) (ov n N gN) (ov n S gS) (ov l Lt gL) (nI x) w = some (isV K N S Lt n l x w) := by
  have hlw := len_lt w hw
  simp only [m_X9_is, bd_go (show x < 4200 by omega) (by decide), bd_gc (show x < 4200 by omega) (by decide), nI_clamp (show x < 2 ^ 31 by omega), ov_lt hx, if_neg (show ¬ nS ≤ w by unfold nS; omega), len_eq w hw, Option.bind_some]
  by_cases h2 : K x = 2
  · obtain ⟨sz, -, -, hsz, st, hst, hle⟩ := hs h2
    rw [if_pos h2, hsz]
    by_cases hlen : sz = lenS.getD w 0
    · rw [if_pos (by rw [hlen])]
      have go : ∀ (n' j : Nat), j ≤ sz → sz - j < n' → (∀ i, i < j → Lt (st + i) = (bytS.getD w []).getD i 0) → m_X9_is_32 (ov n K gK) (ov n N gN) (ov n S gS) (ov l Lt gL) n' (nI x) w 1 (nI j) = some (isV K N S Lt n l x w) := by
        intro n'
        induction n' with
        | zero => intro j _ h; exact absurd h (Nat.not_lt_zero _)
        | succ n' ih =>
          intro j hj hn' hall
          simp only [m_X9_is_32, if_neg (show ¬ nS ≤ w by unfold nS; omega), len_eq w hw, Option.bind_some, ← hlen]
          by_cases hc : sz ≤ j
          · rw [if_pos (nI_le hc (by omega)), if_pos (Or.inr trivial), isV_t]
            exact ⟨hx, h2, by rw [← hlen]; exact hsz, st, hst, by omega, fun i hi => hall i (by omega)⟩
          · rw [if_neg (nI_ge (show j < sz by omega) (by omega)), if_neg (show ¬ (1 : Int32) = 0 by decide), bd_go (show x < 4200 by omega) (by decide), nI_clamp (show x < 2 ^ 31 by omega), ov_lt hx, hst, lN_i, nI_add, bd_go (show st + j < 4200 by omega) (by decide), chr_eq w hw j (by omega), Option.bind_some, nI_clamp (show st + j < 2 ^ 31 by omega), ov_lt (show st + j < l by omega)]
            by_cases hq : Lt (st + j) = (bytS.getD w []).getD j 0
            · rw [if_pos hq, nI_1]
              refine ih (j + 1) (by omega) (by omega) (fun i hi => ?_)
              by_cases hij : i = j
              · rw [hij]; exact hq
              · exact hall i (by omega)
            · rw [if_neg hq]
              obtain ⟨n'', rfl⟩ : ∃ n'', n' = n'' + 1 := ⟨n' - 1, by omega⟩
              rw [is0 hw, isV_f]
              rintro ⟨-, -, -, st', q1, q5, q2⟩
              rw [hst] at q1
              have e : st = st' := by
                have q3 := congrArg Int64.toInt32 q1
                rw [lN_i, lN_i] at q3
                exact (nI_eq (by omega) (by omega)).mp q3
              subst e
              exact hq (q2 j (by omega))
      exact go sr_fuel 0 (by omega) (by unfold sr_fuel; omega) (fun i hi => absurd hi (Nat.not_lt_zero _))
    · rw [if_neg (fun q => hlen ((nI_eq (by omega) (by omega)).mp q)), isV_f]
      · exact is0 (n := 99999) hw
      · rintro ⟨-, -, q, -⟩
        rw [hsz] at q
        exact hlen ((nI_eq (by omega) (by omega)).mp q)
  · rw [if_neg h2, isV_f (fun q => h2 q.2.1)]
    exact is0 (n := 99999) hw
theorem mem_ok {K S I X Lt : Nat → Int32} {N : Nat → Int64} {n l v k w : Nat} {c : Nat → Nat} (hw : w < 75) (hn : n ≤ 4200) (hl : l ≤ 4200) (hv : v < n) (hk : k ≤ 5000) (hI : I v = (if k = 0 then -1 else nI (c 0)))
    (hc : ∀ i, i < k → c i + 1 < n ∧ X (c i) = nI (c i + 1) ∧ X (c i + 1) = (if i + 1 = k then -1 else nI (c (i + 1))) ∧ ∃ sz, strN K N S n l (c i) sz) :
    DET (fun g => m_X9_member (ov n K (g.1 0)) (ov n N g.2) (ov n S (g.1 2)) (ov n I (g.1 3)) (ov n X (g.1 4)) (ov l Lt (g.1 5)) (nI v) w) (fun r => r = -1 ∨ ∃ i, i < k ∧ r = nI (c i + 1) ∧ StrIs K N S Lt n l (c i) w) := by
  have go : ∀ (fuel i : Nat), i ≤ k → k - i < fuel → DET (fun g => m_X9_member_7 (ov n K (g.1 0)) (ov n N g.2) (ov n S (g.1 2)) (ov n I (g.1 3)) (ov n X (g.1 4)) (ov l Lt (g.1 5)) fuel w (if i = k then -1 else nI (c i))) (fun r => r = -1 ∨ ∃ i, i < k ∧ r = nI (c i + 1) ∧ StrIs K N S Lt n l (c i) w) := by
    intro fuel
    induction fuel with
    | zero => intro i _ hf; exact absurd hf (Nat.not_lt_zero _)
    | succ fuel ih =>
      intro i hi hf
      by_cases hik : i = k
      · simp only [if_pos hik, m_X9_member_7, if_pos (show (-1 : Int32) < 0 by decide)]
        exact DET.ok (Or.inl rfl)
      · obtain ⟨c1, c2, c3, sz, c4⟩ := hc i (by omega)
        simp only [if_neg hik, m_X9_member_7, if_neg (nI_pos (show c i < 2 ^ 31 by omega)), is_eq hw c4.1 hn hl (fun _ => ⟨sz, c4⟩), Option.bind_some]
        refine DET.ite (fun h0 => ?_) (fun h0 => ?_)
        · simp only [bd_go (show c i < 4200 by omega) (by decide), bd_gc (show c i < 4200 by omega) (by decide), nI_clamp (show c i < 2 ^ 31 by omega), ov_lt (show c i < n by omega), c2, bd_go (show c i + 1 < 4200 by omega) (by decide), bd_gc (show c i + 1 < 4200 by omega) (by decide), nI_clamp (show c i + 1 < 2 ^ 31 by omega), ov_lt c1, c3]
          exact ih (i + 1) (by omega) (by omega)
        · simp only [bd_go (show c i < 4200 by omega) (by decide), bd_gc (show c i < 4200 by omega) (by decide), nI_clamp (show c i < 2 ^ 31 by omega), ov_lt (show c i < n by omega), c2]
          exact DET.ok (Or.inr ⟨i, by omega, rfl, isV_n h0⟩)
  have hstart : (if k = 0 then (-1 : Int32) else nI (c 0)) = (if 0 = k then -1 else nI (c 0)) := by
    by_cases hk : k = 0
    · rw [if_pos hk, if_pos hk.symm]
    · rw [if_neg hk, if_neg (fun q => hk q.symm)]
  simp only [m_X9_member, bd_go (show v < 4200 by omega) (by decide), bd_gc (show v < 4200 by omega) (by decide), nI_clamp (show v < 2 ^ 31 by omega), ov_lt hv, hI, hstart]
  exact go sr_fuel 0 (by omega) (by unfold sr_fuel; omega)
theorem nm0 {tK tS tL : Nat → Int32} {tN : Nat → Int64} {n x : Nat} {x3 : Int32} (hx : x < 4200) : m_X9_isName_38 tK tN tS tL (n + 1) (nI x) 0 x3 = some 0 := by
  simp only [m_X9_isName_38, bd_go hx (by decide)]
  split <;> simp
theorem nm_ok {K S Lt : Nat → Int32} {N : Nat → Int64} {n l x : Nat} (hx : x < n) (hn : n ≤ 4200) (hl : l ≤ 4200) (hs : K x = 2 → ∃ sz, strN K N S n l x sz) :
    DET (fun g => m_X9_isName (ov n K (g.1 0)) (ov n N g.2) (ov n S (g.1 2)) (ov l Lt (g.1 5)) (nI x)) (fun r => r = 0 ∨ r = 1 ∧ ∃ sz, strN K N S n l x sz ∧ 1 ≤ sz ∧ sz ≤ 32) := by
  have e0 : DET (fun g => m_X9_isName_38 (ov n K (g.1 0)) (ov n N g.2) (ov n S (g.1 2)) (ov l Lt (g.1 5)) sr_fuel (nI x) 0 0) (fun r => r = 0 ∨ r = 1 ∧ ∃ sz, strN K N S n l x sz ∧ 1 ≤ sz ∧ sz ≤ 32) :=
    ⟨0, Or.inl rfl, fun g => nm0 (n := 99999) (by omega)⟩
  simp only [m_X9_isName, bd_go (show x < 4200 by omega) (by decide), bd_gc (show x < 4200 by omega) (by decide), nI_clamp (show x < 2 ^ 31 by omega), ov_lt hx]
  by_cases h2 : K x = 2
  · obtain ⟨sz, hsx⟩ := hs h2
    obtain ⟨-, -, hsz, st, hst, hle⟩ := hsx
    simp only [if_pos h2, hsz]
    refine DET.ite (fun _ => e0) (fun h1 => DET.ite (fun _ => e0) (fun h33 => ?_))
    have hs1 : 1 ≤ sz := by
      apply Nat.pos_of_ne_zero
      intro q
      exact h1 (by rw [q, nI_0]; decide)
    have hs32 : sz ≤ 32 := by
      apply Nat.le_of_not_lt
      intro q
      exact h33 (nI_le (a := 33) q (by omega))
    have go : ∀ (fuel j : Nat) (b : Int32), (b = 0 ∨ b = 1) → j ≤ sz → sz - j < fuel → DET (fun g => m_X9_isName_38 (ov n K (g.1 0)) (ov n N g.2) (ov n S (g.1 2)) (ov l Lt (g.1 5)) fuel (nI x) b (nI j)) (fun r => r = 0 ∨ r = 1) := by
      intro fuel
      induction fuel with
      | zero => intro j b _ _ hf; exact absurd hf (Nat.not_lt_zero _)
      | succ fuel ih =>
        intro j b hb hj hf
        rcases hb with rfl | rfl
        · exact ⟨0, Or.inl rfl, fun g => nm0 (by omega)⟩
        · by_cases hc : sz ≤ j
          · simp only [m_X9_isName_38, bd_go (show x < 4200 by omega) (by decide), bd_gc (show x < 4200 by omega) (by decide), nI_clamp (show x < 2 ^ 31 by omega), ov_lt hx, hsz, if_pos (nI_le hc (show j < 2 ^ 31 by omega)), or_true, if_true]
            exact DET.ok (Or.inr rfl)
          · have ih0 := ih (j + 1) 0 (Or.inl rfl) (by omega) (by omega)
            have ih1 := ih (j + 1) 1 (Or.inr rfl) (by omega) (by omega)
            simp only [m_X9_isName_38, m_X9_isName_86, m_X9_isName_87, m_X9_isName_103, m_X9_isName_117, m_X9_isName_133, bd_go (show x < 4200 by omega) (by decide), bd_gc (show x < 4200 by omega) (by decide), nI_clamp (show x < 2 ^ 31 by omega), ov_lt hx, hsz, if_neg (nI_ge (show j < sz by omega) (by omega)), if_neg (show ¬ (1 : Int32) = 0 by decide), hst, lN_i, nI_add, bd_go (show st + j < 4200 by omega) (by decide), bd_gc (show st + j < 4200 by omega) (by decide), nI_clamp (show st + j < 2 ^ 31 by omega), ov_lt (show st + j < l by omega), nI_1]
            repeat' (first | exact ih0 | exact ih1 | refine DET.ite (fun _ => ?_) (fun _ => ?_))
    refine (go sr_fuel 0 1 (Or.inr rfl) (by omega) (by unfold sr_fuel; omega)).mono ?_
    rintro r (h | h)
    · exact Or.inl h
    · exact Or.inr ⟨h, sz, ⟨hx, h2, hsz, st, hst, hle⟩, hs1, hs32⟩
  · simp only [if_neg h2]
    exact e0
theorem word_ok {K S Lt : Nat → Int32} {N : Nat → Int64} {n l x : Nat} (hx : x < n) (hn : n ≤ 4200) (hl : l ≤ 4200) (hs : K x = 2 → ∃ sz, strN K N S n l x sz) :
    DET (fun g => m_X9_word (ov n K (g.1 0)) (ov n N g.2) (ov n S (g.1 2)) (ov l Lt (g.1 5)) (nI x)) (fun r => r = -1 ∨ ∃ j, j < 6 ∧ r = nI j ∧ StrIs K N S Lt n l x (42 + j)) := by
  simp only [m_X9_word, is_eq (show 42 < 75 by decide) hx hn hl hs, is_eq (show 43 < 75 by decide) hx hn hl hs, is_eq (show 44 < 75 by decide) hx hn hl hs, is_eq (show 45 < 75 by decide) hx hn hl hs, is_eq (show 46 < 75 by decide) hx hn hl hs, is_eq (show 47 < 75 by decide) hx hn hl hs, Option.bind_some]
  refine DET.ite (fun _ => DET.ite (fun _ => DET.ite (fun _ => DET.ite (fun _ => DET.ite (fun _ => DET.ite (fun _ => ?_) (fun h => ?_)) (fun h => ?_)) (fun h => ?_)) (fun h => ?_)) (fun h => ?_)) (fun h => ?_)
  · exact DET.ok (Or.inl rfl)
  · exact DET.ok (Or.inr ⟨5, by decide, by decide, isV_n h⟩)
  · exact DET.ok (Or.inr ⟨4, by decide, by decide, isV_n h⟩)
  · exact DET.ok (Or.inr ⟨3, by decide, by decide, isV_n h⟩)
  · exact DET.ok (Or.inr ⟨2, by decide, by decide, isV_n h⟩)
  · exact DET.ok (Or.inr ⟨1, by decide, by decide, isV_n h⟩)
  · exact DET.ok (Or.inr ⟨0, by decide, by decide, isV_n h⟩)
/-- whether two strings of two texts are the same: one answer -/
theorem same_ok {K S Lt K' S' Lt' : Nat → Int32} {N N' : Nat → Int64} {n l n' l' x y sz sy : Nat} (hn : n ≤ 4200) (hl : l ≤ 4200) (hn' : n' ≤ 4200) (hl' : l' ≤ 4200) (hx : strN K N S n l x sz) (hy : strN K' N' S' n' l' y sy) :
    ∃ r : Int32, (r = 0 ∨ r = 1 ∧ sz = sy) ∧ ∀ (gN gN' : Nat → Int64) (gS gS' gL gL' : Nat → Int32), m_X9_same (ov n N gN) (ov n S gS) (ov l Lt gL) (ov n' N' gN') (ov n' S' gS') (ov l' Lt' gL') (nI x) (nI y) = some r := by
  obtain ⟨x1, -, x2, st, x3, x4⟩ := hx
  obtain ⟨y1, -, y2, st', y3, y4⟩ := hy
  by_cases h : sz = sy ∧ ∀ j, j < sz → Lt (st + j) = Lt' (st' + j)
  · obtain ⟨rfl, h⟩ := h
    refine ⟨1, Or.inr ⟨rfl, rfl⟩, fun gN gN' gS gS' gL gL' => ?_⟩
    refine same_t (st := st) (st' := st') (sz := sz) (by omega) (by omega) (by rw [ov_lt x1]; exact x3) (by rw [ov_lt x1]; exact x2) (by rw [ov_lt y1]; exact y3) (by rw [ov_lt y1]; exact y2) (by omega) (by omega) (fun j hj => ?_)
    rw [ov_lt (by omega), ov_lt (by omega)]; exact h j hj
  · refine ⟨0, Or.inl rfl, fun gN gN' gS gS' gL gL' => ?_⟩
    refine same_f (st := st) (st' := st') (sz := sz) (sz' := sy) (by omega) (by omega) (by rw [ov_lt x1]; exact x3) (by rw [ov_lt x1]; exact x2) (by rw [ov_lt y1]; exact y3) (by rw [ov_lt y1]; exact y2) (by omega) (by omega) (fun q => h ⟨q.1, fun j hj => ?_⟩)
    have := q.2 j hj
    rw [ov_lt (by omega), ov_lt (by have := q.1; omega)] at this
    exact this
theorem def_ok {K S Lt Na : Nat → Int32} {N : Nat → Int64} {n l x sz sh : Nat} (hn : n ≤ 4200) (hl : l ≤ 4200) (hx : strN K N S n l x sz) (hs6 : 6 ≤ sh) (hsh : sh ≤ 140) (hNa : ∀ s, 6 ≤ s → s < sh → Na s = -1 ∨ ∃ y sy, Na s = nI y ∧ strN K N S n l y sy) :
    DET (fun g => m_X9_defined (ov n N g.2) (ov n S (g.1 2)) (ov l Lt (g.1 5)) (nI sh) (ov sh Na (g.1 8)) (nI x)) (fun r => r = -1 ∨ ∃ s y, 6 ≤ s ∧ s < sh ∧ r = nI s ∧ Na s = nI y ∧ strN K N S n l y sz) := by
  have go : ∀ (fuel s : Nat), 6 ≤ s → s ≤ sh → sh - s < fuel → DET (fun g => m_X9_defined_3 (ov n N g.2) (ov n S (g.1 2)) (ov l Lt (g.1 5)) (nI sh) (ov sh Na (g.1 8)) fuel (nI x) (nI s)) (fun r => r = -1 ∨ ∃ s y, 6 ≤ s ∧ s < sh ∧ r = nI s ∧ Na s = nI y ∧ strN K N S n l y sz) := by
    intro fuel
    induction fuel with
    | zero => intro s _ _ hf; exact absurd hf (Nat.not_lt_zero _)
    | succ fuel ih =>
      intro s h6 hs hf
      by_cases hc : sh ≤ s
      · simp only [m_X9_defined_3, if_pos (nI_le hc (show s < 2 ^ 31 by omega))]
        exact DET.ok (Or.inl rfl)
      · have ih1 := ih (s + 1) (by omega) (by omega) (by omega)
        simp only [m_X9_defined_3, if_neg (nI_ge (show s < sh by omega) (by omega)), bd_go (show s < 140 by omega) (by decide), bd_gc (show s < 140 by omega) (by decide), nI_clamp (show s < 2 ^ 31 by omega), ov_lt (show s < sh by omega), nI_1]
        rcases hNa s h6 (by omega) with e | ⟨y, sy, e, hy⟩
        · simp only [e, if_pos (show (-1 : Int32) < 0 by decide)]
          exact ih1
        · obtain ⟨r, hr, hr2⟩ := same_ok (Lt := Lt) (Lt' := Lt) hn hl hn hl hy hx
          have hy' := hy.1
          simp only [e, if_neg (nI_pos (show y < 2 ^ 31 by omega)), hr2, Option.bind_some]
          refine DET.ite (fun _ => ih1) (fun h0 => ?_)
          rcases hr with rfl | ⟨rfl, rfl⟩
          · exact absurd rfl h0
          · exact DET.ok (Or.inr ⟨s, y, h6, by omega, rfl, e, hy⟩)
  exact go sr_fuel 6 (Nat.le_refl _) hs6 (by unfold sr_fuel; omega)
-- what a row of the tree is
section VDATA
variable {K F S I X Lt : Nat → Int32} {N : Nat → Int64} {n l h v m p q : Nat}
theorem Val.str (hv : Val K F N S I X l h v m p q) (h2 : K v = 2) (hm : m ≤ n) : ∃ sz, strN K N S n l v sz ∧ p + sz + 2 ≤ q := by
  have hlt := hv.basic.1
  have leaf : leafV K F N S l v m p q → ∃ sz, strN K N S n l v sz ∧ p + sz + 2 ≤ q := by
    rintro ⟨h1, h2', h3, ⟨-, st, sz, a1, a2, a3, a4⟩ | ⟨hk, -⟩ | hk | hk | hk⟩
    · exact ⟨sz, ⟨by omega, h2, a1, st, a2, a3⟩, a4⟩
    all_goals rw [h2] at hk; exact absurd hk (by decide)
  cases h with
  | zero => exact leaf hv
  | succ h =>
    rcases hv with hv | ⟨hk, -⟩ | ⟨hk, -⟩
    · exact leaf hv
    all_goals rw [h2] at hk; exact absurd hk (by decide)
theorem Val.row (hv : Val K F N S I X l h v m p q) (hm : m ≤ n) : v < n ∧ (K v = 2 → ∃ sz, strN K N S n l v sz) :=
  ⟨Nat.lt_of_lt_of_le hv.basic.1 hm, fun h2 => by obtain ⟨sz, h3, -⟩ := hv.str h2 hm; exact ⟨sz, h3⟩⟩
theorem Val.lst (hv : Val K F N S I X l h v m p q) (h1 : K v = 1) : ∃ (h' a k : Nat) (c e u t : Nat → Nat), h = h' + 1 ∧ q = a + 1 ∧ k + p < a ∧ S v = nI k ∧ I v = (if k = 0 then -1 else nI (c 0)) ∧ kidsL (Val K F N S I X l h') X v m p a k c e u t := by
  have leaf : ¬ leafV K F N S l v m p q := by
    rintro ⟨-, -, -, ⟨hk, -⟩ | ⟨hk, -⟩ | hk | hk | hk⟩
    all_goals rw [h1] at hk; exact absurd hk (by decide)
  cases h with
  | zero => exact absurd hv leaf
  | succ h =>
    rcases hv with hv | ⟨-, -, -, a, k, c, e, u, t, r⟩ | ⟨hk, -⟩
    · exact absurd hv leaf
    · exact ⟨h, a, k, c, e, u, t, rfl, r⟩
    · rw [h1] at hk; exact absurd hk (by decide)
theorem Val.obj (hv : Val K F N S I X l h v m p q) (h0 : K v = 0) : ∃ (h' a k : Nat) (c e u r s t : Nat → Nat), h = h' + 1 ∧ q = a + 1 ∧ k + p < a ∧ I v = (if k = 0 then -1 else nI (c 0)) ∧ kidsO (Val K F N S I X l h') (keyV K F N S l) X v m p a k c e u r s t := by
  have leaf : ¬ leafV K F N S l v m p q := by
    rintro ⟨-, -, -, ⟨hk, -⟩ | ⟨hk, -⟩ | hk | hk | hk⟩
    all_goals rw [h0] at hk; exact absurd hk (by decide)
  cases h with
  | zero => exact absurd hv leaf
  | succ h =>
    rcases hv with hv | ⟨hk, -⟩ | ⟨-, -, -, a, k, c, e, u, r, s, t, z⟩
    · exact absurd hv leaf
    · rw [h0] at hk; exact absurd hk (by decide)
    · exact ⟨h, a, k, c, e, u, r, s, t, rfl, z⟩
/-- a member of an object: where it is -/
theorem kidsO.mem {P : Nat → Nat → Nat → Nat → Prop} {a k w : Nat} {c e u r s t : Nat → Nat} (hw : w < 75) (hn : n ≤ 4200) (hl : l ≤ 4200) (hv : v < n) (hm : m ≤ n) (hk : k ≤ 5000) (hI : I v = (if k = 0 then -1 else nI (c 0))) (hks : kidsO P (keyV K F N S l) X v m p a k c e u r s t) :
    DET (fun g => m_X9_member (ov n K (g.1 0)) (ov n N g.2) (ov n S (g.1 2)) (ov n I (g.1 3)) (ov n X (g.1 4)) (ov l Lt (g.1 5)) (nI v) w) (fun y => y = -1 ∨ ∃ i, i < k ∧ y = nI (c i + 1) ∧ StrIs K N S Lt n l (c i) w ∧ u i + lenS.getD w 0 + 2 ≤ r i) := by
  refine (mem_ok hw hn hl hv hk hI (fun i hi => ?_)).mono ?_
  · obtain ⟨⟨k1, k2, st, sz, k3, k4, k5, k6⟩, q1, q2, q2', q3, q4, q5, -⟩ := hks.1 i hi
    exact ⟨by omega, q2, q2', sz, by omega, k1, k3, st, k4, k5⟩
  · rintro y (h | ⟨i, hi, h1, h2⟩)
    · exact Or.inl h
    · refine Or.inr ⟨i, hi, h1, h2, ?_⟩
      obtain ⟨⟨k1, k2, st, sz, k3, k4, k5, k6⟩, -⟩ := hks.1 i hi
      have h3 := h2.2.2.1
      rw [k3] at h3
      have := len_lt w hw
      have := (nI_eq (by omega) (by omega)).mp h3
      omega
theorem StrIs.same {x w w' : Nat} (hw : w < 75) (hw' : w' < 75) (hl : l ≤ 4200) (h : StrIs K N S Lt n l x w) (h' : StrIs K N S Lt n l x w') : lenS.getD w 0 = lenS.getD w' 0 ∧ ∀ j, j < lenS.getD w 0 → (bytS.getD w []).getD j 0 = (bytS.getD w' []).getD j 0 := by
  obtain ⟨-, -, a1, st, a2, a3, a4⟩ := h
  obtain ⟨-, -, b1, st', b2, b3, b4⟩ := h'
  have e1 : lenS.getD w 0 = lenS.getD w' 0 := by
    have := len_lt w hw
    have := len_lt w' hw'
    exact (nI_eq (by omega) (by omega)).mp (a1.symm.trans b1)
  have e2 : st = st' := by
    have q3 := congrArg Int64.toInt32 (a2.symm.trans b2)
    rw [lN_i, lN_i] at q3
    exact (nI_eq (by omega) (by omega)).mp q3
  subst e2
  exact ⟨e1, fun j hj => (a4 j hj).symm.trans (b4 j (by omega))⟩
end VDATA
end
section
-- the shapes that a schema's text has made: which kids they have, what their plain forms cost
def wl (s : Nat) : Nat := lenS.getD (42 + s) 0 + 2
section OCC
variable (T : Nat → Nat → Prop) (So Na Wi Ki kS kN kX : Nat → Int32)
/-- a word, or a name that is there already -/
def base (s c c' w : Nat) : Prop := c' = c ∧ ((s < 6 ∧ w = wl s) ∨ (6 ≤ s ∧ s < c ∧ (So s = 9 ∨ So s = 10 ∨ So s = 11) ∧ ∃ x sz, Na s = nI x ∧ T x sz ∧ w = sz + 2))
/-- the shape s made here, those that lie in it up to c', its kids and theirs k0 .. k1 - 1 -/
def Cre (P : Nat → Nat → Nat → Nat → Nat → Nat → Prop) (s c' k0 k1 w : Nat) : Prop :=
  ((So s = 6 ∨ So s = 7) ∧ ∃ t w', Ki s = nI k0 ∧ kX k0 = -1 ∧ k0 < k1 ∧ kS k0 = nI t ∧ P t (s + 1) c' (k0 + 1) k1 w' ∧ w = (if So s = 6 then 25 else 24) + w') ∨
  (So s = 8 ∧ ∃ (m : Nat) (c t b W : Nat → Nat), (0 < m ∧ m ≤ 32) ∧ Ki s = nI (c 0) ∧ t 0 = s + 1 ∧ t m = c' ∧ W 0 = 0 ∧ w = 2 + (W m - 1) ∧ ∀ i, i < m → s < t i ∧ t (i + 1) ≤ c' ∧ k0 ≤ b i ∧ b i ≤ c i ∧ c i < k1 ∧ kX (c i) = (if i + 1 = m then -1 else nI (c (i + 1))) ∧ ∃ x w', kS (c i) = nI x ∧ P x (t i) (t (i + 1)) (b i) (c i) w' ∧ So x ≠ 8 ∧ W (i + 1) = W i + w' + 1) ∨
  (So s = 9 ∧ c' = s + 1 ∧ ∃ x sz d, Na s = nI x ∧ T x sz ∧ Wi s = nI d ∧ d ≤ 64 ∧ w = 34 + sz + (if 9 < d then 2 else 1)) ∨
  (So s = 10 ∧ c' = s + 1 ∧ ∃ (x sz m : Nat) (c W : Nat → Nat), Na s = nI x ∧ T x sz ∧ (0 < m ∧ m ≤ 32) ∧ Ki s = nI (c 0) ∧ W 0 = 0 ∧ w = 38 + sz + (W m - 1) ∧ ∀ i, i < m → k0 ≤ c i ∧ c i < k1 ∧ kX (c i) = (if i + 1 = m then -1 else nI (c (i + 1))) ∧ ∃ y sy, kN (c i) = nI y ∧ T y sy ∧ W (i + 1) = W i + sy + 3) ∨
  (So s = 11 ∧ ∃ (x sz m : Nat) (c t e W : Nat → Nat), Na s = nI x ∧ (T x sz ∧ m ≤ 32) ∧ Ki s = (if m = 0 then -1 else nI (c 0)) ∧ t 0 = s + 1 ∧ t m = c' ∧ W 0 = 0 ∧ w = 39 + sz + (W m - 1) ∧ ∀ i, i < m → s < t i ∧ t (i + 1) ≤ c' ∧ k0 ≤ c i ∧ c i < e i ∧ e i ≤ k1 ∧ kX (c i) = (if i + 1 = m then -1 else nI (c (i + 1))) ∧ ∃ y sy z w', kN (c i) = nI y ∧ T y sy ∧ kS (c i) = nI z ∧ P z (t i) (t (i + 1)) (c i + 1) (e i) w' ∧ W (i + 1) = W i + w' + sy + 20)
def Occ : Nat → Nat → Nat → Nat → Nat → Nat → Nat → Prop
  | 0, s, c, c', _, _, w => base T So Na s c c' w
  | h + 1, s, c, c', k0, k1, w => base T So Na s c c' w ∨ (s = c ∧ c < c' ∧ Cre T So Na Wi Ki kS kN kX (Occ h) s c' k0 k1 w)
end OCC
section OCCs
variable {T : Nat → Nat → Prop} {So Na Wi Ki kS kN kX So' Na' Wi' Ki' kS' kN' kX' : Nat → Int32}
theorem Occ.le {h s c c' k0 k1 w : Nat} (ho : Occ T So Na Wi Ki kS kN kX h s c c' k0 k1 w) : c ≤ c' := by
  cases h with
  | zero => exact Nat.le_of_eq ho.1.symm
  | succ h =>
    rcases ho with ho | ⟨h1, h2, -⟩
    · exact Nat.le_of_eq ho.1.symm
    · omega
theorem base.keep {s c c' w : Nat} (hb : base T So Na s c c' w) (h1 : ∀ i, i < c → So i = So' i ∧ Na i = Na' i) : base T So' Na' s c c' w := by
  obtain ⟨b1, b2 | ⟨b2, b3, b4, x, sz, b5, b6⟩⟩ := hb
  · exact ⟨b1, Or.inl b2⟩
  · obtain ⟨e1, e2⟩ := h1 s b3
    exact ⟨b1, Or.inr ⟨b2, b3, by rw [← e1]; exact b4, x, sz, by rw [← e2]; exact b5, b6⟩⟩
theorem Cre.keep {P P' : Nat → Nat → Nat → Nat → Nat → Nat → Prop} {s c' k0 k1 w : Nat} (hc : Cre T So Na Wi Ki kS kN kX P s c' k0 k1 w) (hs : s < c') (h1 : ∀ i, i < c' → So i = So' i ∧ Na i = Na' i) (h2 : Wi s = Wi' s ∧ Ki s = Ki' s) (h3 : ∀ i, k0 ≤ i → i < k1 → kS i = kS' i ∧ kN i = kN' i ∧ kX i = kX' i)
    (hP : ∀ x a b d e z, s < a → b ≤ c' → k0 ≤ d → e ≤ k1 → P x a b d e z → x < c' ∧ P' x a b d e z) : Cre T So' Na' Wi' Ki' kS' kN' kX' P' s c' k0 k1 w := by
  obtain ⟨e1, e2⟩ := h1 s hs
  obtain ⟨e3, e4⟩ := h2
  rcases hc with ⟨c1, t, w', c2, c3, c4, c5, c6, c7⟩ | ⟨c1, m, c, t, b, W, c2, c3, c4, c5, c6, c7, c8⟩ | ⟨c1, c2, x, sz, d, c3, c4, c5, c6⟩ | ⟨c1, c2, x, sz, m, c, W, c3, c4, c5, c6, c7, c8, c9⟩ | ⟨c1, x, sz, m, c, t, e, W, c3, c4, c5, c6, c7, c8, c9, c10⟩
  · obtain ⟨f1, f2, f3⟩ := h3 k0 (Nat.le_refl _) c4
    refine Or.inl ⟨by rw [← e1]; exact c1, t, w', by rw [← e4]; exact c2, by rw [← f3]; exact c3, c4, by rw [← f1]; exact c5, (hP _ _ _ _ _ _ (by omega) (Nat.le_refl _) (by omega) (Nat.le_refl _) c6).2, by rw [← e1]; exact c7⟩
  · refine Or.inr (Or.inl ⟨by rw [← e1]; exact c1, m, c, t, b, W, c2, by rw [← e4]; exact c3, c4, c5, c6, c7, fun i hi => ?_⟩)
    obtain ⟨d1, d2, d3, d4, d5, d6, x, w', d7, d8, d9, d10⟩ := c8 i hi
    obtain ⟨f1, f2, f3⟩ := h3 (c i) (by omega) d5
    obtain ⟨q1, q2⟩ := hP _ _ _ _ _ _ d1 d2 d3 (by omega) d8
    exact ⟨d1, d2, d3, d4, d5, by rw [← f3]; exact d6, x, w', by rw [← f1]; exact d7, q2, by rw [← (h1 x q1).1]; exact d9, d10⟩
  · exact Or.inr (Or.inr (Or.inl ⟨by rw [← e1]; exact c1, c2, x, sz, d, by rw [← e2]; exact c3, c4, by rw [← e3]; exact c5, c6⟩))
  · refine Or.inr (Or.inr (Or.inr (Or.inl ⟨by rw [← e1]; exact c1, c2, x, sz, m, c, W, by rw [← e2]; exact c3, c4, c5, by rw [← e4]; exact c6, c7, c8, fun i hi => ?_⟩)))
    obtain ⟨d1, d2, d3, y, sy, d4, d5⟩ := c9 i hi
    obtain ⟨f1, f2, f3⟩ := h3 (c i) d1 d2
    exact ⟨d1, d2, by rw [← f3]; exact d3, y, sy, by rw [← f2]; exact d4, d5⟩
  · refine Or.inr (Or.inr (Or.inr (Or.inr ⟨by rw [← e1]; exact c1, x, sz, m, c, t, e, W, by rw [← e2]; exact c3, c4, by rw [← e4]; exact c5, c6, c7, c8, c9, fun i hi => ?_⟩)))
    obtain ⟨d1, d2, d3, d4, d5, d6, y, sy, z, w', d7, d8, d9, d10, d11⟩ := c10 i hi
    obtain ⟨f1, f2, f3⟩ := h3 (c i) (by omega) (by omega)
    exact ⟨d1, d2, d3, d4, d5, by rw [← f3]; exact d6, y, sy, z, w', by rw [← f2]; exact d7, d8, by rw [← f1]; exact d9, (hP _ _ _ _ _ _ d1 d2 (by omega) d5 d10).2, d11⟩
theorem Occ.lt {h s c c' k0 k1 w : Nat} (h6 : 6 ≤ c) (ho : Occ T So Na Wi Ki kS kN kX h s c c' k0 k1 w) : s < c' := by
  have bs : base T So Na s c c' w → s < c' := by
    rintro ⟨b1, ⟨b2, -⟩ | ⟨-, b3, -⟩⟩ <;> omega
  cases h with
  | zero => exact bs ho
  | succ h =>
    rcases ho with ho | ⟨h1, h2, -⟩
    · exact bs ho
    · omega
theorem Occ.keep : ∀ (h s c c' k0 k1 w : Nat), 6 ≤ c → Occ T So Na Wi Ki kS kN kX h s c c' k0 k1 w → (∀ i, i < c' → So i = So' i ∧ Na i = Na' i) → (∀ i, c ≤ i → i < c' → Wi i = Wi' i ∧ Ki i = Ki' i) → (∀ i, k0 ≤ i → i < k1 → kS i = kS' i ∧ kN i = kN' i ∧ kX i = kX' i) → Occ T So' Na' Wi' Ki' kS' kN' kX' h s c c' k0 k1 w := by
  intro h
  induction h with
  | zero =>
    intro s c c' k0 k1 w h6 ho h1 h2 h3
    exact base.keep ho (fun i hi => h1 i (by have := ho.1; omega))
  | succ h ih =>
    intro s c c' k0 k1 w h6 ho h1 h2 h3
    rcases ho with ho | ⟨e1, e2, ho⟩
    · exact Or.inl (base.keep ho (fun i hi => h1 i (by have := ho.1; omega)))
    · subst e1
      refine Or.inr ⟨rfl, e2, Cre.keep ho e2 h1 (h2 s (Nat.le_refl _) e2) h3 (fun x a b d e z q1 q2 q3 q4 q5 => ⟨?_, ?_⟩)⟩
      · have := Occ.lt (by omega) q5; omega
      · exact ih _ _ _ _ _ _ (by omega) q5 (fun i hi => h1 i (by omega)) (fun i i1 i2 => h2 i (by omega) (by omega)) (fun i i1 i2 => h3 i (by omega) (by omega))
/-- between two marks of a rising row -/
theorem rise {t : Nat → Nat} : ∀ (m x : Nat), t 0 ≤ x → x < t m → ∃ i, i < m ∧ t i ≤ x ∧ x < t (i + 1) := by
  intro m
  induction m with
  | zero => intro x h1 h2; omega
  | succ m ih =>
    intro x h1 h2
    by_cases h : x < t m
    · obtain ⟨i, h3, h4⟩ := ih x h1 h
      exact ⟨i, by omega, h4⟩
    · exact ⟨m, by omega, by omega, h2⟩
/-- each shape that was made has its making -/
theorem Occ.all : ∀ (h s c c' k0 k1 w : Nat), Occ T So Na Wi Ki kS kN kX h s c c' k0 k1 w → ∀ x, c ≤ x → x < c' → ∃ h' c2 a b w', h' < h ∧ x < c2 ∧ c2 ≤ c' ∧ k0 ≤ a ∧ b ≤ k1 ∧ Cre T So Na Wi Ki kS kN kX (Occ T So Na Wi Ki kS kN kX h') x c2 a b w' := by
  intro h
  induction h with
  | zero => intro s c c' k0 k1 w ho x h1 h2; have := ho.1; omega
  | succ h ih =>
    intro s c c' k0 k1 w ho x h1 h2
    rcases ho with ho | ⟨e1, e2, ho⟩
    · have := ho.1; omega
    · subst e1
      by_cases hx : x = s
      · subst hx
        exact ⟨h, c', k0, k1, w, Nat.lt_succ_self _, e2, Nat.le_refl _, Nat.le_refl _, Nat.le_refl _, ho⟩
      · have step : ∀ (y a b d e z : Nat), a ≤ x → x < b → b ≤ c' → k0 ≤ d → e ≤ k1 → Occ T So Na Wi Ki kS kN kX h y a b d e z → ∃ h' c2 a b w', h' < h + 1 ∧ x < c2 ∧ c2 ≤ c' ∧ k0 ≤ a ∧ b ≤ k1 ∧ Cre T So Na Wi Ki kS kN kX (Occ T So Na Wi Ki kS kN kX h') x c2 a b w' := by
          intro y a b d e z q1 q2 q3 q4 q5 q6
          obtain ⟨h', c2, a', b', w', r1, r2, r3, r4, r5, r6⟩ := ih _ _ _ _ _ _ q6 x q1 q2
          exact ⟨h', c2, a', b', w', by omega, r2, by omega, by omega, by omega, r6⟩
        rcases ho with ⟨c1, t, w', c2, c3, c4, c5, c6, c7⟩ | ⟨c1, m, c, t, b, W, c2, c3, c4, c5, c6, c7, c8⟩ | ⟨c1, c2, -⟩ | ⟨c1, c2, -⟩ | ⟨c1, y, sz, m, c, t, e, W, c3, c4, c5, c6, c7, c8, c9, c10⟩
        · exact step _ _ _ _ _ _ (by omega) h2 (Nat.le_refl _) (by omega) (Nat.le_refl _) c6
        · obtain ⟨i, i1, i2, i3⟩ := rise (t := t) m x (by omega) (by omega)
          obtain ⟨d1, d2, d3, d4, d5, d6, z, w', d7, d8, d9, d10⟩ := c8 i i1
          exact step _ _ _ _ _ _ i2 i3 d2 d3 (by omega) d8
        · omega
        · omega
        · obtain ⟨i, i1, i2, i3⟩ := rise (t := t) m x (by omega) (by omega)
          obtain ⟨d1, d2, d3, d4, d5, d6, y', sy, z, w', d7, d8, d9, d10, d11⟩ := c10 i i1
          exact step _ _ _ _ _ _ i2 i3 d2 (by omega) d5 d10
end OCCs
end
section
-- the reference's shapes, kids and symbols
theorem shape_eq {sh : Nat} {So Na Wi Ki Ma Fa g7 g8 g9 g10 g11 g12 : Nat → Int32} {a0 : Int32} (h6 : 6 ≤ sh) (hsh : sh < 140) : m_X9_shape (nI sh) (ov sh So g7) (ov sh Na g8) (ow sh Wi g9) (ov sh Ki g10) (ow sh Ma g11) (ow sh Fa g12) a0 =
    some (nI sh, (nI (sh + 1), ov (sh + 1) (upd So sh a0) g7, ov (sh + 1) (upd Na sh (-1)) g8, ow (sh + 1) (upd Wi sh 0) g9, ov (sh + 1) (upd Ki sh (-1)) g10, ow (sh + 1) (upd Ma sh 0) g11, ow (sh + 1) (upd Fa sh (-1)) g12)) := by
  unfold m_X9_shape
  simp only [bd_go (show sh < 140 by omega) (by decide), bd_gc (show sh < 140 by omega) (by decide), nI_clamp (show sh < 2 ^ 31 by omega), ov_push, ow_push h6, nI_1, nI_pred]
theorem addKid_0 {sh kc s : Nat} {Ki Ma kS kN kD kX g10 g11 g13 g14 g15 g16 : Nat → Int32} (h6 : 6 ≤ s) (hs : s < sh) (hsh : sh ≤ 140) (hkc : kc < 2200) : m_X9_addKid (ov sh Ki g10) (ow sh Ma g11) (nI kc) (ov kc kS g13) (ov kc kN g14) (ov kc kD g15) (ov kc kX g16) (nI s) (-1) =
    some (nI kc, (ov sh (upd Ki s (nI kc)) g10, ow sh (upd Ma s (Ma s + 1)) g11, nI (kc + 1), ov (kc + 1) (upd kS kc (-1)) g13, ov (kc + 1) (upd kN kc (-1)) g14, ov (kc + 1) (upd kD kc (-1)) g15, ov (kc + 1) (upd kX kc (-1)) g16)) := by
  unfold m_X9_addKid
  simp only [bd_go (show kc < 2200 by omega) (by decide), bd_gc (show kc < 2200 by omega) (by decide), nI_clamp (show kc < 2 ^ 31 by omega), bd_go (show s < 140 by omega) (by decide), bd_gc (show s < 140 by omega) (by decide), nI_clamp (show s < 2 ^ 31 by omega), ov_push, ov_up hs, ow_up h6 hs, ow_lt h6 hs, nI_1, if_neg (show ¬ (0 : Int32) ≤ -1 by decide)]
theorem addKid_1 {sh kc s j : Nat} {Ki Ma kS kN kD kX g10 g11 g13 g14 g15 g16 : Nat → Int32} (h6 : 6 ≤ s) (hs : s < sh) (hsh : sh ≤ 140) (hkc : kc < 2200) (hj : j < kc) : m_X9_addKid (ov sh Ki g10) (ow sh Ma g11) (nI kc) (ov kc kS g13) (ov kc kN g14) (ov kc kD g15) (ov kc kX g16) (nI s) (nI j) =
    some (nI kc, (ov sh Ki g10, ow sh (upd Ma s (Ma s + 1)) g11, nI (kc + 1), ov (kc + 1) (upd kS kc (-1)) g13, ov (kc + 1) (upd kN kc (-1)) g14, ov (kc + 1) (upd kD kc (-1)) g15, ov (kc + 1) (upd (upd kX kc (-1)) j (nI kc)) g16)) := by
  unfold m_X9_addKid
  simp only [bd_go (show kc < 2200 by omega) (by decide), bd_gc (show kc < 2200 by omega) (by decide), nI_clamp (show kc < 2 ^ 31 by omega), bd_go (show s < 140 by omega) (by decide), bd_gc (show s < 140 by omega) (by decide), nI_clamp (show s < 2 ^ 31 by omega), bd_go (show j < 2200 by omega) (by decide), bd_gc (show j < 2200 by omega) (by decide), nI_clamp (show j < 2 ^ 31 by omega), ov_push, ov_up hs, ow_up h6 hs, ow_lt h6 hs, ov_up (show j < kc + 1 by omega), nI_1, if_pos (nI_pos' (show j < 2 ^ 31 by omega))]
/-- a symbol of an enum: one answer -/
theorem symbol_ok {K S Lt K' S' Lt' : Nat → Int32} {N N' : Nat → Int64} {n l n' l' : Nat} {Ki kN kX : Nat → Int32} {sh kc s m x sz : Nat} {c : Nat → Nat} (hn : n ≤ 4200) (hl : l ≤ 4200) (hn' : n' ≤ 4200) (hl' : l' ≤ 4200) (hs : s < sh) (hsh : sh ≤ 140) (hkc : kc ≤ 2200) (hm : m ≤ 5000) (hx : strN K' N' S' n' l' x sz) (hK : Ki s = (if m = 0 then -1 else nI (c 0)))
    (hc : ∀ i, i < m → c i < kc ∧ kX (c i) = (if i + 1 = m then -1 else nI (c (i + 1))) ∧ ∃ y sy, kN (c i) = nI y ∧ strN K N S n l y sy) :
    ∃ r : Int32, ∀ (gN gN' : Nat → Int64) (gS gS' gL gL' g10 g14 g16 : Nat → Int32), m_X9_symbol (ov n N gN) (ov n S gS) (ov l Lt gL) (ov sh Ki g10) (ov kc kN g14) (ov kc kX g16) (ov n' N' gN') (ov n' S' gS') (ov l' Lt' gL') (nI s) (nI x) = some r := by
  have go : ∀ (fuel i : Nat), i ≤ m → m - i < fuel → ∃ r : Int32, ∀ (gN gN' : Nat → Int64) (gS gS' gL gL' g10 g14 g16 : Nat → Int32), m_X9_symbol_11 (ov n N gN) (ov n S gS) (ov l Lt gL) (ov sh Ki g10) (ov kc kN g14) (ov kc kX g16) (ov n' N' gN') (ov n' S' gS') (ov l' Lt' gL') fuel (nI x) (nI i) (if i = m then -1 else nI (c i)) = some r := by
    intro fuel
    induction fuel with
    | zero => intro i _ hf; exact absurd hf (Nat.not_lt_zero _)
    | succ fuel ih =>
      intro i hi hf
      by_cases him : i = m
      · simp only [if_pos him, m_X9_symbol_11, if_pos (show (-1 : Int32) < 0 by decide)]
        exact ⟨_, fun _ _ _ _ _ _ _ _ _ => rfl⟩
      · obtain ⟨c1, c2, y, sy, c3, c4⟩ := hc i (by omega)
        obtain ⟨r, -, hr⟩ := same_ok (Lt := Lt) (Lt' := Lt') hn hl hn' hl' c4 hx
        simp only [if_neg him, m_X9_symbol_11, if_neg (nI_pos (show c i < 2 ^ 31 by omega)), bd_go (show c i < 2200 by omega) (by decide), bd_gc (show c i < 2200 by omega) (by decide), nI_clamp (show c i < 2 ^ 31 by omega), ov_lt c1, c2, c3, hr, Option.bind_some, nI_1]
        by_cases h0 : r = 0
        · simp only [if_pos h0]
          exact ih (i + 1) (by omega) (by omega)
        · simp only [if_neg h0]
          exact ⟨_, fun _ _ _ _ _ _ _ _ _ => rfl⟩
  have hstart : (if m = 0 then (-1 : Int32) else nI (c 0)) = (if 0 = m then -1 else nI (c 0)) := by
    by_cases hk : m = 0
    · rw [if_pos hk, if_pos hk.symm]
    · rw [if_neg hk, if_neg (fun q => hk q.symm)]
  simp only [m_X9_symbol, bd_go (show s < 140 by omega) (by decide), bd_gc (show s < 140 by omega) (by decide), nI_clamp (show s < 2 ^ 31 by omega), ov_lt hs, hK, hstart]
  exact go sr_fuel 0 (by omega) (by unfold sr_fuel; omega)
abbrev TY : Type := Int32 × Int32 × (Nat → Int32) × (Nat → Int32) × (Nat → Int32) × Int32 × (Nat → Int32) × (Nat → Int32) × (Nat → Int32) × (Nat → Int32)
def fpY : TY → Int32 × Int32 := fun u => (u.1, u.2.1)
theorem sym_dup {K F S I X Lt : Nat → Int32} {N : Nat → Int64} {n l : Nat} {Ki Ma Fa kS kN kD kX : Nat → Int32} {sh kc s v b sz m : Nat} {c : Nat → Nat} {fl pl x4 : Int32} {k88 : Gs → Int32 → Int32 → (Nat → Int32) → (Nat → Int32) → (Nat → Int32) → Int32 → (Nat → Int32) → (Nat → Int32) → (Nat → Int32) → (Nat → Int32) → Int32 → Int32 → Int32 → Int32 → Option (Except TY (Unit × TY))} {Q : Unit → (Gs → TY) → Prop}
    (hn : n ≤ 4200) (hl : l ≤ 4200) (hkc : kc ≤ 2200) (hb : strN K N S n l b sz)
    (hc : ∀ i, i < m → c i < kc ∧ kX (c i) = (if i + 1 = m then -1 else nI (c (i + 1))) ∧ ∃ y sy, kN (c i) = nI y ∧ strN K N S n l y sy)
    (hexit : RES (fun g => m_X9_symbols_120 (ov n K (g.1 0)) (ov n F (g.1 1)) (ov n N g.2) (ov n S (g.1 2)) (ov n I (g.1 3)) (ov n X (g.1 4)) (ov l Lt (g.1 5)) (k88 g) 1 fl pl (ov sh Ki (g.1 10)) (ow sh Ma (g.1 11)) (ow sh Fa (g.1 12)) (nI kc) (ov kc kS (g.1 13)) (ov kc kN (g.1 14)) (ov kc kD (g.1 15)) (ov kc kX (g.1 16)) (nI s) (nI v) x4 (nI b) (-1)) fpY Q) :
    ∀ (fuel i : Nat), i ≤ m → m - i < fuel → RES (fun g => m_X9_symbols_120 (ov n K (g.1 0)) (ov n F (g.1 1)) (ov n N g.2) (ov n S (g.1 2)) (ov n I (g.1 3)) (ov n X (g.1 4)) (ov l Lt (g.1 5)) (k88 g) fuel fl pl (ov sh Ki (g.1 10)) (ow sh Ma (g.1 11)) (ow sh Fa (g.1 12)) (nI kc) (ov kc kS (g.1 13)) (ov kc kN (g.1 14)) (ov kc kD (g.1 15)) (ov kc kX (g.1 16)) (nI s) (nI v) x4 (nI b) (if i = m then -1 else nI (c i))) fpY Q := by
  intro fuel
  induction fuel with
  | zero => intro i _ hf; exact absurd hf (Nat.not_lt_zero _)
  | succ fuel ih =>
    intro i hi hf
    have hbn := hb.1
    by_cases him : i = m
    · simp only [if_pos him]
      simp only [m_X9_symbols_120, if_pos (show (-1 : Int32) < 0 by decide)] at hexit ⊢
      exact hexit
    · obtain ⟨c1, c2, y, sy, c3, c4⟩ := hc i (by omega)
      obtain ⟨r, -, hr⟩ := same_ok (Lt := Lt) (Lt' := Lt) hn hl hn hl c4 hb
      simp only [if_neg him, m_X9_symbols_120, if_neg (nI_pos (show c i < 2 ^ 31 by omega)), bd_go (show c i < 2200 by omega) (by decide), bd_gc (show c i < 2200 by omega) (by decide), nI_clamp (show c i < 2 ^ 31 by omega), ov_lt c1, c3, hr, Option.bind_some, m_X9_symbols_148, bd_go (show b < 4200 by omega) (by decide), bd_gc (show b < 4200 by omega) (by decide), nI_clamp (show b < 2 ^ 31 by omega), ov_lt hbn, need_0, need_1, try_e, try_o, c2]
      refine RES.ite (fun _ => ?_) (fun _ => RES.er (fun g => rfl))
      exact ih (i + 1) (by omega) (by omega)
def symP (T : Nat → Nat → Prop) (fl pl : Int32) (sh s kc0 m lim : Nat) (Ki0 kS0 kN0 kD0 kX0 : Nat → Int32) (u : Gs → TY) : Prop :=
  ∃ (Ki Ma Fa kS kN kD kX : Nat → Int32) (W : Nat → Nat), u = (fun g => (fl, pl, ov sh Ki (g.1 10), ow sh Ma (g.1 11), ow sh Fa (g.1 12), nI (kc0 + m), ov (kc0 + m) kS (g.1 13), ov (kc0 + m) kN (g.1 14), ov (kc0 + m) kD (g.1 15), ov (kc0 + m) kX (g.1 16))) ∧ Ki s = nI kc0 ∧ (∀ j, j ≠ s → Ki j = Ki0 j) ∧ ag kc0 kS0 kS ∧ ag kc0 kN0 kN ∧ ag kc0 kD0 kD ∧ ag kc0 kX0 kX ∧ (∀ j, kc0 ≤ j → j < kc0 + m → kD j = -1) ∧ W 0 = 0 ∧ W m ≤ lim ∧
    ∀ i, i < m → kX (kc0 + i) = (if i + 1 = m then -1 else nI (kc0 + (i + 1))) ∧ ∃ y sy, kN (kc0 + i) = nI y ∧ T y sy ∧ W (i + 1) = W i + sy + 3
theorem sym_go {K F S I X Lt : Nat → Int32} {N : Nat → Int64} {n l : Nat} (hn : n ≤ 4200) (hl : l ≤ 4200) {P : Nat → Nat → Nat → Nat → Prop} {h v m p a k : Nat} {c e u r s' t : Nat → Nat} (hv : v < n) (hm : m ≤ n) (hk : k ≤ 5000) (hI : I v = (if k = 0 then -1 else nI (c 0))) (hP : ∀ i, i < k → ∃ h', Val K F N S I X l h' (c i + 1) (e i) (s' i) (t i)) (hO : kidsO P (keyV K F N S l) X v m p a k c e u r s' t)
    {x m2 p2 a2 k2 : Nat} {c2 e2 u2 t2 : Nat → Nat} (hm2 : m2 ≤ n) (hL2 : kidsL (Val K F N S I X l h) X x m2 p2 a2 k2 c2 e2 u2 t2)
    {sh s kc0 : Nat} (h6s : 6 ≤ s) (hs : s < sh) (hsh : sh ≤ 140) (hk2 : 0 < k2) (hk0 : kc0 + k2 ≤ 2200) {fl pl : Int32} {Ki0 Fa kS0 kN0 kD0 kX0 : Nat → Int32} : ∀ (fuel i kc : Nat) (Ki Ma kS kN kD kX : Nat → Int32) (W : Nat → Nat), i ≤ k2 → k2 - i < fuel → kc = kc0 + i → Ki s = (if i = 0 then -1 else nI kc0) → (∀ j, j ≠ s → Ki j = Ki0 j) → ag kc0 kS0 kS → ag kc0 kN0 kN → ag kc0 kD0 kD → ag kc0 kX0 kX → (∀ j, kc0 ≤ j → j < kc → kD j = -1) → W 0 = 0 → (i < k2 → W i + p2 + 1 ≤ u2 i) → (i = k2 → W i + p2 ≤ a2) →
    (∀ j, j < i → kX (kc0 + j) = (if j + 1 = i then -1 else nI (kc0 + (j + 1))) ∧ ∃ y sy, kN (kc0 + j) = nI y ∧ strN K N S n l y sy ∧ W (j + 1) = W j + sy + 3) →
    RES (fun g => m_X9_symbols_88 (ov n K (g.1 0)) (ov n F (g.1 1)) (ov n N g.2) (ov n S (g.1 2)) (ov n I (g.1 3)) (ov n X (g.1 4)) (ov l Lt (g.1 5)) fuel fl pl (ov sh Ki (g.1 10)) (ow sh Ma (g.1 11)) (ow sh Fa (g.1 12)) (nI kc) (ov kc kS (g.1 13)) (ov kc kN (g.1 14)) (ov kc kD (g.1 15)) (ov kc kX (g.1 16)) (nI s) (nI v) (if i = 0 then -1 else nI (kc0 + (i - 1))) (if i = k2 then -1 else nI (c2 i))) fpY (fun _ u => symP (strN K N S n l) fl pl sh s kc0 k2 (a2 - p2) Ki0 kS0 kN0 kD0 kX0 u) := by
  intro fuel
  induction fuel with
  | zero => intro i kc Ki Ma kS kN kD kX W _ hf; exact absurd hf (Nat.not_lt_zero _)
  | succ fuel ih =>
    intro i kc Ki Ma kS kN kD kX W hi hf hkc hKi hKo aS aN aD aX hD hW0 hW1 hW2 hch
    subst hkc
    by_cases hik : i = k2
    · subst hik
      have hfin : ∀ Fa' : Nat → Int32, symP (strN K N S n l) fl pl sh s kc0 i (a2 - p2) Ki0 kS0 kN0 kD0 kX0 (fun g => (fl, pl, ov sh Ki (g.1 10), ow sh Ma (g.1 11), ow sh Fa' (g.1 12), nI (kc0 + i), ov (kc0 + i) kS (g.1 13), ov (kc0 + i) kN (g.1 14), ov (kc0 + i) kD (g.1 15), ov (kc0 + i) kX (g.1 16))) := fun Fa' =>
        ⟨Ki, Ma, Fa', kS, kN, kD, kX, W, rfl, by rw [hKi, if_neg (by omega)], hKo, aS, aN, aD, aX, hD, hW0, by have := hW2 rfl; omega, hch⟩
      obtain ⟨y, hy, hy2⟩ := hO.mem (w := 59) (Lt := Lt) (by decide) hn hl hv hm hk hI
      simp only [if_true, m_X9_symbols_88, if_pos (show (-1 : Int32) < 0 by decide), hy2, Option.bind_some]
      rcases hy with rfl | ⟨j, hj, rfl, -⟩
      · simp only [if_pos (show (-1 : Int32) < 0 by decide)]
        exact RES.ok (hfin Fa)
      · obtain ⟨h', hval⟩ := hP j hj
        obtain ⟨q0, q1, q2, q2', q3, q4, q5, -⟩ := hO.1 j hj
        simp only [if_neg (nI_pos (show c j + 1 < 2 ^ 31 by omega)), bd_go (show c j + 1 < 4200 by omega) (by decide), bd_gc (show c j + 1 < 4200 by omega) (by decide), nI_clamp (show c j + 1 < 2 ^ 31 by omega), ov_lt (show c j + 1 < n by omega)]
        have her : RES (fun g => m_X9_symbols_244 (ov n K (g.1 0)) (ov n F (g.1 1)) (ov n N g.2) (ov n S (g.1 2)) (ov n I (g.1 3)) (ov n X (g.1 4)) (ov l Lt (g.1 5)) fl pl (ov sh Ki (g.1 10)) (ow sh Ma (g.1 11)) (ow sh Fa (g.1 12)) (nI (kc0 + i)) (ov (kc0 + i) kS (g.1 13)) (ov (kc0 + i) kN (g.1 14)) (ov (kc0 + i) kD (g.1 15)) (ov (kc0 + i) kX (g.1 16)) (nI s) (nI (c j + 1))) fpY (fun _ u => symP (strN K N S n l) fl pl sh s kc0 i (a2 - p2) Ki0 kS0 kN0 kD0 kX0 u) := by
          simp only [m_X9_symbols_244, m_X9_symbols_245, bd_go (show c j + 1 < 4200 by omega) (by decide), bd_gc (show c j + 1 < 4200 by omega) (by decide), nI_clamp (show c j + 1 < 2 ^ 31 by omega), ov_lt (show c j + 1 < n by omega), hval.basic.2.2, need_0, try_e]
          exact RES.er (fun g => rfl)
        refine RES.ite (fun hK2 => ?_) (fun _ => her)
        obtain ⟨sz, hsz, -⟩ := hval.str hK2 (show e j ≤ n by omega)
        obtain ⟨y, hy⟩ := symbol_ok (Lt := Lt) (Lt' := Lt) (c := fun z => kc0 + z) (Ki := Ki) (kN := kN) (kX := kX) (m := i) hn hl hn hl hs hsh (show kc0 + i ≤ 2200 by omega) (by omega) hsz hKi (fun z hz => by
          obtain ⟨z1, y, sy, z2, z3, -⟩ := hch z hz
          exact ⟨by omega, z1, y, sy, z2, z3⟩)
        simp only [hy, Option.bind_some]
        refine RES.ite (fun _ => her) (fun _ => ?_)
        simp only [m_X9_symbols_245, bd_go (show c j + 1 < 4200 by omega) (by decide), bd_gc (show c j + 1 < 4200 by omega) (by decide), nI_clamp (show c j + 1 < 2 ^ 31 by omega), need_1, try_o, hy, Option.bind_some, bd_go (show s < 140 by omega) (by decide), bd_gc (show s < 140 by omega) (by decide), nI_clamp (show s < 2 ^ 31 by omega), ow_up h6s hs]
        exact RES.ok (hfin _)
    · obtain ⟨q1, q2, q3, q4, q5, q6, q7, q8⟩ := hL2.1 i (by omega)
      have hrow := q1.row (n := n) (by omega)
      simp only [if_neg hik, m_X9_symbols_88, if_neg (nI_pos (show c2 i < 2 ^ 31 by omega))]
      refine RES.bind (nm_ok hrow.1 hn hl hrow.2) ?_
      rintro b (rfl | ⟨rfl, sz', hsz', -, -⟩)
      · simp only [bd_go (show c2 i < 4200 by omega) (by decide), bd_gc (show c2 i < 4200 by omega) (by decide), nI_clamp (show c2 i < 2 ^ 31 by omega), ov_lt hrow.1, q1.basic.2.2, need_0, try_e]
        exact RES.er (fun g => rfl)
      · obtain ⟨sz, hsz, hbytes⟩ := q1.str hsz'.2.1 (show e2 i ≤ n by omega)
        have hst : (if i = 0 then (-1 : Int32) else nI kc0) = (if 0 = i then -1 else nI (kc0 + 0)) := by
          by_cases h0 : i = 0
          · rw [if_pos h0, if_pos h0.symm]
          · rw [if_neg h0, if_neg (fun q => h0 q.symm)]; rfl
        simp only [bd_go (show c2 i < 4200 by omega) (by decide), bd_gc (show c2 i < 4200 by omega) (by decide), nI_clamp (show c2 i < 2 ^ 31 by omega), need_1, try_o, bd_go (show s < 140 by omega) (by decide), bd_gc (show s < 140 by omega) (by decide), nI_clamp (show s < 2 ^ 31 by omega), ov_lt hs, hKi, hst]
        refine sym_dup (c := fun z => kc0 + z) hn hl (show kc0 + i ≤ 2200 by omega) hsz (fun z hz => by
          obtain ⟨z1, y, sy, z2, z3, -⟩ := hch z hz
          exact ⟨by omega, z1, y, sy, z2, z3⟩) ?_ sr_fuel 0 (by omega) (by unfold sr_fuel; omega)
        have key : ∀ (Ki' : Nat → Int32) (kX' : Nat → Int32), Ki' s = nI kc0 → (∀ j, j ≠ s → Ki' j = Ki j) → (∀ j, j < kc0 → kX' j = kX j) → (∀ j, j < i → kX' (kc0 + j) = nI (kc0 + (j + 1))) → kX' (kc0 + i) = -1 →
            RES (fun g => m_X9_symbols_88 (ov n K (g.1 0)) (ov n F (g.1 1)) (ov n N g.2) (ov n S (g.1 2)) (ov n I (g.1 3)) (ov n X (g.1 4)) (ov l Lt (g.1 5)) fuel fl pl (ov sh Ki' (g.1 10)) (ow sh (upd Ma s (Ma s + 1)) (g.1 11)) (ow sh Fa (g.1 12)) (nI (kc0 + i + 1)) (ov (kc0 + i + 1) (upd kS (kc0 + i) (-1)) (g.1 13)) (ov (kc0 + i + 1) (upd kN (kc0 + i) (nI (c2 i))) (g.1 14)) (ov (kc0 + i + 1) (upd kD (kc0 + i) (-1)) (g.1 15)) (ov (kc0 + i + 1) kX' (g.1 16)) (nI s) (nI v) (nI (kc0 + i)) (if i + 1 = k2 then -1 else nI (c2 (i + 1)))) fpY (fun _ u => symP (strN K N S n l) fl pl sh s kc0 k2 (a2 - p2) Ki0 kS0 kN0 kD0 kX0 u) := by
          intro Ki' kX' k1 k2' x1 x2 x3
          have := ih (i + 1) (kc0 + i + 1) Ki' (upd Ma s (Ma s + 1)) (upd kS (kc0 + i) (-1)) (upd kN (kc0 + i) (nI (c2 i))) (upd kD (kc0 + i) (-1)) kX' (fun j => if j = i + 1 then W i + sz + 3 else W j) (by omega) (by omega) rfl (by rw [k1, if_neg (by omega)]) (fun j hj => by rw [k2' j hj]; exact hKo j hj) (aS.upd (by omega)) (aN.upd (by omega)) (aD.upd (by omega)) (fun j hj => by rw [x1 j hj]; exact aX j hj) (fun j j1 j2 => by
            by_cases hji : j = kc0 + i
            · rw [hji]; exact pk_us
            · rw [pk_un hji]; exact hD j j1 (by omega)) (by rw [if_neg (by omega)]; exact hW0) (fun hlt => by
            rw [if_pos rfl]
            have := hW1 (by omega)
            have := (hL2.2 i (i + 1) (by omega) hlt).2
            omega) (fun heq => by
            rw [if_pos rfl]
            have := hW1 (by omega)
            omega) (fun j hj => by
            by_cases hji : j = i
            · subst hji
              refine ⟨by rw [if_pos rfl]; exact x3, c2 j, sz, pk_us, hsz, ?_⟩
              rw [if_pos rfl, if_neg (by omega)]
            · obtain ⟨z1, y, sy, z2, z3, z4⟩ := hch j (by omega)
              refine ⟨by rw [if_neg (by omega)]; exact x2 j (by omega), y, sy, by rw [pk_un (by omega)]; exact z2, z3, ?_⟩
              rw [if_neg (by omega), if_neg (by omega)]; exact z4)
          simp only [if_neg (show ¬ i + 1 = 0 by omega), Nat.add_sub_cancel] at this
          exact this
        by_cases h0 : i = 0
        · simp only [m_X9_symbols_120, if_pos (show (-1 : Int32) < 0 by decide), if_pos h0, addKid_0 h6s hs hsh (show kc0 + i < 2200 by omega), Option.bind_some, bd_go (show kc0 + i < 2200 by omega) (by decide), bd_gc (show kc0 + i < 2200 by omega) (by decide), nI_clamp (show kc0 + i < 2 ^ 31 by omega), bd_go (show c2 i < 4200 by omega) (by decide), bd_gc (show c2 i < 4200 by omega) (by decide), nI_clamp (show c2 i < 2 ^ 31 by omega), ov_up (Nat.lt_succ_self (kc0 + i)), upd_upd, ov_lt hrow.1, q2]
          refine key _ _ (by rw [pk_us, h0, Nat.add_zero]) (fun j hj => pk_un hj) (fun j hj => pk_un (by omega)) (fun j hj => absurd hj (by omega)) pk_us
        · simp only [m_X9_symbols_120, if_pos (show (-1 : Int32) < 0 by decide), if_neg h0, addKid_1 h6s hs hsh (show kc0 + i < 2200 by omega) (show kc0 + (i - 1) < kc0 + i by omega), Option.bind_some, bd_go (show kc0 + i < 2200 by omega) (by decide), bd_gc (show kc0 + i < 2200 by omega) (by decide), nI_clamp (show kc0 + i < 2 ^ 31 by omega), bd_go (show c2 i < 4200 by omega) (by decide), bd_gc (show c2 i < 4200 by omega) (by decide), nI_clamp (show c2 i < 2 ^ 31 by omega), ov_up (Nat.lt_succ_self (kc0 + i)), upd_upd, ov_lt hrow.1, q2]
          refine key _ _ (by rw [hKi, if_neg h0]) (fun _ _ => rfl) (fun j hj => by rw [pk_un (by omega), pk_un (by omega)]) (fun j hj => ?_) (by rw [pk_un (by omega)]; exact pk_us)
          by_cases hj1 : j + 1 = i
          · rw [show kc0 + j = kc0 + (i - 1) by omega, pk_us, hj1]
          · rw [pk_un (by omega), pk_un (by omega), (hch j hj).1, if_neg hj1]
end
section
-- the reference's schemas: what a look at a value leaves; unions
abbrev TS : Type := Int32 × Int32 × Int32 × Int32 × (Nat → Int32) × (Nat → Int32) × (Nat → Int32) × (Nat → Int32) × (Nat → Int32) × (Nat → Int32) × Int32 × (Nat → Int32) × (Nat → Int32) × (Nat → Int32) × (Nat → Int32) × Int32 × (Nat → Int32)
abbrev FS : Type := Int32 → Int32 → (Nat → Int32) → (Nat → Int32) → (Nat → Int64) → (Nat → Int32) → (Nat → Int32) → (Nat → Int32) → (Nat → Int32) → Int32 → Int32 → (Nat → Int32) → (Nat → Int32) → (Nat → Int32) → (Nat → Int32) → (Nat → Int32) → (Nat → Int32) → Int32 → (Nat → Int32) → (Nat → Int32) → (Nat → Int32) → (Nat → Int32) → Int32 → (Nat → Int32) → Int32 → Int32 → Int32 → Option (Except TS (Int32 × TS))
def fpC : TS → Int32 × Int32 := fun u => (u.1, u.2.1)
def shOK (T : Nat → Nat → Prop) (So Na : Nat → Int32) (sh : Nat) : Prop := (∀ s, s < 6 → So s = nI s) ∧ ∀ s, 6 ≤ s → s < sh → ((So s = 6 ∨ So s = 7 ∨ So s = 8) ∧ Na s = -1) ∨ ((So s = 9 ∨ So s = 10 ∨ So s = 11) ∧ ∃ x sz, Na s = nI x ∧ T x sz)
def kdOK (V : Nat → Prop) (kD : Nat → Int32) (kc : Nat) : Prop := ∀ k, k < kc → kD k = -1 ∨ ∃ x, kD k = nI x ∧ V x
def fiOK (Fi kS : Nat → Int32) (dn kc sh : Nat) : Prop := ∀ i, i < dn → ∃ k t, k < kc ∧ Fi i = nI k ∧ kS k = nI t ∧ t < sh
def valN (K F : Nat → Int32) (N : Nat → Int64) (S I X : Nat → Int32) (n l x : Nat) : Prop := ∃ h m p q, h ≤ 24 ∧ m ≤ n ∧ q ≤ p + 4100 ∧ Val K F N S I X l h x m p q
def preS (T : Nat → Nat → Prop) (V : Nat → Prop) (sh lk kc dn : Nat) (So Na kD Fi kS : Nat → Int32) : Prop := 6 ≤ sh ∧ sh ≤ 6 + lk ∧ lk ≤ 128 ∧ dn ≤ kc ∧ shOK T So Na sh ∧ kdOK V kD kc ∧ fiOK Fi kS dn kc sh
def agS (sh kc dn : Nat) (So Na Wi Ki kS kN kD kX Fi So' Na' Wi' Ki' kS' kN' kD' kX' Fi' : Nat → Int32) : Prop :=
  (∀ i, i < sh → So i = So' i ∧ Na i = Na' i ∧ Wi i = Wi' i ∧ Ki i = Ki' i) ∧ (∀ i, i < kc → kS i = kS' i ∧ kN i = kN' i ∧ kD i = kD' i ∧ kX i = kX' i) ∧ ∀ i, i < dn → Fi i = Fi' i
theorem agS.trans {sh kc dn sh1 kc1 dn1 : Nat} {So Na Wi Ki kS kN kD kX Fi So1 Na1 Wi1 Ki1 kS1 kN1 kD1 kX1 Fi1 So2 Na2 Wi2 Ki2 kS2 kN2 kD2 kX2 Fi2 : Nat → Int32} (a : agS sh kc dn So Na Wi Ki kS kN kD kX Fi So1 Na1 Wi1 Ki1 kS1 kN1 kD1 kX1 Fi1) (b : agS sh1 kc1 dn1 So1 Na1 Wi1 Ki1 kS1 kN1 kD1 kX1 Fi1 So2 Na2 Wi2 Ki2 kS2 kN2 kD2 kX2 Fi2) (h1 : sh ≤ sh1) (h2 : kc ≤ kc1) (h3 : dn ≤ dn1) : agS sh kc dn So Na Wi Ki kS kN kD kX Fi So2 Na2 Wi2 Ki2 kS2 kN2 kD2 kX2 Fi2 := by
  refine ⟨fun i hi => ?_, fun i hi => ?_, fun i hi => ?_⟩
  · obtain ⟨a1, a2, a3, a4⟩ := a.1 i hi
    obtain ⟨b1, b2, b3, b4⟩ := b.1 i (by omega)
    exact ⟨a1.trans b1, a2.trans b2, a3.trans b3, a4.trans b4⟩
  · obtain ⟨a1, a2, a3, a4⟩ := a.2.1 i hi
    obtain ⟨b1, b2, b3, b4⟩ := b.2.1 i (by omega)
    exact ⟨a1.trans b1, a2.trans b2, a3.trans b3, a4.trans b4⟩
  · exact (a.2.2 i hi).trans (b.2.2 i (by omega))
def postS (T : Nat → Nat → Prop) (V : Nat → Prop) (h len sh0 kc0 dn0 : Nat) (So0 Na0 Wi0 Ki0 kS0 kN0 kD0 kX0 Fi0 : Nat → Int32) (br fl pl r : Int32) (u : Gs → TS) : Prop :=
  ∃ (s sh lk kc dn w : Nat) (So Na Wi Ki Ma Fa kS kN kD kX Fi : Nat → Int32), r = nI s ∧ u = (fun g => (fl, pl, nI sh, nI lk, ov sh So (g.1 7), ov sh Na (g.1 8), ow sh Wi (g.1 9), ov sh Ki (g.1 10), ow sh Ma (g.1 11), ow sh Fa (g.1 12), nI kc, ov kc kS (g.1 13), ov kc kN (g.1 14), ov kc kD (g.1 15), ov kc kX (g.1 16), nI dn, ov dn Fi (g.1 17))) ∧ sh0 ≤ sh ∧ kc0 ≤ kc ∧ dn0 ≤ dn ∧ dn + kc0 ≤ dn0 + kc ∧ 2 * kc + 2 ≤ 2 * kc0 + len ∧ preS T V sh lk kc dn So Na kD Fi kS ∧ agS sh0 kc0 dn0 So0 Na0 Wi0 Ki0 kS0 kN0 kD0 kX0 Fi0 So Na Wi Ki kS kN kD kX Fi ∧
    Occ T So Na Wi Ki kS kN kX h s sh0 sh kc0 kc w ∧ w ≤ len ∧ (br = 1 → So s ≠ 8)
def okS (K F : Nat → Int32) (N : Nat → Int64) (S I X Lt : Nat → Int32) (n l : Nat) (fs : FS) (d h : Nat) : Prop :=
  ∀ (hv v m p q sh lk kc dn : Nat) (So Na Wi Ki Ma Fa kS kN kD kX Fi : Nat → Int32) (fl pl br : Int32), hv ≤ 24 → m ≤ n → Val K F N S I X l hv v m p q → preS (strN K N S n l) (valN K F N S I X n l) sh lk kc dn So Na kD Fi kS → 2 * kc + (q - p) ≤ 4100 → (br = 0 ∨ br = 1) →
    RES (fun g => fs fl pl (ov n K (g.1 0)) (ov n F (g.1 1)) (ov n N g.2) (ov n S (g.1 2)) (ov n I (g.1 3)) (ov n X (g.1 4)) (ov l Lt (g.1 5)) (nI sh) (nI lk) (ov sh So (g.1 7)) (ov sh Na (g.1 8)) (ow sh Wi (g.1 9)) (ov sh Ki (g.1 10)) (ow sh Ma (g.1 11)) (ow sh Fa (g.1 12)) (nI kc) (ov kc kS (g.1 13)) (ov kc kN (g.1 14)) (ov kc kD (g.1 15)) (ov kc kX (g.1 16)) (nI dn) (ov dn Fi (g.1 17)) (nI v) (nI d) br) fpC (postS (strN K N S n l) (valN K F N S I X n l) h (q - p) sh kc dn So Na Wi Ki kS kN kD kX Fi br fl pl)
theorem alike_ok {So : Nat → Int32} {sh a b : Nat} (ha : a < sh) (hb : b < sh) (hsh : sh ≤ 140) : ∃ r : Int32, ∀ g, m_X9_alike (ov sh So g) (nI a) (nI b) = some r := by
  simp only [m_X9_alike, bd_go (show a < 140 by omega) (by decide), bd_gc (show a < 140 by omega) (by decide), nI_clamp (show a < 2 ^ 31 by omega), bd_go (show b < 140 by omega) (by decide), bd_gc (show b < 140 by omega) (by decide), nI_clamp (show b < 2 ^ 31 by omega), ov_lt ha, ov_lt hb]
  by_cases h1 : nI a = nI b
  · simp only [if_pos h1]; exact ⟨_, fun _ => rfl⟩
  · simp only [if_neg h1]
    by_cases h2 : So a = So b
    · simp only [if_pos h2]
      by_cases h3 : So a = 6
      · simp only [if_pos h3]; exact ⟨_, fun _ => rfl⟩
      · simp only [if_neg h3]
        by_cases h4 : So a = 7
        · simp only [if_pos h4]; exact ⟨_, fun _ => rfl⟩
        · simp only [if_neg h4]; exact ⟨_, fun _ => rfl⟩
    · simp only [if_neg h2]; exact ⟨_, fun _ => rfl⟩
abbrev KU : Type := Int32 → Int32 → Int32 → Int32 → (Nat → Int32) → (Nat → Int32) → (Nat → Int32) → (Nat → Int32) → (Nat → Int32) → (Nat → Int32) → Int32 → (Nat → Int32) → (Nat → Int32) → (Nat → Int32) → (Nat → Int32) → Int32 → (Nat → Int32) → Int32 → Int32 → Int32 → Int32 → Option (Except TS (Int32 × TS))
theorem uni_dup {K F S I X Lt : Nat → Int32} {N : Nat → Int64} {n l : Nat} {So Na Wi Ki Ma Fa kS kN kD kX Fi : Nat → Int32} {fs : FS} {sh lk kc dn s0 s b m : Nat} {ck : Nat → Nat} {fl pl x2 x5 : Int32} {k75 : Gs → KU} {Q : Int32 → (Gs → TS) → Prop}
    (hn : n ≤ 4200) (hb : b < n) (hsh : sh ≤ 140) (hs : s < sh) (hkc : kc ≤ 2200)
    (hc : ∀ i, i < m → ck i < kc ∧ kX (ck i) = (if i + 1 = m then -1 else nI (ck (i + 1))) ∧ ∃ x, kS (ck i) = nI x ∧ x < sh)
    (hexit : RES (fun g => m_X9_union_101 fs (ov n K (g.1 0)) (ov n F (g.1 1)) (ov n N g.2) (ov n S (g.1 2)) (ov n I (g.1 3)) (ov n X (g.1 4)) (ov l Lt (g.1 5)) (k75 g) 1 fl pl (nI sh) (nI lk) (ov sh So (g.1 7)) (ov sh Na (g.1 8)) (ow sh Wi (g.1 9)) (ov sh Ki (g.1 10)) (ow sh Ma (g.1 11)) (ow sh Fa (g.1 12)) (nI kc) (ov kc kS (g.1 13)) (ov kc kN (g.1 14)) (ov kc kD (g.1 15)) (ov kc kX (g.1 16)) (nI dn) (ov dn Fi (g.1 17)) x2 (nI s0) x5 (nI b) (nI s) (-1)) fpC Q) :
    ∀ (fuel i : Nat), i ≤ m → m - i < fuel → RES (fun g => m_X9_union_101 fs (ov n K (g.1 0)) (ov n F (g.1 1)) (ov n N g.2) (ov n S (g.1 2)) (ov n I (g.1 3)) (ov n X (g.1 4)) (ov l Lt (g.1 5)) (k75 g) fuel fl pl (nI sh) (nI lk) (ov sh So (g.1 7)) (ov sh Na (g.1 8)) (ow sh Wi (g.1 9)) (ov sh Ki (g.1 10)) (ow sh Ma (g.1 11)) (ow sh Fa (g.1 12)) (nI kc) (ov kc kS (g.1 13)) (ov kc kN (g.1 14)) (ov kc kD (g.1 15)) (ov kc kX (g.1 16)) (nI dn) (ov dn Fi (g.1 17)) x2 (nI s0) x5 (nI b) (nI s) (if i = m then -1 else nI (ck i))) fpC Q := by
  intro fuel
  induction fuel with
  | zero => intro i _ hf; exact absurd hf (Nat.not_lt_zero _)
  | succ fuel ih =>
    intro i hi hf
    by_cases him : i = m
    · simp only [if_pos him]
      simp only [m_X9_union_101, if_pos (show (-1 : Int32) < 0 by decide)] at hexit ⊢
      exact hexit
    · obtain ⟨c1, c2, x, c3, c4⟩ := hc i (by omega)
      obtain ⟨r, hr⟩ := alike_ok (So := So) c4 hs hsh
      simp only [if_neg him, m_X9_union_101, if_neg (nI_pos (show ck i < 2 ^ 31 by omega)), bd_go (show ck i < 2200 by omega) (by decide), bd_gc (show ck i < 2200 by omega) (by decide), nI_clamp (show ck i < 2 ^ 31 by omega), ov_lt c1, c3, hr, Option.bind_some, m_X9_union_128, bd_go (show b < 4200 by omega) (by decide), bd_gc (show b < 4200 by omega) (by decide), nI_clamp (show b < 2 ^ 31 by omega), ov_lt hb, need_0, need_1, try_e, try_o, c2]
      refine RES.ite (fun _ => ?_) (fun _ => RES.er (fun g => rfl))
      exact ih (i + 1) (by omega) (by omega)
theorem uni_go {K F S I X Lt : Nat → Int32} {N : Nat → Int64} {n l : Nat} (hn : n ≤ 4200) (hl : l ≤ 4200) {fs : FS} {d h : Nat} (hfs : okS K F N S I X Lt n l fs (d + 1) h) {hv v m p a k : Nat} {c e u z : Nat → Nat} (hhv : hv ≤ 24) (hm : m ≤ n) (hk0 : 0 < k) (hk : k ≤ 16) (hL : kidsL (Val K F N S I X l hv) X v m p a k c e u z)
    {s0 kc0 dn0 : Nat} {So0 Na0 Wi0 Ki0 kS0 kN0 kD0 kX0 Fi0 : Nat → Int32} {fl pl : Int32} (h60 : 6 ≤ s0) (hbud : 2 * kc0 + (a + 1 - p) ≤ 4100) : ∀ (fuel i sh lk kc dn : Nat) (So Na Wi Ki Ma Fa kS kN kD kX Fi : Nat → Int32) (ck t b W : Nat → Nat), i ≤ k → k - i < fuel → preS (strN K N S n l) (valN K F N S I X n l) sh lk kc dn So Na kD Fi kS → s0 < sh → kc0 ≤ kc → dn0 ≤ dn → dn + kc0 ≤ dn0 + kc → agS s0 kc0 dn0 So0 Na0 Wi0 Ki0 kS0 kN0 kD0 kX0 Fi0 So Na Wi Ki kS kN kD kX Fi →
    So s0 = 8 → Ki s0 = (if i = 0 then -1 else nI (ck 0)) → t 0 = s0 + 1 → t i = sh → W 0 = 0 → (i < k → W i + p + 1 ≤ u i ∧ 2 * kc + p + 1 ≤ 2 * kc0 + u i) → (i = k → W i + p ≤ a ∧ 2 * kc + p + 1 ≤ 2 * kc0 + a) → (∀ j j', j < j' → j' < i → ck j < ck j') →
    (∀ j, j < i → s0 < t j ∧ t (j + 1) ≤ sh ∧ kc0 ≤ b j ∧ b j ≤ ck j ∧ ck j < kc ∧ kX (ck j) = (if j + 1 = i then -1 else nI (ck (j + 1))) ∧ ∃ x w', kS (ck j) = nI x ∧ Occ (strN K N S n l) So Na Wi Ki kS kN kX h x (t j) (t (j + 1)) (b j) (ck j) w' ∧ So x ≠ 8 ∧ W (j + 1) = W j + w' + 1) →
    RES (fun g => m_X9_union_75 fs (ov n K (g.1 0)) (ov n F (g.1 1)) (ov n N g.2) (ov n S (g.1 2)) (ov n I (g.1 3)) (ov n X (g.1 4)) (ov l Lt (g.1 5)) fuel fl pl (nI sh) (nI lk) (ov sh So (g.1 7)) (ov sh Na (g.1 8)) (ow sh Wi (g.1 9)) (ov sh Ki (g.1 10)) (ow sh Ma (g.1 11)) (ow sh Fa (g.1 12)) (nI kc) (ov kc kS (g.1 13)) (ov kc kN (g.1 14)) (ov kc kD (g.1 15)) (ov kc kX (g.1 16)) (nI dn) (ov dn Fi (g.1 17)) (nI d) (nI s0) (if i = 0 then -1 else nI (ck (i - 1))) (if i = k then -1 else nI (c i))) fpC (postS (strN K N S n l) (valN K F N S I X n l) (h + 1) (a + 1 - p) s0 kc0 dn0 So0 Na0 Wi0 Ki0 kS0 kN0 kD0 kX0 Fi0 0 fl pl) := by
  intro fuel
  induction fuel with
  | zero => intro i sh lk kc dn So Na Wi Ki Ma Fa kS kN kD kX Fi ck t b W _ hf; exact absurd hf (Nat.not_lt_zero _)
  | succ fuel ih =>
    intro i sh lk kc dn So Na Wi Ki Ma Fa kS kN kD kX Fi ck t b W hi hf hpre hs0 hkc hdn hdk hag hSo hKi ht0 hti hW0 hW1 hW2 hck hch
    by_cases hik : i = k
    · subst hik
      obtain ⟨w1, w2⟩ := hW2 rfl
      simp only [if_true, m_X9_union_75, if_pos (show (-1 : Int32) < 0 by decide)]
      refine RES.ok ⟨s0, sh, lk, kc, dn, 2 + (W i - 1), So, Na, Wi, Ki, Ma, Fa, kS, kN, kD, kX, Fi, rfl, rfl, by omega, hkc, hdn, hdk, by omega, hpre, hag, Or.inr ⟨rfl, hs0, Or.inr (Or.inl ⟨hSo, i, ck, t, b, W, ⟨hk0, by omega⟩, by rw [hKi, if_neg (by omega)], ht0, hti, hW0, rfl, hch⟩)⟩, by omega, fun q => absurd q (by decide)⟩
    · obtain ⟨q1, q2, q3, q4, q5, q6, q7, q8⟩ := hL.1 i (by omega)
      obtain ⟨w1, w2⟩ := hW1 (by omega)
      obtain ⟨p1, p2, p3, p4, p5, p6, p7⟩ := hpre
      simp only [if_neg hik, m_X9_union_75, if_neg (nI_pos (show c i < 2 ^ 31 by omega)), nI_1]
      refine RES.try (hfs hv (c i) (e i) (u i) (z i) sh lk kc dn So Na Wi Ki Ma Fa kS kN kD kX Fi fl pl 1 hhv (by omega) q1 ⟨p1, p2, p3, p4, p5, p6, p7⟩ (by omega) (Or.inr rfl)) ?_ (fun g u => rfl)
      rintro _ _ ⟨s, sh', lk', kc', dn', w, So', Na', Wi', Ki', Ma', Fa', kS', kN', kD', kX', Fi', rfl, rfl, r1, r2, r3, r4, r5, ⟨p1', p2', p3', p4', p5', p6', p7'⟩, r7, hocc, hw, hbr⟩
      have hs' : s < sh' := hocc.lt p1
      dsimp only
      have hKs : Ki' s0 = (if 0 = i then -1 else nI (ck 0)) := by
        rw [← (r7.1 s0 hs0).2.2.2, hKi]
        by_cases h0 : i = 0
        · rw [if_pos h0, if_pos h0.symm]
        · rw [if_neg h0, if_neg (fun q => h0 q.symm)]
      simp only [bd_go (show s0 < 140 by omega) (by decide), bd_gc (show s0 < 140 by omega) (by decide), nI_clamp (show s0 < 2 ^ 31 by omega), ov_lt (show s0 < sh' by omega), hKs]
      have hocc' : ∀ j, j < i → ∀ x w', Occ (strN K N S n l) So Na Wi Ki kS kN kX h x (t j) (t (j + 1)) (b j) (ck j) w' → x < sh := fun j hj x w' ho => by
        obtain ⟨d1, d2, -⟩ := hch j hj
        have := ho.lt (by omega)
        omega
      refine uni_dup (ck := ck) hn (show c i < n by omega) (show sh' ≤ 140 by omega) hs' (show kc' ≤ 2200 by omega) (fun j hj => ?_) ?_ sr_fuel 0 (by omega) (by unfold sr_fuel; omega)
      · obtain ⟨d1, d2, d3, d4, d5, d6, x, w', d7, d8, d9, d10⟩ := hch j hj
        obtain ⟨f1, f2, f3, f4⟩ := r7.2.1 (ck j) d5
        exact ⟨by omega, by rw [← f4]; exact d6, x, by rw [← f1]; exact d7, by have := hocc' j hj x w' d8; omega⟩
      · have key : ∀ (Ki2 kX2 : Nat → Int32), Ki2 s0 = nI (snc ck i kc' 0) → (∀ j, j ≠ s0 → Ki2 j = Ki' j) → (∀ j, j < kc' → (∀ j', j' + 1 = i → j ≠ ck j') → kX2 j = kX' j) → (∀ j, j + 1 = i → kX2 (ck j) = nI kc') → kX2 kc' = -1 →
            RES (fun g => m_X9_union_75 fs (ov n K (g.1 0)) (ov n F (g.1 1)) (ov n N g.2) (ov n S (g.1 2)) (ov n I (g.1 3)) (ov n X (g.1 4)) (ov l Lt (g.1 5)) fuel fl pl (nI sh') (nI lk') (ov sh' So' (g.1 7)) (ov sh' Na' (g.1 8)) (ow sh' Wi' (g.1 9)) (ov sh' Ki2 (g.1 10)) (ow sh' (upd Ma' s0 (Ma' s0 + 1)) (g.1 11)) (ow sh' Fa' (g.1 12)) (nI (kc' + 1)) (ov (kc' + 1) (upd kS' kc' (nI s)) (g.1 13)) (ov (kc' + 1) (upd kN' kc' (-1)) (g.1 14)) (ov (kc' + 1) (upd kD' kc' (-1)) (g.1 15)) (ov (kc' + 1) kX2 (g.1 16)) (nI dn') (ov dn' Fi' (g.1 17)) (nI d) (nI s0) (nI kc') (if i + 1 = k then -1 else nI (c (i + 1)))) fpC (postS (strN K N S n l) (valN K F N S I X n l) (h + 1) (a + 1 - p) s0 kc0 dn0 So0 Na0 Wi0 Ki0 kS0 kN0 kD0 kX0 Fi0 0 fl pl) := by
          intro Ki2 kX2 y1 y2 y3 y4 y5
          have hckl : ∀ j j', j < i → j' + 1 = i → ∀ x, x < ck j → x ≠ ck j' := fun j j' hj hj' x hx => by
            by_cases hjj : j = j'
            · subst hjj; omega
            · have := hck j j' (by omega) (by omega); omega
          have := ih (i + 1) sh' lk' (kc' + 1) dn' So' Na' Wi' Ki2 (upd Ma' s0 (Ma' s0 + 1)) Fa' (upd kS' kc' (nI s)) (upd kN' kc' (-1)) (upd kD' kc' (-1)) kX2 Fi' (snc ck i kc') (snc t (i + 1) sh') (snc b i kc) (snc W (i + 1) (W i + w + 1)) (by omega) (by omega) ⟨p1', p2', p3', by omega, p5', fun j hj => by
              by_cases hjk : j = kc'
              · subst hjk; exact Or.inl pk_us
              · rw [pk_un hjk]; exact p6' j (by omega), fun j hj => by
              obtain ⟨x, y, x1, x2, x3, x4⟩ := p7' j hj
              exact ⟨x, y, by omega, x2, by rw [pk_un (by omega)]; exact x3, x4⟩⟩ (by omega) (by omega) (by omega) (by omega) ⟨fun j hj => by
              obtain ⟨a1, a2, a3, a4⟩ := hag.1 j hj
              obtain ⟨b1, b2, b3, b4⟩ := r7.1 j (by omega)
              exact ⟨a1.trans b1, a2.trans b2, a3.trans b3, by rw [y2 j (by omega)]; exact a4.trans b4⟩, fun j hj => by
              obtain ⟨a1, a2, a3, a4⟩ := hag.2.1 j hj
              obtain ⟨b1, b2, b3, b4⟩ := r7.2.1 j (by omega)
              refine ⟨by rw [pk_un (by omega)]; exact a1.trans b1, by rw [pk_un (by omega)]; exact a2.trans b2, by rw [pk_un (by omega)]; exact a3.trans b3, ?_⟩
              rw [y3 j (by omega) (fun j' hj' hc => ?_)]
              · exact a4.trans b4
              · obtain ⟨d1, d2, d3, d4, d5, -⟩ := hch j' (by omega)
                omega, fun j hj => (hag.2.2 j hj).trans (r7.2.2 j (by omega))⟩ (by rw [← (r7.1 s0 hs0).1]; exact hSo) (by rw [y1, if_neg (by omega)]) (by rw [snc_n (by omega)]; exact ht0) snc_s (by rw [snc_n (by omega)]; exact hW0) (fun hlt => by
              rw [snc_s]
              have := (hL.2 i (i + 1) (by omega) hlt).2
              omega) (fun heq => by
              rw [snc_s]
              omega) (fun j j' hjj hj' => by
              by_cases hj2 : j' = i
              · subst hj2
                rw [snc_s, snc_n (by omega)]
                have := (hch j (by omega)).2.2.2.2.1
                omega
              · rw [snc_n hj2, snc_n (by omega)]
                exact hck j j' hjj (by omega)) (fun j hj => by
              by_cases hji : j = i
              · subst hji
                simp only [snc_s]
                rw [snc_n (show j ≠ j + 1 by omega), snc_n (show j ≠ j + 1 by omega), hti]
                refine ⟨hs0, Nat.le_refl _, hkc, r2, by omega, by rw [if_pos trivial]; exact y5, s, w, pk_us, ?_, hbr rfl, rfl⟩
                refine Occ.keep h _ _ _ _ _ _ p1 hocc (fun _ _ => ⟨rfl, rfl⟩) (fun x x1 x2 => ⟨rfl, (y2 x (by omega)).symm⟩) (fun x x1 x2 => ⟨by rw [pk_un (by omega)], by rw [pk_un (by omega)], ?_⟩)
                rw [y3 x (by omega) (fun j' hj' hc => ?_)]
                obtain ⟨d1, d2, d3, d4, d5, -⟩ := hch j' (by omega)
                omega
              · obtain ⟨d1, d2, d3, d4, d5, d6, x, w', d7, d8, d9, d10⟩ := hch j (by omega)
                have hx := hocc' j (by omega) x w' d8
                obtain ⟨f1, f2, f3, f4⟩ := r7.2.1 (ck j) d5
                rw [snc_n (show j ≠ i + 1 by omega), snc_n (show j + 1 ≠ i + 1 by omega), snc_n hji, snc_n hji, snc_n (show j + 1 ≠ i + 1 by omega), snc_n (show j ≠ i + 1 by omega)]
                refine ⟨d1, by omega, d3, d4, by omega, ?_, x, w', by rw [pk_un (by omega), ← f1]; exact d7, ?_, by rw [← (r7.1 x hx).1]; exact d9, d10⟩
                · rw [if_neg (by omega)]
                  by_cases hj1 : j + 1 = i
                  · rw [hj1, snc_s]; exact y4 j hj1
                  · rw [snc_n hj1, y3 (ck j) (by omega) (fun j' hj' hc => by have := hck j j' (by omega) (by omega); omega), ← f4, d6, if_neg hj1]
                · refine Occ.keep h _ _ _ _ _ _ (by omega) d8 (fun y hy => ⟨(r7.1 y (by omega)).1, (r7.1 y (by omega)).2.1⟩) (fun y y1' y2' => ⟨(r7.1 y (by omega)).2.2.1, ?_⟩) (fun y y1' y2' => ?_)
                  · rw [y2 y (by omega)]; exact (r7.1 y (by omega)).2.2.2
                  · obtain ⟨g1, g2, g3, g4⟩ := r7.2.1 y (by omega)
                    refine ⟨by rw [pk_un (by omega)]; exact g1, by rw [pk_un (by omega)]; exact g2, ?_⟩
                    rw [y3 y (by omega) (fun j' hj' => hckl j j' (by omega) hj' y y2')]
                    exact g4)
          simp only [if_neg (show ¬ i + 1 = 0 by omega), Nat.add_sub_cancel, snc_s] at this
          exact this
        by_cases h0 : i = 0
        · simp only [m_X9_union_101, if_pos (show (-1 : Int32) < 0 by decide), if_pos h0, addKid_0 h60 (show s0 < sh' by omega) (show sh' ≤ 140 by omega) (show kc' < 2200 by omega), Option.bind_some, bd_go (show kc' < 2200 by omega) (by decide), bd_gc (show kc' < 2200 by omega) (by decide), nI_clamp (show kc' < 2 ^ 31 by omega), bd_go (show c i < 4200 by omega) (by decide), bd_gc (show c i < 4200 by omega) (by decide), nI_clamp (show c i < 2 ^ 31 by omega), ov_up (Nat.lt_succ_self kc'), upd_upd, ov_lt (show c i < n by omega), q2]
          exact key _ _ (by rw [pk_us, h0, snc_s]) (fun j hj => pk_un hj) (fun j hj _ => pk_un (by omega)) (fun j hj => absurd hj (by omega)) pk_us
        · obtain ⟨d1, d2, d3, d4, d5, -⟩ := hch (i - 1) (by omega)
          simp only [m_X9_union_101, if_pos (show (-1 : Int32) < 0 by decide), if_neg h0, addKid_1 h60 (show s0 < sh' by omega) (show sh' ≤ 140 by omega) (show kc' < 2200 by omega) (show ck (i - 1) < kc' by omega), Option.bind_some, bd_go (show kc' < 2200 by omega) (by decide), bd_gc (show kc' < 2200 by omega) (by decide), nI_clamp (show kc' < 2 ^ 31 by omega), bd_go (show c i < 4200 by omega) (by decide), bd_gc (show c i < 4200 by omega) (by decide), nI_clamp (show c i < 2 ^ 31 by omega), ov_up (Nat.lt_succ_self kc'), upd_upd, ov_lt (show c i < n by omega), q2]
          refine key _ _ (by rw [hKs, if_neg (fun q => h0 q.symm), snc_n (by omega)]) (fun _ _ => rfl) (fun j hj hc => by rw [pk_un (hc (i - 1) (by omega)), pk_un (by omega)]) (fun j hj => ?_) (by rw [pk_un (by omega)]; exact pk_us)
          rw [show j = i - 1 by omega, pk_us]
theorem uni_ok {K F S I X Lt : Nat → Int32} {N : Nat → Int64} {n l : Nat} (hn : n ≤ 4200) (hl : l ≤ 4200) {fs : FS} {d h : Nat} (hfs : okS K F N S I X Lt n l fs (d + 1) h) {hv v m p q sh lk kc dn : Nat} {So Na Wi Ki Ma Fa kS kN kD kX Fi : Nat → Int32} {fl pl br : Int32} (hhv : hv ≤ 24) (hm : m ≤ n) (hV : Val K F N S I X l hv v m p q) (hK1 : K v = 1) (hpre : preS (strN K N S n l) (valN K F N S I X n l) sh lk kc dn So Na kD Fi kS) (hlk : sh < 6 + lk) (hbud : 2 * kc + (q - p) ≤ 4100) (hbr : br = 0 ∨ br = 1) :
    RES (fun g => m_X9_union fs fl pl (ov n K (g.1 0)) (ov n F (g.1 1)) (ov n N g.2) (ov n S (g.1 2)) (ov n I (g.1 3)) (ov n X (g.1 4)) (ov l Lt (g.1 5)) (nI sh) (nI lk) (ov sh So (g.1 7)) (ov sh Na (g.1 8)) (ow sh Wi (g.1 9)) (ov sh Ki (g.1 10)) (ow sh Ma (g.1 11)) (ow sh Fa (g.1 12)) (nI kc) (ov kc kS (g.1 13)) (ov kc kN (g.1 14)) (ov kc kD (g.1 15)) (ov kc kX (g.1 16)) (nI dn) (ov dn Fi (g.1 17)) (nI v) (nI d) br) fpC (postS (strN K N S n l) (valN K F N S I X n l) (h + 1) (q - p) sh kc dn So Na Wi Ki kS kN kD kX Fi br fl pl) := by
  obtain ⟨h', a, k, c, e, u, t, rfl, rfl, hka, hS, hI, hL⟩ := hV.lst hK1
  have hvn : v < n := Nat.lt_of_lt_of_le hV.basic.1 hm
  obtain ⟨p1, p2, p3, p4, p5, p6, p7⟩ := hpre
  rcases hbr with rfl | rfl
  · simp only [m_X9_union, if_true, m_X9_union_10, bd_go (show v < 4200 by omega) (by decide), bd_gc (show v < 4200 by omega) (by decide), nI_clamp (show v < 2 ^ 31 by omega), ov_lt hvn, need_1, try_o, hS, m_X9_union_45]
    have her : ∀ {Q : Int32 → (Gs → TS) → Prop}, RES (fun g => m_X9_union_46 fs (ov n K (g.1 0)) (ov n F (g.1 1)) (ov n N g.2) (ov n S (g.1 2)) (ov n I (g.1 3)) (ov n X (g.1 4)) (ov l Lt (g.1 5)) fl pl (nI sh) (nI lk) (ov sh So (g.1 7)) (ov sh Na (g.1 8)) (ow sh Wi (g.1 9)) (ov sh Ki (g.1 10)) (ow sh Ma (g.1 11)) (ow sh Fa (g.1 12)) (nI kc) (ov kc kS (g.1 13)) (ov kc kN (g.1 14)) (ov kc kD (g.1 15)) (ov kc kX (g.1 16)) (nI dn) (ov dn Fi (g.1 17)) (nI v) (nI d) 0) fpC Q := by
      intro Q
      simp only [m_X9_union_46, bd_go (show v < 4200 by omega) (by decide), bd_gc (show v < 4200 by omega) (by decide), nI_clamp (show v < 2 ^ 31 by omega), ov_lt hvn, hV.basic.2.2, need_0, try_e]
      exact RES.er (fun g => rfl)
    refine RES.ite (fun _ => her) (fun h0 => RES.ite (fun _ => her) (fun h17 => ?_))
    have hk0 : 0 < k := by
      apply Nat.pos_of_ne_zero
      intro q
      exact h0 (by rw [q, nI_0]; decide)
    have hk16 : k ≤ 16 := by
      apply Nat.le_of_not_lt
      intro q
      exact h17 (nI_le (a := 17) q (by omega))
    simp only [m_X9_union_46, bd_go (show v < 4200 by omega) (by decide), bd_gc (show v < 4200 by omega) (by decide), nI_clamp (show v < 2 ^ 31 by omega), need_1, try_o, shape_eq p1 (show sh < 140 by omega), Option.bind_some, ov_lt hvn, hI]
    have hst : (if k = 0 then (-1 : Int32) else nI (c 0)) = (if 0 = k then -1 else nI (c 0)) := by
      rw [if_neg (by omega), if_neg (by omega)]
    simp only [hst]
    refine uni_go hn hl hfs (by omega) hm hk0 hk16 hL p1 hbud sr_fuel 0 (sh + 1) lk kc dn _ _ _ _ _ _ kS kN kD kX Fi id (fun _ => sh + 1) id (fun _ => 0) (by omega) (by unfold sr_fuel; omega) ⟨by omega, by omega, p3, p4, ⟨fun s hs => by rw [pk_un (by omega)]; exact p5.1 s hs, fun s s6 hs => ?_⟩, p6, fun j hj => by
      obtain ⟨x, y, x1, x2, x3, x4⟩ := p7 j hj
      exact ⟨x, y, x1, x2, x3, by omega⟩⟩ (by omega) (Nat.le_refl _) (Nat.le_refl _) (by omega) ⟨fun i hi => ⟨by rw [pk_un (by omega)], by rw [pk_un (by omega)], by rw [pk_un (by omega)], by rw [pk_un (by omega)]⟩, fun _ _ => ⟨rfl, rfl, rfl, rfl⟩, fun _ _ => rfl⟩ pk_us pk_us rfl rfl rfl (fun _ => ?_) (fun q => absurd q (by omega)) (fun j j' _ hj => absurd hj (Nat.not_lt_zero _)) (fun j hj => absurd hj (Nat.not_lt_zero _))
    · by_cases hss : s = sh
      · subst hss; exact Or.inl ⟨by rw [pk_us]; exact Or.inr (Or.inr rfl), pk_us⟩
      · rw [pk_un hss, pk_un hss]; exact p5.2 s s6 (by omega)
    · have := (hL.1 0 hk0).2.2.2.2.2.1
      omega
  · simp only [m_X9_union, if_neg (show ¬ (1 : Int32) = 0 by decide), m_X9_union_10, bd_go (show v < 4200 by omega) (by decide), bd_gc (show v < 4200 by omega) (by decide), nI_clamp (show v < 2 ^ 31 by omega), ov_lt hvn, hV.basic.2.2, need_0, try_e]
    exact RES.er (fun g => rfl)
end
section
-- the reference's fields
theorem mem2 {P : Nat → Nat → Nat → Nat → Prop} {Q : Nat → Nat → Nat → Prop} {X : Nat → Int32} {v m p a k : Nat} {c e u r s t : Nat → Nat} (hO : kidsO P Q X v m p a k c e u r s t) {i j : Nat} (hi : i < k) (hj : j < k) (hij : i ≠ j) : (t i - u i) + (t j - u j) + 3 ≤ a + 1 - p := by
  obtain ⟨-, -, -, -, -, -, -, i1, i2, i3, i4, i5⟩ := hO.1 i hi
  obtain ⟨-, -, -, -, -, -, -, j1, j2, j3, j4, j5⟩ := hO.1 j hj
  rcases Nat.lt_or_gt_of_ne hij with h | h
  · have := (hO.2 i j h hj).2; omega
  · have := (hO.2 j i h hi).2; omega
theorem mem3 {P : Nat → Nat → Nat → Nat → Prop} {Q : Nat → Nat → Nat → Prop} {X : Nat → Int32} {v m p a k : Nat} {c e u r s t : Nat → Nat} (hO : kidsO P Q X v m p a k c e u r s t) {i j o : Nat} (hi : i < k) (hj : j < k) (ho : o < k) (hij : i ≠ j) (hio : i ≠ o) (hjo : j ≠ o) : (t i - u i) + (t j - u j) + (t o - u o) + 4 ≤ a + 1 - p := by
  obtain ⟨-, -, -, -, -, -, -, i1, i2, i3, i4, i5⟩ := hO.1 i hi
  obtain ⟨-, -, -, -, -, -, -, j1, j2, j3, j4, j5⟩ := hO.1 j hj
  obtain ⟨-, -, -, -, -, -, -, o1, o2, o3, o4, o5⟩ := hO.1 o ho
  have a1 : i < j ∧ t i < u j ∨ j < i ∧ t j < u i := by
    rcases Nat.lt_or_gt_of_ne hij with h | h
    · exact Or.inl ⟨h, (hO.2 i j h hj).2⟩
    · exact Or.inr ⟨h, (hO.2 j i h hi).2⟩
  have a2 : i < o ∧ t i < u o ∨ o < i ∧ t o < u i := by
    rcases Nat.lt_or_gt_of_ne hio with h | h
    · exact Or.inl ⟨h, (hO.2 i o h ho).2⟩
    · exact Or.inr ⟨h, (hO.2 o i h hi).2⟩
  have a3 : j < o ∧ t j < u o ∨ o < j ∧ t o < u j := by
    rcases Nat.lt_or_gt_of_ne hjo with h | h
    · exact Or.inl ⟨h, (hO.2 j o h ho).2⟩
    · exact Or.inr ⟨h, (hO.2 o j h hj).2⟩
  omega
theorem fld_dup {K F S I X Lt : Nat → Int32} {N : Nat → Int64} {n l : Nat} {So Na Wi Ki Ma Fa kS kN kD kX Fi : Nat → Int32} {fs : FS} {sh lk kc dn s0 x7 sz f m : Nat} {ck : Nat → Nat} {fl pl x3 x5 : Int32} {k85 : Gs → Int32 → Int32 → Int32 → Int32 → (Nat → Int32) → (Nat → Int32) → (Nat → Int32) → (Nat → Int32) → (Nat → Int32) → (Nat → Int32) → Int32 → (Nat → Int32) → (Nat → Int32) → (Nat → Int32) → (Nat → Int32) → Int32 → (Nat → Int32) → Int32 → Int32 → Int32 → Int32 → Option (Except TS (Unit × TS))} {Q : Unit → (Gs → TS) → Prop}
    (hn : n ≤ 4200) (hl : l ≤ 4200) (hx : strN K N S n l x7 sz) (hkc : kc ≤ 2200)
    (hc : ∀ i, i < m → ck i < kc ∧ kX (ck i) = (if i + 1 = m then -1 else nI (ck (i + 1))) ∧ ∃ y sy, kN (ck i) = nI y ∧ strN K N S n l y sy)
    (hexit : RES (fun g => m_X9_fields_178 fs (ov n K (g.1 0)) (ov n F (g.1 1)) (ov n N g.2) (ov n S (g.1 2)) (ov n I (g.1 3)) (ov n X (g.1 4)) (ov l Lt (g.1 5)) (k85 g) 1 fl pl (nI sh) (nI lk) (ov sh So (g.1 7)) (ov sh Na (g.1 8)) (ow sh Wi (g.1 9)) (ov sh Ki (g.1 10)) (ow sh Ma (g.1 11)) (ow sh Fa (g.1 12)) (nI kc) (ov kc kS (g.1 13)) (ov kc kN (g.1 14)) (ov kc kD (g.1 15)) (ov kc kX (g.1 16)) (nI dn) (ov dn Fi (g.1 17)) (nI s0) x3 x5 (nI f) (nI x7) 1 (-1)) fpC Q) :
    ∀ (fuel i : Nat) (x8 : Int32), (x8 = 0 ∨ x8 = 1) → i ≤ m → m - i < fuel → RES (fun g => m_X9_fields_178 fs (ov n K (g.1 0)) (ov n F (g.1 1)) (ov n N g.2) (ov n S (g.1 2)) (ov n I (g.1 3)) (ov n X (g.1 4)) (ov l Lt (g.1 5)) (k85 g) fuel fl pl (nI sh) (nI lk) (ov sh So (g.1 7)) (ov sh Na (g.1 8)) (ow sh Wi (g.1 9)) (ov sh Ki (g.1 10)) (ow sh Ma (g.1 11)) (ow sh Fa (g.1 12)) (nI kc) (ov kc kS (g.1 13)) (ov kc kN (g.1 14)) (ov kc kD (g.1 15)) (ov kc kX (g.1 16)) (nI dn) (ov dn Fi (g.1 17)) (nI s0) x3 x5 (nI f) (nI x7) x8 (if i = m then -1 else nI (ck i))) fpC Q := by
  have hx7 := hx.1
  intro fuel
  induction fuel with
  | zero => intro i x8 _ _ hf; exact absurd hf (Nat.not_lt_zero _)
  | succ fuel ih =>
    intro i x8 hx8 hi hf
    by_cases him : i = m
    · simp only [if_pos him]
      rcases hx8 with rfl | rfl
      · simp only [m_X9_fields_178, if_pos (show (-1 : Int32) < 0 by decide), bd_go (show x7 < 4200 by omega) (by decide), bd_gc (show x7 < 4200 by omega) (by decide), nI_clamp (show x7 < 2 ^ 31 by omega), ov_lt hx7, need_0, try_e]
        exact RES.er (fun g => rfl)
      · simp only [m_X9_fields_178, if_pos (show (-1 : Int32) < 0 by decide)] at hexit ⊢
        exact hexit
    · obtain ⟨c1, c2, y, sy, c3, c4⟩ := hc i (by omega)
      obtain ⟨r, -, hr⟩ := same_ok (Lt := Lt) (Lt' := Lt) hn hl hn hl c4 hx
      have ih0 := ih (i + 1) 0 (Or.inl rfl) (by omega) (by omega)
      have ih1 := ih (i + 1) 1 (Or.inr rfl) (by omega) (by omega)
      simp only [if_neg him, m_X9_fields_178, if_neg (nI_pos (show ck i < 2 ^ 31 by omega)), bd_go (show ck i < 2200 by omega) (by decide), bd_gc (show ck i < 2200 by omega) (by decide), nI_clamp (show ck i < 2 ^ 31 by omega), ov_lt c1, c3, hr, Option.bind_some, m_X9_fields_209, m_X9_fields_210, c2]
      exact RES.ite (fun _ => ih0) (fun _ => RES.ite (fun _ => ih1) (fun _ => ih0))
def postF (T : Nat → Nat → Prop) (V : Nat → Prop) (h len sz s0 kc0 dn0 : Nat) (So0 Na0 Wi0 Ki0 kS0 kN0 kD0 kX0 Fi0 : Nat → Int32) (fl pl : Int32) (u : Gs → TS) : Prop :=
  ∃ (sh lk kc dn w : Nat) (So Na Wi Ki Ma Fa kS kN kD kX Fi : Nat → Int32), u = (fun g => (fl, pl, nI sh, nI lk, ov sh So (g.1 7), ov sh Na (g.1 8), ow sh Wi (g.1 9), ov sh Ki (g.1 10), ow sh Ma (g.1 11), ow sh Fa (g.1 12), nI kc, ov kc kS (g.1 13), ov kc kN (g.1 14), ov kc kD (g.1 15), ov kc kX (g.1 16), nI dn, ov dn Fi (g.1 17))) ∧ s0 < sh ∧ kc0 ≤ kc ∧ dn0 ≤ dn ∧ dn + kc0 ≤ dn0 + kc ∧ 2 * kc + 2 ≤ 2 * kc0 + len ∧ preS T V sh lk kc dn So Na kD Fi kS ∧ agS s0 kc0 dn0 So0 Na0 Wi0 Ki0 kS0 kN0 kD0 kX0 Fi0 So Na Wi Ki kS kN kD kX Fi ∧
    Cre T So Na Wi Ki kS kN kX (Occ T So Na Wi Ki kS kN kX h) s0 sh kc0 kc (39 + sz + w) ∧ w + 2 ≤ len ∧ So s0 = 11
theorem fld_go {K F S I X Lt : Nat → Int32} {N : Nat → Int64} {n l : Nat} (hn : n ≤ 4200) (hl : l ≤ 4200) {fs : FS} {d h : Nat} (hfs : okS K F N S I X Lt n l fs (d + 1) h) {hv v m p a k : Nat} {c e u z : Nat → Nat} (hhv : hv ≤ 24) (hm : m ≤ n) (hk : k ≤ 32) (hka : k + p < a) (hL : kidsL (Val K F N S I X l hv) X v m p a k c e u z)
    {s0 kc0 dn0 nx sz : Nat} {So0 Na0 Wi0 Ki0 kS0 kN0 kD0 kX0 Fi0 : Nat → Int32} {fl pl : Int32} (h60 : 6 ≤ s0) (hT : strN K N S n l nx sz) (hbud : 2 * kc0 + (a + 1 - p) ≤ 4100) : ∀ (fuel i sh lk kc dn : Nat) (So Na Wi Ki Ma Fa kS kN kD kX Fi : Nat → Int32) (ck t b W : Nat → Nat), i ≤ k → k - i < fuel → preS (strN K N S n l) (valN K F N S I X n l) sh lk kc dn So Na kD Fi kS → s0 < sh → kc0 ≤ kc → dn0 ≤ dn → dn + kc0 ≤ dn0 + kc → agS s0 kc0 dn0 So0 Na0 Wi0 Ki0 kS0 kN0 kD0 kX0 Fi0 So Na Wi Ki kS kN kD kX Fi →
    So s0 = 11 → Na s0 = nI nx → Ki s0 = (if i = 0 then -1 else nI (ck 0)) → t 0 = s0 + 1 → t i = sh → W 0 = 0 → (i < k → W i + p + 1 ≤ u i ∧ 2 * kc + p + 1 ≤ 2 * kc0 + u i) → (i = k → W i + p ≤ a ∧ 2 * kc + p + 1 ≤ 2 * kc0 + a) → (∀ j j', j < j' → j' < i → b j ≤ ck j') →
    (∀ j, j < i → s0 < t j ∧ t (j + 1) ≤ sh ∧ kc0 ≤ ck j ∧ ck j < b j ∧ b j ≤ kc ∧ kX (ck j) = (if j + 1 = i then -1 else nI (ck (j + 1))) ∧ ∃ y sy x w', kN (ck j) = nI y ∧ strN K N S n l y sy ∧ kS (ck j) = nI x ∧ Occ (strN K N S n l) So Na Wi Ki kS kN kX h x (t j) (t (j + 1)) (ck j + 1) (b j) w' ∧ W (j + 1) = W j + w' + sy + 20) →
    RES (fun g => m_X9_fields_85 fs (ov n K (g.1 0)) (ov n F (g.1 1)) (ov n N g.2) (ov n S (g.1 2)) (ov n I (g.1 3)) (ov n X (g.1 4)) (ov l Lt (g.1 5)) fuel fl pl (nI sh) (nI lk) (ov sh So (g.1 7)) (ov sh Na (g.1 8)) (ow sh Wi (g.1 9)) (ov sh Ki (g.1 10)) (ow sh Ma (g.1 11)) (ow sh Fa (g.1 12)) (nI kc) (ov kc kS (g.1 13)) (ov kc kN (g.1 14)) (ov kc kD (g.1 15)) (ov kc kX (g.1 16)) (nI dn) (ov dn Fi (g.1 17)) (nI s0) (nI d) (if i = 0 then -1 else nI (ck (i - 1))) (if i = k then -1 else nI (c i))) fpC (fun _ u => postF (strN K N S n l) (valN K F N S I X n l) h (a + 1 - p) sz s0 kc0 dn0 So0 Na0 Wi0 Ki0 kS0 kN0 kD0 kX0 Fi0 fl pl u) := by
  intro fuel
  induction fuel with
  | zero => intro i sh lk kc dn So Na Wi Ki Ma Fa kS kN kD kX Fi ck t b W _ hf; exact absurd hf (Nat.not_lt_zero _)
  | succ fuel ih =>
    intro i sh lk kc dn So Na Wi Ki Ma Fa kS kN kD kX Fi ck t b W hi hf hpre hs0 hkc hdn hdk hag hSo hNa hKi ht0 hti hW0 hW1 hW2 hck hch
    by_cases hik : i = k
    · subst hik
      obtain ⟨w1, w2⟩ := hW2 rfl
      simp only [if_true, m_X9_fields_85, if_pos (show (-1 : Int32) < 0 by decide)]
      exact RES.ok ⟨sh, lk, kc, dn, W i - 1, So, Na, Wi, Ki, Ma, Fa, kS, kN, kD, kX, Fi, rfl, hs0, hkc, hdn, hdk, by omega, hpre, hag, Or.inr (Or.inr (Or.inr (Or.inr ⟨hSo, nx, sz, i, ck, t, b, W, hNa, ⟨hT, hk⟩, hKi, ht0, hti, hW0, rfl, hch⟩))), by omega, hSo⟩
    · obtain ⟨q1, q2, q3, q4, q5, q6, q7, q8⟩ := hL.1 i (by omega)
      obtain ⟨w1, w2⟩ := hW1 (by omega)
      obtain ⟨p1, p2, p3, p4, p5, p6, p7⟩ := hpre
      have hcn : c i < n := by omega
      simp only [if_neg hik, m_X9_fields_85, if_neg (nI_pos (show c i < 2 ^ 31 by omega)), bd_go (show c i < 4200 by omega) (by decide), bd_gc (show c i < 4200 by omega) (by decide), nI_clamp (show c i < 2 ^ 31 by omega), ov_lt hcn]
      by_cases hK0 : K (c i) = 0
      case neg =>
        simp only [if_neg hK0, m_X9_fields_106, bd_go (show c i < 4200 by omega) (by decide), bd_gc (show c i < 4200 by omega) (by decide), nI_clamp (show c i < 2 ^ 31 by omega), ov_lt hcn, q1.basic.2.2, need_0, try_e]
        exact RES.er (fun g => rfl)
      obtain ⟨hf', af, kf, cf, ef, uf, rf, sf, tf, rfl, haf, hkf, hIf, hO⟩ := q1.obj hK0
      have hmem : ∀ w, w < 75 → _ := fun w hw => hO.mem (w := w) (Lt := Lt) hw hn hl hcn (show e i ≤ n by omega) (show kf ≤ 5000 by omega) hIf
      obtain ⟨yn, hyn, hyn2⟩ := hmem 56 (by decide)
      simp only [if_pos hK0, m_X9_fields_106, bd_go (show c i < 4200 by omega) (by decide), bd_gc (show c i < 4200 by omega) (by decide), nI_clamp (show c i < 2 ^ 31 by omega), need_1, try_o, hyn2, Option.bind_some]
      have her8 : ∀ x : Int32, RES (fun g => m_X9_fields_149 fs (ov n K (g.1 0)) (ov n F (g.1 1)) (ov n N g.2) (ov n S (g.1 2)) (ov n I (g.1 3)) (ov n X (g.1 4)) (ov l Lt (g.1 5)) (m_X9_fields_85 fs (ov n K (g.1 0)) (ov n F (g.1 1)) (ov n N g.2) (ov n S (g.1 2)) (ov n I (g.1 3)) (ov n X (g.1 4)) (ov l Lt (g.1 5)) fuel) fl pl (nI sh) (nI lk) (ov sh So (g.1 7)) (ov sh Na (g.1 8)) (ow sh Wi (g.1 9)) (ov sh Ki (g.1 10)) (ow sh Ma (g.1 11)) (ow sh Fa (g.1 12)) (nI kc) (ov kc kS (g.1 13)) (ov kc kN (g.1 14)) (ov kc kD (g.1 15)) (ov kc kX (g.1 16)) (nI dn) (ov dn Fi (g.1 17)) (nI s0) (nI d) (if i = 0 then -1 else nI (ck (i - 1))) (nI (c i)) x) fpC (fun _ u => postF (strN K N S n l) (valN K F N S I X n l) h (a + 1 - p) sz s0 kc0 dn0 So0 Na0 Wi0 Ki0 kS0 kN0 kD0 kX0 Fi0 fl pl u) := fun x => by
        simp only [m_X9_fields_149, m_X9_fields_150, bd_go (show c i < 4200 by omega) (by decide), bd_gc (show c i < 4200 by omega) (by decide), nI_clamp (show c i < 2 ^ 31 by omega), ov_lt hcn, q1.basic.2.2, need_0, try_e]
        exact RES.er (fun g => rfl)
      rcases hyn with rfl | ⟨jn, hjn, rfl, hjn2, hjn3⟩
      · simp only [if_pos (show (-1 : Int32) < 0 by decide)]
        exact her8 _
      obtain ⟨n0, n1, n2, n2', n3, n4, n5, n6, n7, n8, n9, n10⟩ := hO.1 jn hjn
      simp only [if_neg (nI_pos (show cf jn + 1 < 2 ^ 31 by omega)), bd_go (show cf jn + 1 < 4200 by omega) (by decide), bd_gc (show cf jn + 1 < 4200 by omega) (by decide), nI_clamp (show cf jn + 1 < 2 ^ 31 by omega), ov_lt (show cf jn + 1 < n by omega)]
      refine RES.ite (fun hK2 => ?_) (fun _ => her8 _)
      obtain ⟨sy, hsy, hsyb⟩ := n1.str hK2 (show ef jn ≤ n by omega)
      obtain ⟨bn, hbn, hbn2⟩ := nm_ok (Lt := Lt) hsy.1 hn hl (fun _ => ⟨sy, hsy⟩)
      have hKs : Ki s0 = (if 0 = i then -1 else nI (ck 0)) := by
        rw [hKi]
        by_cases h0 : i = 0
        · rw [if_pos h0, if_pos h0.symm]
        · rw [if_neg h0, if_neg (fun q => h0 q.symm)]
      simp only [m_X9_fields_150, bd_go (show c i < 4200 by omega) (by decide), bd_gc (show c i < 4200 by omega) (by decide), nI_clamp (show c i < 2 ^ 31 by omega), need_1, try_o, hbn2, Option.bind_some, bd_go (show s0 < 140 by omega) (by decide), bd_gc (show s0 < 140 by omega) (by decide), nI_clamp (show s0 < 2 ^ 31 by omega), ov_lt hs0, hKs]
      refine fld_dup (ck := ck) hn hl hsy (show kc ≤ 2200 by omega) (fun j hj => ?_) ?_ sr_fuel 0 bn (hbn.imp id (fun q => q.1)) (by omega) (by unfold sr_fuel; omega)
      · obtain ⟨d1, d2, d3, d4, d5, d6, y, sy', x, w', d7, d8, d9, d10, d11⟩ := hch j hj
        exact ⟨by omega, d6, y, sy', d7, d8⟩
      obtain ⟨yt, hyt, hyt2⟩ := hmem 48 (by decide)
      obtain ⟨yd, hyd, hyd2⟩ := hmem 59 (by decide)
      simp only [m_X9_fields_178, if_pos (show (-1 : Int32) < 0 by decide), bd_go (show cf jn + 1 < 4200 by omega) (by decide), bd_gc (show cf jn + 1 < 4200 by omega) (by decide), nI_clamp (show cf jn + 1 < 2 ^ 31 by omega), need_1, try_o, hyt2, Option.bind_some]
      rcases hyt with rfl | ⟨jt, hjt, rfl, hjt2, hjt3⟩
      · simp only [if_pos (show (-1 : Int32) < 0 by decide), m_X9_fields_260, bd_go (show c i < 4200 by omega) (by decide), bd_gc (show c i < 4200 by omega) (by decide), nI_clamp (show c i < 2 ^ 31 by omega), ov_lt hcn, q1.basic.2.2, need_0, try_e]
        exact RES.er (fun g => rfl)
      obtain ⟨t0, t1, t2, t2', t3, t4, t5, t6, t7, t8, t9, t10⟩ := hO.1 jt hjt
      have hnt : jn ≠ jt := by
        intro q
        subst q
        have := StrIs.same (by decide) (by decide) hl hjn2 hjt2
        exact absurd (this.2 0 (by decide)) (by decide +kernel)
      have hbytes := mem2 hO hjn hjt hnt
      have l56 : lenS.getD 56 0 = 4 := by decide +kernel
      have l48 : lenS.getD 48 0 = 4 := by decide +kernel
      rw [l56] at hjn3
      rw [l48] at hjt3
      have hyd3 : yd = -1 ∨ ∃ x, yd = nI x ∧ valN K F N S I X n l x := by
        rcases hyd with h | ⟨jd, hjd, h, -⟩
        · exact Or.inl h
        · obtain ⟨d0, d1, d2, d2', d3, d4, d5, d6, d7, d8, d9, d10⟩ := hO.1 jd hjd
          exact Or.inr ⟨_, h, hf', ef jd, sf jd, tf jd, by omega, by omega, by omega, d1⟩
      obtain ⟨Ki1, kX1, y1, y2, y3, y4, y5, hadd⟩ : ∃ Ki1 kX1 : Nat → Int32, Ki1 s0 = nI (snc ck i kc 0) ∧ (∀ j, j ≠ s0 → Ki1 j = Ki j) ∧ (∀ j, j < kc → (∀ j', j' + 1 = i → j ≠ ck j') → kX1 j = kX j) ∧ (∀ j, j + 1 = i → kX1 (ck j) = nI kc) ∧ kX1 kc = -1 ∧
          ∀ g10 g11 g13 g14 g15 g16 : Nat → Int32, m_X9_addKid (ov sh Ki g10) (ow sh Ma g11) (nI kc) (ov kc kS g13) (ov kc kN g14) (ov kc kD g15) (ov kc kX g16) (nI s0) (if i = 0 then -1 else nI (ck (i - 1))) = some (nI kc, (ov sh Ki1 g10, ow sh (upd Ma s0 (Ma s0 + 1)) g11, nI (kc + 1), ov (kc + 1) (upd kS kc (-1)) g13, ov (kc + 1) (upd kN kc (-1)) g14, ov (kc + 1) (upd kD kc (-1)) g15, ov (kc + 1) kX1 g16)) := by
        by_cases h0 : i = 0
        · refine ⟨upd Ki s0 (nI kc), upd kX kc (-1), by rw [pk_us, h0, snc_s], fun j hj => pk_un hj, fun j hj _ => pk_un (by omega), fun j hj => absurd hj (by omega), pk_us, fun g10 g11 g13 g14 g15 g16 => ?_⟩
          rw [if_pos h0]
          exact addKid_0 h60 hs0 (by omega) (by omega)
        · obtain ⟨d1, d2, d3, d4, d5, -⟩ := hch (i - 1) (by omega)
          refine ⟨Ki, upd (upd kX kc (-1)) (ck (i - 1)) (nI kc), by rw [hKi, if_neg h0, snc_n (by omega)], fun _ _ => rfl, fun j hj hc => by rw [pk_un (hc (i - 1) (by omega)), pk_un (by omega)], fun j hj => ?_, by rw [pk_un (by omega)]; exact pk_us, fun g10 g11 g13 g14 g15 g16 => ?_⟩
          · rw [show j = i - 1 by omega, pk_us]
          · rw [if_neg h0]
            exact addKid_1 h60 hs0 (by omega) (by omega) (by omega)
      simp only [if_neg (nI_pos (show cf jt + 1 < 2 ^ 31 by omega)), m_X9_fields_260, bd_go (show c i < 4200 by omega) (by decide), bd_gc (show c i < 4200 by omega) (by decide), nI_clamp (show c i < 2 ^ 31 by omega), need_1, try_o, hadd, Option.bind_some, bd_go (show kc < 2200 by omega) (by decide), bd_gc (show kc < 2200 by omega) (by decide), nI_clamp (show kc < 2 ^ 31 by omega), hyd2, ov_up (Nat.lt_succ_self kc), upd_upd, nI_1]
      refine RES.try (hfs hf' (cf jt + 1) (ef jt) (sf jt) (tf jt) sh lk (kc + 1) dn So Na Wi Ki1 (upd Ma s0 (Ma s0 + 1)) Fa (upd kS kc (-1)) (upd kN kc (nI (cf jn + 1))) (upd kD kc yd) kX1 Fi fl pl 0 (by omega) (by omega) t1 ⟨p1, p2, p3, by omega, p5, fun j hj => ?_, fun j hj => ?_⟩ (by omega) (Or.inl rfl)) ?_ (fun g u => rfl)
      · by_cases hjk : j = kc
        · subst hjk; rw [pk_us]; exact hyd3
        · rw [pk_un hjk]; exact p6 j (by omega)
      · obtain ⟨x, y, x1, x2, x3, x4⟩ := p7 j hj
        exact ⟨x, y, by omega, x2, by rw [pk_un (by omega)]; exact x3, x4⟩
      rintro _ _ ⟨s, sh', lk', kc', dn', w, So', Na', Wi', Ki', Ma', Fa', kS', kN', kD', kX', Fi', rfl, rfl, r1, r2, r3, r4, r5, ⟨p1', p2', p3', p4', p5', p6', p7'⟩, r7, hocc, hw, -⟩
      dsimp only
      simp only [bd_go (show kc < 2200 by omega) (by decide), bd_gc (show kc < 2200 by omega) (by decide), nI_clamp (show kc < 2 ^ 31 by omega), bd_go (show dn' < 2200 by omega) (by decide), bd_gc (show dn' < 2200 by omega) (by decide), nI_clamp (show dn' < 2 ^ 31 by omega), bd_go (show c i < 4200 by omega) (by decide), bd_gc (show c i < 4200 by omega) (by decide), nI_clamp (show c i < 2 ^ 31 by omega), ov_lt hcn, q2, ov_up (show kc < kc' by omega), ov_push, nI_1]
      have hckl : ∀ j, j < i → ∀ x, x < b j → ck j < x → ∀ j', j' + 1 = i → x ≠ ck j' := fun j hj x hx hx2 j' hj' => by
        by_cases hjj : j = j'
        · subst hjj; omega
        · have := hck j j' (by omega) (by omega); omega
      have := ih (i + 1) sh' lk' kc' (dn' + 1) So' Na' Wi' Ki' Ma' Fa' (upd kS' kc (nI s)) kN' kD' kX' (upd Fi' dn' (nI kc)) (snc ck i kc) (snc t (i + 1) sh') (snc b i kc') (snc W (i + 1) (W i + w + sy + 20)) (by omega) (by omega) ⟨p1', p2', p3', by omega, p5', p6', fun j hj => by
          by_cases hjd : j = dn'
          · subst hjd; exact ⟨kc, s, by omega, pk_us, pk_us, hocc.lt p1⟩
          · obtain ⟨x, y, x1, x2, x3, x4⟩ := p7' j (by omega)
            rw [pk_un hjd]
            by_cases hxk : x = kc
            · exact ⟨x, s, x1, x2, by rw [hxk]; exact pk_us, hocc.lt p1⟩
            · exact ⟨x, y, x1, x2, by rw [pk_un hxk]; exact x3, x4⟩⟩ (by omega) (by omega) (by omega) (by omega) ⟨fun j hj => by
          obtain ⟨a1, a2, a3, a4⟩ := hag.1 j hj
          obtain ⟨b1, b2, b3, b4⟩ := r7.1 j (by omega)
          exact ⟨a1.trans b1, a2.trans b2, a3.trans b3, by rw [← b4, y2 j (by omega)]; exact a4⟩, fun j hj => by
          obtain ⟨a1, a2, a3, a4⟩ := hag.2.1 j hj
          obtain ⟨b1, b2, b3, b4⟩ := r7.2.1 j (by omega)
          rw [pk_un (by omega)] at b1 b2 b3
          refine ⟨by rw [pk_un (by omega)]; exact a1.trans b1, a2.trans b2, a3.trans b3, ?_⟩
          rw [← b4, y3 j (by omega) (fun j' hj' hc => ?_)]
          · exact a4
          · obtain ⟨d1, d2, d3, -⟩ := hch j' (by omega)
            omega, fun j hj => by
          rw [pk_un (by omega)]; exact (hag.2.2 j hj).trans (r7.2.2 j (by omega))⟩ (by rw [← (r7.1 s0 hs0).1]; exact hSo) (by rw [← (r7.1 s0 hs0).2.1]; exact hNa) (by rw [← (r7.1 s0 hs0).2.2.2, y1, if_neg (by omega)]) (by rw [snc_n (by omega)]; exact ht0) snc_s (by rw [snc_n (by omega)]; exact hW0) (fun hlt => by
          rw [snc_s]
          have := (hL.2 i (i + 1) (by omega) hlt).2
          omega) (fun heq => by
          rw [snc_s]
          omega) (fun j j' hjj hj' => by
          by_cases hj2 : j' = i
          · subst hj2
            rw [snc_s, snc_n (by omega)]
            exact (hch j (by omega)).2.2.2.2.1
          · rw [snc_n hj2, snc_n (by omega)]
            exact hck j j' hjj (by omega)) (fun j hj => by
          by_cases hji : j = i
          · subst hji
            obtain ⟨b1, b2, b3, b4⟩ := r7.2.1 kc (by omega)
            simp only [snc_s]
            rw [snc_n (show j ≠ j + 1 by omega), snc_n (show j ≠ j + 1 by omega), hti]
            refine ⟨hs0, Nat.le_refl _, hkc, by omega, Nat.le_refl _, by rw [if_pos trivial, ← b4]; exact y5, cf jn + 1, sy, s, w, by rw [← b2]; exact pk_us, hsy, pk_us, ?_, rfl⟩
            exact Occ.keep h _ _ _ _ _ _ p1 hocc (fun _ _ => ⟨rfl, rfl⟩) (fun _ _ _ => ⟨rfl, rfl⟩) (fun x x1 x2 => ⟨by rw [pk_un (by omega)], rfl, rfl⟩)
          · obtain ⟨d1, d2, d3, d4, d5, d6, y, sy', x, w', d7, d8, d9, d10, d11⟩ := hch j (by omega)
            obtain ⟨f1, f2, f3, f4⟩ := r7.2.1 (ck j) (by omega)
            rw [pk_un (by omega)] at f1 f2 f3
            rw [snc_n (show j ≠ i + 1 by omega), snc_n (show j + 1 ≠ i + 1 by omega), snc_n hji, snc_n hji, snc_n (show j + 1 ≠ i + 1 by omega), snc_n (show j ≠ i + 1 by omega)]
            refine ⟨d1, by omega, d3, d4, by omega, ?_, y, sy', x, w', by rw [← f2]; exact d7, d8, by rw [pk_un (by omega), ← f1]; exact d9, ?_, d11⟩
            · rw [if_neg (by omega), ← f4]
              by_cases hj1 : j + 1 = i
              · rw [hj1, snc_s]; exact y4 j hj1
              · rw [snc_n hj1, y3 (ck j) (by omega) (fun j' hj' hc => by have := hck j j' (by omega) (by omega); omega), d6, if_neg hj1]
            · refine Occ.keep h _ _ _ _ _ _ (by omega) d10 (fun y hy => ⟨(r7.1 y (by omega)).1, (r7.1 y (by omega)).2.1⟩) (fun y y1' y2' => ⟨(r7.1 y (by omega)).2.2.1, ?_⟩) (fun y y1' y2' => ?_)
              · rw [← (r7.1 y (by omega)).2.2.2, y2 y (by omega)]
              · obtain ⟨g1, g2, g3, g4⟩ := r7.2.1 y (by omega)
                rw [pk_un (by omega)] at g1 g2 g3
                refine ⟨by rw [pk_un (by omega)]; exact g1, g2, ?_⟩
                rw [← g4, y3 y (by omega) (hckl j (by omega) y y2' (by omega))])
      simp only [if_neg (show ¬ i + 1 = 0 by omega), Nat.add_sub_cancel, snc_s] at this
      exact this
end
section
-- the reference's symbols, fields, names
theorem symbols_ok {K F S I X Lt : Nat → Int32} {N : Nat → Int64} {n l : Nat} (hn : n ≤ 4200) (hl : l ≤ 4200) {hv v m p a k : Nat} {c e u r s' t : Nat → Nat} (hhv : hv ≤ 23) (hvn : v < n) (hF : F v = nI p) (hm : m ≤ n) (hka : k + p < a) (hp : a + 1 - p ≤ 4100) (hI : I v = (if k = 0 then -1 else nI (c 0))) (hO : kidsO (Val K F N S I X l hv) (keyV K F N S l) X v m p a k c e u r s' t) {sh s kc : Nat} {Ki Ma Fa kS kN kD kX : Nat → Int32} {fl pl : Int32} (h6s : 6 ≤ s) (hs : s < sh) (hsh : sh ≤ 140) (hkc : kc ≤ 2100) (hKs : Ki s = -1) :
    RES (fun g => m_X9_symbols fl pl (ov n K (g.1 0)) (ov n F (g.1 1)) (ov n N g.2) (ov n S (g.1 2)) (ov n I (g.1 3)) (ov n X (g.1 4)) (ov l Lt (g.1 5)) (ov sh Ki (g.1 10)) (ow sh Ma (g.1 11)) (ow sh Fa (g.1 12)) (nI kc) (ov kc kS (g.1 13)) (ov kc kN (g.1 14)) (ov kc kD (g.1 15)) (ov kc kX (g.1 16)) (nI s) (nI v)) fpY (fun _ w => ∃ js m' lim, js < k ∧ StrIs K N S Lt n l (c js) 58 ∧ u js + 9 ≤ r js ∧ s' js + lim + 1 = t js ∧ 0 < m' ∧ m' ≤ 32 ∧ symP (strN K N S n l) fl pl sh s kc m' lim Ki kS kN kD kX w) := by
  obtain ⟨y, hy, hy2⟩ := hO.mem (w := 58) (Lt := Lt) (by decide) hn hl hvn hm (by omega) hI
  simp only [m_X9_symbols, hy2, Option.bind_some]
  rcases hy with rfl | ⟨js, hjs, rfl, hjs2, hjs3⟩
  · simp only [if_pos (show (-1 : Int32) < 0 by decide), m_X9_symbols_19, bd_go (show v < 4200 by omega) (by decide), bd_gc (show v < 4200 by omega) (by decide), nI_clamp (show v < 2 ^ 31 by omega), ov_lt hvn, hF, need_0, try_e]
    exact RES.er (fun g => rfl)
  · obtain ⟨q0, q1, q2, q2', q3, q4, q5, q6, q7, q8, q9, q10⟩ := hO.1 js hjs
    have l58 : lenS.getD 58 0 = 7 := by decide +kernel
    rw [l58] at hjs3
    simp only [if_neg (nI_pos (show c js + 1 < 2 ^ 31 by omega)), m_X9_symbols_19, bd_go (show v < 4200 by omega) (by decide), bd_gc (show v < 4200 by omega) (by decide), nI_clamp (show v < 2 ^ 31 by omega), need_1, try_o, bd_go (show c js + 1 < 4200 by omega) (by decide), bd_gc (show c js + 1 < 4200 by omega) (by decide), nI_clamp (show c js + 1 < 2 ^ 31 by omega), ov_lt (show c js + 1 < n by omega), m_X9_symbols_65]
    have her : ∀ {Q : Unit → (Gs → TY) → Prop}, RES (fun g => m_X9_symbols_66 (ov n K (g.1 0)) (ov n F (g.1 1)) (ov n N g.2) (ov n S (g.1 2)) (ov n I (g.1 3)) (ov n X (g.1 4)) (ov l Lt (g.1 5)) fl pl (ov sh Ki (g.1 10)) (ow sh Ma (g.1 11)) (ow sh Fa (g.1 12)) (nI kc) (ov kc kS (g.1 13)) (ov kc kN (g.1 14)) (ov kc kD (g.1 15)) (ov kc kX (g.1 16)) (nI s) (nI v) (nI (c js + 1)) 0) fpY Q := by
      intro Q
      simp only [m_X9_symbols_66, bd_go (show c js + 1 < 4200 by omega) (by decide), bd_gc (show c js + 1 < 4200 by omega) (by decide), nI_clamp (show c js + 1 < 2 ^ 31 by omega), ov_lt (show c js + 1 < n by omega), q1.basic.2.2, need_0, try_e]
      exact RES.er (fun g => rfl)
    refine RES.ite (fun hK1 => ?_) (fun _ => her)
    obtain ⟨h2, a2, k2, c2, e2, u2, t2, rfl, ha2, hka2, hS2, hI2, hL2⟩ := q1.lst hK1
    simp only [hS2]
    refine RES.ite (fun _ => her) (fun h0 => RES.ite (fun _ => her) (fun h33 => ?_))
    have hk0 : 0 < k2 := by
      apply Nat.pos_of_ne_zero
      intro q
      exact h0 (by rw [q, nI_0]; decide)
    have hk32 : k2 ≤ 32 := by
      apply Nat.le_of_not_lt
      intro q
      exact h33 (nI_le (a := 33) q (by omega))
    have hst : (if k2 = 0 then (-1 : Int32) else nI (c2 0)) = (if 0 = k2 then -1 else nI (c2 0)) := by
      rw [if_neg (by omega), if_neg (by omega)]
    simp only [m_X9_symbols_66, bd_go (show c js + 1 < 4200 by omega) (by decide), bd_gc (show c js + 1 < 4200 by omega) (by decide), nI_clamp (show c js + 1 < 2 ^ 31 by omega), need_1, try_o, ov_lt (show c js + 1 < n by omega), hI2, hst]
    refine (sym_go hn hl hvn hm (by omega) hI (fun i hi => ⟨_, (hO.1 i hi).2.1⟩) hO (show e js ≤ n by omega) hL2 h6s hs hsh hk0 (show kc + k2 ≤ 2200 by omega) (Ki0 := Ki) (kS0 := kS) (kN0 := kN) (kD0 := kD) (kX0 := kX) sr_fuel 0 kc Ki Ma kS kN kD kX (fun _ => 0) (by omega) (by unfold sr_fuel; omega) rfl hKs (fun _ _ => rfl) ag.rfl' ag.rfl' ag.rfl' ag.rfl' (fun j j1 j2 => absurd j2 (by omega)) rfl (fun _ => ?_) (fun q => absurd q (by omega)) (fun j hj => absurd hj (Nat.not_lt_zero _))).mono ?_
    · have := (hL2.1 0 hk0).2.2.2.2.2.1
      omega
    · intro _ w hw
      exact ⟨js, k2, a2 - s' js, hjs, hjs2, by omega, by omega, hk0, hk32, hw⟩
theorem fields_ok {K F S I X Lt : Nat → Int32} {N : Nat → Int64} {n l : Nat} (hn : n ≤ 4200) (hl : l ≤ 4200) {fs : FS} {d h : Nat} (hfs : okS K F N S I X Lt n l fs (d + 1) h) {hv v m p a k : Nat} {c e u r s' t : Nat → Nat} (hhv : hv ≤ 23) (hvn : v < n) (hF : F v = nI p) (hm : m ≤ n) (hka : k + p < a) (hp : a + 1 - p ≤ 4100) (hI : I v = (if k = 0 then -1 else nI (c 0))) (hO : kidsO (Val K F N S I X l hv) (keyV K F N S l) X v m p a k c e u r s' t) {s0 sh lk kc dn nx sz : Nat} {So Na Wi Ki Ma Fa kS kN kD kX Fi So0 Na0 Wi0 Ki0 : Nat → Int32} {fl pl : Int32} (hsh : sh = s0 + 1) (h60 : 6 ≤ s0) (hT : strN K N S n l nx sz) (hpre : preS (strN K N S n l) (valN K F N S I X n l) sh lk kc dn So Na kD Fi kS) (hbud : 2 * kc + (a + 1 - p) ≤ 4100) (hSo : So s0 = 11) (hNa : Na s0 = nI nx) (hKi : Ki s0 = -1)
    (hag : ∀ i, i < s0 → So0 i = So i ∧ Na0 i = Na i ∧ Wi0 i = Wi i ∧ Ki0 i = Ki i) :
    RES (fun g => m_X9_fields fs fl pl (ov n K (g.1 0)) (ov n F (g.1 1)) (ov n N g.2) (ov n S (g.1 2)) (ov n I (g.1 3)) (ov n X (g.1 4)) (ov l Lt (g.1 5)) (nI sh) (nI lk) (ov sh So (g.1 7)) (ov sh Na (g.1 8)) (ow sh Wi (g.1 9)) (ov sh Ki (g.1 10)) (ow sh Ma (g.1 11)) (ow sh Fa (g.1 12)) (nI kc) (ov kc kS (g.1 13)) (ov kc kN (g.1 14)) (ov kc kD (g.1 15)) (ov kc kX (g.1 16)) (nI dn) (ov dn Fi (g.1 17)) (nI s0) (nI v) (nI d)) fpC (fun _ w => ∃ jf, jf < k ∧ StrIs K N S Lt n l (c jf) 60 ∧ u jf + 8 ≤ r jf ∧ postF (strN K N S n l) (valN K F N S I X n l) h (t jf - s' jf) sz s0 kc dn So0 Na0 Wi0 Ki0 kS kN kD kX Fi fl pl w) := by
  subst hsh
  obtain ⟨y, hy, hy2⟩ := hO.mem (w := 60) (Lt := Lt) (by decide) hn hl hvn hm (by omega) hI
  simp only [m_X9_fields, hy2, Option.bind_some]
  rcases hy with rfl | ⟨jf, hjf, rfl, hjf2, hjf3⟩
  · simp only [if_pos (show (-1 : Int32) < 0 by decide), m_X9_fields_21, bd_go (show v < 4200 by omega) (by decide), bd_gc (show v < 4200 by omega) (by decide), nI_clamp (show v < 2 ^ 31 by omega), ov_lt hvn, hF, need_0, try_e]
    exact RES.er (fun g => rfl)
  · obtain ⟨q0, q1, q2, q2', q3, q4, q5, q6, q7, q8, q9, q10⟩ := hO.1 jf hjf
    have l60 : lenS.getD 60 0 = 6 := by decide +kernel
    rw [l60] at hjf3
    obtain ⟨p1, p2, p3, p4, p5, p6, p7⟩ := hpre
    simp only [if_neg (nI_pos (show c jf + 1 < 2 ^ 31 by omega)), m_X9_fields_21, bd_go (show v < 4200 by omega) (by decide), bd_gc (show v < 4200 by omega) (by decide), nI_clamp (show v < 2 ^ 31 by omega), need_1, try_o, bd_go (show c jf + 1 < 4200 by omega) (by decide), bd_gc (show c jf + 1 < 4200 by omega) (by decide), nI_clamp (show c jf + 1 < 2 ^ 31 by omega), ov_lt (show c jf + 1 < n by omega), m_X9_fields_60]
    have her : ∀ {Q : Unit → (Gs → TS) → Prop}, RES (fun g => m_X9_fields_61 fs (ov n K (g.1 0)) (ov n F (g.1 1)) (ov n N g.2) (ov n S (g.1 2)) (ov n I (g.1 3)) (ov n X (g.1 4)) (ov l Lt (g.1 5)) fl pl (nI (s0 + 1)) (nI lk) (ov (s0 + 1) So (g.1 7)) (ov (s0 + 1) Na (g.1 8)) (ow (s0 + 1) Wi (g.1 9)) (ov (s0 + 1) Ki (g.1 10)) (ow (s0 + 1) Ma (g.1 11)) (ow (s0 + 1) Fa (g.1 12)) (nI kc) (ov kc kS (g.1 13)) (ov kc kN (g.1 14)) (ov kc kD (g.1 15)) (ov kc kX (g.1 16)) (nI dn) (ov dn Fi (g.1 17)) (nI s0) (nI d) (nI (c jf + 1)) 0) fpC Q := by
      intro Q
      simp only [m_X9_fields_61, bd_go (show c jf + 1 < 4200 by omega) (by decide), bd_gc (show c jf + 1 < 4200 by omega) (by decide), nI_clamp (show c jf + 1 < 2 ^ 31 by omega), ov_lt (show c jf + 1 < n by omega), q1.basic.2.2, need_0, try_e]
      exact RES.er (fun g => rfl)
    refine RES.ite (fun hK1 => ?_) (fun _ => her)
    obtain ⟨h2, a2, k2, c2, e2, u2, t2, rfl, ha2, hka2, hS2, hI2, hL2⟩ := q1.lst hK1
    simp only [hS2]
    refine RES.ite (fun _ => her) (fun h33 => ?_)
    have hk32 : k2 ≤ 32 := by
      apply Nat.le_of_not_lt
      intro q
      exact h33 (nI_le (a := 33) q (by omega))
    have hst : (if k2 = 0 then (-1 : Int32) else nI (c2 0)) = (if 0 = k2 then -1 else nI (c2 0)) := by
      by_cases h0 : k2 = 0
      · rw [if_pos h0, if_pos h0.symm]
      · rw [if_neg h0, if_neg (fun q => h0 q.symm)]
    simp only [m_X9_fields_61, bd_go (show c jf + 1 < 4200 by omega) (by decide), bd_gc (show c jf + 1 < 4200 by omega) (by decide), nI_clamp (show c jf + 1 < 2 ^ 31 by omega), need_1, try_o, ov_lt (show c jf + 1 < n by omega), hI2, hst]
    refine (fld_go hn hl hfs (show h2 ≤ 24 by omega) (show e jf ≤ n by omega) hk32 hka2 hL2 h60 hT (kc0 := kc) (dn0 := dn) (So0 := So0) (Na0 := Na0) (Wi0 := Wi0) (Ki0 := Ki0) (kS0 := kS) (kN0 := kN) (kD0 := kD) (kX0 := kX) (Fi0 := Fi) (by omega) sr_fuel 0 (s0 + 1) lk kc dn So Na Wi Ki Ma Fa kS kN kD kX Fi id (fun _ => s0 + 1) id (fun _ => 0) (by omega) (by unfold sr_fuel; omega) ⟨p1, p2, p3, p4, p5, p6, p7⟩ (by omega) (Nat.le_refl _) (Nat.le_refl _) (by omega) ⟨hag, fun _ _ => ⟨rfl, rfl, rfl, rfl⟩, fun _ _ => rfl⟩ hSo hNa hKi rfl rfl rfl (fun h0 => ?_) (fun q => ?_) (fun j j' _ hj => absurd hj (Nat.not_lt_zero _)) (fun j hj => absurd hj (Nat.not_lt_zero _))).mono ?_
    · have := (hL2.1 0 h0).2.2.2.2.2.1
      omega
    · omega
    · intro _ w hw
      refine ⟨jf, hjf, hjf2, by omega, ?_⟩
      rw [show t jf - s' jf = a2 + 1 - s' jf by omega]
      exact hw
theorem lgc {z : Int64} (h1 : ¬ lg_cmp z 0 < 0) (h2 : ¬ 0 < lg_cmp z 64) : ∃ d : Nat, d ≤ 64 ∧ z = lN d := by
  have a1 : 0 ≤ z.toInt := by
    unfold lg_cmp at h1
    by_cases q : z > 0
    · have := Int64.lt_iff_toInt_lt.mp q
      rw [show (0 : Int64).toInt = 0 by decide] at this
      omega
    · rw [if_neg q] at h1
      by_cases q2 : z = 0
      · subst q2; decide
      · rw [if_neg q2] at h1
        exact absurd (by decide) h1
  have a2 : z.toInt ≤ 64 := by
    unfold lg_cmp at h2
    by_cases q : z > 64
    · rw [if_pos q] at h2
      exact absurd (by decide) h2
    · have : ¬ (64 : Int64).toInt < z.toInt := fun h => q (Int64.lt_iff_toInt_lt.mpr h)
      rw [show (64 : Int64).toInt = 64 by decide] at this
      omega
  refine ⟨z.toInt.toNat, by omega, Int64.toInt_inj.mp ?_⟩
  rw [lN_toInt (by omega)]
  omega
theorem lN_9 {d : Nat} (h : d ≤ 64) : (9 < d → (9 : Int64) < lN d) := by
  intro q
  exact (lN_lt (a := 9) (by omega) (by omega)).mpr q
theorem Val.num {K F S I X : Nat → Int32} {N : Nat → Int64} {l h v m p q : Nat} (hv : Val K F N S I X l h v m p q) (h3 : K v = 3) : 9 < N v → p + 2 ≤ q := by
  have leaf : leafV K F N S l v m p q → 9 < N v → p + 2 ≤ q := by
    rintro ⟨-, -, -, ⟨hk, -⟩ | ⟨-, hk⟩ | hk | hk | hk⟩
    · rw [h3] at hk; exact absurd hk (by decide)
    · exact hk
    all_goals rw [h3] at hk; exact absurd hk (by decide)
  cases h with
  | zero => exact leaf hv
  | succ h =>
    rcases hv with hv | ⟨hk, -⟩ | ⟨hk, -⟩
    · exact leaf hv
    all_goals rw [h3] at hk; exact absurd hk (by decide)
theorem W3 {W : Nat → Nat} {P : Nat → Nat → Prop} : ∀ m, W 0 = 0 → (∀ i, i < m → ∃ sy, W (i + 1) = W i + sy + 3) → 3 * m ≤ W m := by
  intro m
  induction m with
  | zero => intro h _; omega
  | succ m ih =>
    intro h0 h
    have := ih h0 (fun i hi => h i (by omega))
    obtain ⟨sy, e⟩ := h m (by omega)
    omega
theorem shOK_push {T : Nat → Nat → Prop} {So Na : Nat → Int32} {sh : Nat} {y nm : Int32} (h6 : 6 ≤ sh) (h : shOK T So Na sh) (hy : ((y = 6 ∨ y = 7 ∨ y = 8) ∧ nm = -1) ∨ ((y = 9 ∨ y = 10 ∨ y = 11) ∧ ∃ x sz, nm = nI x ∧ T x sz)) : shOK T (upd So sh y) (upd Na sh nm) (sh + 1) := by
  refine ⟨fun s hs => by rw [pk_un (by omega)]; exact h.1 s hs, fun s s6 hs => ?_⟩
  by_cases e : s = sh
  · subst e; rw [pk_us, pk_us]; exact hy
  · rw [pk_un e, pk_un e]; exact h.2 s s6 (by omega)
theorem named_ok {K F S I X Lt : Nat → Int32} {N : Nat → Int64} {n l : Nat} (hn : n ≤ 4200) (hl : l ≤ 4200) {fs : FS} {d h : Nat} (hfs : okS K F N S I X Lt n l fs (d + 1) h) {hv v m p a k : Nat} {c e u r s' t : Nat → Nat} (hhv : hv ≤ 23) (hvn : v < n) (hF : F v = nI p) (hm : m ≤ n) (hka : k + p < a) (hp : a + 1 - p ≤ 4100) (hI : I v = (if k = 0 then -1 else nI (c 0))) (hO : kidsO (Val K F N S I X l hv) (keyV K F N S l) X v m p a k c e u r s' t) {jt sh lk kc dn : Nat} {So Na Wi Ki Ma Fa kS kN kD kX Fi : Nat → Int32} {fl pl br : Int32} (hjt : jt < k) (hjt2 : StrIs K N S Lt n l (c jt) 48) (hjt3 : u jt + 6 ≤ r jt)
    (ht : StrIs K N S Lt n l (c jt + 1) 53 ∨ StrIs K N S Lt n l (c jt + 1) 54 ∨ StrIs K N S Lt n l (c jt + 1) 55) (hpre : preS (strN K N S n l) (valN K F N S I X n l) sh lk kc dn So Na kD Fi kS) (hlk : sh < 6 + lk) (hbud : 2 * kc + (a + 1 - p) ≤ 4100) :
    RES (fun g => m_X9_named fs fl pl (ov n K (g.1 0)) (ov n F (g.1 1)) (ov n N g.2) (ov n S (g.1 2)) (ov n I (g.1 3)) (ov n X (g.1 4)) (ov l Lt (g.1 5)) (nI sh) (nI lk) (ov sh So (g.1 7)) (ov sh Na (g.1 8)) (ow sh Wi (g.1 9)) (ov sh Ki (g.1 10)) (ow sh Ma (g.1 11)) (ow sh Fa (g.1 12)) (nI kc) (ov kc kS (g.1 13)) (ov kc kN (g.1 14)) (ov kc kD (g.1 15)) (ov kc kX (g.1 16)) (nI dn) (ov dn Fi (g.1 17)) (nI v) (nI (c jt + 1)) (nI d)) fpC (postS (strN K N S n l) (valN K F N S I X n l) (h + 1) (a + 1 - p) sh kc dn So Na Wi Ki kS kN kD kX Fi br fl pl) := by
  obtain ⟨p1, p2, p3, p4, p5, p6, p7⟩ := hpre
  have hmem : ∀ w, w < 75 → _ := fun w hw => hO.mem (w := w) (Lt := Lt) hw hn hl hvn hm (show k ≤ 5000 by omega) hI
  obtain ⟨t0, t1, t2, t2', t3, t4, t5, t6, t7, t8, t9, t10⟩ := hO.1 jt hjt
  have htr := t1.row (n := n) (by omega)
  obtain ⟨yn, hyn, hyn2⟩ := hmem 56 (by decide)
  simp only [m_X9_named, hyn2, Option.bind_some]
  have her8 : ∀ {x : Int32} {Q : Int32 → (Gs → TS) → Prop}, RES (fun g => m_X9_named_30 fs (ov n K (g.1 0)) (ov n F (g.1 1)) (ov n N g.2) (ov n S (g.1 2)) (ov n I (g.1 3)) (ov n X (g.1 4)) (ov l Lt (g.1 5)) fl pl (nI sh) (nI lk) (ov sh So (g.1 7)) (ov sh Na (g.1 8)) (ow sh Wi (g.1 9)) (ov sh Ki (g.1 10)) (ow sh Ma (g.1 11)) (ow sh Fa (g.1 12)) (nI kc) (ov kc kS (g.1 13)) (ov kc kN (g.1 14)) (ov kc kD (g.1 15)) (ov kc kX (g.1 16)) (nI dn) (ov dn Fi (g.1 17)) (nI v) (nI (c jt + 1)) (nI d) x) fpC Q := by
    intro x Q
    simp only [m_X9_named_30, m_X9_named_31, bd_go (show v < 4200 by omega) (by decide), bd_gc (show v < 4200 by omega) (by decide), nI_clamp (show v < 2 ^ 31 by omega), ov_lt hvn, hF, need_0, try_e]
    exact RES.er (fun g => rfl)
  rcases hyn with rfl | ⟨jn, hjn, rfl, hjn2, hjn3⟩
  · simp only [if_pos (show (-1 : Int32) < 0 by decide)]
    exact her8
  obtain ⟨n0, n1, n2, n2', n3, n4, n5, n6, n7, n8, n9, n10⟩ := hO.1 jn hjn
  have l56 : lenS.getD 56 0 = 4 := by decide +kernel
  rw [l56] at hjn3
  simp only [if_neg (nI_pos (show c jn + 1 < 2 ^ 31 by omega)), bd_go (show c jn + 1 < 4200 by omega) (by decide), bd_gc (show c jn + 1 < 4200 by omega) (by decide), nI_clamp (show c jn + 1 < 2 ^ 31 by omega), ov_lt (show c jn + 1 < n by omega)]
  refine RES.ite (fun hK2 => ?_) (fun _ => her8)
  obtain ⟨sy, hsy, hsyb⟩ := n1.str hK2 (show e jn ≤ n by omega)
  have hsr : K (c jn + 1) = 2 → ∃ sz, strN K N S n l (c jn + 1) sz := fun _ => ⟨sy, hsy⟩
  have her9 : ∀ {Q : Int32 → (Gs → TS) → Prop}, RES (fun g => m_X9_named_128 fs (ov n K (g.1 0)) (ov n F (g.1 1)) (ov n N g.2) (ov n S (g.1 2)) (ov n I (g.1 3)) (ov n X (g.1 4)) (ov l Lt (g.1 5)) fl pl (nI sh) (nI lk) (ov sh So (g.1 7)) (ov sh Na (g.1 8)) (ow sh Wi (g.1 9)) (ov sh Ki (g.1 10)) (ow sh Ma (g.1 11)) (ow sh Fa (g.1 12)) (nI kc) (ov kc kS (g.1 13)) (ov kc kN (g.1 14)) (ov kc kD (g.1 15)) (ov kc kX (g.1 16)) (nI dn) (ov dn Fi (g.1 17)) (nI v) (nI (c jt + 1)) (nI d) (nI (c jn + 1))) fpC Q := by
    intro Q
    simp only [m_X9_named_128, m_X9_named_129, bd_go (show c jn + 1 < 4200 by omega) (by decide), bd_gc (show c jn + 1 < 4200 by omega) (by decide), nI_clamp (show c jn + 1 < 2 ^ 31 by omega), ov_lt (show c jn + 1 < n by omega), n1.basic.2.2, need_0, try_e]
    exact RES.er (fun g => rfl)
  obtain ⟨bn, hbn, hbn2⟩ := nm_ok (Lt := Lt) hsy.1 hn hl hsr
  obtain ⟨bw, hbw, hbw2⟩ := word_ok (Lt := Lt) hsy.1 hn hl hsr
  obtain ⟨bd, hbd, hbd2⟩ := def_ok (Lt := Lt) (Na := Na) (sh := sh) hn hl hsy p1 (by omega) (fun s s6 hs => by
    rcases p5.2 s s6 hs with ⟨-, q⟩ | ⟨-, x, sz, q1, q2⟩
    · exact Or.inl q
    · exact Or.inr ⟨x, sz, q1, q2⟩)
  simp only [m_X9_named_31, bd_go (show v < 4200 by omega) (by decide), bd_gc (show v < 4200 by omega) (by decide), nI_clamp (show v < 2 ^ 31 by omega), need_1, try_o, hbn2, hbw2, hbd2, Option.bind_some, is_eq (show 49 < 75 by decide) hsy.1 hn hl hsr, is_eq (show 50 < 75 by decide) hsy.1 hn hl hsr, is_eq (show 53 < 75 by decide) hsy.1 hn hl hsr, is_eq (show 54 < 75 by decide) hsy.1 hn hl hsr, is_eq (show 55 < 75 by decide) hsy.1 hn hl hsr]
  refine RES.ite (fun _ => her9) (fun _ => RES.ite (fun _ => her9) (fun _ => RES.ite (fun _ => RES.ite (fun _ => RES.ite (fun _ => RES.ite (fun _ => RES.ite (fun _ => RES.ite (fun _ => her9) (fun _ => ?_)) (fun _ => her9)) (fun _ => her9)) (fun _ => her9)) (fun _ => her9)) (fun _ => her9)))
  have hnt : jn ≠ jt := by
    intro q
    subst q
    have := StrIs.same (by decide) (by decide) hl hjn2 hjt2
    exact absurd (this.2 0 (by decide)) (by decide +kernel)
  have key : ∀ (w len : Nat), w < 75 → lenS.getD w 0 = len → StrIs K N S Lt n l (c jt + 1) w → s' jt + len + 2 ≤ t jt := by
    intro w len hw hlen hst
    obtain ⟨sz, z1, z2⟩ := t1.str hst.2.1 (show e jt ≤ n by omega)
    have := len_lt w hw
    have q := z1.2.2.1.symm.trans hst.2.2.1
    have := z1.2.2.2
    obtain ⟨st, -, hle⟩ := this
    have := (nI_eq (by omega) (by omega)).mp q
    omega
  simp only [m_X9_named_129, bd_go (show c jn + 1 < 4200 by omega) (by decide), bd_gc (show c jn + 1 < 4200 by omega) (by decide), nI_clamp (show c jn + 1 < 2 ^ 31 by omega), need_1, try_o, is_eq (show 53 < 75 by decide) htr.1 hn hl htr.2, is_eq (show 54 < 75 by decide) htr.1 hn hl htr.2, Option.bind_some]
  have hsh : sh < 140 := by omega
  refine RES.ite (fun h53 => RES.ite (fun h54 => ?_) (fun h54 => ?_)) (fun h53 => ?_)
  · -- a record
    have h55 : StrIs K N S Lt n l (c jt + 1) 55 := by
      rcases ht with q | q | q
      · rw [isV_t q] at h53; exact absurd h53 (by decide)
      · rw [isV_t q] at h54; exact absurd h54 (by decide)
      · exact q
    have htl := key 55 6 (by decide) (by decide +kernel) h55
    simp only [m_X9_named_179, shape_eq p1 hsh, Option.bind_some, bd_go (show sh < 140 by omega) (by decide), bd_gc (show sh < 140 by omega) (by decide), nI_clamp (show sh < 2 ^ 31 by omega), ov_lt (show sh < sh + 1 by omega), pk_us, if_neg (show ¬ (11 : Int32) = 9 by decide), if_neg (show ¬ (11 : Int32) = 10 by decide), ov_up (show sh < sh + 1 by omega), upd_upd]
    refine RES.try (fields_ok hn hl hfs hhv hvn hF hm hka hp hI hO (s0 := sh) (sh := sh + 1) (lk := lk) (kc := kc) (dn := dn) (nx := c jn + 1) (sz := sy) (So0 := So) (Na0 := Na) (Wi0 := Wi) (Ki0 := Ki) rfl p1 hsy ⟨by omega, by omega, p3, p4, shOK_push p1 p5 (Or.inr ⟨Or.inr (Or.inr rfl), _, sy, rfl, hsy⟩), p6, fun j hj => by
      obtain ⟨x, y, x1, x2, x3, x4⟩ := p7 j hj
      exact ⟨x, y, x1, x2, x3, by omega⟩⟩ hbud pk_us pk_us pk_us (fun i hi => ⟨by rw [pk_un (by omega)], by rw [pk_un (by omega)], by rw [pk_un (by omega)], by rw [pk_un (by omega)]⟩)) ?_ (fun g u => rfl)
    rintro _ _ ⟨jf, hjf, hjf2, hjf3, sh', lk', kc', dn', w, So', Na', Wi', Ki', Ma', Fa', kS', kN', kD', kX', Fi', rfl, r1, r2, r3, r4, r5, r6, r7, hcre, hw, hSo'⟩
    dsimp only
    have h1 : jn ≠ jf := by
      intro q
      subst q
      have := StrIs.same (by decide) (by decide) hl hjn2 hjf2
      exact absurd (this.2 0 (by decide)) (by decide +kernel)
    have h2 : jt ≠ jf := by
      intro q
      subst q
      have := StrIs.same (by decide) (by decide) hl hjt2 hjf2
      exact absurd (this.2 0 (by decide)) (by decide +kernel)
    have hb := mem3 hO hjn hjt hjf hnt h1 h2
    obtain ⟨-, -, -, -, -, -, -, f6, f7, f8, f9, f10⟩ := hO.1 jf hjf
    exact RES.ok ⟨sh, sh', lk', kc', dn', 39 + sy + w, So', Na', Wi', Ki', Ma', Fa', kS', kN', kD', kX', Fi', rfl, rfl, by omega, r2, r3, r4, by omega, r6, r7, Or.inr ⟨rfl, r1, hcre⟩, by omega, fun _ => by rw [hSo']; decide⟩
  · -- an enum
    have htl := key 54 4 (by decide) (by decide +kernel) (isV_n h54)
    simp only [m_X9_named_179, shape_eq p1 hsh, Option.bind_some, bd_go (show sh < 140 by omega) (by decide), bd_gc (show sh < 140 by omega) (by decide), nI_clamp (show sh < 2 ^ 31 by omega), ov_lt (show sh < sh + 1 by omega), pk_us, if_neg (show ¬ (10 : Int32) = 9 by decide), if_true, ov_up (show sh < sh + 1 by omega), upd_upd]
    refine RES.try (symbols_ok hn hl hhv hvn hF hm hka hp hI hO p1 (show sh < sh + 1 by omega) (show sh + 1 ≤ 140 by omega) (show kc ≤ 2100 by omega) pk_us) ?_ (fun g u => rfl)
    rintro _ _ ⟨js, m', lim, hjs, hjs2, hjs3, hjs4, hm0, hm32, Ki', Ma', Fa', kS', kN', kD', kX', W, rfl, k1, k2, aS, aN, aD, aX, hD, hW0, hWl, hch⟩
    dsimp only
    have h1 : jn ≠ js := by
      intro q
      subst q
      have := StrIs.same (by decide) (by decide) hl hjn2 hjs2
      exact absurd (this.2 0 (by decide)) (by decide +kernel)
    have h2 : jt ≠ js := by
      intro q
      subst q
      have := StrIs.same (by decide) (by decide) hl hjt2 hjs2
      exact absurd (this.2 0 (by decide)) (by decide +kernel)
    have hb := mem3 hO hjn hjt hjs hnt h1 h2
    obtain ⟨-, -, -, -, -, -, -, f6, f7, f8, f9, f10⟩ := hO.1 js hjs
    have hW3 : 3 * m' ≤ W m' := W3 (P := fun _ _ => True) m' hW0 (fun i hi => by
      obtain ⟨-, y, sy, -, -, q⟩ := hch i hi
      exact ⟨sy, q⟩)
    refine RES.ok ⟨sh, sh + 1, lk, kc + m', dn, 38 + sy + (W m' - 1), upd So sh 10, upd Na sh (nI (c jn + 1)), upd Wi sh 0, Ki', Ma', Fa', kS', kN', kD', kX', Fi, rfl, rfl, by omega, by omega, Nat.le_refl _, by omega, by omega, ⟨by omega, by omega, p3, by omega, shOK_push p1 p5 (Or.inr ⟨Or.inr (Or.inl rfl), _, sy, rfl, hsy⟩), fun j hj => ?_, fun j hj => ?_⟩, ⟨fun i hi => ⟨by rw [pk_un (by omega)], by rw [pk_un (by omega)], by rw [pk_un (by omega)], by rw [k2 i (by omega), pk_un (by omega)]⟩, fun i hi => ⟨aS i hi, aN i hi, aD i hi, aX i hi⟩, fun _ _ => rfl⟩, Or.inr ⟨rfl, Nat.lt_succ_self _, Or.inr (Or.inr (Or.inr (Or.inl ⟨pk_us, rfl, c jn + 1, sy, m', fun i => kc + i, W, pk_us, hsy, ⟨hm0, hm32⟩, k1, hW0, rfl, fun i hi => ?_⟩)))⟩, by omega, fun _ => by rw [pk_us]; decide⟩
    · by_cases hj2 : j < kc
      · rw [← aD j hj2]; exact p6 j hj2
      · exact Or.inl (hD j (by omega) hj)
    · obtain ⟨x, y, x1, x2, x3, x4⟩ := p7 j hj
      exact ⟨x, y, by omega, x2, by rw [← aS x x1]; exact x3, by omega⟩
    · obtain ⟨z1, y, sy', z2, z3, z4⟩ := hch i hi
      exact ⟨Nat.le_add_right _ _, Nat.add_lt_add_left hi _, z1, y, sy', z2, z3, z4⟩
  · -- a fixed
    have htl := key 53 5 (by decide) (by decide +kernel) (isV_n h53)
    obtain ⟨ys, hys, hys2⟩ := hmem 57 (by decide)
    simp only [m_X9_named_179, shape_eq p1 hsh, Option.bind_some, bd_go (show sh < 140 by omega) (by decide), bd_gc (show sh < 140 by omega) (by decide), nI_clamp (show sh < 2 ^ 31 by omega), ov_lt (show sh < sh + 1 by omega), pk_us, if_true, ov_up (show sh < sh + 1 by omega), upd_upd, hys2]
    rcases hys with rfl | ⟨js, hjs, rfl, hjs2, hjs3⟩
    · simp only [if_pos (show (-1 : Int32) < 0 by decide), m_X9_named_225, bd_go (show v < 4200 by omega) (by decide), bd_gc (show v < 4200 by omega) (by decide), nI_clamp (show v < 2 ^ 31 by omega), ov_lt hvn, hF, need_0, try_e]
      exact RES.er (fun g => rfl)
    have l57 : lenS.getD 57 0 = 4 := by decide +kernel
    rw [l57] at hjs3
    obtain ⟨f0, f1, f2, f2', f3, f4, f5, f6, f7, f8, f9, f10⟩ := hO.1 js hjs
    simp only [if_neg (nI_pos (show c js + 1 < 2 ^ 31 by omega)), m_X9_named_225, m_X9_named_278, bd_go (show v < 4200 by omega) (by decide), bd_gc (show v < 4200 by omega) (by decide), nI_clamp (show v < 2 ^ 31 by omega), need_1, try_o, bd_go (show c js + 1 < 4200 by omega) (by decide), bd_gc (show c js + 1 < 4200 by omega) (by decide), nI_clamp (show c js + 1 < 2 ^ 31 by omega), ov_lt (show c js + 1 < n by omega)]
    have her : ∀ {So1 Na1 Wi1 Ki1 Ma1 Fa1 : Nat → Int32} {Q : Int32 → (Gs → TS) → Prop}, RES (fun g => m_X9_named_279 fs (ov n K (g.1 0)) (ov n F (g.1 1)) (ov n N g.2) (ov n S (g.1 2)) (ov n I (g.1 3)) (ov n X (g.1 4)) (ov l Lt (g.1 5)) fl pl (nI (sh + 1)) (nI lk) (ov (sh + 1) So1 (g.1 7)) (ov (sh + 1) Na1 (g.1 8)) (ow (sh + 1) Wi1 (g.1 9)) (ov (sh + 1) Ki1 (g.1 10)) (ow (sh + 1) Ma1 (g.1 11)) (ow (sh + 1) Fa1 (g.1 12)) (nI kc) (ov kc kS (g.1 13)) (ov kc kN (g.1 14)) (ov kc kD (g.1 15)) (ov kc kX (g.1 16)) (nI dn) (ov dn Fi (g.1 17)) (nI sh) (nI (c js + 1)) 0) fpC Q := by
      intro So1 Na1 Wi1 Ki1 Ma1 Fa1 Q
      simp only [m_X9_named_279, bd_go (show c js + 1 < 4200 by omega) (by decide), bd_gc (show c js + 1 < 4200 by omega) (by decide), nI_clamp (show c js + 1 < 2 ^ 31 by omega), ov_lt (show c js + 1 < n by omega), f1.basic.2.2, need_0, try_e]
      exact RES.er (fun g => rfl)
    refine RES.ite (fun hK3 => RES.ite (fun _ => her) (fun hz1 => RES.ite (fun _ => her) (fun hz2 => ?_))) (fun _ => her)
    obtain ⟨dd, hdd, hz⟩ := lgc hz1 hz2
    have h1 : jn ≠ js := by
      intro q
      subst q
      have := StrIs.same (by decide) (by decide) hl hjn2 hjs2
      exact absurd (this.2 0 (by decide)) (by decide +kernel)
    have h2 : jt ≠ js := by
      intro q
      subst q
      have := StrIs.same (by decide) (by decide) hl hjt2 hjs2
      exact absurd (this.2 0 (by decide)) (by decide +kernel)
    have hb := mem3 hO hjn hjt hjs hnt h1 h2
    have hdig : s' js + (if 9 < dd then 2 else 1) ≤ t js := by
      by_cases q : 9 < dd
      · rw [if_pos q]
        exact f1.num hK3 (by rw [hz]; exact lN_9 hdd q)
      · rw [if_neg q]; omega
    simp only [m_X9_named_279, bd_go (show c js + 1 < 4200 by omega) (by decide), bd_gc (show c js + 1 < 4200 by omega) (by decide), nI_clamp (show c js + 1 < 2 ^ 31 by omega), need_1, try_o, ov_lt (show c js + 1 < n by omega), hz, lN_i, bd_go (show sh < 140 by omega) (by decide), bd_gc (show sh < 140 by omega) (by decide), nI_clamp (show sh < 2 ^ 31 by omega), ow_up p1 (show sh < sh + 1 by omega), upd_upd]
    exact RES.ok ⟨sh, sh + 1, lk, kc, dn, 34 + sy + (if 9 < dd then 2 else 1), upd So sh 9, upd Na sh (nI (c jn + 1)), upd Wi sh (nI dd), upd Ki sh (-1), upd Ma sh 0, upd Fa sh (-1), kS, kN, kD, kX, Fi, rfl, rfl, by omega, Nat.le_refl _, Nat.le_refl _, by omega, by omega, ⟨by omega, by omega, p3, p4, shOK_push p1 p5 (Or.inr ⟨Or.inl rfl, _, sy, rfl, hsy⟩), p6, fun j hj => by
      obtain ⟨x, y, x1, x2, x3, x4⟩ := p7 j hj
      exact ⟨x, y, x1, x2, x3, by omega⟩⟩, ⟨fun i hi => ⟨by rw [pk_un (by omega)], by rw [pk_un (by omega)], by rw [pk_un (by omega)], by rw [pk_un (by omega)]⟩, fun _ _ => ⟨rfl, rfl, rfl, rfl⟩, fun _ _ => rfl⟩, Or.inr ⟨rfl, Nat.lt_succ_self _, Or.inr (Or.inr (Or.inl ⟨pk_us, rfl, c jn + 1, sy, dd, pk_us, hsy, pk_us, hdd, rfl⟩))⟩, by omega, fun _ => by rw [pk_us]; decide⟩
end
section
-- the reference's schemas
theorem arr_ok {K F S I X Lt : Nat → Int32} {N : Nat → Int64} {n l : Nat} {fs : FS} {d h : Nat} (hfs : okS K F N S I X Lt n l fs (d + 1) h) {hv x m p q len sh lk kc dn : Nat} {So Na Wi Ki Ma Fa kS kN kD kX Fi : Nat → Int32} {fl pl br y : Int32} (hhv : hv ≤ 24) (hm : m ≤ n) (hV : Val K F N S I X l hv x m p q) (hy : y = 6 ∨ y = 7) (hlen : (if y = 6 then 25 else 24) + (q - p) ≤ len) (hpre : preS (strN K N S n l) (valN K F N S I X n l) sh lk kc dn So Na kD Fi kS) (hlk : sh < 6 + lk) (hbud : 2 * kc + len ≤ 4100) :
    RES (fun g => m_X9_schemaOf_305 fs (ov n K (g.1 0)) (ov n F (g.1 1)) (ov n N g.2) (ov n S (g.1 2)) (ov n I (g.1 3)) (ov n X (g.1 4)) (ov l Lt (g.1 5)) fl pl (nI sh) (nI lk) (ov sh So (g.1 7)) (ov sh Na (g.1 8)) (ow sh Wi (g.1 9)) (ov sh Ki (g.1 10)) (ow sh Ma (g.1 11)) (ow sh Fa (g.1 12)) (nI kc) (ov kc kS (g.1 13)) (ov kc kN (g.1 14)) (ov kc kD (g.1 15)) (ov kc kX (g.1 16)) (nI dn) (ov dn Fi (g.1 17)) (nI d) (nI x) y) fpC (postS (strN K N S n l) (valN K F N S I X n l) (h + 1) len sh kc dn So Na Wi Ki kS kN kD kX Fi br fl pl) := by
  obtain ⟨p1, p2, p3, p4, p5, p6, p7⟩ := hpre
  have h24 : 24 + (q - p) ≤ len := by
    by_cases q : y = 6
    · rw [if_pos q] at hlen; omega
    · rw [if_neg q] at hlen; omega
  simp only [m_X9_schemaOf_305, shape_eq p1 (show sh < 140 by omega), Option.bind_some, addKid_0 p1 (show sh < sh + 1 by omega) (show sh + 1 ≤ 140 by omega) (show kc < 2200 by omega), nI_1]
  refine RES.try (hfs hv x m p q (sh + 1) lk (kc + 1) dn (upd So sh y) (upd Na sh (-1)) (upd Wi sh 0) (upd (upd Ki sh (-1)) sh (nI kc)) (upd (upd Ma sh 0) sh ((upd Ma sh 0) sh + 1)) (upd Fa sh (-1)) (upd kS kc (-1)) (upd kN kc (-1)) (upd kD kc (-1)) (upd kX kc (-1)) Fi fl pl 0 hhv hm hV ⟨by omega, by omega, p3, by omega, shOK_push p1 p5 (Or.inl ⟨hy.imp id Or.inl, rfl⟩), fun j hj => ?_, fun j hj => ?_⟩ (by omega) (Or.inl rfl)) ?_ (fun g u => rfl)
  · by_cases hjk : j = kc
    · subst hjk; exact Or.inl pk_us
    · rw [pk_un hjk]; exact p6 j (by omega)
  · obtain ⟨x, y, x1, x2, x3, x4⟩ := p7 j hj
    exact ⟨x, y, by omega, x2, by rw [pk_un (by omega)]; exact x3, by omega⟩
  rintro _ _ ⟨s, sh', lk', kc', dn', w, So', Na', Wi', Ki', Ma', Fa', kS', kN', kD', kX', Fi', rfl, rfl, r1, r2, r3, r4, r5, ⟨p1', p2', p3', p4', p5', p6', p7'⟩, r7, hocc, hw, -⟩
  dsimp only
  simp only [bd_go (show kc < 2200 by omega) (by decide), bd_gc (show kc < 2200 by omega) (by decide), nI_clamp (show kc < 2 ^ 31 by omega), ov_up (show kc < kc' by omega)]
  obtain ⟨e1, e2, e3, e4⟩ := r7.1 sh (Nat.lt_succ_self sh)
  obtain ⟨k1, k2, k3, k4⟩ := r7.2.1 kc (Nat.lt_succ_self kc)
  rw [pk_us] at e1 e2 e3 e4 k1 k2 k3 k4
  refine RES.ok ⟨sh, sh', lk', kc', dn', (if So' sh = 6 then 25 else 24) + w, So', Na', Wi', Ki', Ma', Fa', upd kS' kc (nI s), kN', kD', kX', Fi', rfl, rfl, by omega, by omega, r3, by omega, by omega, ⟨p1', p2', p3', p4', p5', p6', fun j hj => by
    obtain ⟨x, y, x1, x2, x3, x4⟩ := p7' j hj
    by_cases hxk : x = kc
    · exact ⟨x, s, x1, x2, by rw [hxk]; exact pk_us, hocc.lt (by omega)⟩
    · exact ⟨x, y, x1, x2, by rw [pk_un hxk]; exact x3, x4⟩⟩, ⟨fun i hi => ?_, fun i hi => ?_, fun i hi => r7.2.2 i hi⟩, Or.inr ⟨rfl, by omega, Or.inl ⟨by rw [← e1]; exact hy, s, w, e4.symm, k4.symm, by omega, pk_us, ?_, rfl⟩⟩, ?_, fun _ => ?_⟩
  · obtain ⟨a1, a2, a3, a4⟩ := r7.1 i (by omega)
    rw [pk_un (by omega)] at a1 a2 a3 a4
    rw [pk_un (by omega)] at a4
    exact ⟨a1, a2, a3, a4⟩
  · obtain ⟨a1, a2, a3, a4⟩ := r7.2.1 i (by omega)
    rw [pk_un (by omega)] at a1 a2 a3 a4
    exact ⟨by rw [pk_un (by omega)]; exact a1, a2, a3, a4⟩
  · exact Occ.keep h _ _ _ _ _ _ (by omega) hocc (fun _ _ => ⟨rfl, rfl⟩) (fun _ _ _ => ⟨rfl, rfl⟩) (fun i i1 i2 => ⟨by rw [pk_un (by omega)], rfl, rfl⟩)
  · rw [← e1]; omega
  · rw [← e1]
    rcases hy with rfl | rfl <;> decide
theorem sch_ok {K F S I X Lt : Nat → Int32} {N : Nat → Int64} {n l : Nat} (hn : n ≤ 4200) (hl : l ≤ 4200) : ∀ (D d : Nat), d ≤ 16 → 16 - d < D → okS K F N S I X Lt n l (m_X9_schemaOf D) d (16 - d) := by
  intro D
  induction D with
  | zero => intro d _ hf; exact absurd hf (Nat.not_lt_zero _)
  | succ D ih =>
    intro d hd hf hv v m p q sh lk kc dn So Na Wi Ki Ma Fa kS kN kD kX Fi fl pl br hhv hm hV hpre hbud hbr
    have hvn : v < n := Nat.lt_of_lt_of_le hV.basic.1 hm
    have hFv := hV.basic.2.2
    obtain ⟨p1, p2, p3, p4, p5, p6, p7⟩ := hpre
    by_cases h128 : 128 ≤ lk
    · simp only [m_X9_schemaOf, if_pos (show (128 : Int32) ≤ nI lk from nI_le (a := 128) h128 (by omega)), m_X9_schemaOf_16, bd_go (show v < 4200 by omega) (by decide), bd_gc (show v < 4200 by omega) (by decide), nI_clamp (show v < 2 ^ 31 by omega), ov_lt hvn, hFv, need_0, try_e]
      exact RES.er (fun g => rfl)
    by_cases h16 : 16 ≤ d
    · simp only [m_X9_schemaOf, if_neg (show ¬ (128 : Int32) ≤ nI lk from nI_ge (b := 128) (by omega) (by omega)), m_X9_schemaOf_16, bd_go (show v < 4200 by omega) (by decide), bd_gc (show v < 4200 by omega) (by decide), nI_clamp (show v < 2 ^ 31 by omega), need_1, try_o, if_pos (show (16 : Int32) ≤ nI d from nI_le (a := 16) h16 (by omega)), m_X9_schemaOf_49, ov_lt hvn, hFv, need_0, try_e]
      exact RES.er (fun g => rfl)
    have hfs := ih (d + 1) (by omega) (by omega)
    have hh : 16 - d = 16 - (d + 1) + 1 := by omega
    rw [hh]
    generalize 16 - (d + 1) = h at hfs
    have hpre : preS (strN K N S n l) (valN K F N S I X n l) sh (lk + 1) kc dn So Na kD Fi kS := ⟨p1, by omega, by omega, p4, p5, p6, p7⟩
    have hNa : ∀ s, 6 ≤ s → s < sh → Na s = -1 ∨ ∃ y sy, Na s = nI y ∧ strN K N S n l y sy := fun s s6 hs => by
      rcases p5.2 s s6 hs with ⟨-, q⟩ | ⟨-, x, sz, q1, q2⟩
      · exact Or.inl q
      · exact Or.inr ⟨x, sz, q1, q2⟩
    have hword : ∀ (x j pp qq : Nat), StrIs K N S Lt n l x (42 + j) → j < 6 → (∃ sz, strN K N S n l x sz ∧ pp + sz + 2 ≤ qq) → p ≤ pp → qq ≤ q → p + 2 ≤ q → RES (fun g => some (Except.ok (nI j, ((fl, pl, nI sh, nI (lk + 1), ov sh So (g.1 7), ov sh Na (g.1 8), ow sh Wi (g.1 9), ov sh Ki (g.1 10), ow sh Ma (g.1 11), ow sh Fa (g.1 12), nI kc, ov kc kS (g.1 13), ov kc kN (g.1 14), ov kc kD (g.1 15), ov kc kX (g.1 16), nI dn, ov dn Fi (g.1 17)) : TS)))) fpC (postS (strN K N S n l) (valN K F N S I X n l) (h + 1) (q - p) sh kc dn So Na Wi Ki kS kN kD kX Fi br fl pl) := by
      rintro x j pp qq hst hj ⟨sz, hsz, hb⟩ hp1 hq1 hpq
      have hlw := len_lt (42 + j) (by omega)
      have : sz = lenS.getD (42 + j) 0 := by
        obtain ⟨-, -, z1, st, -, z2⟩ := hsz
        exact (nI_eq (by omega) (by omega)).mp (z1.symm.trans hst.2.2.1)
      refine RES.ok ⟨j, sh, lk + 1, kc, dn, wl j, So, Na, Wi, Ki, Ma, Fa, kS, kN, kD, kX, Fi, rfl, rfl, Nat.le_refl _, Nat.le_refl _, Nat.le_refl _, by omega, by omega, hpre, ⟨fun _ _ => ⟨rfl, rfl, rfl, rfl⟩, fun _ _ => ⟨rfl, rfl, rfl, rfl⟩, fun _ _ => rfl⟩, Or.inl ⟨rfl, Or.inl ⟨hj, rfl⟩⟩, by unfold wl; omega, fun _ => ?_⟩
      rw [p5.1 j hj]
      have : ∀ j, j < 6 → nI j ≠ 8 := by decide
      exact this j hj
    have href : ∀ (x s y sz pp qq : Nat), 6 ≤ s → s < sh → Na s = nI y → strN K N S n l y sz → strN K N S n l x sz → pp + sz + 2 ≤ qq → p ≤ pp → qq ≤ q → RES (fun g => some (Except.ok (nI s, ((fl, pl, nI sh, nI (lk + 1), ov sh So (g.1 7), ov sh Na (g.1 8), ow sh Wi (g.1 9), ov sh Ki (g.1 10), ow sh Ma (g.1 11), ow sh Fa (g.1 12), nI kc, ov kc kS (g.1 13), ov kc kN (g.1 14), ov kc kD (g.1 15), ov kc kX (g.1 16), nI dn, ov dn Fi (g.1 17)) : TS)))) fpC (postS (strN K N S n l) (valN K F N S I X n l) (h + 1) (q - p) sh kc dn So Na Wi Ki kS kN kD kX Fi br fl pl) := by
      intro x s y sz pp qq h6 hs hna hy hx hb hp1 hq1
      rcases p5.2 s h6 hs with ⟨-, e⟩ | ⟨hso, -⟩
      · rw [hna] at e
        have hyn := hy.1
        have : ¬ nI y < 0 := nI_pos (by omega)
        rw [e] at this
        exact absurd (by decide) this
      · refine RES.ok ⟨s, sh, lk + 1, kc, dn, sz + 2, So, Na, Wi, Ki, Ma, Fa, kS, kN, kD, kX, Fi, rfl, rfl, Nat.le_refl _, Nat.le_refl _, Nat.le_refl _, by omega, by omega, hpre, ⟨fun _ _ => ⟨rfl, rfl, rfl, rfl⟩, fun _ _ => ⟨rfl, rfl, rfl, rfl⟩, fun _ _ => rfl⟩, Or.inl ⟨rfl, Or.inr ⟨h6, hs, hso, y, sz, hna, hy, rfl⟩⟩, by omega, fun _ => ?_⟩
        rcases hso with e | e | e <;> rw [e] <;> decide
    simp only [m_X9_schemaOf, if_neg (show ¬ (128 : Int32) ≤ nI lk from nI_ge (b := 128) (by omega) (by omega)), m_X9_schemaOf_16, bd_go (show v < 4200 by omega) (by decide), bd_gc (show v < 4200 by omega) (by decide), nI_clamp (show v < 2 ^ 31 by omega), need_1, try_o, if_neg (show ¬ (16 : Int32) ≤ nI d from nI_ge (b := 16) (by omega) (by omega)), m_X9_schemaOf_49, ov_lt hvn, nI_1]
    refine RES.ite (fun hK2 => ?_) (fun hK2 => RES.ite (fun hK1 => ?_) (fun hK1 => ?_))
    · -- a string
      obtain ⟨sz, hsz, hszb⟩ := hV.str hK2 hm
      obtain ⟨bw, hbw, hbw2⟩ := word_ok (Lt := Lt) hvn hn hl (fun _ => ⟨sz, hsz⟩)
      simp only [hbw2, Option.bind_some, m_X9_schemaOf_92, m_X9_schemaOf_105, bd_go (show v < 4200 by omega) (by decide), bd_gc (show v < 4200 by omega) (by decide), nI_clamp (show v < 2 ^ 31 by omega), ov_lt hvn, hFv, need_0, need_1, try_o, try_e]
      rcases hbw with rfl | ⟨j, hj, rfl, hj2⟩
      · obtain ⟨bd, hbd, hbd2⟩ := def_ok (Lt := Lt) (Na := Na) (sh := sh) hn hl hsz p1 (by omega) hNa
        simp only [if_pos (show (-1 : Int32) < 0 by decide), hbd2, Option.bind_some]
        rcases hbd with rfl | ⟨s, y, s6, hs, rfl, hna, hy⟩
        · simp only [if_pos (show (-1 : Int32) < 0 by decide)]
          exact RES.er (fun g => rfl)
        · simp only [if_neg (nI_pos (show s < 2 ^ 31 by omega))]
          exact href v s y sz p q s6 hs hna hy hsz hszb (Nat.le_refl _) (Nat.le_refl _)
      · simp only [if_neg (nI_pos (show j < 2 ^ 31 by omega))]
        exact hword v j p q hj2 hj ⟨sz, hsz, hszb⟩ (Nat.le_refl _) (Nat.le_refl _) (by omega)
    · -- a list
      exact RES.try (uni_ok hn hl hfs hhv hm hV hK1 hpre (by omega) hbud hbr) (fun v u h => RES.ok h) (fun g u => rfl)
    · -- an object, or nothing of the kind
      by_cases hK0 : K v = 0
      case neg =>
        simp only [if_neg hK0, m_X9_schemaOf_151, bd_go (show v < 4200 by omega) (by decide), bd_gc (show v < 4200 by omega) (by decide), nI_clamp (show v < 2 ^ 31 by omega), ov_lt hvn, hFv, need_0, try_e]
        exact RES.er (fun g => rfl)
      obtain ⟨h', a, k, c, e, u, r, s', t, rfl, rfl, hka, hI, hO⟩ := hV.obj hK0
      have hmem : ∀ w, w < 75 → _ := fun w hw => hO.mem (w := w) (Lt := Lt) hw hn hl hvn hm (show k ≤ 5000 by omega) hI
      obtain ⟨yt, hyt, hyt2⟩ := hmem 48 (by decide)
      simp only [if_pos hK0, m_X9_schemaOf_151, bd_go (show v < 4200 by omega) (by decide), bd_gc (show v < 4200 by omega) (by decide), nI_clamp (show v < 2 ^ 31 by omega), need_1, try_o, hyt2, Option.bind_some]
      have her7 : ∀ {x : Int32} {Q : Int32 → (Gs → TS) → Prop}, RES (fun g => m_X9_schemaOf_191 (m_X9_schemaOf D) (ov n K (g.1 0)) (ov n F (g.1 1)) (ov n N g.2) (ov n S (g.1 2)) (ov n I (g.1 3)) (ov n X (g.1 4)) (ov l Lt (g.1 5)) fl pl (nI sh) (nI (lk + 1)) (ov sh So (g.1 7)) (ov sh Na (g.1 8)) (ow sh Wi (g.1 9)) (ov sh Ki (g.1 10)) (ow sh Ma (g.1 11)) (ow sh Fa (g.1 12)) (nI kc) (ov kc kS (g.1 13)) (ov kc kN (g.1 14)) (ov kc kD (g.1 15)) (ov kc kX (g.1 16)) (nI dn) (ov dn Fi (g.1 17)) (nI v) (nI d) x) fpC Q := by
        intro x Q
        simp only [m_X9_schemaOf_191, m_X9_schemaOf_192, bd_go (show v < 4200 by omega) (by decide), bd_gc (show v < 4200 by omega) (by decide), nI_clamp (show v < 2 ^ 31 by omega), ov_lt hvn, hFv, need_0, try_e]
        exact RES.er (fun g => rfl)
      rcases hyt with rfl | ⟨jt, hjt, rfl, hjt2, hjt3⟩
      · simp only [if_pos (show (-1 : Int32) < 0 by decide)]
        exact her7
      obtain ⟨t0, t1, t2, t2', t3, t4, t5, t6, t7, t8, t9, t10⟩ := hO.1 jt hjt
      have htn : c jt + 1 < n := by omega
      have l48 : lenS.getD 48 0 = 4 := by decide +kernel
      rw [l48] at hjt3
      simp only [if_neg (nI_pos (show c jt + 1 < 2 ^ 31 by omega)), bd_go (show c jt + 1 < 4200 by omega) (by decide), bd_gc (show c jt + 1 < 4200 by omega) (by decide), nI_clamp (show c jt + 1 < 2 ^ 31 by omega), ov_lt htn]
      refine RES.ite (fun hKt => ?_) (fun _ => her7)
      obtain ⟨sz, hsz, hszb⟩ := t1.str hKt (show e jt ≤ n by omega)
      have hsr : K (c jt + 1) = 2 → ∃ sz, strN K N S n l (c jt + 1) sz := fun _ => ⟨sz, hsz⟩
      obtain ⟨bw, hbw, hbw2⟩ := word_ok (Lt := Lt) htn hn hl hsr
      obtain ⟨bd, hbd, hbd2⟩ := def_ok (Lt := Lt) (Na := Na) (sh := sh) hn hl hsz p1 (by omega) hNa
      have hlenof : ∀ (w len : Nat), w < 75 → lenS.getD w 0 = len → StrIs K N S Lt n l (c jt + 1) w → s' jt + len + 2 ≤ t jt := by
        intro w len hw hlen hst
        have := len_lt w hw
        obtain ⟨-, -, z1, st, -, z2⟩ := hsz
        have := (nI_eq (by omega) (by omega)).mp (z1.symm.trans hst.2.2.1)
        omega
      have harr : StrIs K N S Lt n l (c jt + 1) 49 ∨ StrIs K N S Lt n l (c jt + 1) 50 → RES (fun g => m_X9_schemaOf_241 (m_X9_schemaOf D) (ov n K (g.1 0)) (ov n F (g.1 1)) (ov n N g.2) (ov n S (g.1 2)) (ov n I (g.1 3)) (ov n X (g.1 4)) (ov l Lt (g.1 5)) fl pl (nI sh) (nI (lk + 1)) (ov sh So (g.1 7)) (ov sh Na (g.1 8)) (ow sh Wi (g.1 9)) (ov sh Ki (g.1 10)) (ow sh Ma (g.1 11)) (ow sh Fa (g.1 12)) (nI kc) (ov kc kS (g.1 13)) (ov kc kN (g.1 14)) (ov kc kD (g.1 15)) (ov kc kX (g.1 16)) (nI dn) (ov dn Fi (g.1 17)) (nI v) (nI d) (nI (c jt + 1))) fpC (postS (strN K N S n l) (valN K F N S I X n l) (h + 1) (a + 1 - p) sh kc dn So Na Wi Ki kS kN kD kX Fi br fl pl) := by
        intro hst
        have one : ∀ (x5 : Int32) (w li tl : Nat), w < 75 → lenS.getD w 0 = li → (∀ ji, StrIs K N S Lt n l (c ji) w → jt ≠ ji) → s' jt + tl ≤ t jt → (if (if x5 = 0 then (7 : Int32) else 6) = 6 then 25 else 24) ≤ 6 + 1 + tl + li + 2 + 1 + 3 →
            RES (fun g => m_X9_schemaOf_265 (m_X9_schemaOf D) (ov n K (g.1 0)) (ov n F (g.1 1)) (ov n N g.2) (ov n S (g.1 2)) (ov n I (g.1 3)) (ov n X (g.1 4)) (ov l Lt (g.1 5)) fl pl (nI sh) (nI (lk + 1)) (ov sh So (g.1 7)) (ov sh Na (g.1 8)) (ow sh Wi (g.1 9)) (ov sh Ki (g.1 10)) (ow sh Ma (g.1 11)) (ow sh Fa (g.1 12)) (nI kc) (ov kc kS (g.1 13)) (ov kc kN (g.1 14)) (ov kc kD (g.1 15)) (ov kc kX (g.1 16)) (nI dn) (ov dn Fi (g.1 17)) (nI v) (nI d) x5 w (nI v)) fpC (postS (strN K N S n l) (valN K F N S I X n l) (h + 1) (a + 1 - p) sh kc dn So Na Wi Ki kS kN kD kX Fi br fl pl) := by
          intro x5 w li tl hw hli hne htl hcost
          obtain ⟨yi, hyi, hyi2⟩ := hmem w hw
          simp only [m_X9_schemaOf_265, hyi2, Option.bind_some]
          rcases hyi with rfl | ⟨ji, hji, rfl, hji2, hji3⟩
          · simp only [if_pos (show (-1 : Int32) < 0 by decide), m_X9_schemaOf_281, bd_go (show v < 4200 by omega) (by decide), bd_gc (show v < 4200 by omega) (by decide), nI_clamp (show v < 2 ^ 31 by omega), ov_lt hvn, hFv, need_0, try_e]
            exact RES.er (fun g => rfl)
          · obtain ⟨i0, i1, i2, i2', i3, i4, i5, i6, i7, i8, i9, i10⟩ := hO.1 ji hji
            have hb := mem2 hO hjt hji (hne ji hji2)
            rw [hli] at hji3
            have hgo : ∀ y : Int32, (y = 6 ∨ y = 7) → (if y = 6 then 25 else 24) ≤ 6 + 1 + tl + li + 2 + 1 + 3 → RES (fun g => m_X9_schemaOf_305 (m_X9_schemaOf D) (ov n K (g.1 0)) (ov n F (g.1 1)) (ov n N g.2) (ov n S (g.1 2)) (ov n I (g.1 3)) (ov n X (g.1 4)) (ov l Lt (g.1 5)) fl pl (nI sh) (nI (lk + 1)) (ov sh So (g.1 7)) (ov sh Na (g.1 8)) (ow sh Wi (g.1 9)) (ov sh Ki (g.1 10)) (ow sh Ma (g.1 11)) (ow sh Fa (g.1 12)) (nI kc) (ov kc kS (g.1 13)) (ov kc kN (g.1 14)) (ov kc kD (g.1 15)) (ov kc kX (g.1 16)) (nI dn) (ov dn Fi (g.1 17)) (nI d) (nI (c ji + 1)) y) fpC (postS (strN K N S n l) (valN K F N S I X n l) (h + 1) (a + 1 - p) sh kc dn So Na Wi Ki kS kN kD kX Fi br fl pl) := fun y hy hc =>
              arr_ok hfs (show h' ≤ 24 by omega) (show e ji ≤ n by omega) i1 hy (by omega) hpre (by omega) hbud
            simp only [if_neg (nI_pos (show c ji + 1 < 2 ^ 31 by omega)), m_X9_schemaOf_281, bd_go (show v < 4200 by omega) (by decide), bd_gc (show v < 4200 by omega) (by decide), nI_clamp (show v < 2 ^ 31 by omega), need_1, try_o]
            refine RES.ite (fun h5 => ?_) (fun h5 => ?_)
            · rw [if_pos h5] at hcost
              exact hgo 7 (Or.inr rfl) hcost
            · rw [if_neg h5] at hcost
              exact hgo 6 (Or.inl rfl) hcost
        simp only [m_X9_schemaOf_241, is_eq (show 49 < 75 by decide) htn hn hl hsr, Option.bind_some]
        refine RES.ite (fun h49 => ?_) (fun h49 => ?_)
        · have h50 : StrIs K N S Lt n l (c jt + 1) 50 := by
            rcases hst with q | q
            · rw [isV_t q] at h49; exact absurd h49 (by decide)
            · exact q
          refine one _ 52 6 5 (by decide) (by decide +kernel) (fun ji hq e => ?_) (hlenof 50 3 (by decide) (by decide +kernel) h50) (by rw [if_pos h49]; decide)
          subst e
          have := StrIs.same (by decide) (by decide) hl hjt2 hq
          exact absurd this.1 (by decide +kernel)
        · refine one _ 51 5 7 (by decide) (by decide +kernel) (fun ji hq e => ?_) (hlenof 49 5 (by decide) (by decide +kernel) (isV_n h49)) (by rw [if_neg h49]; decide)
          subst e
          have := StrIs.same (by decide) (by decide) hl hjt2 hq
          exact absurd this.1 (by decide +kernel)
      have hnam : StrIs K N S Lt n l (c jt + 1) 53 ∨ StrIs K N S Lt n l (c jt + 1) 54 ∨ StrIs K N S Lt n l (c jt + 1) 55 → RES (fun g => m_X9_schemaOf_372 (m_X9_schemaOf D) (ov n K (g.1 0)) (ov n F (g.1 1)) (ov n N g.2) (ov n S (g.1 2)) (ov n I (g.1 3)) (ov n X (g.1 4)) (ov l Lt (g.1 5)) fl pl (nI sh) (nI (lk + 1)) (ov sh So (g.1 7)) (ov sh Na (g.1 8)) (ow sh Wi (g.1 9)) (ov sh Ki (g.1 10)) (ow sh Ma (g.1 11)) (ow sh Fa (g.1 12)) (nI kc) (ov kc kS (g.1 13)) (ov kc kN (g.1 14)) (ov kc kD (g.1 15)) (ov kc kX (g.1 16)) (nI dn) (ov dn Fi (g.1 17)) (nI v) (nI d) (nI (c jt + 1))) fpC (postS (strN K N S n l) (valN K F N S I X n l) (h + 1) (a + 1 - p) sh kc dn So Na Wi Ki kS kN kD kX Fi br fl pl) := by
        intro hst
        simp only [m_X9_schemaOf_372]
        exact RES.try (named_ok hn hl hfs (show h' ≤ 23 by omega) hvn hFv hm hka (show a + 1 - p ≤ 4100 by omega) hI hO hjt hjt2 (show u jt + 6 ≤ r jt by omega) hst hpre (by omega) hbud) (fun v u h => RES.ok h) (fun g u => rfl)
      simp only [m_X9_schemaOf_192, bd_go (show v < 4200 by omega) (by decide), bd_gc (show v < 4200 by omega) (by decide), nI_clamp (show v < 2 ^ 31 by omega), need_1, try_o, hbw2, hbd2, Option.bind_some, is_eq (show 49 < 75 by decide) htn hn hl hsr, is_eq (show 50 < 75 by decide) htn hn hl hsr, is_eq (show 53 < 75 by decide) htn hn hl hsr, is_eq (show 54 < 75 by decide) htn hn hl hsr, is_eq (show 55 < 75 by decide) htn hn hl hsr, m_X9_schemaOf_400, bd_go (show c jt + 1 < 4200 by omega) (by decide), bd_gc (show c jt + 1 < 4200 by omega) (by decide), nI_clamp (show c jt + 1 < 2 ^ 31 by omega), ov_lt htn, t1.basic.2.2, need_0, try_e]
      rcases hbw with rfl | ⟨j, hj, rfl, hj2⟩
      · simp only [if_pos (show (-1 : Int32) < 0 by decide)]
        refine RES.ite (fun _ => RES.ite (fun _ => RES.ite (fun _ => RES.ite (fun _ => RES.ite (fun _ => ?_) (fun q => hnam (Or.inr (Or.inr (isV_n q))))) (fun q => hnam (Or.inr (Or.inl (isV_n q))))) (fun q => hnam (Or.inl (isV_n q)))) (fun q => harr (Or.inr (isV_n q)))) (fun q => harr (Or.inl (isV_n q)))
        rcases hbd with rfl | ⟨s, y, s6, hs, rfl, hna, hy⟩
        · simp only [if_pos (show (-1 : Int32) < 0 by decide)]
          exact RES.er (fun g => rfl)
        · simp only [if_neg (nI_pos (show s < 2 ^ 31 by omega))]
          exact href (c jt + 1) s y sz (s' jt) (t jt) s6 hs hna hy hsz hszb (by omega) (by omega)
      · simp only [if_neg (nI_pos (show j < 2 ^ 31 by omega))]
        exact hword (c jt + 1) j (s' jt) (t jt) hj2 hj ⟨sz, hsz, hszb⟩ (by omega) (by omega) (by omega)
end
section
-- the reference's fitting of defaults
section CREs
variable {T : Nat → Nat → Prop} {So Na Wi Ki kS kN kX : Nat → Int32} {P : Nat → Nat → Nat → Nat → Nat → Nat → Prop} {s c' k0 k1 w : Nat}
theorem Cre.arr (h : Cre T So Na Wi Ki kS kN kX P s c' k0 k1 w) (hs : So s = 6 ∨ So s = 7) : ∃ t w', Ki s = nI k0 ∧ kX k0 = -1 ∧ k0 < k1 ∧ kS k0 = nI t ∧ P t (s + 1) c' (k0 + 1) k1 w' ∧ w = (if So s = 6 then 25 else 24) + w' := by
  rcases h with ⟨-, h⟩ | ⟨h, -⟩ | ⟨h, -⟩ | ⟨h, -⟩ | ⟨h, -⟩
  · exact h
  all_goals rw [h] at hs; exact absurd hs (by decide)
theorem Cre.uni (h : Cre T So Na Wi Ki kS kN kX P s c' k0 k1 w) (hs : So s = 8) : ∃ (m : Nat) (c t b W : Nat → Nat), (0 < m ∧ m ≤ 32) ∧ Ki s = nI (c 0) ∧ t 0 = s + 1 ∧ t m = c' ∧ W 0 = 0 ∧ w = 2 + (W m - 1) ∧ ∀ i, i < m → s < t i ∧ t (i + 1) ≤ c' ∧ k0 ≤ b i ∧ b i ≤ c i ∧ c i < k1 ∧ kX (c i) = (if i + 1 = m then -1 else nI (c (i + 1))) ∧ ∃ x w', kS (c i) = nI x ∧ P x (t i) (t (i + 1)) (b i) (c i) w' ∧ So x ≠ 8 ∧ W (i + 1) = W i + w' + 1 := by
  rcases h with ⟨h, -⟩ | ⟨-, h⟩ | ⟨h, -⟩ | ⟨h, -⟩ | ⟨h, -⟩
  · rw [hs] at h; exact absurd h (by decide)
  · exact h
  all_goals rw [h] at hs; exact absurd hs (by decide)
theorem Cre.fix (h : Cre T So Na Wi Ki kS kN kX P s c' k0 k1 w) (hs : So s = 9) : c' = s + 1 ∧ ∃ x sz d, Na s = nI x ∧ T x sz ∧ Wi s = nI d ∧ d ≤ 64 ∧ w = 34 + sz + (if 9 < d then 2 else 1) := by
  rcases h with ⟨h, -⟩ | ⟨h, -⟩ | ⟨-, h⟩ | ⟨h, -⟩ | ⟨h, -⟩
  · rw [hs] at h; exact absurd h (by decide)
  · rw [h] at hs; exact absurd hs (by decide)
  · exact h
  all_goals rw [h] at hs; exact absurd hs (by decide)
theorem Cre.enm (h : Cre T So Na Wi Ki kS kN kX P s c' k0 k1 w) (hs : So s = 10) : c' = s + 1 ∧ ∃ (x sz m : Nat) (c W : Nat → Nat), Na s = nI x ∧ T x sz ∧ (0 < m ∧ m ≤ 32) ∧ Ki s = nI (c 0) ∧ W 0 = 0 ∧ w = 38 + sz + (W m - 1) ∧ ∀ i, i < m → k0 ≤ c i ∧ c i < k1 ∧ kX (c i) = (if i + 1 = m then -1 else nI (c (i + 1))) ∧ ∃ y sy, kN (c i) = nI y ∧ T y sy ∧ W (i + 1) = W i + sy + 3 := by
  rcases h with ⟨h, -⟩ | ⟨h, -⟩ | ⟨h, -⟩ | ⟨-, h⟩ | ⟨h, -⟩
  · rw [hs] at h; exact absurd h (by decide)
  · rw [h] at hs; exact absurd hs (by decide)
  · rw [h] at hs; exact absurd hs (by decide)
  · exact h
  · rw [h] at hs; exact absurd hs (by decide)
theorem Cre.rec' (h : Cre T So Na Wi Ki kS kN kX P s c' k0 k1 w) (hs : So s = 11) : ∃ (x sz m : Nat) (c t e W : Nat → Nat), Na s = nI x ∧ (T x sz ∧ m ≤ 32) ∧ Ki s = (if m = 0 then -1 else nI (c 0)) ∧ t 0 = s + 1 ∧ t m = c' ∧ W 0 = 0 ∧ w = 39 + sz + (W m - 1) ∧ ∀ i, i < m → s < t i ∧ t (i + 1) ≤ c' ∧ k0 ≤ c i ∧ c i < e i ∧ e i ≤ k1 ∧ kX (c i) = (if i + 1 = m then -1 else nI (c (i + 1))) ∧ ∃ y sy z w', kN (c i) = nI y ∧ T y sy ∧ kS (c i) = nI z ∧ P z (t i) (t (i + 1)) (c i + 1) (e i) w' ∧ W (i + 1) = W i + w' + sy + 20 := by
  rcases h with ⟨h, -⟩ | ⟨h, -⟩ | ⟨h, -⟩ | ⟨h, -⟩ | ⟨-, h⟩
  · rw [hs] at h; exact absurd h (by decide)
  · rw [h] at hs; exact absurd hs (by decide)
  · rw [h] at hs; exact absurd hs (by decide)
  · rw [h] at hs; exact absurd hs (by decide)
  · exact h
theorem Cre.sort (h : Cre T So Na Wi Ki kS kN kX P s c' k0 k1 w) : (So s = 6 ∨ So s = 7) ∨ So s = 8 ∨ So s = 9 ∨ So s = 10 ∨ So s = 11 := by
  rcases h with ⟨h, -⟩ | ⟨h, -⟩ | ⟨h, -⟩ | ⟨h, -⟩ | ⟨h, -⟩
  · exact Or.inl h
  · exact Or.inr (Or.inl h)
  · exact Or.inr (Or.inr (Or.inl h))
  · exact Or.inr (Or.inr (Or.inr (Or.inl h)))
  · exact Or.inr (Or.inr (Or.inr (Or.inr h)))
end CREs
/-- how many kids at most: a chain in k0 .. k1 - 1 may not come back, as it ends -/
def fpT : Int32 × Int32 → Int32 × Int32 := fun u => u
abbrev FF : Type := Int32 → Int32 → (Nat → Int32) → (Nat → Int32) → (Nat → Int64) → (Nat → Int32) → (Nat → Int32) → (Nat → Int32) → (Nat → Int32) → (Nat → Int32) → (Nat → Int32) → (Nat → Int32) → (Nat → Int32) → (Nat → Int32) → (Nat → Int32) → Int32 → Int32 → Option (Except (Int32 × Int32) (Unit × (Int32 × Int32)))
theorem mlk_ok {K F S I X Lt : Nat → Int32} {N : Nat → Int64} {n l : Nat} {P : Nat → Nat → Nat → Nat → Prop} {v m p a k y sy : Nat} {c e u r s t : Nat → Nat} (hn : n ≤ 4200) (hl : l ≤ 4200) (hv : v < n) (hm : m ≤ n) (hk : k ≤ 5000) (hI : I v = (if k = 0 then -1 else nI (c 0))) (hO : kidsO P (keyV K F N S l) X v m p a k c e u r s t) (hy : strN K N S n l y sy) :
    DET (fun g => m_X9_memberLike (ov n N g.2) (ov n S (g.1 2)) (ov n I (g.1 3)) (ov n X (g.1 4)) (ov l Lt (g.1 5)) (nI v) (nI y)) (fun z => z = -1 ∨ ∃ i, i < k ∧ z = nI (c i + 1)) := by
  have go : ∀ (fuel i : Nat), i ≤ k → k - i < fuel → DET (fun g => m_X9_memberLike_7 (ov n N g.2) (ov n S (g.1 2)) (ov n I (g.1 3)) (ov n X (g.1 4)) (ov l Lt (g.1 5)) fuel (nI y) (if i = k then -1 else nI (c i))) (fun z => z = -1 ∨ ∃ i, i < k ∧ z = nI (c i + 1)) := by
    intro fuel
    induction fuel with
    | zero => intro i _ hf; exact absurd hf (Nat.not_lt_zero _)
    | succ fuel ih =>
      intro i hi hf
      by_cases hik : i = k
      · simp only [if_pos hik, m_X9_memberLike_7, if_pos (show (-1 : Int32) < 0 by decide)]
        exact DET.ok (Or.inl rfl)
      · obtain ⟨⟨k1, k2, st, sz, k3, k4, k5, k6⟩, q1, q2, q2', q3, q4, q5, -⟩ := hO.1 i (by omega)
        have hstr : strN K N S n l (c i) sz := ⟨by omega, k1, k3, st, k4, k5⟩
        obtain ⟨z, -, hz⟩ := same_ok (Lt := Lt) (Lt' := Lt) hn hl hn hl hstr hy
        simp only [if_neg hik, m_X9_memberLike_7, if_neg (nI_pos (show c i < 2 ^ 31 by omega)), hz, Option.bind_some, bd_go (show c i < 4200 by omega) (by decide), bd_gc (show c i < 4200 by omega) (by decide), nI_clamp (show c i < 2 ^ 31 by omega), ov_lt (show c i < n by omega), q2, bd_go (show c i + 1 < 4200 by omega) (by decide), bd_gc (show c i + 1 < 4200 by omega) (by decide), nI_clamp (show c i + 1 < 2 ^ 31 by omega), ov_lt (show c i + 1 < n by omega), q2']
        refine DET.ite (fun _ => ih (i + 1) (by omega) (by omega)) (fun _ => DET.ok (Or.inr ⟨i, by omega, rfl⟩))
  have hstart : (if k = 0 then (-1 : Int32) else nI (c 0)) = (if 0 = k then -1 else nI (c 0)) := by
    by_cases hk : k = 0
    · rw [if_pos hk, if_pos hk.symm]
    · rw [if_neg hk, if_neg (fun q => hk q.symm)]
  simp only [m_X9_memberLike, bd_go (show v < 4200 by omega) (by decide), bd_gc (show v < 4200 by omega) (by decide), nI_clamp (show v < 2 ^ 31 by omega), ov_lt hv, hI, hstart]
  exact go sr_fuel 0 (by omega) (by unfold sr_fuel; omega)
section FITs
variable {K F S I X Lt So Na Wi Ki kS kN kX : Nat → Int32} {N : Nat → Int64} {n l sh kc : Nat}
theorem fit_350 {ff : FF} {s k0 t k : Nat} {c : Nat → Nat} {fl pl : Int32} (hn : n ≤ 4200) (hsh : sh ≤ 140) (hkc : kc ≤ 2200) (hs : s < sh) (hk0 : k0 < kc) (hKi : Ki s = nI k0) (hkS : kS k0 = nI t) (hc : ∀ i, i < k → c i < n ∧ X (c i) = (if i + 1 = k then -1 else nI (c (i + 1))) ∧ RES (fun g => ff fl pl (ov n K (g.1 0)) (ov n F (g.1 1)) (ov n N g.2) (ov n S (g.1 2)) (ov n I (g.1 3)) (ov n X (g.1 4)) (ov l Lt (g.1 5)) (ov sh So (g.1 7)) (ow sh Wi (g.1 9)) (ov sh Ki (g.1 10)) (ov kc kS (g.1 13)) (ov kc kN (g.1 14)) (ov kc kX (g.1 16)) (nI (c i)) (nI t)) fpT (fun _ u => u = fun _ => (fl, pl))) :
    ∀ (fuel i : Nat), i ≤ k → k - i < fuel → RES (fun g => m_X9_fit_350 ff (ov n K (g.1 0)) (ov n F (g.1 1)) (ov n N g.2) (ov n S (g.1 2)) (ov n I (g.1 3)) (ov n X (g.1 4)) (ov l Lt (g.1 5)) (ov sh So (g.1 7)) (ow sh Wi (g.1 9)) (ov sh Ki (g.1 10)) (ov kc kS (g.1 13)) (ov kc kN (g.1 14)) (ov kc kX (g.1 16)) fuel fl pl (nI s) (if i = k then -1 else nI (c i))) fpT (fun _ u => u = fun _ => (fl, pl)) := by
  intro fuel
  induction fuel with
  | zero => intro i _ hf; exact absurd hf (Nat.not_lt_zero _)
  | succ fuel ih =>
    intro i hi hf
    by_cases hik : i = k
    · simp only [if_pos hik, m_X9_fit_350, if_pos (show (-1 : Int32) < 0 by decide)]
      exact RES.ok rfl
    · obtain ⟨c1, c2, c3⟩ := hc i (by omega)
      simp only [if_neg hik, m_X9_fit_350, if_neg (nI_pos (show c i < 2 ^ 31 by omega)), bd_go (show s < 140 by omega) (by decide), bd_gc (show s < 140 by omega) (by decide), nI_clamp (show s < 2 ^ 31 by omega), ov_lt hs, hKi, bd_go (show k0 < 2200 by omega) (by decide), bd_gc (show k0 < 2200 by omega) (by decide), nI_clamp (show k0 < 2 ^ 31 by omega), ov_lt hk0, hkS]
      refine RES.try c3 ?_ (fun g u => rfl)
      rintro _ _ rfl
      dsimp only
      simp only [bd_go (show c i < 4200 by omega) (by decide), bd_gc (show c i < 4200 by omega) (by decide), nI_clamp (show c i < 2 ^ 31 by omega), ov_lt c1, c2]
      exact ih (i + 1) (by omega) (by omega)
theorem fit_416 {ff : FF} {s k0 t k : Nat} {c : Nat → Nat} {fl pl : Int32} (hn : n ≤ 4200) (hsh : sh ≤ 140) (hkc : kc ≤ 2200) (hs : s < sh) (hk0 : k0 < kc) (hKi : Ki s = nI k0) (hkS : kS k0 = nI t) (hc : ∀ i, i < k → c i + 1 < n ∧ X (c i) = nI (c i + 1) ∧ X (c i + 1) = (if i + 1 = k then -1 else nI (c (i + 1))) ∧ RES (fun g => ff fl pl (ov n K (g.1 0)) (ov n F (g.1 1)) (ov n N g.2) (ov n S (g.1 2)) (ov n I (g.1 3)) (ov n X (g.1 4)) (ov l Lt (g.1 5)) (ov sh So (g.1 7)) (ow sh Wi (g.1 9)) (ov sh Ki (g.1 10)) (ov kc kS (g.1 13)) (ov kc kN (g.1 14)) (ov kc kX (g.1 16)) (nI (c i + 1)) (nI t)) fpT (fun _ u => u = fun _ => (fl, pl))) :
    ∀ (fuel i : Nat), i ≤ k → k - i < fuel → RES (fun g => m_X9_fit_416 ff (ov n K (g.1 0)) (ov n F (g.1 1)) (ov n N g.2) (ov n S (g.1 2)) (ov n I (g.1 3)) (ov n X (g.1 4)) (ov l Lt (g.1 5)) (ov sh So (g.1 7)) (ow sh Wi (g.1 9)) (ov sh Ki (g.1 10)) (ov kc kS (g.1 13)) (ov kc kN (g.1 14)) (ov kc kX (g.1 16)) fuel fl pl (nI s) (if i = k then -1 else nI (c i))) fpT (fun _ u => u = fun _ => (fl, pl)) := by
  intro fuel
  induction fuel with
  | zero => intro i _ hf; exact absurd hf (Nat.not_lt_zero _)
  | succ fuel ih =>
    intro i hi hf
    by_cases hik : i = k
    · simp only [if_pos hik, m_X9_fit_416, if_pos (show (-1 : Int32) < 0 by decide)]
      exact RES.ok rfl
    · obtain ⟨c1, c2, c2', c3⟩ := hc i (by omega)
      simp only [if_neg hik, m_X9_fit_416, if_neg (nI_pos (show c i < 2 ^ 31 by omega)), bd_go (show c i < 4200 by omega) (by decide), bd_gc (show c i < 4200 by omega) (by decide), nI_clamp (show c i < 2 ^ 31 by omega), ov_lt (show c i < n by omega), c2, bd_go (show s < 140 by omega) (by decide), bd_gc (show s < 140 by omega) (by decide), nI_clamp (show s < 2 ^ 31 by omega), ov_lt hs, hKi, bd_go (show k0 < 2200 by omega) (by decide), bd_gc (show k0 < 2200 by omega) (by decide), nI_clamp (show k0 < 2 ^ 31 by omega), ov_lt hk0, hkS]
      refine RES.try c3 ?_ (fun g u => rfl)
      rintro _ _ rfl
      dsimp only
      simp only [bd_go (show c i < 4200 by omega) (by decide), bd_gc (show c i < 4200 by omega) (by decide), nI_clamp (show c i < 2 ^ 31 by omega), ov_lt (show c i < n by omega), c2, bd_go (show c i + 1 < 4200 by omega) (by decide), bd_gc (show c i + 1 < 4200 by omega) (by decide), nI_clamp (show c i + 1 < 2 ^ 31 by omega), ov_lt c1, c2']
      exact ih (i + 1) (by omega) (by omega)
theorem fit_492 {ff : FF} {P : Nat → Nat → Nat → Nat → Prop} {v m p a k mk : Nat} {c e u r s' t ck : Nat → Nat} {fl pl x3 : Int32} (hn : n ≤ 4200) (hl : l ≤ 4200) (hkc : kc ≤ 2200) (hv : v < n) (hm : m ≤ n) (hk : k ≤ 5000) (hI : I v = (if k = 0 then -1 else nI (c 0))) (hO : kidsO P (keyV K F N S l) X v m p a k c e u r s' t)
    (hc : ∀ i, i < mk → ck i < kc ∧ kX (ck i) = (if i + 1 = mk then -1 else nI (ck (i + 1))) ∧ ∃ y sy z, kN (ck i) = nI y ∧ strN K N S n l y sy ∧ kS (ck i) = nI z ∧ ∀ j, j < k → RES (fun g => ff fl pl (ov n K (g.1 0)) (ov n F (g.1 1)) (ov n N g.2) (ov n S (g.1 2)) (ov n I (g.1 3)) (ov n X (g.1 4)) (ov l Lt (g.1 5)) (ov sh So (g.1 7)) (ow sh Wi (g.1 9)) (ov sh Ki (g.1 10)) (ov kc kS (g.1 13)) (ov kc kN (g.1 14)) (ov kc kX (g.1 16)) (nI (c j + 1)) (nI z)) fpT (fun _ u => u = fun _ => (fl, pl))) :
    ∀ (fuel i : Nat), i ≤ mk → mk - i < fuel → RES (fun g => m_X9_fit_492 ff (ov n K (g.1 0)) (ov n F (g.1 1)) (ov n N g.2) (ov n S (g.1 2)) (ov n I (g.1 3)) (ov n X (g.1 4)) (ov l Lt (g.1 5)) (ov sh So (g.1 7)) (ow sh Wi (g.1 9)) (ov sh Ki (g.1 10)) (ov kc kS (g.1 13)) (ov kc kN (g.1 14)) (ov kc kX (g.1 16)) fuel fl pl (nI v) x3 (if i = mk then -1 else nI (ck i))) fpT (fun _ u => u = fun _ => (fl, pl)) := by
  intro fuel
  induction fuel with
  | zero => intro i _ hf; exact absurd hf (Nat.not_lt_zero _)
  | succ fuel ih =>
    intro i hi hf
    by_cases hik : i = mk
    · simp only [if_pos hik, m_X9_fit_492, if_pos (show (-1 : Int32) < 0 by decide)]
      exact RES.ok rfl
    · obtain ⟨c1, c2, y, sy, z, c3, c4, c5, c6⟩ := hc i (by omega)
      obtain ⟨b, hb, hb2⟩ := mlk_ok (Lt := Lt) hn hl hv hm hk hI hO c4
      simp only [if_neg hik, m_X9_fit_492, if_neg (nI_pos (show ck i < 2 ^ 31 by omega)), bd_go (show ck i < 2200 by omega) (by decide), bd_gc (show ck i < 2200 by omega) (by decide), nI_clamp (show ck i < 2 ^ 31 by omega), ov_lt c1, c3, hb2, Option.bind_some, m_X9_fit_522, need_0, need_1, try_e, try_o, c5, c2]
      rcases hb with rfl | ⟨j, hj, rfl⟩
      · simp only [if_pos (show (-1 : Int32) < 0 by decide)]
        exact RES.er (fun g => rfl)
      · have hcj := (hO.1 j hj).2.2.2.2.2.1
        have hej := (hO.1 j hj).2.2.2.2.2.2.1
        simp only [if_neg (nI_pos (show c j + 1 < 2 ^ 31 by omega))]
        refine RES.try (c6 j hj) ?_ (fun g u => rfl)
        rintro _ _ rfl
        dsimp only
        exact ih (i + 1) (by omega) (by omega)
theorem six_ne : ∀ s, s < 6 → ¬ nI s = 6 ∧ ¬ nI s = 7 ∧ ¬ nI s = 8 ∧ ¬ nI s = 9 ∧ ¬ nI s = 10 ∧ ¬ nI s = 11 := by decide
theorem six_in : ∀ s, s < 6 → nI s = 0 ∨ nI s = 1 ∨ nI s = 2 ∨ nI s = 3 ∨ nI s = 4 ∨ nI s = 5 := by decide
theorem fit_ok (hn : n ≤ 4200) (hl : l ≤ 4200) (hsh : sh ≤ 140) (hkc : kc ≤ 2200) (h6 : ∀ s, s < 6 → So s = nI s) (hall : ∀ s, 6 ≤ s → s < sh → ∃ h' c2 a b w', s < c2 ∧ c2 ≤ sh ∧ b ≤ kc ∧ Cre (strN K N S n l) So Na Wi Ki kS kN kX (Occ (strN K N S n l) So Na Wi Ki kS kN kX h') s c2 a b w') :
    ∀ (D hv v m p q s : Nat) (fl pl : Int32), m ≤ n → p + 5000 ≥ q → Val K F N S I X l hv v m p q → s < sh → 2 * hv + (if So s = 8 then 2 else 1) ≤ D → RES (fun g => m_X9_fit D fl pl (ov n K (g.1 0)) (ov n F (g.1 1)) (ov n N g.2) (ov n S (g.1 2)) (ov n I (g.1 3)) (ov n X (g.1 4)) (ov l Lt (g.1 5)) (ov sh So (g.1 7)) (ow sh Wi (g.1 9)) (ov sh Ki (g.1 10)) (ov kc kS (g.1 13)) (ov kc kN (g.1 14)) (ov kc kX (g.1 16)) (nI v) (nI s)) fpT (fun _ u => u = fun _ => (fl, pl)) := by
  intro D
  induction D with
  | zero =>
    intro hv v m p q s fl pl _ _ _ _ hf
    by_cases h8 : So s = 8
    · rw [if_pos h8] at hf; omega
    · rw [if_neg h8] at hf; omega
  | succ D ih =>
    intro hv v m p q s fl pl hm hpq hV hs hf
    have hvn : v < n := Nat.lt_of_lt_of_le hV.basic.1 hm
    have hne : ∀ k : Int32, So s = k → (k = 6 ∨ k = 7 ∨ k = 8 ∨ k = 9 ∨ k = 10 ∨ k = 11) → 6 ≤ s := by
      intro k hk hk2
      apply Nat.le_of_not_lt
      intro q
      rw [h6 s q] at hk
      obtain ⟨a1, a2, a3, a4, a5, a6⟩ := six_ne s q
      rcases hk2 with e | e | e | e | e | e <;> rw [e] at hk
      · exact a1 hk
      · exact a2 hk
      · exact a3 hk
      · exact a4 hk
      · exact a5 hk
      · exact a6 hk
    have ok : RES (fun _ => some (Except.ok ((), (fl, pl)))) fpT (fun _ u => u = fun _ => (fl, pl)) := RES.ok rfl
    have er : RES (fun _ => some (Except.error (12, nI p))) fpT (fun (_ : Unit) (u : Gs → Int32 × Int32) => u = fun _ => (fl, pl)) := RES.er (fun g => rfl)
    simp only [m_X9_fit, bd_go (show v < 4200 by omega) (by decide), bd_gc (show v < 4200 by omega) (by decide), nI_clamp (show v < 2 ^ 31 by omega), bd_go (show s < 140 by omega) (by decide), bd_gc (show s < 140 by omega) (by decide), nI_clamp (show s < 2 ^ 31 by omega), ov_lt hvn, ov_lt hs, hV.basic.2.2, m_X9_fit_89, m_X9_fit_119, m_X9_fit_124, m_X9_fit_166, m_X9_fit_167, m_X9_fit_192, m_X9_fit_217, m_X9_fit_256, m_X9_fit_257, m_X9_fit_291, m_X9_fit_292, m_X9_fit_336, m_X9_fit_402, m_X9_fit_478, need_0, need_1, try_e, try_o]
    refine RES.ite (fun _ => RES.ite (fun _ => ok) (fun _ => er)) (fun h0 => RES.ite (fun _ => RES.ite (fun _ => ok) (fun _ => RES.ite (fun _ => ok) (fun _ => er))) (fun h1 => RES.ite (fun _ => RES.ite (fun _ => RES.ite (fun _ => ok) (fun _ => er)) (fun _ => er)) (fun h2 => RES.ite (fun _ => RES.ite (fun _ => ok) (fun _ => er)) (fun h3 => RES.ite (fun _ => RES.ite (fun _ => ok) (fun _ => er)) (fun h4 => RES.ite (fun _ => RES.ite (fun _ => ok) (fun _ => er)) (fun h5 => RES.ite (fun e6 => ?_) (fun n6 => RES.ite (fun e7 => ?_) (fun n7 => RES.ite (fun e8 => ?_) (fun n8 => RES.ite (fun e9 => ?_) (fun n9 => RES.ite (fun e10 => ?_) (fun n10 => ?_)))))))))))
    · -- an array
      have hs6 := hne 6 e6 (Or.inl rfl)
      rw [if_neg (by rw [e6]; decide)] at hf
      refine RES.ite (fun hK => ?_) (fun _ => er)
      obtain ⟨h', a, k, c, e, u, t, rfl, rfl, hka, hS, hI, hL⟩ := hV.lst hK
      obtain ⟨h2, c2, a2, b2, w2, r1, r2, r3, hcre⟩ := hall s hs6 hs
      obtain ⟨t2, w3, y1, y2, y3, y4, y5, -⟩ := hcre.arr (Or.inl e6)
      have ht := y5.lt (by omega)
      have hst : (if k = 0 then (-1 : Int32) else nI (c 0)) = (if 0 = k then -1 else nI (c 0)) := by
        by_cases h0 : k = 0
        · rw [if_pos h0, if_pos h0.symm]
        · rw [if_neg h0, if_neg (fun q => h0 q.symm)]
      simp only [hI, hst]
      refine fit_350 (ff := m_X9_fit D) hn hsh hkc hs (show a2 < kc by omega) y1 y4 (fun i hi => ?_) sr_fuel 0 (by omega) (by unfold sr_fuel; omega)
      obtain ⟨q1, q2, q3, q4, q5, q6, q7, q8⟩ := hL.1 i hi
      refine ⟨by omega, q2, ih h' (c i) (e i) (u i) (t i) t2 fl pl (by omega) (by omega) q1 (by omega) ?_⟩
      split <;> omega
    · -- a map
      have hs6 := hne 7 e7 (Or.inr (Or.inl rfl))
      rw [if_neg (by rw [e7]; decide)] at hf
      refine RES.ite (fun hK => ?_) (fun _ => er)
      obtain ⟨h', a, k, c, e, u, r, s', t, rfl, rfl, hka, hI, hO⟩ := hV.obj hK
      obtain ⟨h2, c2, a2, b2, w2, r1, r2, r3, hcre⟩ := hall s hs6 hs
      obtain ⟨t2, w3, y1, y2, y3, y4, y5, -⟩ := hcre.arr (Or.inr e7)
      have ht := y5.lt (by omega)
      have hst : (if k = 0 then (-1 : Int32) else nI (c 0)) = (if 0 = k then -1 else nI (c 0)) := by
        by_cases h0 : k = 0
        · rw [if_pos h0, if_pos h0.symm]
        · rw [if_neg h0, if_neg (fun q => h0 q.symm)]
      simp only [hI, hst]
      refine fit_416 (ff := m_X9_fit D) hn hsh hkc hs (show a2 < kc by omega) y1 y4 (fun i hi => ?_) sr_fuel 0 (by omega) (by unfold sr_fuel; omega)
      obtain ⟨q0, q1, q2, q2', q3, q4, q5, q6, q7, q8, q9, q10⟩ := hO.1 i hi
      refine ⟨by omega, q2, q2', ih h' (c i + 1) (e i) (s' i) (t i) t2 fl pl (by omega) (by omega) q1 (by omega) ?_⟩
      split <;> omega
    · -- a union
      have hs6 := hne 8 e8 (Or.inr (Or.inr (Or.inl rfl)))
      rw [if_pos e8] at hf
      obtain ⟨h2, c2, a2, b2, w2, r1, r2, r3, hcre⟩ := hall s hs6 hs
      obtain ⟨mk, ck, t, b, W, y1, y2, y3, y4, y5, y6, y7⟩ := hcre.uni e8
      obtain ⟨d1, d2, d3, d4, d5, d6, x, w', d7, d8, d9, d10⟩ := y7 0 y1.1
      have hx := d8.lt (by omega)
      simp only [y2, bd_go (show ck 0 < 2200 by omega) (by decide), bd_gc (show ck 0 < 2200 by omega) (by decide), nI_clamp (show ck 0 < 2 ^ 31 by omega), ov_lt (show ck 0 < kc by omega), d7]
      refine RES.try (ih hv v m p q x fl pl hm hpq hV (by omega) (by rw [if_neg d9]; omega)) ?_ (fun g u => rfl)
      rintro _ _ rfl
      exact ok
    · -- a fixed
      have hs6 := hne 9 e9 (Or.inr (Or.inr (Or.inr (Or.inl rfl))))
      simp only [ow_lt hs6 hs]
      exact RES.ite (fun _ => RES.ite (fun _ => ok) (fun _ => er)) (fun _ => er)
    · -- an enum
      have hs6 := hne 10 e10 (Or.inr (Or.inr (Or.inr (Or.inr (Or.inl rfl)))))
      refine RES.ite (fun hK => ?_) (fun _ => er)
      obtain ⟨sz, hsz, -⟩ := hV.str hK hm
      obtain ⟨h2, c2, a2, b2, w2, r1, r2, r3, hcre⟩ := hall s hs6 hs
      obtain ⟨-, x, sx, mk, ck, W, y1, y2, y3, y4, y5, y6, y7⟩ := hcre.enm e10
      obtain ⟨z, hz⟩ := symbol_ok (Lt := Lt) (Lt' := Lt) (c := ck) (Ki := Ki) (kN := kN) (kX := kX) (m := mk) hn hl hn hl hs hsh hkc (by omega) hsz (by rw [y4, if_neg (by omega)]) (fun i hi => by
        obtain ⟨d1, d2, d3, y, sy, d4, d5, -⟩ := y7 i hi
        exact ⟨by omega, d3, y, sy, d4, d5⟩)
      simp only [hz, Option.bind_some]
      exact RES.ite (fun _ => er) (fun _ => ok)
    · -- a record
      rw [if_neg n8] at hf
      have hs6 : 6 ≤ s := by
        apply Nat.le_of_not_lt
        intro q
        rw [h6 s q] at h0 h1 h2 h3 h4 h5
        rcases six_in s q with e | e | e | e | e | e
        · exact h0 e
        · exact h1 e
        · exact h2 e
        · exact h3 e
        · exact h4 e
        · exact h5 e
      refine RES.ite (fun hK => ?_) (fun _ => er)
      obtain ⟨h', a, k, c, e, u, r, s', t, rfl, rfl, hka, hI, hO⟩ := hV.obj hK
      obtain ⟨h2', c2, a2, b2, w2, r1, r2, r3, hcre⟩ := hall s hs6 hs
      have e11 : So s = 11 := by
        rcases hcre.sort with (e | e) | e | e | e | e
        · exact absurd e n6
        · exact absurd e n7
        · exact absurd e n8
        · exact absurd e n9
        · exact absurd e n10
        · exact e
      obtain ⟨x, sx, mk, ck, tt, ee, W, y1, y2, y3, y4, y5, y6, y7, y8⟩ := hcre.rec' e11
      have hst : (if mk = 0 then (-1 : Int32) else nI (ck 0)) = (if 0 = mk then -1 else nI (ck 0)) := by
        by_cases h0 : mk = 0
        · rw [if_pos h0, if_pos h0.symm]
        · rw [if_neg h0, if_neg (fun q => h0 q.symm)]
      simp only [y3, hst]
      refine fit_492 (ff := m_X9_fit D) hn hl hkc hvn hm (show k ≤ 5000 by omega) hI hO (fun i hi => ?_) sr_fuel 0 (by omega) (by unfold sr_fuel; omega)
      obtain ⟨d1, d2, d3, d4, d5, d6, y, sy, z, w', d7, d8, d9, d10, d11⟩ := y8 i hi
      have hz := d10.lt (by omega)
      refine ⟨by omega, d6, y, sy, z, d7, d8, d9, fun j hj => ?_⟩
      obtain ⟨q0, q1, q2, q2', q3, q4, q5, q6, q7, q8, q9, q10⟩ := hO.1 j hj
      refine ih h' (c j + 1) (e j) (s' j) (t j) z fl pl (by omega) (by omega) q1 (by omega) ?_
      split <;> omega
end FITs
end
section
-- the reference's plain forms
/-- it answers, and what it leaves is one thing, but for what lay in the stale rows -/
def FN {α : Type} (x : Gs → Option α) (P : (Gs → α) → Prop) : Prop := ∃ u, P u ∧ ∀ g, x g = some (u g)
section FNs
variable {α β : Type} {P : (Gs → α) → Prop} {Q : (Gs → β) → Prop}
theorem FN.ok {u : Gs → α} (h : P u) : FN (fun g => some (u g)) P := ⟨u, h, fun _ => rfl⟩
theorem FN.ite {c : Prop} {i : Decidable c} {x y : Gs → Option α} (ht : c → FN x P) (hf : ¬ c → FN y P) : FN (fun g => @ite _ c i (x g) (y g)) P := by
  by_cases h : c
  · simp only [if_pos h]; exact ht h
  · simp only [if_neg h]; exact hf h
theorem FN.bind {x : Gs → Option α} {k : Gs → α → Option β} (h : FN x P) (hk : ∀ u, P u → FN (fun g => k g (u g)) Q) : FN (fun g => (x g).bind (k g)) Q := by
  obtain ⟨u, h1, h2⟩ := h
  simp only [h2, Option.bind_some]
  exact hk u h1
theorem FN.mono {P' : (Gs → α) → Prop} {x : Gs → Option α} (h : FN x P) (hk : ∀ r, P r → P' r) : FN x P' := by
  obtain ⟨r, h1, h2⟩ := h
  exact ⟨r, hk r h1, h2⟩
end FNs
def plP (ps : Nat) (u : Gs → (Nat → Int32) × Int32) : Prop := ∃ Pl : Nat → Int32, u = fun g => (ov ps Pl (g.1 18), nI ps)
theorem put_ok {w len ps : Nat} {Pl : Nat → Int32} (hw : w < 75) (hlen : lenS.getD w 0 = len) (hps : ps + len ≤ 4200) : FN (fun g => m_X9_put (ov ps Pl (g.1 18)) (nI ps) w) (plP (ps + len)) := by
  have hl40 := len_lt w hw
  have go : ∀ (fuel j ps : Nat) (Pl : Nat → Int32), j ≤ len → len - j < fuel → ps + (len - j) ≤ 4200 → FN (fun g => m_X9_put_2 fuel (ov ps Pl (g.1 18)) (nI ps) w (nI j)) (plP (ps + (len - j))) := by
    intro fuel
    induction fuel with
    | zero => intro j ps Pl _ hf; exact absurd hf (Nat.not_lt_zero _)
    | succ fuel ih =>
      intro j ps Pl hj hf hp
      simp only [m_X9_put_2, if_neg (show ¬ nS ≤ w by unfold nS; omega), len_eq w hw, hlen, Option.bind_some]
      by_cases hc : len ≤ j
      · simp only [if_pos (nI_le hc (show j < 2 ^ 31 by omega))]
        exact FN.ok ⟨Pl, by rw [show len - j = 0 by omega]; rfl⟩
      · simp only [if_neg (nI_ge (show j < len by omega) (by omega)), chr_eq w hw j (by omega), Option.bind_some, bd_go (show ps < 4200 by omega) (by decide), bd_gc (show ps < 4200 by omega) (by decide), nI_clamp (show ps < 2 ^ 31 by omega), ov_push, nI_1]
        have := ih (j + 1) (ps + 1) (upd Pl ps (vp_nar .byte (((bytS.getD w []).getD j 0).toInt8.toInt32))) (by omega) (by omega) (by omega)
        rw [show ps + 1 + (len - (j + 1)) = ps + (len - j) by omega] at this
        exact this
  have := go sr_fuel 0 ps Pl (by omega) (by unfold sr_fuel; omega) (by omega)
  rw [Nat.sub_zero] at this
  exact this
theorem fig_ok {ps : Nat} {Pl : Nat → Int32} {a : Int32} (hps : ps + 1 ≤ 4200) : FN (fun g => m_X9_figure (ov ps Pl (g.1 18)) (nI ps) a) (plP (ps + 1)) := by
  simp only [m_X9_figure, bd_go (show ps < 4200 by omega) (by decide), bd_gc (show ps < 4200 by omega) (by decide), nI_clamp (show ps < 2 ^ 31 by omega), ov_push, nI_1]
  exact FN.ok ⟨_, rfl⟩
theorem pun_ok {K S Lt Pl : Nat → Int32} {N : Nat → Int64} {n l x sz ps : Nat} (hn : n ≤ 4200) (hl : l ≤ 4200) (hx : strN K N S n l x sz) (hps : ps + (sz + 2) ≤ 4200) : FN (fun g => m_X9_putName (ov n N g.2) (ov n S (g.1 2)) (ov l Lt (g.1 5)) (ov ps Pl (g.1 18)) (nI ps) (nI x)) (plP (ps + (sz + 2))) := by
  obtain ⟨x1, -, x2, st, x3, x4⟩ := hx
  have l68 : lenS.getD 68 0 = 1 := by decide +kernel
  have go : ∀ (fuel j ps : Nat) (Pl : Nat → Int32), j ≤ sz → sz - j < fuel → ps + (sz - j + 1) ≤ 4200 → FN (fun g => m_X9_putName_9 (ov n N g.2) (ov n S (g.1 2)) (ov l Lt (g.1 5)) fuel (ov ps Pl (g.1 18)) (nI ps) (nI x) (nI j)) (plP (ps + (sz - j + 1))) := by
    intro fuel
    induction fuel with
    | zero => intro j ps Pl _ hf; exact absurd hf (Nat.not_lt_zero _)
    | succ fuel ih =>
      intro j ps Pl hj hf hp
      simp only [m_X9_putName_9, bd_go (show x < 4200 by omega) (by decide), bd_gc (show x < 4200 by omega) (by decide), nI_clamp (show x < 2 ^ 31 by omega), ov_lt x1, x2]
      by_cases hc : sz ≤ j
      · simp only [if_pos (nI_le hc (show j < 2 ^ 31 by omega))]
        refine FN.bind (put_ok (by decide) l68 (by omega)) ?_
        rintro _ ⟨Pl', rfl⟩
        dsimp only
        exact FN.ok ⟨Pl', by rw [show sz - j = 0 by omega]⟩
      · simp only [if_neg (nI_ge (show j < sz by omega) (by omega)), x3, lN_i, nI_add, bd_go (show st + j < 4200 by omega) (by decide), bd_gc (show st + j < 4200 by omega) (by decide), nI_clamp (show st + j < 2 ^ 31 by omega), ov_lt (show st + j < l by omega), bd_go (show ps < 4200 by omega) (by decide), bd_gc (show ps < 4200 by omega) (by decide), nI_clamp (show ps < 2 ^ 31 by omega), ov_push, nI_1]
        have := ih (j + 1) (ps + 1) (upd Pl ps (vp_nar .byte (Lt (st + j)))) (by omega) (by omega) (by omega)
        rw [show ps + 1 + (sz - (j + 1) + 1) = ps + (sz - j + 1) by omega] at this
        exact this
  simp only [m_X9_putName]
  refine FN.bind (put_ok (by decide) l68 (by omega)) ?_
  rintro _ ⟨Pl', rfl⟩
  dsimp only
  have := go sr_fuel 0 (ps + 1) Pl' (by omega) (by unfold sr_fuel; omega) (by omega)
  rw [show ps + 1 + (sz - 0 + 1) = ps + (sz + 2) by omega] at this
  exact this
/-- which names have been told: those of the shapes below c -/
def toldOK (So To : Nat → Int32) (c sh : Nat) : Prop := ∀ x, 6 ≤ x → x < sh → (So x = 9 ∨ So x = 10 ∨ So x = 11) → To x = (if x < c then 1 else 0)
theorem told_skip {So To : Nat → Int32} {c sh : Nat} (h : toldOK So To c sh) (hc : ¬ (So c = 9 ∨ So c = 10 ∨ So c = 11)) : toldOK So To (c + 1) sh := fun x h6 hx hs => by
  rw [h x h6 hx hs]
  have : x ≠ c := fun e => hc (e ▸ hs)
  by_cases q : x < c
  · rw [if_pos q, if_pos (by omega)]
  · rw [if_neg q, if_neg (by omega)]
theorem told_new {So To : Nat → Int32} {c sh : Nat} (h : toldOK So To c sh) : toldOK So (upd To c 1) (c + 1) sh := fun x h6 hx hs => by
  by_cases e : x = c
  · subst e; rw [pk_us, if_pos (by omega)]
  · rw [pk_un e, h x h6 hx hs]
    by_cases q : x < c
    · rw [if_pos q, if_pos (by omega)]
    · rw [if_neg q, if_neg (by omega)]
abbrev TW : Type := (Nat → Int32) × Int32 × (Nat → Int32)
abbrev FW : Type := (Nat → Int64) → (Nat → Int32) → (Nat → Int32) → (Nat → Int32) → (Nat → Int32) → (Nat → Int32) → (Nat → Int32) → (Nat → Int32) → (Nat → Int32) → (Nat → Int32) → (Nat → Int32) → Int32 → (Nat → Int32) → Int32 → Option TW
def wrP (So : Nat → Int32) (sh ps c : Nat) (u : Gs → TW) : Prop := ∃ Pl To : Nat → Int32, u = (fun g => (ov ps Pl (g.1 18), nI ps, ov sh To (g.1 19))) ∧ toldOK So To c sh
theorem up_le {W : Nat → Nat} {m : Nat} (h : ∀ i, i < m → W i ≤ W (i + 1)) : ∀ (d i : Nat), i + d ≤ m → W i ≤ W (i + d) := by
  intro d
  induction d with
  | zero => intro i _; exact Nat.le_refl _
  | succ d ih =>
    intro i hi
    have h1 := ih i (by omega)
    have h2 := h (i + d) (by omega)
    rw [show i + (d + 1) = i + d + 1 by omega]
    omega
section WRIs
variable {K F S I X Lt So Na Wi Ki kS kN kX : Nat → Int32} {N : Nat → Int64} {n l sh kc : Nat}
def okW (K S Lt So Na Wi Ki kS kN kX : Nat → Int32) (N : Nat → Int64) (n l sh kc : Nat) (fw : FW) (h : Nat) : Prop :=
  ∀ (s c c' k0 k1 w ps : Nat) (Pl To : Nat → Int32), 6 ≤ c → c' ≤ sh → k1 ≤ kc → Occ (strN K N S n l) So Na Wi Ki kS kN kX h s c c' k0 k1 w → ps + w ≤ 4200 → toldOK So To c sh → FN (fun g => fw (ov n N g.2) (ov n S (g.1 2)) (ov l Lt (g.1 5)) (ov sh So (g.1 7)) (ov sh Na (g.1 8)) (ow sh Wi (g.1 9)) (ov sh Ki (g.1 10)) (ov kc kS (g.1 13)) (ov kc kN (g.1 14)) (ov kc kX (g.1 16)) (ov ps Pl (g.1 18)) (nI ps) (ov sh To (g.1 19)) (nI s)) (wrP So sh (ps + w) c')
theorem w107 {fw : FW} {h c' ps0 m k0 k1 : Nat} {c t b W : Nat → Nat} {s : Nat} (hfw : okW K S Lt So Na Wi Ki kS kN kX N n l sh kc fw h) (h6 : 6 ≤ s) (hc' : c' ≤ sh) (hk1 : k1 ≤ kc) (hkc : kc ≤ 2200) (hm : 0 < m) (hps : ps0 + (W m - 1) + 1 ≤ 4200) (htm : t m = c')
    (hch : ∀ i, i < m → s < t i ∧ t (i + 1) ≤ c' ∧ k0 ≤ b i ∧ b i ≤ c i ∧ c i < k1 ∧ kX (c i) = (if i + 1 = m then -1 else nI (c (i + 1))) ∧ ∃ x w', kS (c i) = nI x ∧ Occ (strN K N S n l) So Na Wi Ki kS kN kX h x (t i) (t (i + 1)) (b i) (c i) w' ∧ So x ≠ 8 ∧ W (i + 1) = W i + w' + 1) :
    ∀ (fuel i ps : Nat) (Pl To : Nat → Int32), i ≤ m → m - i < fuel → toldOK So To (t i) sh → (i < m → ps = ps0 + W i) → (i = m → ps = ps0 + (W m - 1)) →
    FN (fun g => m_X9_write_107 fw (ov n N g.2) (ov n S (g.1 2)) (ov l Lt (g.1 5)) (ov sh So (g.1 7)) (ov sh Na (g.1 8)) (ow sh Wi (g.1 9)) (ov sh Ki (g.1 10)) (ov kc kS (g.1 13)) (ov kc kN (g.1 14)) (ov kc kX (g.1 16)) fuel (ov ps Pl (g.1 18)) (nI ps) (ov sh To (g.1 19)) (if i = m then -1 else nI (c i))) (wrP So sh (ps0 + (W m - 1) + 1) c') := by
  have l65 : lenS.getD 65 0 = 1 := by decide +kernel
  have l66 : lenS.getD 66 0 = 0 := by decide +kernel
  have l67 : lenS.getD 67 0 = 1 := by decide +kernel
  have hmono : ∀ i, i < m → W i ≤ W (i + 1) := fun i hi => by
    obtain ⟨-, -, -, -, -, -, x, w', -, -, -, e⟩ := hch i hi
    omega
  intro fuel
  induction fuel with
  | zero => intro i ps Pl To _ hf; exact absurd hf (Nat.not_lt_zero _)
  | succ fuel ih =>
    intro i ps Pl To hi hf ht h1 h2
    by_cases him : i = m
    · subst him
      have hp := h2 rfl
      subst hp
      simp only [if_true, m_X9_write_107, if_pos (show (-1 : Int32) < 0 by decide)]
      refine FN.bind (put_ok (by decide) l67 (by omega)) ?_
      rintro _ ⟨Pl', rfl⟩
      dsimp only
      exact FN.ok ⟨Pl', To, rfl, by rw [← htm]; exact ht⟩
    · have hp := h1 (by omega)
      subst hp
      obtain ⟨d1, d2, d3, d4, d5, d6, x, w', d7, d8, d9, d10⟩ := hch i (by omega)
      have hW := up_le hmono (m - (i + 1)) (i + 1) (by omega)
      rw [show i + 1 + (m - (i + 1)) = m by omega] at hW
      simp only [if_neg him, m_X9_write_107, if_neg (nI_pos (show c i < 2 ^ 31 by omega)), bd_go (show c i < 2200 by omega) (by decide), bd_gc (show c i < 2200 by omega) (by decide), nI_clamp (show c i < 2 ^ 31 by omega), ov_lt (show c i < kc by omega), d7]
      refine FN.bind (hfw x (t i) (t (i + 1)) (b i) (c i) w' (ps0 + W i) Pl To (by omega) (by omega) (by omega) d8 (by omega) ht) ?_
      rintro _ ⟨Pl', To', rfl, ht'⟩
      dsimp only
      simp only [d6]
      by_cases hl : i + 1 = m
      · simp only [if_pos hl, if_pos (show (-1 : Int32) < 0 by decide), m_X9_write_140]
        refine FN.bind (put_ok (by decide) l66 (by omega)) ?_
        rintro _ ⟨Pl2, rfl⟩
        dsimp only
        simp only [bd_go (show c i < 2200 by omega) (by decide), bd_gc (show c i < 2200 by omega) (by decide), nI_clamp (show c i < 2 ^ 31 by omega), ov_lt (show c i < kc by omega), d6, if_pos hl]
        have := ih (i + 1) (ps0 + W i + w' + 0) Pl2 To' (by omega) (by omega) ht' (fun q => absurd q (by omega)) (fun _ => by rw [← hl]; omega)
        rw [if_pos hl] at this
        exact this
      · obtain ⟨e1, e2, e3, e4, e5, -⟩ := hch (i + 1) (by omega)
        simp only [if_neg hl, if_neg (nI_pos (show c (i + 1) < 2 ^ 31 by omega)), m_X9_write_140]
        refine FN.bind (put_ok (by decide) l65 (by omega)) ?_
        rintro _ ⟨Pl2, rfl⟩
        dsimp only
        simp only [bd_go (show c i < 2200 by omega) (by decide), bd_gc (show c i < 2200 by omega) (by decide), nI_clamp (show c i < 2 ^ 31 by omega), ov_lt (show c i < kc by omega), d6, if_neg hl]
        have := ih (i + 1) (ps0 + W i + w' + 1) Pl2 To' (by omega) (by omega) ht' (fun _ => by omega) (fun q => absurd q hl)
        rw [if_neg hl] at this
        exact this
theorem w138e {fw : FW} {ps0 m k0 k1 s : Nat} {c W : Nat → Nat} (hn : n ≤ 4200) (hl : l ≤ 4200) (hsh : sh ≤ 140) (hs : s < sh) (hS : So s = 10) (hk1 : k1 ≤ kc) (hkc : kc ≤ 2200) (hm : 0 < m) (hps : ps0 + (W m - 1) + 2 ≤ 4200) {cc : Nat} {To : Nat → Int32} (ht : toldOK So To cc sh)
    (hch : ∀ i, i < m → k0 ≤ c i ∧ c i < k1 ∧ kX (c i) = (if i + 1 = m then -1 else nI (c (i + 1))) ∧ ∃ y sy, kN (c i) = nI y ∧ strN K N S n l y sy ∧ W (i + 1) = W i + sy + 3) :
    ∀ (fuel i ps : Nat) (Pl : Nat → Int32), i ≤ m → m - i < fuel → (i < m → ps = ps0 + W i) → (i = m → ps = ps0 + (W m - 1)) →
    FN (fun g => m_X9_writeNamed_138 fw (ov n N g.2) (ov n S (g.1 2)) (ov l Lt (g.1 5)) (ov sh So (g.1 7)) (ov sh Na (g.1 8)) (ow sh Wi (g.1 9)) (ov sh Ki (g.1 10)) (ov kc kS (g.1 13)) (ov kc kN (g.1 14)) (ov kc kX (g.1 16)) fuel (ov ps Pl (g.1 18)) (nI ps) (ov sh To (g.1 19)) (nI s) (if i = m then -1 else nI (c i))) (wrP So sh (ps0 + (W m - 1) + 2) cc) := by
  have l65 : lenS.getD 65 0 = 1 := by decide +kernel
  have l66 : lenS.getD 66 0 = 0 := by decide +kernel
  have l74 : lenS.getD 74 0 = 2 := by decide +kernel
  have hmono : ∀ i, i < m → W i ≤ W (i + 1) := fun i hi => by
    obtain ⟨-, -, -, y, sy, -, -, e⟩ := hch i hi
    omega
  intro fuel
  induction fuel with
  | zero => intro i ps Pl _ hf; exact absurd hf (Nat.not_lt_zero _)
  | succ fuel ih =>
    intro i ps Pl hi hf h1 h2
    by_cases him : i = m
    · subst him
      have hp := h2 rfl
      subst hp
      simp only [if_true, m_X9_writeNamed_138, if_pos (show (-1 : Int32) < 0 by decide)]
      refine FN.bind (put_ok (by decide) l74 (by omega)) ?_
      rintro _ ⟨Pl', rfl⟩
      dsimp only
      exact FN.ok ⟨Pl', To, rfl, ht⟩
    · have hp := h1 (by omega)
      subst hp
      obtain ⟨d1, d2, d3, y, sy, d4, d5, d6⟩ := hch i (by omega)
      have hW := up_le hmono (m - (i + 1)) (i + 1) (by omega)
      rw [show i + 1 + (m - (i + 1)) = m by omega] at hW
      simp only [if_neg him, m_X9_writeNamed_138, if_neg (nI_pos (show c i < 2 ^ 31 by omega)), bd_go (show s < 140 by omega) (by decide), bd_gc (show s < 140 by omega) (by decide), nI_clamp (show s < 2 ^ 31 by omega), ov_lt hs, hS, if_neg (show ¬ (10 : Int32) = 11 by decide), m_X9_writeNamed_160, bd_go (show c i < 2200 by omega) (by decide), bd_gc (show c i < 2200 by omega) (by decide), nI_clamp (show c i < 2 ^ 31 by omega), ov_lt (show c i < kc by omega), d4]
      refine FN.bind (pun_ok hn hl d5 (by omega)) ?_
      rintro _ ⟨Pl', rfl⟩
      dsimp only
      simp only [m_X9_writeNamed_205, bd_go (show c i < 2200 by omega) (by decide), bd_gc (show c i < 2200 by omega) (by decide), nI_clamp (show c i < 2 ^ 31 by omega), ov_lt (show c i < kc by omega), d3]
      by_cases hl : i + 1 = m
      · simp only [if_pos hl, if_pos (show (-1 : Int32) < 0 by decide), m_X9_writeNamed_224]
        refine FN.bind (put_ok (by decide) l66 (by omega)) ?_
        rintro _ ⟨Pl2, rfl⟩
        dsimp only
        simp only [bd_go (show c i < 2200 by omega) (by decide), bd_gc (show c i < 2200 by omega) (by decide), nI_clamp (show c i < 2 ^ 31 by omega), ov_lt (show c i < kc by omega), d3, if_pos hl]
        have := ih (i + 1) (ps0 + W i + (sy + 2) + 0) Pl2 (by omega) (by omega) (fun q => absurd q (by omega)) (fun _ => by rw [← hl]; omega)
        rw [if_pos hl] at this
        exact this
      · obtain ⟨e1, e2, -⟩ := hch (i + 1) (by omega)
        simp only [if_neg hl, if_neg (nI_pos (show c (i + 1) < 2 ^ 31 by omega)), m_X9_writeNamed_224]
        refine FN.bind (put_ok (by decide) l65 (by omega)) ?_
        rintro _ ⟨Pl2, rfl⟩
        dsimp only
        simp only [bd_go (show c i < 2200 by omega) (by decide), bd_gc (show c i < 2200 by omega) (by decide), nI_clamp (show c i < 2 ^ 31 by omega), ov_lt (show c i < kc by omega), d3, if_neg hl]
        have := ih (i + 1) (ps0 + W i + (sy + 2) + 1) Pl2 (by omega) (by omega) (fun _ => by omega) (fun q => absurd q hl)
        rw [if_neg hl] at this
        exact this
theorem w138r {fw : FW} {h c' ps0 m k0 k1 s : Nat} {c t e W : Nat → Nat} (hfw : okW K S Lt So Na Wi Ki kS kN kX N n l sh kc fw h) (hn : n ≤ 4200) (hl : l ≤ 4200) (h6 : 6 ≤ s) (hsh : sh ≤ 140) (hs : s < sh) (hS : So s = 11) (hc' : c' ≤ sh) (hk1 : k1 ≤ kc) (hkc : kc ≤ 2200) (hps : ps0 + (W m - 1) + 2 ≤ 4200) (htm : t m = c') (hW0 : W 0 = 0)
    (hch : ∀ i, i < m → s < t i ∧ t (i + 1) ≤ c' ∧ k0 ≤ c i ∧ c i < e i ∧ e i ≤ k1 ∧ kX (c i) = (if i + 1 = m then -1 else nI (c (i + 1))) ∧ ∃ y sy z w', kN (c i) = nI y ∧ strN K N S n l y sy ∧ kS (c i) = nI z ∧ Occ (strN K N S n l) So Na Wi Ki kS kN kX h z (t i) (t (i + 1)) (c i + 1) (e i) w' ∧ W (i + 1) = W i + w' + sy + 20) :
    ∀ (fuel i ps : Nat) (Pl To : Nat → Int32), i ≤ m → m - i < fuel → toldOK So To (t i) sh → (i < m → ps = ps0 + W i) → (i = m → ps = ps0 + (W m - 1)) →
    FN (fun g => m_X9_writeNamed_138 fw (ov n N g.2) (ov n S (g.1 2)) (ov l Lt (g.1 5)) (ov sh So (g.1 7)) (ov sh Na (g.1 8)) (ow sh Wi (g.1 9)) (ov sh Ki (g.1 10)) (ov kc kS (g.1 13)) (ov kc kN (g.1 14)) (ov kc kX (g.1 16)) fuel (ov ps Pl (g.1 18)) (nI ps) (ov sh To (g.1 19)) (nI s) (if i = m then -1 else nI (c i))) (wrP So sh (ps0 + (W m - 1) + 2) c') := by
  have l63 : lenS.getD 63 0 = 1 := by decide +kernel
  have l65 : lenS.getD 65 0 = 1 := by decide +kernel
  have l66 : lenS.getD 66 0 = 0 := by decide +kernel
  have l69 : lenS.getD 69 0 = 8 := by decide +kernel
  have l73 : lenS.getD 73 0 = 8 := by decide +kernel
  have l74 : lenS.getD 74 0 = 2 := by decide +kernel
  have hmono : ∀ i, i < m → W i ≤ W (i + 1) := fun i hi => by
    obtain ⟨-, -, -, -, -, -, y, sy, z, w', -, -, -, -, e⟩ := hch i hi
    omega
  intro fuel
  induction fuel with
  | zero => intro i ps Pl To _ hf; exact absurd hf (Nat.not_lt_zero _)
  | succ fuel ih =>
    intro i ps Pl To hi hf ht h1 h2
    by_cases him : i = m
    · subst him
      have hp := h2 rfl
      subst hp
      simp only [if_true, m_X9_writeNamed_138, if_pos (show (-1 : Int32) < 0 by decide)]
      refine FN.bind (put_ok (by decide) l74 (by omega)) ?_
      rintro _ ⟨Pl', rfl⟩
      dsimp only
      exact FN.ok ⟨Pl', To, rfl, by rw [← htm]; exact ht⟩
    · have hp := h1 (by omega)
      subst hp
      obtain ⟨d1, d2, d3, d4, d5, d6, y, sy, z, w', d7, d8, d9, d10, d11⟩ := hch i (by omega)
      have hW := up_le hmono (m - (i + 1)) (i + 1) (by omega)
      rw [show i + 1 + (m - (i + 1)) = m by omega] at hW
      simp only [if_neg him, m_X9_writeNamed_138, if_neg (nI_pos (show c i < 2 ^ 31 by omega)), bd_go (show s < 140 by omega) (by decide), bd_gc (show s < 140 by omega) (by decide), nI_clamp (show s < 2 ^ 31 by omega), ov_lt hs, hS, if_true]
      refine FN.bind (put_ok (by decide) l69 (by omega)) ?_
      rintro _ ⟨P1, rfl⟩
      dsimp only
      simp only [m_X9_writeNamed_160, bd_go (show c i < 2200 by omega) (by decide), bd_gc (show c i < 2200 by omega) (by decide), nI_clamp (show c i < 2 ^ 31 by omega), ov_lt (show c i < kc by omega), d7]
      refine FN.bind (pun_ok hn hl d8 (by omega)) ?_
      rintro _ ⟨P2, rfl⟩
      dsimp only
      simp only [bd_go (show s < 140 by omega) (by decide), bd_gc (show s < 140 by omega) (by decide), nI_clamp (show s < 2 ^ 31 by omega), ov_lt hs, hS, if_true]
      refine FN.bind (put_ok (by decide) l73 (by omega)) ?_
      rintro _ ⟨P3, rfl⟩
      dsimp only
      simp only [bd_go (show c i < 2200 by omega) (by decide), bd_gc (show c i < 2200 by omega) (by decide), nI_clamp (show c i < 2 ^ 31 by omega), ov_lt (show c i < kc by omega), d9]
      refine FN.bind (hfw z (t i) (t (i + 1)) (c i + 1) (e i) w' (ps0 + W i + 8 + (sy + 2) + 8) P3 To (by omega) (by omega) (by omega) d10 (by omega) ht) ?_
      rintro _ ⟨P4, To', rfl, ht'⟩
      dsimp only
      refine FN.bind (put_ok (by decide) l63 (by omega)) ?_
      rintro _ ⟨P5, rfl⟩
      dsimp only
      simp only [m_X9_writeNamed_205, bd_go (show c i < 2200 by omega) (by decide), bd_gc (show c i < 2200 by omega) (by decide), nI_clamp (show c i < 2 ^ 31 by omega), ov_lt (show c i < kc by omega), d6]
      by_cases hl : i + 1 = m
      · simp only [if_pos hl, if_pos (show (-1 : Int32) < 0 by decide), m_X9_writeNamed_224]
        refine FN.bind (put_ok (by decide) l66 (by omega)) ?_
        rintro _ ⟨P6, rfl⟩
        dsimp only
        simp only [bd_go (show c i < 2200 by omega) (by decide), bd_gc (show c i < 2200 by omega) (by decide), nI_clamp (show c i < 2 ^ 31 by omega), ov_lt (show c i < kc by omega), d6, if_pos hl]
        have := ih (i + 1) (ps0 + W i + 8 + (sy + 2) + 8 + w' + 1 + 0) P6 To' (by omega) (by omega) ht' (fun q => absurd q (by omega)) (fun _ => by rw [← hl]; omega)
        rw [if_pos hl] at this
        exact this
      · obtain ⟨e1, e2, e3, e4, e5, -⟩ := hch (i + 1) (by omega)
        simp only [if_neg hl, if_neg (nI_pos (show c (i + 1) < 2 ^ 31 by omega)), m_X9_writeNamed_224]
        refine FN.bind (put_ok (by decide) l65 (by omega)) ?_
        rintro _ ⟨P6, rfl⟩
        dsimp only
        simp only [bd_go (show c i < 2200 by omega) (by decide), bd_gc (show c i < 2200 by omega) (by decide), nI_clamp (show c i < 2 ^ 31 by omega), ov_lt (show c i < kc by omega), d6, if_neg hl]
        have := ih (i + 1) (ps0 + W i + 8 + (sy + 2) + 8 + w' + 1 + 1) P6 To' (by omega) (by omega) ht' (fun _ => by omega) (fun q => absurd q hl)
        rw [if_neg hl] at this
        exact this
theorem six_eq : ∀ s, s < 6 → (nI s = 0 → s = 0) ∧ (nI s = 1 → s = 1) ∧ (nI s = 2 → s = 2) ∧ (nI s = 3 → s = 3) ∧ (nI s = 4 → s = 4) ∧ (nI s = 5 → s = 5) := by decide
theorem wri_ok (hn : n ≤ 4200) (hl : l ≤ 4200) (hsh : sh ≤ 140) (hkc : kc ≤ 2200) (h6 : ∀ s, s < 6 → So s = nI s) : ∀ (D h : Nat), h < D → okW K S Lt So Na Wi Ki kS kN kX N n l sh kc (m_X9_write D) h := by
  have l61 : lenS.getD 61 0 = 24 := by decide +kernel
  have l62 : lenS.getD 62 0 = 23 := by decide +kernel
  have l63 : lenS.getD 63 0 = 1 := by decide +kernel
  have l64 : lenS.getD 64 0 = 1 := by decide +kernel
  have l68 : lenS.getD 68 0 = 1 := by decide +kernel
  have l69 : lenS.getD 69 0 = 8 := by decide +kernel
  have l70 : lenS.getD 70 0 = 23 := by decide +kernel
  have l71 : lenS.getD 71 0 = 26 := by decide +kernel
  have l72 : lenS.getD 72 0 = 27 := by decide +kernel
  have e1 : vp_nar .boolean 1 = 1 := by decide +kernel
  intro D
  induction D with
  | zero => intro h hf; exact absurd hf (Nat.not_lt_zero _)
  | succ D ih =>
    intro h hD s c c' k0 k1 w ps Pl To hc6 hc' hk1 ho hps ht
    have hsc := ho.lt hc6
    have hs : s < sh := by omega
    have hbase : base (strN K N S n l) So Na s c c' w → FN (fun g => m_X9_write (D + 1) (ov n N g.2) (ov n S (g.1 2)) (ov l Lt (g.1 5)) (ov sh So (g.1 7)) (ov sh Na (g.1 8)) (ow sh Wi (g.1 9)) (ov sh Ki (g.1 10)) (ov kc kS (g.1 13)) (ov kc kN (g.1 14)) (ov kc kX (g.1 16)) (ov ps Pl (g.1 18)) (nI ps) (ov sh To (g.1 19)) (nI s)) (wrP So sh (ps + w) c') := by
      rintro ⟨rfl, ⟨hs6, rfl⟩ | ⟨hs6, hsc', hso, x, sz, hna, hT, rfl⟩⟩
      · have hSo := h6 s hs6
        obtain ⟨a1, a2, a3, a4, a5, a6⟩ := six_ne s hs6
        obtain ⟨b0, b1, b2, b3, b4, b5⟩ := six_eq s hs6
        simp only [m_X9_write, bd_go (show s < 140 by omega) (by decide), bd_gc (show s < 140 by omega) (by decide), nI_clamp (show s < 2 ^ 31 by omega), ov_lt hs, hSo, if_neg a1, if_neg a2, if_neg a3, if_neg a4, if_neg a5, if_neg a6]
        refine FN.bind (put_ok (by decide) l68 (by unfold wl at hps; omega)) ?_
        rintro _ ⟨P1, rfl⟩
        dsimp only
        have fin : ∀ (x len : Nat), x < 75 → lenS.getD x 0 = len → wl s = len + 2 → FN (fun g => m_X9_write_255 (m_X9_write D) (ov n N g.2) (ov n S (g.1 2)) (ov l Lt (g.1 5)) (ov sh So (g.1 7)) (ov sh Na (g.1 8)) (ow sh Wi (g.1 9)) (ov sh Ki (g.1 10)) (ov kc kS (g.1 13)) (ov kc kN (g.1 14)) (ov kc kX (g.1 16)) (ov (ps + 1) P1 (g.1 18)) (nI (ps + 1)) (ov sh To (g.1 19)) x) (wrP So sh (ps + wl s) c') := by
          intro x len hx hlen hw
          rw [hw] at hps ⊢
          simp only [m_X9_write_255]
          refine FN.bind (put_ok hx hlen (by omega)) ?_
          rintro _ ⟨P2, rfl⟩
          dsimp only
          refine FN.bind (put_ok (by decide) l68 (by omega)) ?_
          rintro _ ⟨P3, rfl⟩
          dsimp only
          exact FN.ok ⟨P3, To, by rw [show ps + 1 + len + 1 = ps + (len + 2) by omega], ht⟩
        refine FN.ite (fun q => fin 42 4 (by decide) (by decide +kernel) ?_) (fun q0 => FN.ite (fun q => fin 43 7 (by decide) (by decide +kernel) ?_) (fun q1 => FN.ite (fun q => fin 44 3 (by decide) (by decide +kernel) ?_) (fun q2 => FN.ite (fun q => fin 45 4 (by decide) (by decide +kernel) ?_) (fun q3 => FN.ite (fun q => fin 46 5 (by decide) (by decide +kernel) ?_) (fun q4 => fin 47 6 (by decide) (by decide +kernel) ?_)))))
        · rw [b0 q]; decide +kernel
        · rw [b1 q]; decide +kernel
        · rw [b2 q]; decide +kernel
        · rw [b3 q]; decide +kernel
        · rw [b4 q]; decide +kernel
        · rcases six_in s hs6 with q | q | q | q | q | q
          · exact absurd q q0
          · exact absurd q q1
          · exact absurd q q2
          · exact absurd q q3
          · exact absurd q q4
          · rw [b5 q]; decide +kernel
      · have hto := ht s hs6 hs hso
        rw [if_pos hsc'] at hto
        have hn9 : ∀ k : Int32, (k = 6 ∨ k = 7 ∨ k = 8) → ¬ So s = k := by
          intro k hk q
          rw [q] at hso
          rcases hk with e | e | e <;> rw [e] at hso <;> exact absurd hso (by decide)
        have hname : FN (fun g => m_X9_writeNamed (m_X9_write D) (ov n N g.2) (ov n S (g.1 2)) (ov l Lt (g.1 5)) (ov sh So (g.1 7)) (ov sh Na (g.1 8)) (ow sh Wi (g.1 9)) (ov sh Ki (g.1 10)) (ov kc kS (g.1 13)) (ov kc kN (g.1 14)) (ov kc kX (g.1 16)) (ov ps Pl (g.1 18)) (nI ps) (ov sh To (g.1 19)) (nI s)) (wrP So sh (ps + (sz + 2)) c') := by
          simp only [m_X9_writeNamed, bd_go (show s < 140 by omega) (by decide), bd_gc (show s < 140 by omega) (by decide), nI_clamp (show s < 2 ^ 31 by omega), ov_lt hs, hto, if_neg (show ¬ (1 : Int32) = 0 by decide), hna]
          refine FN.bind (pun_ok hn hl hT hps) ?_
          rintro _ ⟨P1, rfl⟩
          dsimp only
          exact FN.ok ⟨P1, To, rfl, ht⟩
        have hname2 : FN (fun g => (m_X9_writeNamed (m_X9_write D) (ov n N g.2) (ov n S (g.1 2)) (ov l Lt (g.1 5)) (ov sh So (g.1 7)) (ov sh Na (g.1 8)) (ow sh Wi (g.1 9)) (ov sh Ki (g.1 10)) (ov kc kS (g.1 13)) (ov kc kN (g.1 14)) (ov kc kX (g.1 16)) (ov ps Pl (g.1 18)) (nI ps) (ov sh To (g.1 19)) (nI s)).bind fun (x : TW) => some (x.1, x.2.1, x.2.2)) (wrP So sh (ps + (sz + 2)) c') := FN.bind hname (fun u hu => FN.ok hu)
        simp only [m_X9_write, bd_go (show s < 140 by omega) (by decide), bd_gc (show s < 140 by omega) (by decide), nI_clamp (show s < 2 ^ 31 by omega), ov_lt hs, if_neg (hn9 6 (Or.inl rfl)), if_neg (hn9 7 (Or.inr (Or.inl rfl))), if_neg (hn9 8 (Or.inr (Or.inr rfl)))]
        rcases hso with q | q | q
        · simp only [q, if_true]
          exact hname2
        · simp only [q, if_neg (show ¬ (10 : Int32) = 9 by decide), if_true]
          exact hname2
        · simp only [q, if_neg (show ¬ (11 : Int32) = 9 by decide), if_neg (show ¬ (11 : Int32) = 10 by decide), if_true]
          exact hname2
    cases h with
    | zero => exact hbase ho
    | succ h =>
      rcases ho with ho | ⟨rfl, hlt, hcre⟩
      · exact hbase ho
      have hfw := ih h (by omega)
      have hto : (So s = 9 ∨ So s = 10 ∨ So s = 11) → To s = 0 := fun q => by
        rw [ht s hc6 hs q, if_neg (by omega)]
      rcases hcre.sort with e67 | e8 | e9 | e10 | e11
      · -- arrays and maps
        obtain ⟨t, w', y1, y2, y3, y4, y5, y6⟩ := hcre.arr e67
        have ht1 : toldOK So To (s + 1) sh := told_skip ht (by rcases e67 with q | q <;> rw [q] <;> decide)
        have go : ∀ (x len : Nat), x < 75 → lenS.getD x 0 = len → w = len + 1 + w' → FN (fun g => m_X9_write_65 (m_X9_write D) (ov n N g.2) (ov n S (g.1 2)) (ov l Lt (g.1 5)) (ov sh So (g.1 7)) (ov sh Na (g.1 8)) (ow sh Wi (g.1 9)) (ov sh Ki (g.1 10)) (ov kc kS (g.1 13)) (ov kc kN (g.1 14)) (ov kc kX (g.1 16)) (ov ps Pl (g.1 18)) (nI ps) (ov sh To (g.1 19)) (nI s) x) (wrP So sh (ps + w) c') := by
          intro x len hx hlen hw
          subst hw
          simp only [m_X9_write_65]
          refine FN.bind (put_ok hx hlen (by omega)) ?_
          rintro _ ⟨P1, rfl⟩
          dsimp only
          simp only [bd_go (show s < 140 by omega) (by decide), bd_gc (show s < 140 by omega) (by decide), nI_clamp (show s < 2 ^ 31 by omega), ov_lt hs, y1, bd_go (show k0 < 2200 by omega) (by decide), bd_gc (show k0 < 2200 by omega) (by decide), nI_clamp (show k0 < 2 ^ 31 by omega), ov_lt (show k0 < kc by omega), y4]
          refine FN.bind (hfw t (s + 1) c' (k0 + 1) k1 w' (ps + len) P1 To (by omega) hc' hk1 y5 (by omega) ht1) ?_
          rintro _ ⟨P2, To', rfl, ht'⟩
          dsimp only
          refine FN.bind (put_ok (by decide) l63 (by omega)) ?_
          rintro _ ⟨P3, rfl⟩
          dsimp only
          exact FN.ok ⟨P3, To', by rw [show ps + len + w' + 1 = ps + (len + 1 + w') by omega], ht'⟩
        rcases e67 with q | q
        · rw [if_pos q] at y6
          simp only [m_X9_write, bd_go (show s < 140 by omega) (by decide), bd_gc (show s < 140 by omega) (by decide), nI_clamp (show s < 2 ^ 31 by omega), ov_lt hs, q, if_true]
          exact go 61 24 (by decide) l61 (by omega)
        · rw [if_neg (by rw [q]; decide)] at y6
          simp only [m_X9_write, bd_go (show s < 140 by omega) (by decide), bd_gc (show s < 140 by omega) (by decide), nI_clamp (show s < 2 ^ 31 by omega), ov_lt hs, q, if_neg (show ¬ (7 : Int32) = 6 by decide), if_true]
          exact go 62 23 (by decide) l62 (by omega)
      · -- unions
        obtain ⟨m, cc, t, b, W, y1, y2, y3, y4, y5, y6, y7⟩ := hcre.uni e8
        subst y6
        have ht1 : toldOK So To (s + 1) sh := told_skip ht (by rw [e8]; decide)
        simp only [m_X9_write, bd_go (show s < 140 by omega) (by decide), bd_gc (show s < 140 by omega) (by decide), nI_clamp (show s < 2 ^ 31 by omega), ov_lt hs, e8, if_neg (show ¬ (8 : Int32) = 6 by decide), if_neg (show ¬ (8 : Int32) = 7 by decide), if_true]
        refine FN.bind (put_ok (by decide) l64 (by omega)) ?_
        rintro _ ⟨P1, rfl⟩
        dsimp only
        simp only [bd_go (show s < 140 by omega) (by decide), bd_gc (show s < 140 by omega) (by decide), nI_clamp (show s < 2 ^ 31 by omega), ov_lt hs, y2]
        have := w107 hfw hc6 hc' hk1 hkc y1.1 (ps0 := ps + 1) (by omega) y4 y7 sr_fuel 0 (ps + 1) P1 To (by omega) (by unfold sr_fuel; omega) (by rw [y3]; exact ht1) (fun _ => by omega) (fun q => absurd q (by omega))
        rw [if_neg (by omega), show ps + 1 + (W m - 1) + 1 = ps + (2 + (W m - 1)) by omega] at this
        exact this
      · -- fixeds
        obtain ⟨rfl, x, sz, d, y1, y2, y3, y4, rfl⟩ := hcre.fix e9
        have ht1 := told_new ht
        have hname : FN (fun g => m_X9_writeNamed (m_X9_write D) (ov n N g.2) (ov n S (g.1 2)) (ov l Lt (g.1 5)) (ov sh So (g.1 7)) (ov sh Na (g.1 8)) (ow sh Wi (g.1 9)) (ov sh Ki (g.1 10)) (ov kc kS (g.1 13)) (ov kc kN (g.1 14)) (ov kc kX (g.1 16)) (ov ps Pl (g.1 18)) (nI ps) (ov sh To (g.1 19)) (nI s)) (wrP So sh (ps + (34 + sz + (if 9 < d then 2 else 1))) (s + 1)) := by
          simp only [m_X9_writeNamed, bd_go (show s < 140 by omega) (by decide), bd_gc (show s < 140 by omega) (by decide), nI_clamp (show s < 2 ^ 31 by omega), ov_lt hs, hto (Or.inl e9), if_true, ov_up hs, ow_lt hc6 hs, e1, y1, e9, y3]
          have hle : 34 + sz + (if 9 < d then 2 else 1) ≤ 36 + sz := by split <;> omega
          have hge : 35 + sz ≤ 34 + sz + (if 9 < d then 2 else 1) := by split <;> omega
          refine FN.bind (put_ok (by decide) l69 (by omega)) ?_
          rintro _ ⟨P1, rfl⟩
          dsimp only
          refine FN.bind (pun_ok hn hl y2 (by omega)) ?_
          rintro _ ⟨P2, rfl⟩
          dsimp only
          refine FN.bind (put_ok (by decide) l70 (by omega)) ?_
          rintro _ ⟨P3, rfl⟩
          dsimp only
          have tl : ∀ (ps1 : Nat) (Pl1 : Nat → Int32), ps1 + 2 ≤ 4200 → FN (fun g => m_X9_writeNamed_86 (m_X9_write D) (ov n N g.2) (ov n S (g.1 2)) (ov l Lt (g.1 5)) (ov sh So (g.1 7)) (ov sh Na (g.1 8)) (ow sh Wi (g.1 9)) (ov sh Ki (g.1 10)) (ov kc kS (g.1 13)) (ov kc kN (g.1 14)) (ov kc kX (g.1 16)) (ov ps1 Pl1 (g.1 18)) (nI ps1) (ov sh (upd To s 1) (g.1 19)) (nI s)) (wrP So sh (ps1 + 2) (s + 1)) := by
            intro ps1 Pl1 hp1
            simp only [m_X9_writeNamed_86, bd_go (show s < 140 by omega) (by decide), bd_gc (show s < 140 by omega) (by decide), nI_clamp (show s < 2 ^ 31 by omega), ow_lt hc6 hs, y3]
            refine FN.bind (fig_ok (by omega)) ?_
            rintro _ ⟨P5, rfl⟩
            dsimp only
            refine FN.bind (put_ok (by decide) l63 (by omega)) ?_
            rintro _ ⟨P6, rfl⟩
            dsimp only
            exact FN.ok ⟨P6, _, rfl, ht1⟩
          by_cases hd : 9 < d
          · rw [if_pos hd] at hps ⊢
            simp only [if_neg (show ¬ nI d ≤ 9 from nI_ge (a := 9) hd (by omega))]
            refine FN.bind (fig_ok (by omega)) ?_
            rintro _ ⟨P4, rfl⟩
            dsimp only
            have := tl (ps + 8 + (sz + 2) + 23 + 1) P4 (by omega)
            rw [show ps + 8 + (sz + 2) + 23 + 1 + 2 = ps + (34 + sz + 2) by omega] at this
            exact this
          · rw [if_neg hd] at hps ⊢
            simp only [if_pos (show nI d ≤ 9 from nI_le (b := 9) (by omega) (by omega))]
            have := tl (ps + 8 + (sz + 2) + 23) P3 (by omega)
            rw [show ps + 8 + (sz + 2) + 23 + 2 = ps + (34 + sz + 1) by omega] at this
            exact this
        simp only [m_X9_write, bd_go (show s < 140 by omega) (by decide), bd_gc (show s < 140 by omega) (by decide), nI_clamp (show s < 2 ^ 31 by omega), ov_lt hs, e9, if_neg (show ¬ (9 : Int32) = 6 by decide), if_neg (show ¬ (9 : Int32) = 7 by decide), if_neg (show ¬ (9 : Int32) = 8 by decide), if_true]
        exact FN.bind hname (fun u hu => FN.ok hu)
      · -- enums
        obtain ⟨rfl, x, sz, m, cc, W, y1, y2, y3, y4, y5, rfl, y7⟩ := hcre.enm e10
        have ht1 := told_new ht
        have hname : FN (fun g => m_X9_writeNamed (m_X9_write D) (ov n N g.2) (ov n S (g.1 2)) (ov l Lt (g.1 5)) (ov sh So (g.1 7)) (ov sh Na (g.1 8)) (ow sh Wi (g.1 9)) (ov sh Ki (g.1 10)) (ov kc kS (g.1 13)) (ov kc kN (g.1 14)) (ov kc kX (g.1 16)) (ov ps Pl (g.1 18)) (nI ps) (ov sh To (g.1 19)) (nI s)) (wrP So sh (ps + (38 + sz + (W m - 1))) (s + 1)) := by
          simp only [m_X9_writeNamed, bd_go (show s < 140 by omega) (by decide), bd_gc (show s < 140 by omega) (by decide), nI_clamp (show s < 2 ^ 31 by omega), ov_lt hs, hto (Or.inr (Or.inl e10)), if_true, ov_up hs, e1, y1, e10, if_neg (show ¬ (10 : Int32) = 9 by decide)]
          refine FN.bind (put_ok (by decide) l69 (by omega)) ?_
          rintro _ ⟨P1, rfl⟩
          dsimp only
          refine FN.bind (pun_ok hn hl y2 (by omega)) ?_
          rintro _ ⟨P2, rfl⟩
          dsimp only
          simp only [m_X9_writeNamed_128]
          refine FN.bind (put_ok (by decide) l71 (by omega)) ?_
          rintro _ ⟨P3, rfl⟩
          dsimp only
          simp only [bd_go (show s < 140 by omega) (by decide), bd_gc (show s < 140 by omega) (by decide), nI_clamp (show s < 2 ^ 31 by omega), ov_lt hs, y4]
          have := w138e (Lt := Lt) (Na := Na) (Wi := Wi) (Ki := Ki) (kS := kS) (fw := m_X9_write D) hn hl hsh hs e10 hk1 hkc y3.1 (ps0 := ps + 8 + (sz + 2) + 26) (by omega) ht1 y7 sr_fuel 0 (ps + 8 + (sz + 2) + 26) P3 (by omega) (by unfold sr_fuel; omega) (fun _ => by omega) (fun q => absurd q (by omega))
          rw [if_neg (by omega), show ps + 8 + (sz + 2) + 26 + (W m - 1) + 2 = ps + (38 + sz + (W m - 1)) by omega] at this
          exact this
        simp only [m_X9_write, bd_go (show s < 140 by omega) (by decide), bd_gc (show s < 140 by omega) (by decide), nI_clamp (show s < 2 ^ 31 by omega), ov_lt hs, e10, if_neg (show ¬ (10 : Int32) = 6 by decide), if_neg (show ¬ (10 : Int32) = 7 by decide), if_neg (show ¬ (10 : Int32) = 8 by decide), if_neg (show ¬ (10 : Int32) = 9 by decide), if_true]
        exact FN.bind hname (fun u hu => FN.ok hu)
      · -- records
        obtain ⟨x, sz, m, cc, t, e, W, y1, y2, y3, y4, y5, y6, rfl, y8⟩ := hcre.rec' e11
        have ht1 := told_new ht
        have hst : (if m = 0 then (-1 : Int32) else nI (cc 0)) = (if 0 = m then -1 else nI (cc 0)) := by
          by_cases h0 : m = 0
          · rw [if_pos h0, if_pos h0.symm]
          · rw [if_neg h0, if_neg (fun q => h0 q.symm)]
        have hname : FN (fun g => m_X9_writeNamed (m_X9_write D) (ov n N g.2) (ov n S (g.1 2)) (ov l Lt (g.1 5)) (ov sh So (g.1 7)) (ov sh Na (g.1 8)) (ow sh Wi (g.1 9)) (ov sh Ki (g.1 10)) (ov kc kS (g.1 13)) (ov kc kN (g.1 14)) (ov kc kX (g.1 16)) (ov ps Pl (g.1 18)) (nI ps) (ov sh To (g.1 19)) (nI s)) (wrP So sh (ps + (39 + sz + (W m - 1))) c') := by
          simp only [m_X9_writeNamed, bd_go (show s < 140 by omega) (by decide), bd_gc (show s < 140 by omega) (by decide), nI_clamp (show s < 2 ^ 31 by omega), ov_lt hs, hto (Or.inr (Or.inr e11)), if_true, ov_up hs, e1, y1, e11, if_neg (show ¬ (11 : Int32) = 9 by decide), if_neg (show ¬ (11 : Int32) = 10 by decide)]
          refine FN.bind (put_ok (by decide) l69 (by omega)) ?_
          rintro _ ⟨P1, rfl⟩
          dsimp only
          refine FN.bind (pun_ok hn hl y2.1 (by omega)) ?_
          rintro _ ⟨P2, rfl⟩
          dsimp only
          simp only [m_X9_writeNamed_128]
          refine FN.bind (put_ok (by decide) l72 (by omega)) ?_
          rintro _ ⟨P3, rfl⟩
          dsimp only
          simp only [bd_go (show s < 140 by omega) (by decide), bd_gc (show s < 140 by omega) (by decide), nI_clamp (show s < 2 ^ 31 by omega), ov_lt hs, y3, hst]
          have := w138r hfw hn hl hc6 hsh hs e11 hc' hk1 hkc (ps0 := ps + 8 + (sz + 2) + 27) (by omega) y5 y6 y8 sr_fuel 0 (ps + 8 + (sz + 2) + 27) P3 (upd To s 1) (by omega) (by unfold sr_fuel; omega) (by rw [y4]; exact ht1) (fun _ => by omega) (fun q => by rw [← q]; omega)
          rw [show ps + 8 + (sz + 2) + 27 + (W m - 1) + 2 = ps + (39 + sz + (W m - 1)) by omega] at this
          exact this
        simp only [m_X9_write, bd_go (show s < 140 by omega) (by decide), bd_gc (show s < 140 by omega) (by decide), nI_clamp (show s < 2 ^ 31 by omega), ov_lt hs, e11, if_neg (show ¬ (11 : Int32) = 6 by decide), if_neg (show ¬ (11 : Int32) = 7 by decide), if_neg (show ¬ (11 : Int32) = 8 by decide), if_neg (show ¬ (11 : Int32) = 9 by decide), if_neg (show ¬ (11 : Int32) = 10 by decide), if_true]
        exact FN.bind hname (fun u hu => FN.ok hu)
end WRIs
end
