-- the reference's reading of values
abbrev TV : Type := Int32 × Int32 × Int32 × Int32 × Int32 × (Nat → Int32) × (Nat → Int32) × (Nat → Int64) × (Nat → Int32) × (Nat → Int32) × (Nat → Int32) × (Nat → Int32) × Int32
def fpV : TV → Int32 × Int32 := fun u => (u.2.2.1, u.2.2.2.1)
abbrev agR (n : Nat) (K F : Nat → Int32) (N : Nat → Int64) (S I X K' F' : Nat → Int32) (N' : Nat → Int64) (S' I' X' : Nat → Int32) : Prop := ag n K K' ∧ ag n F F' ∧ ag n N N' ∧ ag n S S' ∧ ag n I I' ∧ ag n X X'
def postV (L h a n l d : Nat) (fl pl : Int32) (K F : Nat → Int32) (N : Nat → Int64) (S I X Lt : Nat → Int32) (v : Int32) (u : Gs → TV) : Prop :=
  ∃ (b n' l' : Nat) (K' F' : Nat → Int32) (N' : Nat → Int64) (S' I' X' Lt' : Nat → Int32), v = nI n ∧ u = (fun g => (nI b, nI d, fl, pl, nI n', ov n' K' (g.1 0), ov n' F' (g.1 1), ov n' N' g.2, ov n' S' (g.1 2), ov n' I' (g.1 3), ov n' X' (g.1 4), ov l' Lt' (g.1 5), nI l')) ∧
    a < b ∧ b ≤ L ∧ n' + a ≤ n + b ∧ l ≤ l' ∧ l' + a ≤ l + b ∧ agR n K F N S I X K' F' N' S' I' X' ∧ ag l Lt Lt' ∧ X' n = -1 ∧ Val K' F' N' S' I' X' l' h n n' a b
abbrev FV : Type := (Nat → Int32) → Int32 → Int32 → Int32 → Int32 → Int32 → Int32 → (Nat → Int32) → (Nat → Int32) → (Nat → Int64) → (Nat → Int32) → (Nat → Int32) → (Nat → Int32) → (Nat → Int32) → Int32 → Option (Except TV (Int32 × TV))
def okV (B : Nat → Int32) (L : Nat) (fv : FV) (d h : Nat) : Prop :=
  ∀ (a n l : Nat) (K F : Nat → Int32) (N : Nat → Int64) (S I X Lt : Nat → Int32) (fl pl : Int32), a ≤ L → n ≤ a → l ≤ a →
    RES (fun g => fv (ov L B (g.1 6)) (nI L) (nI a) (nI d) fl pl (nI n) (ov n K (g.1 0)) (ov n F (g.1 1)) (ov n N g.2) (ov n S (g.1 2)) (ov n I (g.1 3)) (ov n X (g.1 4)) (ov l Lt (g.1 5)) (nI l)) fpV (postV L h a n l d fl pl K F N S I X Lt)
theorem lst_go {B : Nat → Int32} {L : Nat} (hL : L ≤ 4096) {fv : FV} {d h : Nat} (hv : okV B L fv d h) {n0 p0 l0 : Nat} {K0 F0 S0 I0 X0 Lt0 : Nat → Int32} {N0 : Nat → Int64} {fl pl : Int32} : ∀ (fuel a n l : Nat) (K F : Nat → Int32) (N : Nat → Int64) (S I X Lt : Nat → Int32) (k : Nat) (c e u v : Nat → Nat) (more : Int32),
    a ≤ L → L - a < fuel → n0 < n → n + p0 ≤ n0 + a → l0 ≤ l → l + p0 ≤ l0 + a → n ≤ a → l ≤ a → k + p0 < a → agR n0 K0 F0 N0 S0 I0 X0 K F N S I X → ag l0 Lt0 Lt → K n0 = 1 → F n0 = nI p0 → S n0 = nI k → I n0 = (if k = 0 then -1 else nI (c 0)) → X n0 = -1 → kidsL (Val K F N S I X l h) X n0 n p0 a k c e u v →
    (more = 0 ∨ more = 1 ∧ ∀ i, i < k → v i < a) →
    RES (fun g => m_X9_list_37 fv (ov L B (g.1 6)) (nI L) fuel (nI a) (nI d) fl pl (nI n) (ov n K (g.1 0)) (ov n F (g.1 1)) (ov n N g.2) (ov n S (g.1 2)) (ov n I (g.1 3)) (ov n X (g.1 4)) (ov l Lt (g.1 5)) (nI l) (nI n0) (if k = 0 then -1 else nI (c (k - 1))) more) fpV (postV L (h + 1) p0 n0 l0 d fl pl K0 F0 N0 S0 I0 X0 Lt0) := by
  intro fuel
  induction fuel with
  | zero => intro a n l K F N S I X Lt k c e u v more _ hf; exact absurd hf (Nat.not_lt_zero _)
  | succ fuel ih =>
    intro a n l K F N S I X Lt k c e u v more ha hf hn0 hna hl0 hla hn hl hka hag hagL hK hF hS hI hX hkids hmore
    simp only [m_X9_list_37]
    rcases hmore with rfl | ⟨rfl, hva⟩
    · simp only [if_pos (rfl : (0 : Int32) = 0), take_eq hL ha]
      by_cases h93 : rk B L a = 93
      · simp only [if_pos h93, try_o]
        have hlt : a < L := rk_lt h93 (by decide)
        exact RES.ok ⟨a + 1, n, l, K, F, N, S, I, X, Lt, rfl, rfl, by omega, by omega, by omega, hl0, by omega, hag, hagL, hX, Or.inr (Or.inl ⟨hK, hF, hn0, a, k, c, e, u, v, rfl, hka, hS, hI, hkids⟩)⟩
      · simp only [if_neg h93, try_e]
        exact RES.er (fun g => rfl)
    · simp only [if_neg (show ¬ (1 : Int32) = 0 by decide)]
      refine RES.try (hv a n l K F N S I X Lt fl pl ha hn hl) ?_ (fun g u => rfl)
      rintro _ _ ⟨b, n', l', K', F', N', S', I', X', Lt', rfl, rfl, h1, h2, h4, h5, h6, ⟨gK, gF, gN, gS, gI, gX⟩, gL, hXn, hVal⟩
      have h3 : n < n' := hVal.basic.1
      dsimp only
      have hS' : S' n0 = nI k := by rw [← gS n0 hn0]; exact hS
      have tail : ∀ (I2 X2 : Nat → Int32), (∀ i, i ≠ n0 → I2 i = I' i) → I2 n0 = nI (snc c k n 0) → (∀ i, i < n → (∀ j, j + 1 = k → i ≠ c j) → X2 i = X' i) → (∀ i, n ≤ i → X2 i = X' i) → (∀ i, i + 1 = k → X2 (c i) = nI n) →
          RES (fun g => m_X9_list_70 fv (ov L B (g.1 6)) (nI L) (m_X9_list_37 fv (ov L B (g.1 6)) (nI L) fuel) (nI b) (nI d) fl pl (nI n') (ov n' K' (g.1 0)) (ov n' F' (g.1 1)) (ov n' N' g.2) (ov n' S' (g.1 2)) (ov n' I2 (g.1 3)) (ov n' X2 (g.1 4)) (ov l' Lt' (g.1 5)) (nI l') (nI n0) (nI n)) fpV (postV L (h + 1) p0 n0 l0 d fl pl K0 F0 N0 S0 I0 X0 Lt0) := by
        intro I2 X2 i1 i2 x1 x2 x3
        obtain ⟨b', hb1, hb2, hb3⟩ := blanks_ok B hL h2
        simp only [m_X9_list_70, bd_go (show n0 < 4200 by omega) (by decide), bd_gc (show n0 < 4200 by omega) (by decide), nI_clamp (show n0 < 2 ^ 31 by omega), ov_lt (show n0 < n' by omega), ov_up (show n0 < n' by omega), hS', hb3, Option.bind_some, look_eq hL hb2, nI_1]
        have hkn : kidsL (Val K' F' N' (upd S' n0 (nI (k + 1))) I2 X2 l' h) X2 n0 n' p0 b (k + 1) (snc c k n) (snc e k n') (snc u k a) (snc v k b) := by
          refine kidsL_push hkids hva hn0 h3 (by omega) h1 (fun i hi hp => ?_) ?_ (fun i hi => ?_) x3 (by rw [x2 n (Nat.le_refl _)]; exact hXn)
          · obtain ⟨q1, q2, q3, q4, q5, q6, q7, q8⟩ := hkids.1 i hi
            refine Val.keep h _ _ _ _ hp (fun j j1 j2 => ⟨gK j (by omega), gF j (by omega), gN j (by omega), ?_, ?_⟩) (fun j j1 j2 => ?_) h5
            · rw [pk_un (by omega)]; exact gS j (by omega)
            · rw [i1 j (by omega)]; exact gI j (by omega)
            · rw [x1 j (by omega) (fun i' hi' hc => ?_)]
              · exact gX j (by omega)
              · by_cases hii : i = i'
                · subst hii; omega
                · have := (hkids.2 i i' (by omega) (by omega)).1
                  omega
          · refine Val.keep h _ _ _ _ hVal (fun j j1 j2 => ⟨rfl, rfl, rfl, ?_, ?_⟩) (fun j j1 j2 => ?_) (Nat.le_refl _)
            · rw [pk_un (by omega)]
            · rw [i1 j (by omega)]
            · rw [x2 j (by omega)]
          · obtain ⟨q1, q2, q3, q4, q5, q6, q7, q8⟩ := hkids.1 i (by omega)
            rw [x1 (c i) (by omega) (fun j hj hc => ?_)]
            · exact (gX (c i) (by omega)).symm
            · have := (hkids.2 i j (by omega) (by omega)).1
              omega
        have hx0 : X2 n0 = -1 := by
          rw [x1 n0 hn0 (fun j hj hc => ?_), ← gX n0 hn0]
          · exact hX
          · have := (hkids.1 j (by omega)).2.2.1
            omega
        have hag2 : agR n0 K0 F0 N0 S0 I0 X0 K' F' N' (upd S' n0 (nI (k + 1))) I2 X2 := by
          obtain ⟨a1, a2, a3, a4, a5, a6⟩ := hag
          refine ⟨a1.trans gK (by omega), a2.trans gF (by omega), a3.trans gN (by omega), (a4.trans gS (by omega)).upd (Nat.le_refl _), fun i hi => ?_, fun i hi => ?_⟩
          · rw [i1 i (by omega), ← gI i (by omega)]; exact a5 i hi
          · rw [x1 i (by omega) (fun j hj hc => ?_), ← gX i (by omega)]
            · exact a6 i hi
            · have := (hkids.1 j (by omega)).2.2.1
              omega
        have hup : ∀ b2, b ≤ b2 → kidsL (Val K' F' N' (upd S' n0 (nI (k + 1))) I2 X2 l' h) X2 n0 n' p0 b2 (k + 1) (snc c k n) (snc e k n') (snc u k a) (snc v k b) := fun b2 hb => ⟨fun i hi => by
          obtain ⟨q1, q2, q3, q4, q5, q6, q7, q8⟩ := hkn.1 i hi
          exact ⟨q1, q2, q3, q4, q5, q6, q7, by omega⟩, hkn.2⟩
        have hlast : (if k + 1 = 0 then (-1 : Int32) else nI (snc c k n (k + 1 - 1))) = nI n := by
          rw [if_neg (by omega), Nat.add_sub_cancel, snc_s]
        have hfirst : I2 n0 = (if k + 1 = 0 then (-1 : Int32) else nI (snc c k n 0)) := by
          rw [if_neg (by omega)]; exact i2
        refine RES.ite (fun h44 => ?_) (fun h44 => ?_)
        · have hlt : b' < L := rk_lt h44 (by decide)
          obtain ⟨b2, hc1, hc2, hc3⟩ := blanks_ok B hL (show b' + 1 ≤ L by omega)
          simp only [m_X9_list_101, if_neg (show ¬ (1 : Int32) = 0 by decide), nI_1, hc3, Option.bind_some]
          have := ih b2 n' l' K' F' N' (upd S' n0 (nI (k + 1))) I2 X2 Lt' (k + 1) (snc c k n) (snc e k n') (snc u k a) (snc v k b) 1 hc2 (by omega) (by omega) (by omega) (by omega) (by omega) (by omega) (by omega) (by omega) hag2 (hagL.trans gL (by omega)) (by rw [← gK n0 hn0]; exact hK) (by rw [← gF n0 hn0]; exact hF) pk_us hfirst hx0 (hup b2 (by omega)) (Or.inr ⟨rfl, fun i hi => by
            have := (hkn.1 i hi).2.2.2.2.2.2.2
            omega⟩)
          rw [hlast] at this
          exact this
        · simp only [m_X9_list_101, if_pos (rfl : (0 : Int32) = 0)]
          have := ih b' n' l' K' F' N' (upd S' n0 (nI (k + 1))) I2 X2 Lt' (k + 1) (snc c k n) (snc e k n') (snc u k a) (snc v k b) 0 hb2 (by omega) (by omega) (by omega) (by omega) (by omega) (by omega) (by omega) (by omega) hag2 (hagL.trans gL (by omega)) (by rw [← gK n0 hn0]; exact hK) (by rw [← gF n0 hn0]; exact hF) pk_us hfirst hx0 (hup b' hb1) (Or.inl rfl)
          rw [hlast] at this
          exact this
      by_cases hk : k = 0
      · subst hk
        simp only [if_true, if_neg (show ¬ (0 : Int32) ≤ -1 by decide), bd_go (show n0 < 4200 by omega) (by decide), bd_gc (show n0 < 4200 by omega) (by decide), nI_clamp (show n0 < 2 ^ 31 by omega), ov_up (show n0 < n' by omega)]
        exact tail _ X' (fun i hi => pk_un hi) (by rw [pk_us, snc_s]) (fun _ _ _ => rfl) (fun _ _ => rfl) (fun i hi => absurd hi (by omega))
      · obtain ⟨q1, q2, q3, q4, q5, -⟩ := hkids.1 (k - 1) (by omega)
        simp only [if_neg hk, if_pos (nI_pos' (show c (k - 1) < 2 ^ 31 by omega)), bd_go (show c (k - 1) < 4200 by omega) (by decide), bd_gc (show c (k - 1) < 4200 by omega) (by decide), nI_clamp (show c (k - 1) < 2 ^ 31 by omega), ov_up (show c (k - 1) < n' by omega)]
        refine tail I' _ (fun _ _ => rfl) ?_ (fun i hi hc => pk_un (hc (k - 1) (by omega))) (fun i hi => pk_un (by omega)) (fun i hi => ?_)
        · rw [snc_n (by omega), ← gI n0 hn0, hI, if_neg hk]
        · have : i = k - 1 := by omega
          subst this
          exact pk_us
theorem lst_ok {B : Nat → Int32} {L : Nat} (hL : L ≤ 4096) {fv : FV} {d h : Nat} (hv : okV B L fv d h) {a n l : Nat} {K F S I X Lt : Nat → Int32} {N : Nat → Int64} {fl pl : Int32} (ha : a < L) (hn : n ≤ a) (hl : l ≤ a) :
    RES (fun g => m_X9_list fv (ov L B (g.1 6)) (nI L) (nI a) (nI d) fl pl (nI n) (ov n K (g.1 0)) (ov n F (g.1 1)) (ov n N g.2) (ov n S (g.1 2)) (ov n I (g.1 3)) (ov n X (g.1 4)) (ov l Lt (g.1 5)) (nI l)) fpV (postV L (h + 1) a n l d fl pl K F N S I X Lt) := by
  obtain ⟨b, hb1, hb2, hb3⟩ := blanks_ok B hL (show a + 1 ≤ L by omega)
  simp only [m_X9_list, node_eq (show n < 4200 by omega), Option.bind_some, nI_1, hb3, look_eq hL hb2]
  have go : ∀ more : Int32, more = 0 ∨ more = 1 → RES (fun g => m_X9_list_37 fv (ov L B (g.1 6)) (nI L) sr_fuel (nI b) (nI d) fl pl (nI (n + 1)) (ov (n + 1) (upd K n 1) (g.1 0)) (ov (n + 1) (upd F n (nI a)) (g.1 1)) (ov (n + 1) (vp_updL N n 0) g.2) (ov (n + 1) (upd S n 0) (g.1 2)) (ov (n + 1) (upd I n (-1)) (g.1 3)) (ov (n + 1) (upd X n (-1)) (g.1 4)) (ov l Lt (g.1 5)) (nI l) (nI n) (-1) more) fpV (postV L (h + 1) a n l d fl pl K F N S I X Lt) := by
    intro more hm
    refine lst_go hL hv (n0 := n) (p0 := a) (l0 := l) (K0 := K) (F0 := F) (N0 := N) (S0 := S) (I0 := I) (X0 := X) (Lt0 := Lt) sr_fuel b (n + 1) l _ _ _ _ _ _ Lt 0 id id id id more hb2 (by unfold sr_fuel; omega) (by omega) (by omega) (by omega) (by omega) (by omega) (by omega) (by omega) ⟨ag.rfl'.upd (Nat.le_refl _), ag.rfl'.upd (Nat.le_refl _), ag.rfl'.updL (Nat.le_refl _), ag.rfl'.upd (Nat.le_refl _), ag.rfl'.upd (Nat.le_refl _), ag.rfl'.upd (Nat.le_refl _)⟩ ag.rfl' pk_us pk_us pk_us pk_us pk_us ⟨fun i hi => absurd hi (Nat.not_lt_zero _), fun i j hij hj => absurd hj (Nat.not_lt_zero _)⟩ ?_
    rcases hm with rfl | rfl
    · exact Or.inl rfl
    · exact Or.inr ⟨rfl, fun i hi => absurd hi (Nat.not_lt_zero _)⟩
  exact RES.ite (fun _ => go 0 (Or.inl rfl)) (fun _ => go 1 (Or.inr rfl))
