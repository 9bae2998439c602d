-- the reference's numbers, as told
def swv (B : Nat → Int32) (L : Nat) : Nat → Nat → Int64 → Int64
  | 0, _, v => v
  | n + 1, q, v => swv B L n (q + 1) (v * 10 - (nI (cb B L q - 48)).toInt64)
def snv (B : Nat → Int32) (L a : Nat) : Int64 :=
  let f := if cb B L a = 45 then a + 1 else a
  let b := if cb B L f = 48 then f + 1 else sdg B L (f + 1)
  if cb B L a = 45 then swv B L (b - f) f 0 else -(swv B L (b - f) f 0)
section RNUM
variable {B : Nat → Int32} {L : Nat}
theorem nmx_fin {n0 n p : Nat} (hn0 : n0 < n) (hn : n ≤ 4200) {K F S I X : Nat → Int32} {N : Nat → Int64} {fl pl x2 : Int32} (hF : F n0 = nI p) {a : Nat} {x4 : Int32} {x5 : Int64} :
    REX (fun g : Gs => m_X9_number_243 (ov L B (g.1 6)) (nI L) (nI a) fl pl (nI n) (ov n K (g.1 0)) (ov n F (g.1 1)) (ov n N g.2) (ov n S (g.1 2)) (ov n I (g.1 3)) (ov n X (g.1 4)) (nI n0) x2 x4 x5) fpN (fun c => x4 = 0 ∧ c = (1, nI p))
      (fun v u => ¬ x4 = 0 ∧ v = nI n0 ∧ u = (fun g => (nI a, fl, pl, nI n, ov n K (g.1 0), ov n F (g.1 1), ov n (vp_updL N n0 (if x2 = 0 then -x5 else x5)) g.2, ov n S (g.1 2), ov n I (g.1 3), ov n X (g.1 4)))) := by
  simp only [m_X9_number_243, bd_go (show n0 < 4200 by omega) (by decide), bd_gc (show n0 < 4200 by omega) (by decide), nI_clamp (show n0 < 2 ^ 31 by omega), ov_lt hn0, ov_upL hn0, hF]
  by_cases h4 : x4 = 0
  · subst h4
    simp only [need_0, try_e]
    exact REX.er (fun g => rfl) ⟨trivial, rfl⟩
  · have e : ∀ (c w : Int32), m_X9_need fl pl x4 c w = some (.ok ((), (fl, pl))) := fun c w => by
      unfold m_X9_need
      rw [if_neg h4]
    simp only [e, try_o]
    refine REX.ite (fun h2 => ?_) (fun h2 => ?_)
    · exact REX.ok ⟨h4, rfl, by rw [if_pos h2]⟩
    · exact REX.ok ⟨h4, rfl, by rw [if_neg h2]⟩
theorem nmx_go (hB : BY B L) (hL : L ≤ 4096) {n0 n p : Nat} (hn0 : n0 < n) (hn : n ≤ 4200) {K F I X : Nat → Int32} {N : Nat → Int64} {fl pl x2 : Int32} (hF : F n0 = nI p) : ∀ (fuel a : Nat) (S : Nat → Int32) (sz : Nat) (x4 : Int32) (x5 : Int64), a ≤ L → L - a < fuel → S n0 = nI sz →
    REX (fun g => m_X9_number_95 (ov L B (g.1 6)) (nI L) fuel (nI a) fl pl (nI n) (ov n K (g.1 0)) (ov n F (g.1 1)) (ov n N g.2) (ov n S (g.1 2)) (ov n I (g.1 3)) (ov n X (g.1 4)) (nI n0) x2 0 x4 x5) fpN (fun c => ¬ (¬ x4 = 0 ∧ swl B L (if x2 = 0 then 7 else 8) (sdg B L a - a) a x5 = true) ∧ c = (1, nI p))
      (fun v u => (¬ x4 = 0 ∧ swl B L (if x2 = 0 then 7 else 8) (sdg B L a - a) a x5 = true) ∧ v = nI n0 ∧ ∃ sz', u = (fun g => (nI (sdg B L a), fl, pl, nI n, ov n K (g.1 0), ov n F (g.1 1), ov n (vp_updL N n0 (if x2 = 0 then -(swv B L (sdg B L a - a) a x5) else swv B L (sdg B L a - a) a x5)) g.2, ov n (upd S n0 (nI sz')) (g.1 2), ov n I (g.1 3), ov n X (g.1 4)))) := by
  intro fuel
  induction fuel with
  | zero => intro a S sz x4 x5 _ h; exact absurd h (Nat.not_lt_zero _)
  | succ fuel ih =>
    intro a S sz x4 x5 ha hf hS
    have h0 := cb_le B L a
    have fin : ¬ (48 ≤ cb B L a ∧ cb B L a ≤ 57) → REX (fun g => m_X9_number_243 (ov L B (g.1 6)) (nI L) (nI a) fl pl (nI n) (ov n K (g.1 0)) (ov n F (g.1 1)) (ov n N g.2) (ov n S (g.1 2)) (ov n I (g.1 3)) (ov n X (g.1 4)) (nI n0) x2 x4 x5) fpN (fun c => ¬ (¬ x4 = 0 ∧ swl B L (if x2 = 0 then 7 else 8) (sdg B L a - a) a x5 = true) ∧ c = (1, nI p))
      (fun v u => (¬ x4 = 0 ∧ swl B L (if x2 = 0 then 7 else 8) (sdg B L a - a) a x5 = true) ∧ v = nI n0 ∧ ∃ sz', u = (fun g => (nI (sdg B L a), fl, pl, nI n, ov n K (g.1 0), ov n F (g.1 1), ov n (vp_updL N n0 (if x2 = 0 then -(swv B L (sdg B L a - a) a x5) else swv B L (sdg B L a - a) a x5)) g.2, ov n (upd S n0 (nI sz')) (g.1 2), ov n I (g.1 3), ov n X (g.1 4)))) := by
      intro hd
      have e : sdg B L a = a := by rw [sdg_s, if_neg hd]
      rw [e, Nat.sub_self]
      refine (nmx_fin hn0 hn hF).mono ?_ ?_
      · rintro c ⟨q1, q2⟩
        exact ⟨fun z => z.1 q1, q2⟩
      · rintro v u ⟨q1, q2, q3⟩
        exact ⟨⟨q1, rfl⟩, q2, sz, by rw [upd_self hS]; exact q3⟩
    simp only [m_X9_number_95, look_eq hL ha, Option.bind_some, rk_sb hB, sbl48, sbg57]
    refine REX.ite (fun h48 => fin (by omega)) (fun h48 => REX.ite (fun h57 => fin (by omega)) (fun h57 => ?_))
    have hlt : a < L := cb_lt (B := B) (by omega)
    have hd : 48 ≤ cb B L a ∧ cb B L a ≤ 57 := by omega
    have es : sdg B L a = sdg B L (a + 1) := by rw [sdg_s, if_pos hd]
    have hp := sdg_p (B := B) (L := L) (a := a + 1) (by omega)
    obtain ⟨k, hk⟩ : ∃ k, sdg B L (a + 1) = a + 1 + k := ⟨sdg B L (a + 1) - (a + 1), by omega⟩
    have e1 : sdg B L (a + 1) - (a + 1) = k := by omega
    have e2 : sdg B L a - a = k + 1 := by omega
    have ed : sbI (cb B L a) - 48 = nI (cb B L a - 48) := by
      rw [show sbI (cb B L a) = nI (cb B L a) from by unfold sbI; rw [if_neg (by omega), if_pos (by omega)], show (48 : Int32) = nI 48 from rfl, pk_sub hd.1]
    have ez : 10 * x5 - (nI (cb B L a - 48)).toInt64 = x5 * 10 - (nI (cb B L a - 48)).toInt64 := by rw [Int64.mul_comm]
    have hsw : swl B L (if x2 = 0 then 7 else 8) (k + 1) a x5 = if lg_cmp x5 (-922337203685477580) < 0 then false else if lg_cmp x5 (-922337203685477580) = 0 ∧ (if x2 = 0 then 7 else 8) < cb B L a - 48 then false else swl B L (if x2 = 0 then 7 else 8) k (a + 1) (x5 * 10 - (nI (cb B L a - 48)).toInt64) := rfl
    have hsv : swv B L (k + 1) a x5 = swv B L k (a + 1) (x5 * 10 - (nI (cb B L a - 48)).toInt64) := rfl
    have bad : (¬ (¬ x4 = 0 ∧ swl B L (if x2 = 0 then 7 else 8) (k + 1) a x5 = true)) → REX (fun g => m_X9_number_218 (ov L B (g.1 6)) (nI L) (m_X9_number_95 (ov L B (g.1 6)) (nI L) fuel) (nI a) fl pl (nI n) (ov n K (g.1 0)) (ov n F (g.1 1)) (ov n N g.2) (ov n S (g.1 2)) (ov n I (g.1 3)) (ov n X (g.1 4)) (nI n0) x2 0 0 x5) fpN (fun c => ¬ (¬ x4 = 0 ∧ swl B L (if x2 = 0 then 7 else 8) (sdg B L a - a) a x5 = true) ∧ c = (1, nI p))
      (fun v u => (¬ x4 = 0 ∧ swl B L (if x2 = 0 then 7 else 8) (sdg B L a - a) a x5 = true) ∧ v = nI n0 ∧ ∃ sz', u = (fun g => (nI (sdg B L a), fl, pl, nI n, ov n K (g.1 0), ov n F (g.1 1), ov n (vp_updL N n0 (if x2 = 0 then -(swv B L (sdg B L a - a) a x5) else swv B L (sdg B L a - a) a x5)) g.2, ov n (upd S n0 (nI sz')) (g.1 2), ov n I (g.1 3), ov n X (g.1 4)))) := by
      intro hbad
      simp only [m_X9_number_218, bd_go (show n0 < 4200 by omega) (by decide), bd_gc (show n0 < 4200 by omega) (by decide), nI_clamp (show n0 < 2 ^ 31 by omega), ov_lt hn0, ov_up hn0, hS, nI_1]
      refine (ih (a + 1) _ (sz + 1) 0 x5 (by omega) (by omega) pk_us).mono ?_ ?_
      · rintro c ⟨_, q2⟩
        rw [e2]
        exact ⟨hbad, q2⟩
      · rintro v u ⟨⟨q1, _⟩, _⟩
        exact absurd rfl q1
    have good : ¬ x4 = 0 → swl B L (if x2 = 0 then 7 else 8) (k + 1) a x5 = swl B L (if x2 = 0 then 7 else 8) k (a + 1) (x5 * 10 - (nI (cb B L a - 48)).toInt64) → REX (fun g => m_X9_number_218 (ov L B (g.1 6)) (nI L) (m_X9_number_95 (ov L B (g.1 6)) (nI L) fuel) (nI a) fl pl (nI n) (ov n K (g.1 0)) (ov n F (g.1 1)) (ov n N g.2) (ov n S (g.1 2)) (ov n I (g.1 3)) (ov n X (g.1 4)) (nI n0) x2 0 1 (10 * x5 - (nI (cb B L a - 48)).toInt64)) fpN (fun c => ¬ (¬ x4 = 0 ∧ swl B L (if x2 = 0 then 7 else 8) (sdg B L a - a) a x5 = true) ∧ c = (1, nI p))
      (fun v u => (¬ x4 = 0 ∧ swl B L (if x2 = 0 then 7 else 8) (sdg B L a - a) a x5 = true) ∧ v = nI n0 ∧ ∃ sz', u = (fun g => (nI (sdg B L a), fl, pl, nI n, ov n K (g.1 0), ov n F (g.1 1), ov n (vp_updL N n0 (if x2 = 0 then -(swv B L (sdg B L a - a) a x5) else swv B L (sdg B L a - a) a x5)) g.2, ov n (upd S n0 (nI sz')) (g.1 2), ov n I (g.1 3), ov n X (g.1 4)))) := by
      intro h4 hg
      rw [ez]
      simp only [m_X9_number_218, bd_go (show n0 < 4200 by omega) (by decide), bd_gc (show n0 < 4200 by omega) (by decide), nI_clamp (show n0 < 2 ^ 31 by omega), ov_lt hn0, ov_up hn0, hS, nI_1]
      have g := ih (a + 1) (upd S n0 (nI (sz + 1))) (sz + 1) 1 (x5 * 10 - (nI (cb B L a - 48)).toInt64) (by omega) (by omega) pk_us
      rw [e1] at g
      rw [e2, hsv, hg, es]
      refine g.mono ?_ ?_
      · rintro c ⟨q1, q2⟩
        exact ⟨fun z => q1 ⟨by decide, z.2⟩, q2⟩
      · rintro v u ⟨⟨_, q1⟩, q2, sz', q3⟩
        exact ⟨⟨h4, q1⟩, q2, sz', by rw [upd_upd] at q3; exact q3⟩
    simp only [if_true, m_X9_number_143, m_X9_number_195, m_X9_number_191, m_X9_number_188, m_X9_number_196, look_eq hL ha, Option.bind_some, rk_sb hB, ed, if_neg (show ¬ (1 : Int32) = 0 by decide)]
    refine REX.ite (fun h4 => bad (fun z => z.1 h4)) (fun h4 => REX.ite (fun c1 => ?_) (fun c1 => REX.ite (fun c2 => REX.ite (fun c3 => REX.ite (fun c4 => ?_) (fun c4 => ?_)) (fun c3 => REX.ite (fun c4 => ?_) (fun c4 => ?_))) (fun c2 => ?_)))
    · refine good h4 ?_
      rw [hsw, if_neg (fun z => absurd (Int32.lt_trans z c1) (Int32.lt_irrefl)), if_neg (fun z => absurd c1 (by rw [z.1]; decide))]
    · refine bad (fun z => ?_)
      have h7 : 7 < cb B L a - 48 := (nI_ltI (a := 7) (by decide) (by omega)).mp c4
      rw [hsw, if_neg (by rw [c2]; decide), if_pos ⟨c2, by rw [if_pos c3]; exact h7⟩] at z
      exact absurd z.2 (by decide)
    · refine good h4 ?_
      have h7 : ¬ 7 < cb B L a - 48 := fun q => c4 (nI_lt (a := 7) q (by omega))
      rw [hsw, if_neg (by rw [c2]; decide), if_neg (fun z => h7 (by have := z.2; rw [if_pos c3] at this; exact this))]
    · refine bad (fun z => ?_)
      have h7 : 8 < cb B L a - 48 := (nI_ltI (a := 8) (by decide) (by omega)).mp c4
      rw [hsw, if_neg (by rw [c2]; decide), if_pos ⟨c2, by rw [if_neg c3]; exact h7⟩] at z
      exact absurd z.2 (by decide)
    · refine good h4 ?_
      have h7 : ¬ 8 < cb B L a - 48 := fun q => c4 (nI_lt (a := 8) q (by omega))
      rw [hsw, if_neg (by rw [c2]; decide), if_neg (fun z => h7 (by have := z.2; rw [if_neg c3] at this; exact this))]
    · refine bad (fun z => ?_)
      have hlt0 : lg_cmp x5 (-922337203685477580) < 0 := by
        unfold lg_cmp at c1 c2 ⊢
        by_cases q1 : x5 > (-922337203685477580)
        · rw [if_pos q1] at c1
          exact absurd (by decide) c1
        · rw [if_neg q1] at c2 ⊢
          by_cases q2 : x5 = (-922337203685477580)
          · rw [if_pos q2] at c2
            exact absurd rfl c2
          · rw [if_neg q2]
            decide
      rw [hsw, if_pos hlt0] at z
      exact absurd z.2 (by decide)
theorem nmx_zero (hB : BY B L) (hL : L ≤ 4096) {n0 n p : Nat} (hn0 : n0 < n) (hn : n ≤ 4200) {K F S I X : Nat → Int32} {N : Nat → Int64} {fl pl x2 : Int32} (hF : F n0 = nI p) (hK : K n0 = 3) (hS : S n0 = nI 0) {f fuel : Nat} (hc : cb B L f = 48) :
    REX (fun g => m_X9_number_95 (ov L B (g.1 6)) (nI L) (fuel + 1 + 1) (nI f) fl pl (nI n) (ov n K (g.1 0)) (ov n F (g.1 1)) (ov n N g.2) (ov n S (g.1 2)) (ov n I (g.1 3)) (ov n X (g.1 4)) (nI n0) x2 1 1 0) fpN (fun _ => False)
      (fun v u => v = nI n0 ∧ ∃ sz', u = (fun g => (nI (f + 1), fl, pl, nI n, ov n K (g.1 0), ov n F (g.1 1), ov n (vp_updL N n0 (if x2 = 0 then -(swv B L 1 f 0) else swv B L 1 f 0)) g.2, ov n (upd S n0 (nI sz')) (g.1 2), ov n I (g.1 3), ov n X (g.1 4)))) := by
  have hlt : f < L := cb_lt (B := B) (by omega)
  have h0 := cb_le B L (f + 1)
  have ed : sbI (cb B L f) - 48 = nI (cb B L f - 48) := by
    rw [hc]
    decide
  have ez : (10 : Int64) * 0 - (nI (cb B L f - 48)).toInt64 = 0 := by
    rw [hc]
    decide
  have ev : swv B L 1 f 0 = 0 := by
    show (0 : Int64) * 10 - (nI (cb B L f - 48)).toInt64 = 0
    rw [hc]
    decide
  have fin : REX (fun g => m_X9_number_243 (ov L B (g.1 6)) (nI L) (nI (f + 1)) fl pl (nI n) (ov n K (g.1 0)) (ov n F (g.1 1)) (ov n N g.2) (ov n (upd S n0 (nI 1)) (g.1 2)) (ov n I (g.1 3)) (ov n X (g.1 4)) (nI n0) x2 1 0) fpN (fun _ => False)
      (fun v u => v = nI n0 ∧ ∃ sz', u = (fun g => (nI (f + 1), fl, pl, nI n, ov n K (g.1 0), ov n F (g.1 1), ov n (vp_updL N n0 (if x2 = 0 then -(swv B L 1 f 0) else swv B L 1 f 0)) g.2, ov n (upd S n0 (nI sz')) (g.1 2), ov n I (g.1 3), ov n X (g.1 4)))) := by
    rw [ev]
    refine (nmx_fin hn0 hn hF).mono ?_ ?_
    · rintro c ⟨q1, _⟩
      exact absurd q1 (by decide)
    · rintro v u ⟨_, q2, q3⟩
      exact ⟨q2, 1, q3⟩
  simp only [m_X9_number_95, look_eq hL (show f ≤ L by omega), look_eq hL (show f + 1 ≤ L by omega), Option.bind_some, rk_sb hB, sbl48, sbg57, if_neg (show ¬ (cb B L f = 256 ∨ 128 ≤ cb B L f ∨ cb B L f < 48) by omega), if_neg (show ¬ (cb B L f < 128 ∧ 57 < cb B L f) by omega), if_neg (show ¬ (1 : Int32) = 0 by decide), if_pos (show lg_cmp 0 0 = 0 by decide), bd_go (show n0 < 4200 by omega) (by decide), bd_gc (show n0 < 4200 by omega) (by decide), nI_clamp (show n0 < 2 ^ 31 by omega), ov_lt hn0, hK, hS, if_pos (show nI 0 = 0 by decide), if_true, m_X9_number_143, m_X9_number_191, m_X9_number_196, ed, ez, if_pos (show (0 : Int32) < lg_cmp 0 (-922337203685477580) by decide), m_X9_number_218, ov_up hn0, nI_1, pk_us, if_neg (show ¬ nI 1 = 0 by decide), if_neg (show ¬ nI (0 + 1) = 0 by decide)]
  exact REX.ite (fun _ => fin) (fun _ => REX.ite (fun _ => fin) (fun _ => fin))
theorem numx (hB : BY B L) (hL : L ≤ 4096) {K F S I X : Nat → Int32} {N : Nat → Int64} {fl pl : Int32} {a n : Nat} (ha : a < L) (hn : n ≤ a) :
    REX (fun g => m_X9_number (ov L B (g.1 6)) (nI L) (nI a) fl pl (nI n) (ov n K (g.1 0)) (ov n F (g.1 1)) (ov n N g.2) (ov n S (g.1 2)) (ov n I (g.1 3)) (ov n X (g.1 4))) fpN (EW (snum B L a))
      (fun v u => ∃ b sz, snum B L a = .inr b ∧ v = nI n ∧ u = (fun g => (nI b, fl, pl, nI (n + 1), ov (n + 1) (upd K n 3) (g.1 0), ov (n + 1) (upd F n (nI a)) (g.1 1), ov (n + 1) (vp_updL N n (snv B L a)) g.2, ov (n + 1) (upd S n (nI sz)) (g.1 2), ov (n + 1) (upd I n (-1)) (g.1 3), ov (n + 1) (upd X n (-1)) (g.1 4)))) := by
  simp only [m_X9_number, node_eq (show n < 4200 by omega), Option.bind_some, look_eq hL (Nat.le_of_lt ha), rk_sb hB, sb45]
  have e : ∀ z, vp_updL (vp_updL N n 0) n z = vp_updL N n z := fun z => updL_updL
  have main : ∀ (y : Int32) (f : Nat), f ≤ L → (y = 0 ∨ y = 1) → (y = 1 ↔ cb B L a = 45) → f = (if cb B L a = 45 then a + 1 else a) → REX (fun g => m_X9_number_39 (ov L B (g.1 6)) (nI L) (nI a) fl pl (nI (n + 1)) (ov (n + 1) (upd K n 3) (g.1 0)) (ov (n + 1) (upd F n (nI a)) (g.1 1)) (ov (n + 1) (vp_updL N n 0) g.2) (ov (n + 1) (upd S n 0) (g.1 2)) (ov (n + 1) (upd I n (-1)) (g.1 3)) (ov (n + 1) (upd X n (-1)) (g.1 4)) (nI n) y (nI f)) fpN (EW (snum B L a))
      (fun v u => ∃ b sz, snum B L a = .inr b ∧ v = nI n ∧ u = (fun g => (nI b, fl, pl, nI (n + 1), ov (n + 1) (upd K n 3) (g.1 0), ov (n + 1) (upd F n (nI a)) (g.1 1), ov (n + 1) (vp_updL N n (snv B L a)) g.2, ov (n + 1) (upd S n (nI sz)) (g.1 2), ov (n + 1) (upd I n (-1)) (g.1 3), ov (n + 1) (upd X n (-1)) (g.1 4)))) := by
    intro y f hf hy hy2 hff
    have h0 := cb_le B L f
    have elim : (if y = 0 then 7 else 8 : Nat) = (if cb B L a = 45 then 8 else 7) := by
      by_cases c : cb B L a = 45
      · rw [if_pos c, if_neg (by rw [hy2.mpr c]; decide)]
      · rw [if_neg c, if_pos (hy.resolve_right (fun z => c (hy2.mp z)))]
    have esn : snum B L a = if 48 ≤ cb B L f ∧ cb B L f ≤ 57 then (if swl B L (if y = 0 then 7 else 8) ((if cb B L f = 48 then f + 1 else sdg B L (f + 1)) - f) f 0 = true then .inr (if cb B L f = 48 then f + 1 else sdg B L (f + 1)) else .inl a) else .inl f := by
      rw [elim]
      unfold snum
      simp only [← hff]
    have esv : snv B L a = if y = 0 then -(swv B L ((if cb B L f = 48 then f + 1 else sdg B L (f + 1)) - f) f 0) else swv B L ((if cb B L f = 48 then f + 1 else sdg B L (f + 1)) - f) f 0 := by
      unfold snv
      simp only [← hff]
      by_cases c : cb B L a = 45
      · have hy0 : ¬ y = 0 := by rw [hy2.mpr c]; decide
        rw [if_pos c, if_neg hy0]
      · have hy0 : y = 0 := hy.resolve_right (fun z => c (hy2.mp z))
        rw [if_neg c, if_pos hy0]
    simp only [m_X9_number_39, m_X9_number_65, m_X9_number_66, look_eq hL hf, Option.bind_some, need_0, need_1, try_e, try_o, rk_sb hB, sbl48, sbg57, sb48]
    refine REX.ite (fun h48 => REX.er (fun g => rfl) ⟨f, by rw [esn, if_neg (by omega)], rfl⟩) (fun h48 => REX.ite (fun h57 => REX.er (fun g => rfl) ⟨f, by rw [esn, if_neg (by omega)], rfl⟩) (fun h57 => ?_))
    have hd : 48 ≤ cb B L f ∧ cb B L f ≤ 57 := by omega
    have hlt : f < L := cb_lt (B := B) (by omega)
    rw [if_pos hd] at esn
    refine REX.ite (fun hz => ?_) (fun hz => ?_)
    · have ez : swl B L (if y = 0 then 7 else 8) 1 f 0 = true := by
        have q1 : ¬ lg_cmp 0 (-922337203685477580) < 0 := by decide
        have q2 : ¬ (lg_cmp 0 (-922337203685477580) = 0 ∧ (if y = 0 then 7 else 8) < cb B L f - 48) := fun z => absurd z.1 (by decide)
        simp only [swl]
        rw [if_neg q1, if_neg q2]
      rw [if_pos hz, show f + 1 - f = 1 by omega, if_pos ez] at esn
      rw [if_pos hz, show f + 1 - f = 1 by omega] at esv
      obtain ⟨k, hk⟩ : ∃ k, sr_fuel = k + 1 + 1 := ⟨sr_fuel - 2, by unfold sr_fuel; omega⟩
      simp only [m_X9_number_88, hk]
      refine (nmx_zero hB hL (p := a) (x2 := y) (Nat.lt_succ_self n) (by omega) pk_us pk_us pk_us hz).mono (fun c hc => absurd hc id) ?_
      rintro v u ⟨q1, sz, q2⟩
      exact ⟨f + 1, sz, esn, q1, by rw [q2, upd_upd, e, esv]⟩
    · have es : sdg B L f = sdg B L (f + 1) := by rw [sdg_s, if_pos hd]
      rw [if_neg hz, ← es] at esn esv
      simp only [m_X9_number_88]
      refine (nmx_go hB hL (p := a) (x2 := y) (Nat.lt_succ_self n) (by omega) pk_us sr_fuel f _ 0 1 0 hf (by unfold sr_fuel; omega) pk_us).mono ?_ ?_
      · rintro c ⟨q1, q2⟩
        exact ⟨a, by rw [esn, if_neg (fun z => q1 ⟨by decide, z⟩)], q2⟩
      · rintro v u ⟨⟨_, q1⟩, q2, sz, q3⟩
        exact ⟨sdg B L f, sz, by rw [esn, if_pos q1], q2, by rw [q3, upd_upd, e, esv]⟩
  simp only [m_X9_number_20, if_pos (rfl : (0 : Int32) = 0), if_neg (show ¬ (1 : Int32) = 0 by decide), nI_1]
  refine REX.ite (fun c => main 1 (a + 1) (by omega) (Or.inr rfl) ⟨fun _ => c, fun _ => rfl⟩ (by rw [if_pos c])) (fun c => main 0 a (by omega) (Or.inl rfl) ⟨fun z => absurd z (by decide), fun z => absurd z c⟩ (by rw [if_neg c]))
end RNUM
