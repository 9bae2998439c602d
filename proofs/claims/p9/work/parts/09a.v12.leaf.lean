-- the reference's strings and numbers
theorem upd_upd {f : Nat → Int32} {k : Nat} {a b : Int32} : upd (upd f k a) k b = upd f k b := by
  funext i
  by_cases h : i = k
  · subst h; rw [pk_us, pk_us]
  · rw [pk_un h, pk_un h, pk_un h]
theorem updL_updL {f : Nat → Int64} {k : Nat} {a b : Int64} : vp_updL (vp_updL f k a) k b = vp_updL f k b := by
  funext i
  by_cases h : i = k
  · subst h; rw [pk_uLs, pk_uLs]
  · rw [pk_uLn h, pk_uLn h, pk_uLn h]
theorem upd_self {f : Nat → Int32} {k : Nat} {a : Int32} (h : f k = a) : upd f k a = f := by
  funext i
  by_cases hi : i = k
  · subst hi; rw [pk_us, h]
  · rw [pk_un hi]
theorem esc_go {B : Nat → Int32} {L : Nat} (hL : L ≤ 4096) {fl pl x1 : Int32} : ∀ (n i a : Nat) (x4 : Int32), i ≤ 4 → 4 - i < n → a ≤ L →
    (∃ v b, a ≤ b ∧ b ≤ L ∧ ∀ g, m_X9_escaped_135 (ov L B g) (nI L) n (nI a) fl pl x1 x4 (nI i) = some (.ok (v, (nI b, fl, pl)))) ∨ (∃ w, ∀ g, ∃ b, m_X9_escaped_135 (ov L B g) (nI L) n (nI a) fl pl x1 x4 (nI i) = some (.error (b, 1, w))) := by
  intro n
  induction n with
  | zero => intro i a x4 _ h; exact absurd h (Nat.not_lt_zero _)
  | succ n ih =>
    intro i a x4 hi hn ha
    simp only [m_X9_escaped_135, look_eq hL ha, Option.bind_some]
    by_cases h4 : 4 ≤ i
    · have e : (4 : Int32) ≤ nI i := nI_le (a := 4) h4 (by omega)
      simp only [if_pos e]
      by_cases h5 : 256 ≤ x4
      · simp only [if_pos h5, m_X9_escaped_210, need_0, try_e]
        exact Or.inr ⟨_, fun g => ⟨_, rfl⟩⟩
      · simp only [if_neg h5, m_X9_escaped_210, need_1, try_o]
        exact Or.inl ⟨_, a, Nat.le_refl _, ha, fun g => rfl⟩
    · have e : ¬ (4 : Int32) ≤ nI i := nI_ge (b := 4) (by omega) (by omega)
      simp only [if_neg e]
      obtain ⟨r, hr⟩ := hex_ok (rk B L a)
      simp only [hr, Option.bind_some]
      by_cases h6 : r < 0
      · simp only [if_pos h6, m_X9_escaped_157, need_0, try_e]
        exact Or.inr ⟨_, fun g => ⟨_, rfl⟩⟩
      · simp only [if_neg h6, m_X9_escaped_157, need_1, try_o, look_eq hL ha, Option.bind_some, hr, nI_1]
        have hlt : a < L := by
          apply Nat.lt_of_not_le
          intro h1
          rw [rk_end h1] at hr
          have h7 : r = -1 := (Option.some.inj ((show m_X9_hex (-1) = some (-1) by decide +kernel).symm.trans hr)).symm
          subst h7
          exact h6 (by decide)
        rcases ih (i + 1) (a + 1) (16 * x4 + r) (by omega) (by omega) (by omega) with ⟨v, b, h1, h2, h3⟩ | ⟨w, h3⟩
        · exact Or.inl ⟨v, b, by omega, h2, h3⟩
        · exact Or.inr ⟨w, h3⟩
theorem esc_ok {B : Nat → Int32} {L a : Nat} (hL : L ≤ 4096) (ha : a < L) {fl pl : Int32} :
    (∃ v b, a < b ∧ b ≤ L ∧ ∀ g, m_X9_escaped (ov L B g) (nI L) (nI a) fl pl = some (.ok (v, (nI b, fl, pl)))) ∨ (∃ w, ∀ g, ∃ b, m_X9_escaped (ov L B g) (nI L) (nI a) fl pl = some (.error (b, 1, w))) := by
  have key : ∀ y0 : Int32, (y0 < 0 ∨ a + 1 < L) → (∃ v b, a < b ∧ b ≤ L ∧ ∀ g, m_X9_escaped_35 (ov L B g) (nI L) (nI (a + 1)) fl pl (nI a) y0 = some (.ok (v, (nI b, fl, pl)))) ∨ (∃ w, ∀ g, ∃ b, m_X9_escaped_35 (ov L B g) (nI L) (nI (a + 1)) fl pl (nI a) y0 = some (.error (b, 1, w))) := by
    intro y0 hy
    by_cases h0 : y0 < 0
    · simp only [m_X9_escaped_35, if_pos h0, take_eq hL (show a + 1 ≤ L by omega)]
      by_cases h1 : rk B L (a + 1) = 117
      · simp only [if_pos h1, try_o]
        have hlt : a + 1 < L := rk_lt h1 (by decide)
        rcases esc_go (B := B) hL (fl := fl) (pl := pl) (x1 := nI a) sr_fuel 0 (a + 1 + 1) 0 (by omega) (by unfold sr_fuel; omega) (by omega) with ⟨v, b, h2, h3, h4⟩ | ⟨w, h4⟩
        · exact Or.inl ⟨v, b, by omega, h3, fun g => h4 g⟩
        · exact Or.inr ⟨w, fun g => h4 g⟩
      · simp only [if_neg h1, try_e]
        exact Or.inr ⟨_, fun g => ⟨_, rfl⟩⟩
    · have hlt : a + 1 < L := hy.resolve_left h0
      refine Or.inl ?_
      simp only [m_X9_escaped_35, if_neg h0, nI_1]
      repeat' split
      all_goals exact ⟨_, a + 1 + 1, by omega, by omega, fun g => rfl⟩
  simp only [m_X9_escaped, nI_1, look_eq hL (show a + 1 ≤ L by omega), Option.bind_some]
  by_cases h : 0 ≤ rk B L (a + 1)
  · simp only [if_pos h]
    obtain ⟨r, h1, -⟩ := ix39 (((rk B L (a + 1)).toUInt32 % 65536).toInt32)
    simp only [h1, Option.bind_some]
    refine key r (Or.inr ?_)
    apply Nat.lt_of_not_le
    intro h2
    rw [rk_end h2] at h
    exact absurd h (by decide)
  · simp only [if_neg h]
    exact key (-1) (Or.inl (by decide))
def fpE : (Int32 × Int32 × Int32) → Int32 × Int32 := fun u => (u.2.1, u.2.2)
theorem esc_res {B : Nat → Int32} {L a : Nat} (hL : L ≤ 4096) (ha : a < L) {fl pl : Int32} : RES (fun g => m_X9_escaped (ov L B (g.1 6)) (nI L) (nI a) fl pl) fpE (fun _ u => ∃ b, u = (fun _ => (nI b, fl, pl)) ∧ a < b ∧ b ≤ L) := by
  rcases esc_ok (B := B) hL ha (fl := fl) (pl := pl) with ⟨v, b, h1, h2, h3⟩ | ⟨w, h3⟩
  · exact Or.inl ⟨v, _, ⟨b, rfl, h1, h2⟩, fun g => h3 _⟩
  · refine Or.inr ⟨(1, w), show (1 : Int32) ≠ 0 by decide, fun g => ?_⟩
    obtain ⟨b, h4⟩ := h3 (g.1 6)
    exact ⟨_, h4, rfl⟩
/-- a string's cells, and what a fault has told -/
def fpS : (Int32 × Int32 × Int32 × Int32 × (Nat → Int32) × (Nat → Int32) × (Nat → Int64) × (Nat → Int32) × (Nat → Int32) × (Nat → Int32) × (Nat → Int32) × Int32) → Int32 × Int32 := fun u => (u.2.1, u.2.2.1)
theorem str_go {B : Nat → Int32} {L : Nat} (hL : L ≤ 4096) {n0 n : Nat} (hn0 : n0 < n) (hn : n ≤ 4200) {K F I X : Nat → Int32} {N : Nat → Int64} {fl pl : Int32} : ∀ (fuel a l : Nat) (S Lt : Nat → Int32) (sz : Nat), a ≤ L → L - a < fuel → l ≤ a → S n0 = nI sz →
    RES (fun g => m_X9_string_27 (ov L B (g.1 6)) (nI L) fuel (nI a) fl pl (nI n) (ov n K (g.1 0)) (ov n F (g.1 1)) (ov n N g.2) (ov n S (g.1 2)) (ov n I (g.1 3)) (ov n X (g.1 4)) (ov l Lt (g.1 5)) (nI l) (nI n0)) fpS
      (fun v u => ∃ b l' Lt', v = nI n0 ∧ u = (fun g => (nI b, fl, pl, nI n, ov n K (g.1 0), ov n F (g.1 1), ov n N g.2, ov n (upd S n0 (nI (sz + (l' - l)))) (g.1 2), ov n I (g.1 3), ov n X (g.1 4), ov l' Lt' (g.1 5), nI l')) ∧ a < b ∧ b ≤ L ∧ l ≤ l' ∧ l' - l + 1 + a ≤ b ∧ ag l Lt Lt') := by
  intro fuel
  induction fuel with
  | zero => intro a l S Lt sz _ h; exact absurd h (Nat.not_lt_zero _)
  | succ fuel ih =>
    intro a l S Lt sz ha hf hl hS
    simp only [m_X9_string_27, look_eq hL ha, Option.bind_some, nI_1]
    refine RES.ite (fun h34 => ?_) (fun h34 => ?_)
    · refine RES.ok ⟨a + 1, l, Lt, rfl, ?_, by omega, ?_, by omega, by omega, ag.rfl'⟩
      · simp only [Nat.sub_self, Nat.add_zero, upd_self hS]
      · exact rk_lt h34 (by decide)
    · refine RES.ite (fun h32 => ?_) (fun h32 => RES.ite (fun h126 => ?_) (fun h126 => ?_))
      · simp only [m_X9_string_58, m_X9_string_59, need_0, try_e]
        exact RES.er (fun g => rfl)
      · simp only [m_X9_string_58, m_X9_string_59, need_0, try_e]
        exact RES.er (fun g => rfl)
      · have hlt : a < L := by
          apply Nat.lt_of_not_le
          intro h1
          rw [rk_end h1] at h32
          exact h32 (by decide)
        have hpush : ∀ (b : Nat) (x : Int32), a < b → b ≤ L → RES (fun g => m_X9_string_91 (ov L B (g.1 6)) (nI L) (m_X9_string_27 (ov L B (g.1 6)) (nI L) fuel) (nI b) fl pl (nI n) (ov n K (g.1 0)) (ov n F (g.1 1)) (ov n N g.2) (ov n S (g.1 2)) (ov n I (g.1 3)) (ov n X (g.1 4)) (ov l Lt (g.1 5)) (nI l) (nI n0) x) fpS
            (fun v u => ∃ b l' Lt', v = nI n0 ∧ u = (fun g => (nI b, fl, pl, nI n, ov n K (g.1 0), ov n F (g.1 1), ov n N g.2, ov n (upd S n0 (nI (sz + (l' - l)))) (g.1 2), ov n I (g.1 3), ov n X (g.1 4), ov l' Lt' (g.1 5), nI l')) ∧ a < b ∧ b ≤ L ∧ l ≤ l' ∧ l' - l + 1 + a ≤ b ∧ ag l Lt Lt') := by
          intro b x h1 h2
          simp only [m_X9_string_91, bd_go (show l < 4200 by omega) (by decide), bd_gc (show l < 4200 by omega) (by decide), bd_go (show n0 < 4200 by omega) (by decide), bd_gc (show n0 < 4200 by omega) (by decide), nI_clamp (show l < 2 ^ 31 by omega), nI_clamp (show n0 < 2 ^ 31 by omega), ov_lt hn0, ov_up hn0, ov_push, hS, nI_1]
          refine (ih b (l + 1) _ _ (sz + 1) h2 (by omega) (by omega) pk_us).mono ?_
          rintro v u ⟨b', l', Lt', rfl, rfl, h3, h4, h5, h6, h7⟩
          refine ⟨b', l', Lt', rfl, ?_, by omega, h4, by omega, by omega, fun i hi => ?_⟩
          · rw [upd_upd, show sz + 1 + (l' - (l + 1)) = sz + (l' - l) by omega]
          · rw [← h7 i (by omega), pk_un (by omega)]
        simp only [m_X9_string_59, need_1, try_o, nI_1]
        refine RES.ite (fun h92 => ?_) (fun h92 => ?_)
        · refine RES.try (esc_res hL hlt) ?_ (fun g u => rfl)
          rintro v _ ⟨b, rfl, h1, h2⟩
          exact hpush b v h1 h2
        · exact hpush (a + 1) _ (by omega) (by omega)
theorem str_ok {B : Nat → Int32} {L : Nat} (hL : L ≤ 4096) {K F S I X Lt : Nat → Int32} {N : Nat → Int64} {fl pl : Int32} {a n l : Nat} (ha : a < L) (hn : n ≤ a) (hl : l ≤ a) :
    RES (fun g => m_X9_string (ov L B (g.1 6)) (nI L) (nI a) fl pl (nI n) (ov n K (g.1 0)) (ov n F (g.1 1)) (ov n N g.2) (ov n S (g.1 2)) (ov n I (g.1 3)) (ov n X (g.1 4)) (ov l Lt (g.1 5)) (nI l)) fpS
      (fun v u => ∃ b sz Lt', v = nI n ∧ u = (fun g => (nI b, fl, pl, nI (n + 1), ov (n + 1) (upd K n 2) (g.1 0), ov (n + 1) (upd F n (nI a)) (g.1 1), ov (n + 1) (vp_updL N n (lN l)) g.2, ov (n + 1) (upd S n (nI sz)) (g.1 2), ov (n + 1) (upd I n (-1)) (g.1 3), ov (n + 1) (upd X n (-1)) (g.1 4), ov (l + sz) Lt' (g.1 5), nI (l + sz))) ∧ a + sz + 2 ≤ b ∧ b ≤ L ∧ ag l Lt Lt') := by
  simp only [m_X9_string, node_eq (show n < 4200 by omega), Option.bind_some, bd_go (show n < 4200 by omega) (by decide), bd_gc (show n < 4200 by omega) (by decide), nI_clamp (show n < 2 ^ 31 by omega), ov_upL (Nat.lt_succ_self n), nI_1, nI_l (show l < 2 ^ 31 by omega)]
  have e : vp_updL (vp_updL N n 0) n (lN l) = vp_updL N n (lN l) := updL_updL
  simp only [e]
  refine (str_go hL (Nat.lt_succ_self n) (by omega) sr_fuel (a + 1) l _ _ 0 (by omega) (by unfold sr_fuel; omega) (by omega) pk_us).mono ?_
  rintro v u ⟨b, l', Lt', rfl, rfl, h1, h2, h3, h4, h5⟩
  refine ⟨b, l' - l, Lt', rfl, ?_, by omega, h2, h5⟩
  rw [upd_upd, Nat.zero_add, show l + (l' - l) = l' by omega]
/-- a number's cells, and what a fault has told -/
def fpN : (Int32 × Int32 × Int32 × Int32 × (Nat → Int32) × (Nat → Int32) × (Nat → Int64) × (Nat → Int32) × (Nat → Int32) × (Nat → Int32)) → Int32 × Int32 := fun u => (u.2.1, u.2.2.1)
/-- one digit at most, or two bytes at least -/
def digV (p a : Nat) (x : Int64) : Prop := p + 2 ≤ a ∨ ∃ j : Nat, j < 10 ∧ x = 10 * 0 - (nI (j + 48) - 48).toInt64
theorem digV_fin {p a : Nat} {x : Int64} (h : digV p a x) : (9 < x → p + 2 ≤ a) ∧ (9 < -x → p + 2 ≤ a) := by
  rcases h with h | ⟨j, hj, rfl⟩
  · exact ⟨fun _ => h, fun _ => h⟩
  · have : ∀ j, j < 10 → ¬ (9 : Int64) < 10 * 0 - (nI (j + 48) - 48).toInt64 ∧ ¬ (9 : Int64) < -(10 * 0 - (nI (j + 48) - 48).toInt64) := by decide +kernel
    exact ⟨fun q => absurd q (this j hj).1, fun q => absurd q (this j hj).2⟩
theorem num_go {B : Nat → Int32} {L : Nat} (hL : L ≤ 4096) {p n0 n : Nat} (hn0 : n0 < n) (hn : n ≤ 4200) {K F I X : Nat → Int32} {N : Nat → Int64} {fl pl x2 x3 : Int32} : ∀ (fuel a : Nat) (S : Nat → Int32) (sz : Nat) (x4 : Int32) (x5 : Int64), a ≤ L → L - a < fuel → p ≤ a → p + sz ≤ a → S n0 = nI sz → (sz = 0 → x5 = 0) → (x5 = 0 ∨ digV p a x5) →
    RES (fun g => m_X9_number_95 (ov L B (g.1 6)) (nI L) fuel (nI a) fl pl (nI n) (ov n K (g.1 0)) (ov n F (g.1 1)) (ov n N g.2) (ov n S (g.1 2)) (ov n I (g.1 3)) (ov n X (g.1 4)) (nI n0) x2 x3 x4 x5) fpN
      (fun v u => ∃ b sz' z, v = nI n0 ∧ u = (fun g => (nI b, fl, pl, nI n, ov n K (g.1 0), ov n F (g.1 1), ov n (vp_updL N n0 z) g.2, ov n (upd S n0 (nI sz')) (g.1 2), ov n I (g.1 3), ov n X (g.1 4))) ∧ a ≤ b ∧ b ≤ L ∧ (9 < z → p + 2 ≤ b) ∧ (sz = 0 ∧ ¬ rk B L a < 48 ∧ ¬ 57 < rk B L a ∧ K n0 = 3 → a < b)) := by
  intro fuel
  induction fuel with
  | zero => intro a S sz x4 x5 _ h; exact absurd h (Nat.not_lt_zero _)
  | succ fuel ih =>
    intro a S sz x4 x5 ha hf hpa hsz hS h0 hd
    have fin : ¬ (sz = 0 ∧ ¬ rk B L a < 48 ∧ ¬ 57 < rk B L a ∧ K n0 = 3) → RES (fun g => m_X9_number_243 (ov L B (g.1 6)) (nI L) (nI a) fl pl (nI n) (ov n K (g.1 0)) (ov n F (g.1 1)) (ov n N g.2) (ov n S (g.1 2)) (ov n I (g.1 3)) (ov n X (g.1 4)) (nI n0) x2 x4 x5) fpN
      (fun v u => ∃ b sz' z, v = nI n0 ∧ u = (fun g => (nI b, fl, pl, nI n, ov n K (g.1 0), ov n F (g.1 1), ov n (vp_updL N n0 z) g.2, ov n (upd S n0 (nI sz')) (g.1 2), ov n I (g.1 3), ov n X (g.1 4))) ∧ a ≤ b ∧ b ≤ L ∧ (9 < z → p + 2 ≤ b) ∧ (sz = 0 ∧ ¬ rk B L a < 48 ∧ ¬ 57 < rk B L a ∧ K n0 = 3 → a < b)) := by
      intro hno
      simp only [m_X9_number_243, bd_go (show n0 < 4200 by omega) (by decide), bd_gc (show n0 < 4200 by omega) (by decide), nI_clamp (show n0 < 2 ^ 31 by omega), ov_lt hn0, ov_upL hn0]
      have hz : (9 < x5 → p + 2 ≤ a) ∧ (9 < -x5 → p + 2 ≤ a) := by
        rcases hd with rfl | h
        · exact ⟨fun q => absurd q (by decide), fun q => absurd q (by decide)⟩
        · exact digV_fin h
      by_cases h4 : x4 = 0
      · subst h4
        simp only [need_0, try_e]
        exact RES.er (fun g => rfl)
      · have e : ∀ (c w : Int32), m_X9_need fl pl x4 c w = some (.ok ((), (fl, pl))) := fun c w => by
          unfold m_X9_need
          rw [if_neg h4]
        simp only [e, try_o]
        refine RES.ite (fun h2 => ?_) (fun h2 => ?_)
        · exact RES.ok ⟨a, sz, -x5, rfl, by rw [upd_self hS], Nat.le_refl _, ha, hz.2, fun q => absurd q hno⟩
        · exact RES.ok ⟨a, sz, x5, rfl, by rw [upd_self hS], Nat.le_refl _, ha, hz.1, fun q => absurd q hno⟩
    simp only [m_X9_number_95, look_eq hL ha, Option.bind_some]
    refine RES.ite (fun h48 => fin (fun q => q.2.1 h48)) (fun h48 => RES.ite (fun h57 => fin (fun q => q.2.2.1 h57)) (fun h57 => ?_))
    have hlt : a < L := by
      apply Nat.lt_of_not_le
      intro h1
      rw [rk_end h1] at h48
      exact h48 (by decide)
    obtain ⟨j, hj, hr⟩ : ∃ j : Nat, j < 10 ∧ rk B L a = nI (j + 48) := by
      obtain ⟨k, hk, e⟩ := nI_of2 (x := rk B L a) (M := 57) (n := 57) (by decide) (fun q => h48 (Int32.lt_trans q (by decide))) (Int32.not_lt.mp h57)
      have : 48 ≤ k := by
        rw [e] at h48
        apply Nat.le_of_not_lt
        intro q
        exact h48 (nI_lt (b := 48) q (by omega))
      exact ⟨k - 48, by omega, by rw [e]; congr 1; omega⟩
    have step : ∀ (y : Int32) (z : Int64), (z = x5 ∨ z = 10 * x5 - (rk B L a - 48).toInt64) → RES (fun g => m_X9_number_218 (ov L B (g.1 6)) (nI L) (m_X9_number_95 (ov L B (g.1 6)) (nI L) fuel) (nI a) fl pl (nI n) (ov n K (g.1 0)) (ov n F (g.1 1)) (ov n N g.2) (ov n S (g.1 2)) (ov n I (g.1 3)) (ov n X (g.1 4)) (nI n0) x2 x3 y z) fpN
      (fun v u => ∃ b sz' z, v = nI n0 ∧ u = (fun g => (nI b, fl, pl, nI n, ov n K (g.1 0), ov n F (g.1 1), ov n (vp_updL N n0 z) g.2, ov n (upd S n0 (nI sz')) (g.1 2), ov n I (g.1 3), ov n X (g.1 4))) ∧ a ≤ b ∧ b ≤ L ∧ (9 < z → p + 2 ≤ b) ∧ (sz = 0 ∧ ¬ rk B L a < 48 ∧ ¬ 57 < rk B L a ∧ K n0 = 3 → a < b)) := by
      intro y z hz
      simp only [m_X9_number_218, bd_go (show n0 < 4200 by omega) (by decide), bd_gc (show n0 < 4200 by omega) (by decide), nI_clamp (show n0 < 2 ^ 31 by omega), ov_lt hn0, ov_up hn0, hS, nI_1]
      refine (ih (a + 1) _ (sz + 1) y z (by omega) (by omega) (by omega) (by omega) pk_us (fun q => by omega) ?_).mono ?_
      · by_cases hs : sz = 0
        · have hx := h0 hs
          subst hx
          rcases hz with rfl | rfl
          · exact Or.inl rfl
          · exact Or.inr (Or.inr ⟨j, hj, by rw [hr]⟩)
        · exact Or.inr (Or.inl (by omega))
      · rintro v u ⟨b, sz', z', rfl, rfl, h1, h2, h3, -⟩
        exact ⟨b, sz', z', rfl, by rw [upd_upd], by omega, h2, h3, fun _ => by omega⟩
    have mid : RES (fun g => m_X9_number_143 (ov L B (g.1 6)) (nI L) (m_X9_number_95 (ov L B (g.1 6)) (nI L) fuel) (nI a) fl pl (nI n) (ov n K (g.1 0)) (ov n F (g.1 1)) (ov n N g.2) (ov n S (g.1 2)) (ov n I (g.1 3)) (ov n X (g.1 4)) (nI n0) x2 x3 x4 x5) fpN
      (fun v u => ∃ b sz' z, v = nI n0 ∧ u = (fun g => (nI b, fl, pl, nI n, ov n K (g.1 0), ov n F (g.1 1), ov n (vp_updL N n0 z) g.2, ov n (upd S n0 (nI sz')) (g.1 2), ov n I (g.1 3), ov n X (g.1 4))) ∧ a ≤ b ∧ b ≤ L ∧ (9 < z → p + 2 ≤ b) ∧ (sz = 0 ∧ ¬ rk B L a < 48 ∧ ¬ 57 < rk B L a ∧ K n0 = 3 → a < b)) := by
      have s0 := step 0 x5 (Or.inl rfl)
      have s1 := step 1 (10 * x5 - (rk B L a - 48).toInt64) (Or.inr rfl)
      simp only [m_X9_number_143, m_X9_number_195, m_X9_number_191, m_X9_number_188, m_X9_number_196, look_eq hL ha, Option.bind_some, if_pos (rfl : (0 : Int32) = 0), if_neg (show ¬ (1 : Int32) = 0 by decide)]
      refine RES.ite (fun _ => s0) (fun _ => RES.ite (fun _ => s1) (fun _ => RES.ite (fun _ => RES.ite (fun _ => RES.ite (fun _ => s0) (fun _ => s1)) (fun _ => RES.ite (fun _ => s0) (fun _ => s1))) (fun _ => s0)))
    refine RES.ite (fun _ => mid) (fun _ => RES.ite (fun _ => ?_) (fun hx => fin (fun q => hx (by rw [h0 q.1]; decide))))
    simp only [bd_go (show n0 < 4200 by omega) (by decide), bd_gc (show n0 < 4200 by omega) (by decide), nI_clamp (show n0 < 2 ^ 31 by omega), ov_lt hn0]
    exact RES.ite (fun _ => RES.ite (fun _ => mid) (fun hx => fin (fun q => hx (by rw [hS, q.1, nI_0])))) (fun hx => fin (fun q => hx q.2.2.2))
theorem num_ok {B : Nat → Int32} {L : Nat} (hL : L ≤ 4096) {K F S I X : Nat → Int32} {N : Nat → Int64} {fl pl : Int32} {a n : Nat} (ha : a < L) (hn : n ≤ a) :
    RES (fun g => m_X9_number (ov L B (g.1 6)) (nI L) (nI a) fl pl (nI n) (ov n K (g.1 0)) (ov n F (g.1 1)) (ov n N g.2) (ov n S (g.1 2)) (ov n I (g.1 3)) (ov n X (g.1 4))) fpN
      (fun v u => ∃ b sz z, v = nI n ∧ u = (fun g => (nI b, fl, pl, nI (n + 1), ov (n + 1) (upd K n 3) (g.1 0), ov (n + 1) (upd F n (nI a)) (g.1 1), ov (n + 1) (vp_updL N n z) g.2, ov (n + 1) (upd S n (nI sz)) (g.1 2), ov (n + 1) (upd I n (-1)) (g.1 3), ov (n + 1) (upd X n (-1)) (g.1 4))) ∧ a < b ∧ b ≤ L ∧ (9 < z → a + 2 ≤ b)) := by
  simp only [m_X9_number, node_eq (show n < 4200 by omega), Option.bind_some, look_eq hL (Nat.le_of_lt ha)]
  have e : ∀ z, vp_updL (vp_updL N n 0) n z = vp_updL N n z := fun z => updL_updL
  have main : ∀ (y : Int32) (a' : Nat), a ≤ a' → a' ≤ L → RES (fun g => m_X9_number_39 (ov L B (g.1 6)) (nI L) (nI a) fl pl (nI (n + 1)) (ov (n + 1) (upd K n 3) (g.1 0)) (ov (n + 1) (upd F n (nI a)) (g.1 1)) (ov (n + 1) (vp_updL N n 0) g.2) (ov (n + 1) (upd S n 0) (g.1 2)) (ov (n + 1) (upd I n (-1)) (g.1 3)) (ov (n + 1) (upd X n (-1)) (g.1 4)) (nI n) y (nI a')) fpN
      (fun v u => ∃ b sz z, v = nI n ∧ u = (fun g => (nI b, fl, pl, nI (n + 1), ov (n + 1) (upd K n 3) (g.1 0), ov (n + 1) (upd F n (nI a)) (g.1 1), ov (n + 1) (vp_updL N n z) g.2, ov (n + 1) (upd S n (nI sz)) (g.1 2), ov (n + 1) (upd I n (-1)) (g.1 3), ov (n + 1) (upd X n (-1)) (g.1 4))) ∧ a < b ∧ b ≤ L ∧ (9 < z → a + 2 ≤ b)) := by
    intro y a' h1 h2
    simp only [m_X9_number_39, m_X9_number_65, m_X9_number_66, look_eq hL h2, Option.bind_some, need_0, need_1, try_e, try_o]
    refine RES.ite (fun h48 => RES.er (fun g => rfl)) (fun h48 => RES.ite (fun h57 => RES.er (fun g => rfl)) (fun h57 => ?_))
    have hlt : a' < L := by
      apply Nat.lt_of_not_le
      intro h1
      rw [rk_end h1] at h48
      exact h48 (by decide)
    have go : ∀ x3 : Int32, RES (fun g => m_X9_number_88 (ov L B (g.1 6)) (nI L) (nI a') fl pl (nI (n + 1)) (ov (n + 1) (upd K n 3) (g.1 0)) (ov (n + 1) (upd F n (nI a)) (g.1 1)) (ov (n + 1) (vp_updL N n 0) g.2) (ov (n + 1) (upd S n 0) (g.1 2)) (ov (n + 1) (upd I n (-1)) (g.1 3)) (ov (n + 1) (upd X n (-1)) (g.1 4)) (nI n) y x3) fpN
      (fun v u => ∃ b sz z, v = nI n ∧ u = (fun g => (nI b, fl, pl, nI (n + 1), ov (n + 1) (upd K n 3) (g.1 0), ov (n + 1) (upd F n (nI a)) (g.1 1), ov (n + 1) (vp_updL N n z) g.2, ov (n + 1) (upd S n (nI sz)) (g.1 2), ov (n + 1) (upd I n (-1)) (g.1 3), ov (n + 1) (upd X n (-1)) (g.1 4))) ∧ a < b ∧ b ≤ L ∧ (9 < z → a + 2 ≤ b)) := by
      intro x3
      refine (num_go hL (p := a) (x2 := y) (x3 := x3) (Nat.lt_succ_self n) (by omega) sr_fuel a' _ 0 1 0 h2 (by unfold sr_fuel; omega) h1 (by omega) pk_us (fun _ => rfl) (Or.inl rfl)).mono ?_
      rintro v u ⟨b, sz, z, rfl, rfl, h3, h4, h5, h6⟩
      refine ⟨b, sz, z, rfl, by rw [upd_upd, e], ?_, h4, h5⟩
      have := h6 ⟨rfl, h48, h57, pk_us⟩
      omega
    exact RES.ite (fun _ => go 1) (fun _ => go 0)
  simp only [m_X9_number_20, if_pos (rfl : (0 : Int32) = 0), if_neg (show ¬ (1 : Int32) = 0 by decide), nI_1]
  refine RES.ite (fun _ => main 1 (a + 1) (by omega) (by omega)) (fun _ => main 0 a (Nat.le_refl _) (by omega))
