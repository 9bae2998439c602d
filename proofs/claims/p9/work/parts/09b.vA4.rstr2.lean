-- the reference's strings, as told: the loop
theorem nar_sb : ∀ x, x < 256 → vp_nar .byte ((nI x).toInt8.toInt32) = sbI x := by decide +kernel
theorem sb_inj {m n : Nat} (hm : m < 256) (hn : n < 256) (h : sbI m = sbI n) : m = n := by
  have := congrArg Int32.toInt h
  rw [sbI_int (show m ≤ 256 by omega), sbI_int (show n ≤ 256 by omega), if_neg (show ¬ m = 256 by omega), if_neg (show ¬ n = 256 by omega)] at this
  by_cases a : m < 128
  · rw [if_pos a] at this
    by_cases b : n < 128
    · rw [if_pos b] at this; omega
    · rw [if_neg b] at this; omega
  · rw [if_neg a] at this
    by_cases b : n < 128
    · rw [if_pos b] at this; omega
    · rw [if_neg b] at this; omega
section RSTR2
variable {B : Nat → Int32} {L : Nat}
theorem sE_w {x : Nat ⊕ Nat} {k : Nat → Nat ⊕ (List Nat × Nat)} {w : Nat} (h : x = .inl w) : sE x k = .inl w := by rw [h]; rfl
theorem stx_go (hB : BY B L) (hL : L ≤ 4096) {n0 n : Nat} (hn0 : n0 < n) (hn : n ≤ 4200) {K F I X : Nat → Int32} {N : Nat → Int64} {fl pl : Int32} : ∀ (fuel a l : Nat) (S Lt : Nat → Int32) (sz : Nat), a ≤ L → L - a < fuel → l ≤ a → S n0 = nI sz →
    REX (fun g => m_X9_string_27 (ov L B (g.1 6)) (nI L) fuel (nI a) fl pl (nI n) (ov n K (g.1 0)) (ov n F (g.1 1)) (ov n N g.2) (ov n S (g.1 2)) (ov n I (g.1 3)) (ov n X (g.1 4)) (ov l Lt (g.1 5)) (nI l) (nI n0)) fpS (EW (sstr B L a))
      (fun v u => ∃ b s Lt', sstr B L a = .inr (s, b) ∧ v = nI n0 ∧ u = (fun g => (nI b, fl, pl, nI n, ov n K (g.1 0), ov n F (g.1 1), ov n N g.2, ov n (upd S n0 (nI (sz + s.length))) (g.1 2), ov n I (g.1 3), ov n X (g.1 4), ov (l + s.length) Lt' (g.1 5), nI (l + s.length))) ∧ ag l Lt Lt' ∧ ∀ j, j < s.length → Lt' (l + j) = sbI (s.getD j 0)) := by
  intro fuel
  induction fuel with
  | zero => intro a l S Lt sz _ h; exact absurd h (Nat.not_lt_zero _)
  | succ fuel ih =>
    intro a l S Lt sz ha hf hl hS
    have h0 := cb_le B L a
    simp only [m_X9_string_27, look_eq hL ha, Option.bind_some, nI_1, rk_sb hB, sb34, sbl32, sbg126]
    refine REX.ite (fun h34 => ?_) (fun h34 => ?_)
    · have hlt : a < L := cb_lt (B := B) (by omega)
      have e : sstr B L a = .inr ([], a + 1) := by
        rw [sstr_s, if_neg (by omega), if_pos h34]
      refine REX.ok ⟨a + 1, [], Lt, e, rfl, ?_, ag.rfl', fun j hj => absurd hj (Nat.not_lt_zero _)⟩
      simp only [List.length_nil, Nat.add_zero, upd_self hS]
    · refine REX.ite (fun h32 => ?_) (fun h32 => REX.ite (fun h126 => ?_) (fun h126 => ?_))
      · have e : sstr B L a = .inl a := by
          rw [sstr_s]
          by_cases q : L ≤ a
          · rw [if_pos q]
          · rw [if_neg q, if_neg h34, if_pos ?_]
            have : cb B L a ≠ 256 := by
              unfold cb bv
              rw [if_neg q]
              omega
            omega
        simp only [m_X9_string_58, m_X9_string_59, need_0, try_e]
        exact REX.er (fun g => rfl) ⟨a, e, rfl⟩
      · have hlt : a < L := cb_lt (B := B) (by omega)
        have e : sstr B L a = .inl a := by
          rw [sstr_s, if_neg (by omega), if_neg h34, if_pos (Or.inr h126.2)]
        simp only [m_X9_string_58, m_X9_string_59, need_0, try_e]
        exact REX.er (fun g => rfl) ⟨a, e, rfl⟩
      · have hlt : a < L := cb_lt (B := B) (by omega)
        have hpush : ∀ (b v : Nat), v ≤ 255 → a < b → b ≤ L → sstr B L a = sC v (sstr B L b) → REX (fun g => m_X9_string_91 (ov L B (g.1 6)) (nI L) (m_X9_string_27 (ov L B (g.1 6)) (nI L) fuel) (nI b) fl pl (nI n) (ov n K (g.1 0)) (ov n F (g.1 1)) (ov n N g.2) (ov n S (g.1 2)) (ov n I (g.1 3)) (ov n X (g.1 4)) (ov l Lt (g.1 5)) (nI l) (nI n0) (nI v)) fpS (EW (sstr B L a))
            (fun v u => ∃ b s Lt', sstr B L a = .inr (s, b) ∧ v = nI n0 ∧ u = (fun g => (nI b, fl, pl, nI n, ov n K (g.1 0), ov n F (g.1 1), ov n N g.2, ov n (upd S n0 (nI (sz + s.length))) (g.1 2), ov n I (g.1 3), ov n X (g.1 4), ov (l + s.length) Lt' (g.1 5), nI (l + s.length))) ∧ ag l Lt Lt' ∧ ∀ j, j < s.length → Lt' (l + j) = sbI (s.getD j 0)) := by
          intro b x hx h1 h2 he
          simp only [m_X9_string_91, bd_go (show l < 4200 by omega) (by decide), bd_gc (show l < 4200 by omega) (by decide), bd_go (show n0 < 4200 by omega) (by decide), bd_gc (show n0 < 4200 by omega) (by decide), nI_clamp (show l < 2 ^ 31 by omega), nI_clamp (show n0 < 2 ^ 31 by omega), ov_lt hn0, ov_up hn0, ov_push, hS, nI_1]
          refine (ih b (l + 1) _ _ (sz + 1) h2 (by omega) (by omega) pk_us).mono ?_ ?_
          · rintro c ⟨w, q1, q2⟩
            exact ⟨w, by rw [he, q1]; rfl, q2⟩
          · rintro v u ⟨b', s, Lt', q1, rfl, rfl, q2, q3⟩
            refine ⟨b', x :: s, Lt', by rw [he, q1]; rfl, rfl, ?_, fun i hi => ?_, fun j hj => ?_⟩
            · rw [upd_upd, List.length_cons, show sz + 1 + s.length = sz + (s.length + 1) by omega, show l + 1 + s.length = l + (s.length + 1) by omega]
            · rw [← q2 i (by omega), pk_un (by omega)]
            · rw [List.length_cons] at hj
              cases j with
              | zero =>
                show Lt' l = sbI x
                rw [← q2 l (by omega), pk_us, nar_sb x (by omega)]
              | succ j =>
                rw [show l + (j + 1) = l + 1 + j by omega, q3 j (by omega)]
                rfl
        have eu : sbI (cb B L a) = nI (cb B L a) := by
          unfold sbI
          rw [if_neg (by omega), if_pos (by omega)]
        simp only [m_X9_string_59, need_1, try_o, nI_1, sb92]
        refine REX.ite (fun h92 => ?_) (fun h92 => ?_)
        · have e : sstr B L a = sE (sesc B L a) (fun _ => sstr B L (a + elen B L a)) := by
            rw [sstr_s, if_neg (by omega), if_neg h34, if_neg (by omega), if_pos h92]
          refine REX.try (esx hB hL hlt) ?_ ?_ (fun g u => rfl)
          · rintro c ⟨w, q1, q2⟩
            exact ⟨w, by rw [e, sE_w q1], q2⟩
          · rintro v _ ⟨x, q1, rfl, rfl⟩
            have h2 := elen_2 B L a
            exact hpush _ x (sesc_le q1) (by omega) (sesc_pos q1) (by rw [e, q1]; rfl)
        · have e : sstr B L a = sC (cb B L a) (sstr B L (a + 1)) := by
            rw [sstr_s, if_neg (by omega), if_neg h34, if_neg (by omega), if_neg h92]
          rw [eu]
          exact hpush (a + 1) _ (by omega) (by omega) (by omega) e
theorem stx (hB : BY B L) (hL : L ≤ 4096) {K F S I X Lt : Nat → Int32} {N : Nat → Int64} {fl pl : Int32} {a n l : Nat} (ha : a < L) (hn : n ≤ a) (hl : l ≤ a) :
    REX (fun g => m_X9_string (ov L B (g.1 6)) (nI L) (nI a) fl pl (nI n) (ov n K (g.1 0)) (ov n F (g.1 1)) (ov n N g.2) (ov n S (g.1 2)) (ov n I (g.1 3)) (ov n X (g.1 4)) (ov l Lt (g.1 5)) (nI l)) fpS (EW (sstr B L (a + 1)))
      (fun v u => ∃ b s Lt', sstr B L (a + 1) = .inr (s, b) ∧ v = nI n ∧ u = (fun g => (nI b, fl, pl, nI (n + 1), ov (n + 1) (upd K n 2) (g.1 0), ov (n + 1) (upd F n (nI a)) (g.1 1), ov (n + 1) (vp_updL N n (lN l)) g.2, ov (n + 1) (upd S n (nI s.length)) (g.1 2), ov (n + 1) (upd I n (-1)) (g.1 3), ov (n + 1) (upd X n (-1)) (g.1 4), ov (l + s.length) Lt' (g.1 5), nI (l + s.length))) ∧ ag l Lt Lt' ∧ ∀ j, j < s.length → Lt' (l + j) = sbI (s.getD j 0)) := by
  simp only [m_X9_string, node_eq (show n < 4200 by omega), Option.bind_some, bd_go (show n < 4200 by omega) (by decide), bd_gc (show n < 4200 by omega) (by decide), nI_clamp (show n < 2 ^ 31 by omega), ov_upL (Nat.lt_succ_self n), nI_1, nI_l (show l < 2 ^ 31 by omega)]
  have e : vp_updL (vp_updL N n 0) n (lN l) = vp_updL N n (lN l) := updL_updL
  simp only [e]
  refine (stx_go hB hL (Nat.lt_succ_self n) (by omega) sr_fuel (a + 1) l _ _ 0 (by omega) (by unfold sr_fuel; omega) (by omega) pk_us).mono (fun c hc => hc) ?_
  rintro v u ⟨b, s, Lt', q1, rfl, rfl, q2, q3⟩
  refine ⟨b, s, Lt', q1, rfl, ?_, q2, q3⟩
  rw [upd_upd, Nat.zero_add]
end RSTR2
