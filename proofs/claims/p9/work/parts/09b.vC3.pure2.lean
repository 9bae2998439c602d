-- the same for names, sizes, symbols, fields
section PURE2
variable {T : Nat → Int32} {L : Nat} {Sd In Nx Am K F S I X Lt : Nat → Int32} {N : Nat → Int64} {l : Nat}
theorem lsz_of {x : Int64} {w : Nat} (h : lsz x = some w) : x = lN w ∧ w ≤ 64 := by
  unfold lsz at h
  by_cases c : x = lN x.toNatClampNeg ∧ x.toNatClampNeg ≤ 64
  · rw [if_pos c] at h
    have e := Option.some.inj h
    rw [e] at c
    exact c
  · rw [if_neg c] at h; cases h
theorem lN_inj : ∀ a, a ≤ 64 → ∀ b, b ≤ 64 → lN a = lN b → a = b := by decide +kernel
theorem dgs_len {w : Nat} : (dgs w).length = if 10 ≤ w then 2 else 1 := by
  unfold dgs
  split <;> rfl
theorem lfx_p (hL : L ≤ 4096) (hl : l ≤ 4200) {s n p q : Nat} {sc sh kc : Nat} {pl : List Nat} {D : List Nat → Option Nat} {fi : List (Nat × Nat × Option Nat)} {G : Nat → Nod} {st' : LSt} (hs : s < sc) (hk : n_kd (G s) = 8 ∧ n_me (G s) = s ∧ n_pa (G s) = 999) (hw : WFs (sc, sh, kc, pl, D, fi, G)) (hv : VV T L Sd In Nx Am K F N S I X Lt l n p q) (hc : cb T L p = 123) (h : lfx T L s p (sc, sh, kc, pl, D, fi, G) = .inr st') : FQ s (sc, sh, kc, pl, D, fi, G) st' ∧ ∃ v kp c b, (kp, v) ∈ prt T L p ∧ VV T L Sd In Nx Am K F N S I X Lt l c v b ∧ ts T L kp = litN 23 ∧ p < kp ∧ kp + 7 ≤ v ∧ b < q ∧ st'.2.2.2.1.length ≤ pl.length + 9 + (b - v) := by
  simp only [lfx] at h
  have h23 : (litN 23).length = 4 := by decide
  have h24 : (litN 24).length = 8 := by decide
  rcases mbc hL hl hv hc (w := 23) (by decide) with ⟨e, _⟩ | ⟨v, kp, c, b, e, _, z1, z2, z3, z4, z5, z6⟩
  · rw [e] at h; cases h
  rw [e] at h
  simp only at h
  by_cases cn : cb T L v = 45 ∨ (48 ≤ cb T L v ∧ cb T L v ≤ 57)
  · rw [if_pos cn] at h
    cases hz : lsz (snv T L v) with
    | none => rw [hz] at h; cases h
    | some w =>
      rw [hz] at h
      have e := Sum.inr.inj h
      obtain ⟨w1, w2⟩ := lsz_of hz
      rw [← e]
      have hb := z1.base
      refine ⟨⟨Nat.le_refl _, Nat.le_refl _, Nat.le_refl _, ⟨_, rfl⟩, fun i h1 h2 => upG_n h2, fun _ _ h => h, fun _ _ h => Or.inl h, Nat.le_refl _, hw.1.up hk.1.symm hk.2.1.symm, ?_⟩, v, kp, c, b, z5, z1, z6, z2, by omega, z4, ?_⟩
      · rw [upG_s]
        exact ⟨hk.1.symm, hk.2.1.symm, rfl, hk.2.2.symm⟩
      · show (pl ++ (litN 24 ++ (dgs w ++ [125]))).length ≤ _
        simp only [List.length_append, List.length_singleton, h24, dgs_len]
        by_cases c10 : 10 ≤ w
        · rw [if_pos c10]
          by_cases eb : v + 1 = b
          · obtain ⟨k, k1, k2⟩ := z1.nm1 cn eb
            have := lN_inj _ w2 _ (show k ≤ 64 by omega) (w1.symm.trans k2)
            omega
          · omega
        · rw [if_neg c10]
          omega
  · rw [if_neg cn] at h; cases h
theorem lsy_p {s : Nat} : ∀ (ks : List (Nat × Nat)) (lo hi : Nat) (sc sh kc : Nat) (pl : List Nat) (D : List Nat → Option Nat) (fi : List (Nat × Nat × Option Nat)) (G : Nat → Nod) (st' : LSt) (hc hr : Int32), s < sc → WFs (sc, sh, kc, pl, D, fi, G) → LCH T L Sd In Nx Am K F N S I X Lt l ks lo hi hc hr → lsy T L s ks (sc, sh, kc, pl, D, fi, G) = .inr st' → FQ s (sc, sh, kc, pl, D, fi, G) st' ∧ st'.2.2.2.1.length + (if n_sy (G s) = [] ∧ ks ≠ [] then 1 else 0) ≤ pl.length + (hi - lo) ∧ (n_sy (st'.2.2.2.2.2.2 s)).length = (n_sy (G s)).length + ks.length := by
  intro ks
  induction ks with
  | nil =>
    intro lo hi sc sh kc pl D fi G st' hc hr hs hw hl h
    simp only [lsy] at h
    have e := Sum.inr.inj h
    rw [← e]
    refine ⟨FQ.refl hw, ?_, rfl⟩
    rw [if_neg (fun z => z.2 rfl)]
    show pl.length + 0 ≤ _
    omega
  | cons k t ih =>
    intro lo hi sc sh kc pl D fi G st' hc hr hs hw hl h
    obtain ⟨c, b, c1, c2, c3, c4, c5, c6⟩ := hl
    have hb := c4.base
    simp only [lsy] at h
    by_cases hd : cb T L k.2 = 34 ∧ isNm (ts T L k.2) ∧ ts T L k.2 ∉ n_sy (G s)
    · rw [dec_t hd, if_pos rfl] at h
      obtain ⟨s0, y1, y2, y3, y4, y5, y6⟩ := c4.str hd.1
      have q1 : FQ s (sc, sh, kc, pl, D, fi, G) (sc, sh, kc + 1, pl ++ ((if n_sy (G s) = [] then [] else [44]) ++ qt (ts T L k.2)), D, fi, upG G s (syN (G s) (ts T L k.2) kc)) := by
        refine ⟨Nat.le_refl _, Nat.le_refl _, by omega, ⟨_, rfl⟩, fun i h1 h2 => upG_n h2, fun _ _ h => h, fun _ _ h => Or.inl h, Nat.le_refl _, DOK.up (x := syN (G s) (ts T L k.2) kc) hw.1 rfl rfl, ?_⟩
        rw [upG_s]
        exact ⟨rfl, rfl, rfl, rfl⟩
      obtain ⟨r1, r2, r3⟩ := ih _ _ _ _ _ _ _ _ _ _ _ _ hs (q1.wf hw) c6 h
      refine ⟨q1.trans r1, ?_, ?_⟩
      · rw [upG_s, if_neg (show ¬ (n_sy (syN (G s) (ts T L k.2) kc) = [] ∧ t ≠ []) from fun z => absurd z.1 (by show ¬ n_sy (G s) ++ [ts T L k.2] = []; simp))] at r2
        simp only [List.length_append, qt, List.length_cons, List.length_nil] at r2
        rw [y2] at r2
        by_cases e0 : n_sy (G s) = []
        · rw [if_pos ⟨e0, by simp⟩]
          rw [if_pos e0, List.length_nil] at r2
          omega
        · rw [if_neg (fun z => e0 z.1)]
          rw [if_neg e0, List.length_singleton] at r2
          omega
      · rw [upG_s] at r3
        rw [r3]
        show (n_sy (G s) ++ [ts T L k.2]).length + t.length = (n_sy (G s)).length + (t.length + 1)
        rw [List.length_append, List.length_singleton]
        omega
    · rw [dec_f hd, if_neg (by decide)] at h; cases h
theorem len_p (hL : L ≤ 4096) (hl : l ≤ 4200) {s n p q : Nat} {sc sh kc : Nat} {pl : List Nat} {D : List Nat → Option Nat} {fi : List (Nat × Nat × Option Nat)} {G : Nat → Nod} {st' : LSt} (hs : s < sc) (hy : n_sy (G s) = []) (hw : WFs (sc, sh, kc, pl, D, fi, G)) (hv : VV T L Sd In Nx Am K F N S I X Lt l n p q) (hc : cb T L p = 123) (h : len T L s p (sc, sh, kc, pl, D, fi, G) = .inr st') : FQ s (sc, sh, kc, pl, D, fi, G) st' ∧ ∃ v kp c b, (kp, v) ∈ prt T L p ∧ VV T L Sd In Nx Am K F N S I X Lt l c v b ∧ ts T L kp = litN 25 ∧ p < kp ∧ kp + 10 ≤ v ∧ b < q ∧ st'.2.2.2.1.length ≤ pl.length + 12 + (b - v) := by
  simp only [len] at h
  have h25 : (litN 25).length = 7 := by decide
  have h26 : (litN 26).length = 12 := by decide
  have h27 : (litN 27).length = 2 := by decide
  rcases mbc hL hl hv hc (w := 25) (by decide) with ⟨e, _⟩ | ⟨v, kp, c, b, e, _, z1, z2, z3, z4, z5, z6⟩
  · rw [e] at h; cases h
  rw [e] at h
  simp only at h
  by_cases cn : cb T L v = 91 ∧ 1 ≤ (prt T L v).length ∧ (prt T L v).length ≤ 32
  · rw [if_pos cn] at h
    obtain ⟨a1, a2, a3, a4⟩ := z1.lst cn.1
    have q0 : FQ s (sc, sh, kc, pl, D, fi, G) (wrt (litN 26) (sc, sh, kc, pl, D, fi, G)) := (FQ.refl hw).wrt _
    cases hr : lsy T L s (prt T L v) (wrt (litN 26) (sc, sh, kc, pl, D, fi, G)) with
    | inl e => rw [hr] at h; cases h
    | inr st1 =>
      rw [hr] at h
      obtain ⟨r1, r2, r3⟩ := lsy_p (prt T L v) _ _ sc sh kc (pl ++ litN 26) D fi G st1 _ _ hs (q0.wf hw) a4 hr
      obtain ⟨sc', sh', kc', pl', D', fi', G'⟩ := st1
      simp only at h
      rw [if_pos ⟨hy, fun z => by rw [z] at cn; simp at cn⟩] at r2
      have r2 : pl'.length + 1 ≤ (pl ++ litN 26).length + (b - (v + 1)) := r2
      rw [List.length_append] at r2
      have hb := z1.base
      have fin : Sum.inr (sc', sh', kc', pl' ++ litN 27, D', fi', G') = (Sum.inr st' : LRs) → FQ s (sc, sh, kc, pl, D, fi, G) st' ∧ ∃ v kp c b, (kp, v) ∈ prt T L p ∧ VV T L Sd In Nx Am K F N S I X Lt l c v b ∧ ts T L kp = litN 25 ∧ p < kp ∧ kp + 10 ≤ v ∧ b < q ∧ st'.2.2.2.1.length ≤ pl.length + 12 + (b - v) := by
        intro e
        have e := Sum.inr.inj e
        rw [← e]
        refine ⟨(q0.trans r1).wrt (litN 27), v, kp, c, b, z5, z1, z6, z2, by omega, z4, ?_⟩
        show (pl' ++ litN 27).length ≤ _
        rw [List.length_append]
        omega
      cases hm : mbr T L p (litN 28) with
      | none => rw [hm] at h; exact fin h
      | some d =>
        rw [hm] at h
        simp only at h
        by_cases hd : cb T L d = 34 ∧ ts T L d ∈ n_sy (G' s)
        · rw [dec_t hd, if_pos rfl] at h
          exact fin h
        · rw [dec_f hd, if_neg (by decide)] at h; cases h
  · rw [if_neg cn] at h; cases h
theorem lfd_p (hL : L ≤ 4096) (hl : l ≤ 4200) {f : Nat → Bool → LSt → LRs} (hf : okSp T L Sd In Nx Am K F N S I X Lt l f) {s n p q i : Nat} {sc sh kc : Nat} {pl : List Nat} {D : List Nat → Option Nat} {fi : List (Nat × Nat × Option Nat)} {G : Nat → Nod} {st' : LSt} (hs : s < sc) (hw : WFs (sc, sh, kc, pl, D, fi, G)) (hv : VV T L Sd In Nx Am K F N S I X Lt l n p q) (h : lfd T L f s p i (sc, sh, kc, pl, D, fi, G) = .inr st') : FQ s (sc, sh, kc, pl, D, fi, G) st' ∧ st'.2.2.2.1.length ≤ pl.length + (q - p) + (if i = 0 then 0 else 1) := by
  simp only [lfd] at h
  have h20 : (litN 20).length = 4 := by decide
  have h15 : (litN 15).length = 4 := by decide
  have h21 : (litN 21).length = 8 := by decide
  have h31 : (litN 31).length = 8 := by decide
  by_cases hc : cb T L p = 123
  rotate_left
  · rw [if_neg hc] at h; cases h
  rw [if_pos hc] at h
  rcases mbc hL hl hv hc (w := 20) (by decide) with ⟨e, _⟩ | ⟨v0, kp0, c0, b0, e0, _, x1, x2, x3, x4, x5, x6⟩
  · rw [e] at h; cases h
  rw [e0] at h
  simp only at h
  by_cases c34 : cb T L v0 = 34
  rotate_left
  · rw [if_neg c34] at h; cases h
  rw [if_pos c34] at h
  by_cases hd : isNm (ts T L v0) ∧ ∀ c, c ∈ n_ch (G s) → n_fn (G c) ≠ ts T L v0
  rotate_left
  · rw [dec_f hd, if_neg (by decide)] at h; cases h
  rw [dec_t hd, if_pos rfl] at h
  obtain ⟨s0, y1, y2, y3, y4, y5, y6⟩ := x1.str c34
  rcases mbc hL hl hv hc (w := 15) (by decide) with ⟨e, _⟩ | ⟨v, kp, c, b, e, _, z1, z2, z3, z4, z5, z6⟩
  · rw [e] at h; cases h
  rw [e] at h
  simp only at h
  have hap := mb2 hv hc x5 z5 x1 z1 (by rw [x6, z6]; decide)
  have hb := z1.base
  have q0 : FQ s (sc, sh, kc, pl, D, fi, G) (sc, sh, kc + 1, pl ++ ((if i = 0 then [] else [44]) ++ (litN 21 ++ (qt (ts T L v0) ++ litN 31))), D, fi, upG G s (klN (G s) kc)) := ((FQ.refl hw).wrt ((if i = 0 then [] else [44]) ++ (litN 21 ++ (qt (ts T L v0) ++ litN 31)))).kid
  cases hr : f v false (sc, sh, kc + 1, pl ++ ((if i = 0 then [] else [44]) ++ (litN 21 ++ (qt (ts T L v0) ++ litN 31))), D, fi, upG G s (klN (G s) kc)) with
  | inl e => rw [hr] at h; cases h
  | inr st1 =>
    rw [hr] at h
    obtain ⟨g1, g2⟩ := hf _ _ _ _ _ _ z1 (q0.wf hw) hr
    obtain ⟨sc', sh', kc', pl', D', fi', G'⟩ := st1
    have e := Sum.inr.inj h
    rw [← e]
    have q1 := q0.trans (g1.q (s := s) hs)
    obtain ⟨a1, a2, a3, ⟨t, a4⟩, a5, a6, a7, a8, a9, a10, a11, a12, a13⟩ := q1
    have g8 := g1.2.2.2.2.2.2.2.1
    have q2 : FQ s (sc, sh, kc, pl, D, fi, G) (sc', sh', kc', pl' ++ [125], D', fi' ++ [(kc, sc, mbr T L p (litN 28))], upG G' sc (fnN (G' sc) (ts T L v0))) := by
      have := dul_1 fi' (kc, sc, mbr T L p (litN 28))
      refine ⟨a1, a2, a3, ⟨t ++ [125], by rw [a4, List.append_assoc]⟩, fun i h1 h2 => ?_, a6, a7, by omega, DOK.up (x := fnN (G' sc) (ts T L v0)) a9 rfl rfl, ?_⟩
      · rw [upG_n (show i ≠ sc by omega)]
        exact a5 i h1 h2
      · rw [upG_n (show s ≠ sc by omega)]
        exact ⟨a10, a11, a12, a13⟩
    refine ⟨q2.jon (c := sc) hs (Nat.le_refl _), ?_⟩
    have g2 : pl'.length ≤ (pl ++ ((if i = 0 then [] else [44]) ++ (litN 21 ++ (qt (ts T L v0) ++ litN 31)))).length + (b - v) := g2
    show (pl' ++ [125]).length ≤ _
    simp only [List.length_append, qt, List.length_cons, List.length_nil, h21, h31] at g2 ⊢
    rw [y2] at g2
    by_cases ei : i = 0
    · rw [if_pos ei] at g2 ⊢
      rw [List.length_nil] at g2
      omega
    · rw [if_neg ei] at g2 ⊢
      rw [List.length_singleton] at g2
      omega
theorem lfs_p (hL : L ≤ 4096) (hl : l ≤ 4200) {f : Nat → Bool → LSt → LRs} (hf : okSp T L Sd In Nx Am K F N S I X Lt l f) {s : Nat} : ∀ (ks : List (Nat × Nat)) (i lo hi : Nat) (st st' : LSt) (hc hr : Int32), s < st.1 → WFs st → LCH T L Sd In Nx Am K F N S I X Lt l ks lo hi hc hr → lfs T L f s ks i st = .inr st' → FQ s st st' ∧ st'.2.2.2.1.length + (if i = 0 ∧ ks ≠ [] then 1 else 0) ≤ st.2.2.2.1.length + (hi - lo) + 2 := by
  intro ks
  have h27 : (litN 27).length = 2 := by decide
  induction ks with
  | nil =>
    intro i lo hi st st' hc hr hs hw hl h
    simp only [lfs] at h
    have e := Sum.inr.inj h
    rw [← e]
    refine ⟨(FQ.refl hw).wrt _, ?_⟩
    rw [if_neg (fun z => z.2 rfl)]
    obtain ⟨sc, sh, kc, pl, D, fi, G⟩ := st
    show (pl ++ litN 27).length + 0 ≤ pl.length + (hi - lo) + 2
    rw [List.length_append, h27]
    omega
  | cons k t ih =>
    intro i lo hi st st' hc hr hs hw hlc h
    obtain ⟨c, b, c1, c2, c3, c4, c5, c6⟩ := hlc
    have hb := c4.base
    simp only [lfs] at h
    cases hv : lfd T L f s k.2 i st with
    | inl e => rw [hv] at h; cases h
    | inr st1 =>
      rw [hv] at h
      simp only at h
      obtain ⟨sc, sh, kc, pl, D, fi, G⟩ := st
      obtain ⟨g1, g2⟩ := lfd_p hL hl hf hs hw c4 hv
      have hs1 : s < st1.1 := by
        obtain ⟨sc', sh', kc', pl', D', fi', G'⟩ := st1
        have := g1.1
        have hs : s < sc := hs
        show s < sc'
        omega
      obtain ⟨r1, r2⟩ := ih (i + 1) _ _ _ _ _ _ hs1 (g1.wf hw) c6 h
      refine ⟨g1.trans r1, ?_⟩
      rw [if_neg (show ¬ (i + 1 = 0 ∧ t ≠ []) by omega)] at r2
      show _ ≤ pl.length + (hi - lo) + 2
      by_cases ei : i = 0
      · rw [if_pos ⟨ei, by simp⟩]
        rw [if_pos ei] at g2
        omega
      · rw [if_neg (fun z => ei z.1)]
        rw [if_neg ei] at g2
        omega
theorem lrc_p (hL : L ≤ 4096) (hl : l ≤ 4200) {f : Nat → Bool → LSt → LRs} (hf : okSp T L Sd In Nx Am K F N S I X Lt l f) {s n p q : Nat} {sc sh kc : Nat} {pl : List Nat} {D : List Nat → Option Nat} {fi : List (Nat × Nat × Option Nat)} {G : Nat → Nod} {st' : LSt} (hs : s < sc) (hw : WFs (sc, sh, kc, pl, D, fi, G)) (hv : VV T L Sd In Nx Am K F N S I X Lt l n p q) (hc : cb T L p = 123) (h : lrc T L f s p (sc, sh, kc, pl, D, fi, G) = .inr st') : FQ s (sc, sh, kc, pl, D, fi, G) st' ∧ ∃ v kp c b, (kp, v) ∈ prt T L p ∧ VV T L Sd In Nx Am K F N S I X Lt l c v b ∧ ts T L kp = litN 29 ∧ p < kp ∧ kp + 9 ≤ v ∧ b < q ∧ st'.2.2.2.1.length ≤ pl.length + 11 + (b - v) := by
  simp only [lrc] at h
  have h29 : (litN 29).length = 6 := by decide
  have h30 : (litN 30).length = 11 := by decide
  rcases mbc hL hl hv hc (w := 29) (by decide) with ⟨e, _⟩ | ⟨v, kp, c, b, e, _, z1, z2, z3, z4, z5, z6⟩
  · rw [e] at h; cases h
  rw [e] at h
  simp only at h
  by_cases cn : cb T L v = 91 ∧ (prt T L v).length ≤ 32
  · rw [if_pos cn] at h
    obtain ⟨a1, a2, a3, a4⟩ := z1.lst cn.1
    have q0 : FQ s (sc, sh, kc, pl, D, fi, G) (wrt (litN 30) (sc, sh, kc, pl, D, fi, G)) := (FQ.refl hw).wrt _
    obtain ⟨r1, r2⟩ := lfs_p hL hl hf (prt T L v) _ _ _ _ _ _ _ hs (q0.wf hw) a4 h
    refine ⟨q0.trans r1, v, kp, c, b, z5, z1, z6, z2, by omega, z4, ?_⟩
    have hb := z1.base
    have r2 : st'.2.2.2.1.length + (if 0 = 0 ∧ prt T L v ≠ [] then 1 else 0) ≤ (pl ++ litN 30).length + (b - (v + 1)) + 2 := r2
    rw [List.length_append] at r2
    by_cases e0 : prt T L v = []
    · have := z1.two (Or.inl cn.1)
      rw [e0] at h
      simp only [lfs] at h
      have e := Sum.inr.inj h
      rw [← e]
      show ((pl ++ litN 30) ++ litN 27).length ≤ _
      rw [List.length_append, List.length_append, show (litN 27).length = 2 by decide]
      omega
    · rw [if_pos ⟨rfl, e0⟩] at r2
      omega
  · rw [if_neg cn] at h; cases h
theorem FQ.fp {br : Bool} {sc sh kc sh0 kc0 : Nat} {pl pl1 : List Nat} {D D0 : List Nat → Option Nat} {fi : List (Nat × Nat × Option Nat)} {G : Nat → Nod} {x : Nod} {st' : LSt} (h : FQ sc (sc + 1, sh0, kc0, pl1, D0, fi, upG G sc x) st') (hsh : sh ≤ sh0) (hkc : kc ≤ kc0) (hpl : ∃ t, pl1 = pl ++ t) (hD : ∀ w i, D w = some i → D0 w = some i) (hD' : ∀ w i, D0 w = some i → D w = some i ∨ sc ≤ i) (hk : n_kd x ≤ 11) (hb : br = true → n_kd x ≤ 10) (hm : n_me x = sc) (hp : n_pa x = 999) : FPs br (sc, sh, kc, pl, D, fi, G) st' := by
  obtain ⟨sc', sh', kc', pl', D', fi', G'⟩ := st'
  obtain ⟨a1, a2, a3, ⟨t, a4⟩, a5, a6, a7, a8, a9, a10, a11, a12, a13⟩ := h
  obtain ⟨u, hpl⟩ := hpl
  rw [upG_s] at a10 a11 a13
  have em : n_me (G' sc) = sc := a11.trans hm
  refine ⟨by omega, by omega, by omega, ⟨u ++ t, by rw [a4, hpl, List.append_assoc]⟩, fun i hi => ?_, fun w i q => a6 w i (hD w i q), fun w i q => ?_, by omega, a9, a13.trans hp, ⟨by omega, by rw [em, em]⟩, by rw [em, a10]; exact hk, fun q => by rw [em, a10]; exact hb q⟩
  · rw [a5 i (by omega) (by omega), upG_n (by omega)]
  · rcases a7 w i q with z | z
    · exact hD' w i z
    · exact Or.inr (by omega)
theorem lwd_p {sc sh kc : Nat} {pl : List Nat} {D : List Nat → Option Nat} {fi : List (Nat × Nat × Option Nat)} {G : Nat → Nod} {x : Nod} {st' : LSt} {p n q : Nat} {br : Bool} (hw : WFs (sc, sh, kc, pl, D, fi, G)) (hv : VV T L Sd In Nx Am K F N S I X Lt l n p q) (hc : cb T L p = 34) (h : lwd T L sc p (sc + 1, sh, kc, pl, D, fi, upG G sc x) = .inr st') : FPs br (sc, sh, kc, pl, D, fi, G) st' ∧ st'.2.2.2.1.length ≤ pl.length + (q - p) := by
  obtain ⟨s0, y1, y2, y3, y4, y5, y6⟩ := hv.str hc
  simp only [lwd] at h
  have hln : (pl ++ qt (ts T L p)).length ≤ pl.length + (q - p) := by
    simp only [List.length_append, qt, List.length_cons, List.length_nil]
    rw [y2]
    omega
  by_cases c6 : kw6 (ts T L p) = -1
  · rw [if_pos c6] at h
    cases hD : D (ts T L p) with
    | none => rw [hD] at h; cases h
    | some d =>
      rw [hD] at h
      have e := Sum.inr.inj h
      obtain ⟨d1, d2, d3, d4⟩ := hw.1 _ _ hD
      rw [← e]
      have en : ∀ i, i < sc → upG (upG G sc x) sc (mkN 12 d (n_sg (upG G sc x d)) 0 [] []) i = G i := fun i hi => by
        rw [upG_n (by omega), upG_n (by omega)]
      refine ⟨⟨by omega, Nat.le_refl _, Nat.le_refl _, ⟨_, rfl⟩, en, fun _ _ h => h, fun _ _ h => Or.inl h, by omega, fun w i hi => ?_, ?_⟩, hln⟩
      · obtain ⟨e1, e2⟩ := hw.1 w i hi
        rw [en i e1]
        exact ⟨by omega, e2⟩
      · rw [upG_s]
        show 999 = 999 ∧ (d < sc + 1 ∧ n_me (upG (upG G sc x) sc _ d) = d) ∧ n_kd (upG (upG G sc x) sc _ d) ≤ 11 ∧ (br = true → n_kd (upG (upG G sc x) sc _ d) ≤ 10)
        rw [en d d1]
        exact ⟨rfl, ⟨by omega, d2⟩, by omega, fun _ => d4⟩
  · rw [if_neg c6] at h
    have e := Sum.inr.inj h
    rw [← e]
    have hk : (kw6 (ts T L p)).toNatClampNeg ≤ 5 := by
      rcases kw6_of (ts T L p) with ⟨k, k1, k2, k3⟩ | ⟨k1, _⟩
      · rw [k3, nI_clamp (by omega)]; exact k1
      · exact absurd k1 c6
    generalize (kw6 (ts T L p)).toNatClampNeg = k at hk
    have en : ∀ i, i < sc → upG (upG G sc x) sc (mkN k sc k 0 [] []) i = G i := fun i hi => by
      rw [upG_n (by omega), upG_n (by omega)]
    refine ⟨⟨by omega, Nat.le_refl _, Nat.le_refl _, ⟨_, rfl⟩, en, fun _ _ h => h, fun _ _ h => Or.inl h, by omega, fun w i hi => ?_, ?_⟩, hln⟩
    · obtain ⟨e1, e2⟩ := hw.1 w i hi
      rw [en i e1]
      exact ⟨by omega, e2⟩
    · rw [upG_s]
      show 999 = 999 ∧ (sc < sc + 1 ∧ n_me (upG (upG G sc x) sc (mkN k sc k 0 [] []) sc) = sc) ∧ n_kd (upG (upG G sc x) sc (mkN k sc k 0 [] []) sc) ≤ 11 ∧ (br = true → n_kd (upG (upG G sc x) sc (mkN k sc k 0 [] []) sc) ≤ 10)
      rw [upG_s]
      exact ⟨rfl, ⟨by omega, rfl⟩, show k ≤ 11 by omega, fun _ => show k ≤ 10 by omega⟩
theorem lwd_p2 {sc sh kc : Nat} {pl : List Nat} {D : List Nat → Option Nat} {fi : List (Nat × Nat × Option Nat)} {G : Nat → Nod} {x : Nod} {st' : LSt} {p n q : Nat} {br : Bool} {p0 q0 : Nat} (hw : WFs (sc, sh, kc, pl, D, fi, G)) (hv : VV T L Sd In Nx Am K F N S I X Lt l n p q) (hc : cb T L p = 34) (h : lwd T L sc p (sc + 1, sh, kc, pl, D, fi, upG G sc x) = .inr st') (hp : p0 ≤ p) (hq : q ≤ q0) : FPs br (sc, sh, kc, pl, D, fi, G) st' ∧ st'.2.2.2.1.length ≤ pl.length + (q0 - p0) := by
  obtain ⟨h1, h2⟩ := lwd_p (br := br) hw hv hc h
  have := hv.base
  exact ⟨h1, by omega⟩
theorem ldf_p (hL : L ≤ 4096) (hl : l ≤ 4200) {f : Nat → Bool → LSt → LRs} (hf : okSp T L Sd In Nx Am K F N S I X Lt l f) {k n p q t0 : Nat} {br : Bool} (hk : k = 8 ∨ k = 9 ∨ k = 10) {sc sh kc : Nat} {pl : List Nat} {D : List Nat → Option Nat} {fi : List (Nat × Nat × Option Nat)} {G : Nat → Nod} {x : Nod} {st' : LSt} (hw : WFs (sc, sh, kc, pl, D, fi, G)) (hv : VV T L Sd In Nx Am K F N S I X Lt l n p q) (hc : cb T L p = 123) (h0 : mbr T L p (litN 15) = some t0) (h1 : ts T L t0 = litN (3 + k)) (h1' : cb T L t0 = 34) (h : ldf T L f sc p k (sc + 1, sh, kc, pl, D, fi, upG G sc x) = .inr st') : FPs br (sc, sh, kc, pl, D, fi, G) st' ∧ st'.2.2.2.1.length ≤ pl.length + (q - p) := by
  simp only [ldf] at h
  have h15 : (litN 15).length = 4 := by decide
  have h20 : (litN 20).length = 4 := by decide
  have h21 : (litN 21).length = 8 := by decide
  have h22 : (litN 22).length = 9 := by decide
  rcases mbc hL hl hv hc (w := 15) (by decide) with ⟨e, _⟩ | ⟨v0, kp0, c0, b0, e0, _, x1, x2, x3, x4, x5, x6⟩
  · rw [h0] at e; cases e
  rw [h0] at e0
  cases e0
  obtain ⟨s0, y1, y2, y3, y4, y5, y6⟩ := x1.str h1'
  rw [y2] at h1
  subst h1
  rcases mbc hL hl hv hc (w := 20) (by decide) with ⟨e, _⟩ | ⟨v, kp, c, b, e, _, z1, z2, z3, z4, z5, z6⟩
  · rw [e] at h; cases h
  rw [e] at h
  simp only at h
  by_cases c34 : cb T L v = 34
  rotate_left
  · rw [if_neg c34] at h; cases h
  rw [if_pos c34] at h
  obtain ⟨s1, u1, u2, u3, u4, u5, u6⟩ := z1.str c34
  by_cases hd : isNm (ts T L v) ∧ kw (ts T L v) = -1 ∧ D (ts T L v) = none
  rotate_left
  · rw [dec_f hd, if_neg (by decide)] at h; cases h
  rw [dec_t hd, if_pos rfl] at h
  have hap := mb2 hv hc x5 z5 x1 z1 (by rw [x6, z6]; decide)
  have e2 : ∀ y, upG (upG G sc x) sc y = upG G sc y := fun y => funext (fun i => by
    by_cases q : i = sc
    · rw [q, upG_s, upG_s]
    · rw [upG_n q, upG_n q, upG_n q])
  rw [e2] at h
  have hw1 : ∀ pl', WFs (sc + 1, sh + 1, kc, pl', (fun u => if u = ts T L v then some sc else D u), fi, upG G sc (mkN k sc sh 0 [] [])) := by
    intro pl'
    refine ⟨fun w d hdd => ?_, by have := hw.2; omega⟩
    by_cases ew : w = ts T L v
    · simp only [if_pos ew] at hdd
      have e := Option.some.inj hdd
      subst e
      rw [upG_s]
      exact ⟨by omega, rfl, show 8 ≤ k by omega, show k ≤ 10 by omega⟩
    · simp only [if_neg ew] at hdd
      obtain ⟨a, b⟩ := hw.1 w d hdd
      rw [upG_n (by omega)]
      exact ⟨by omega, b⟩
  have hln : (pl ++ (litN 21 ++ (qt (ts T L v) ++ (litN 22 ++ (litN (3 + k) ++ [34]))))).length = pl.length + 20 + s1.length + (litN (3 + k)).length := by
    simp only [List.length_append, qt, List.length_cons, List.length_nil, h21, h22, u2]
    omega
  have fin : ∀ y, FQ sc (sc + 1, sh + 1, kc, pl ++ (litN 21 ++ (qt (ts T L v) ++ (litN 22 ++ (litN (3 + k) ++ [34])))), (fun u => if u = ts T L v then some sc else D u), fi, upG G sc (mkN k sc sh 0 [] [])) y → FPs br (sc, sh, kc, pl, D, fi, G) y := fun y hy => by
    refine FQ.fp hy (by omega) (Nat.le_refl _) ⟨_, rfl⟩ (fun w i hi => ?_) (fun w i hi => ?_) (show k ≤ 11 by omega) (fun _ => show k ≤ 10 by omega) rfl rfl
    · have : w ≠ ts T L v := fun e => by rw [e, hd.2.2] at hi; cases hi
      simp only [if_neg this]
      exact hi
    · by_cases ew : w = ts T L v
      · simp only [if_pos ew] at hi
        exact Or.inr (by rw [Option.some.inj hi]; omega)
      · simp only [if_neg ew] at hi
        exact Or.inl hi
  by_cases k8 : k = 8
  · rw [if_pos k8] at h
    subst k8
    obtain ⟨r1, v2, kp2, c2, b2, w1, w2, w3, w4, w5, w6, w7⟩ := lfx_p hL hl (show sc < sc + 1 by omega) (by rw [upG_s]; exact ⟨rfl, rfl, rfl⟩) (hw1 _) hv hc h
    have ha1 := mb2 hv hc x5 w1 x1 w2 (by rw [x6, w3]; decide)
    have ha2 := mb2 hv hc z5 w1 z1 w2 (by rw [z6, w3]; decide)
    have hb := w2.base
    refine ⟨fin _ r1, ?_⟩
    rw [hln] at w7
    have h11 : (litN (3 + 8)).length = 5 := by decide
    omega
  rw [if_neg k8] at h
  by_cases k9 : k = 9
  · rw [if_pos k9] at h
    subst k9
    obtain ⟨r1, v2, kp2, c2, b2, w1, w2, w3, w4, w5, w6, w7⟩ := len_p hL hl (show sc < sc + 1 by omega) (by rw [upG_s]; rfl) (hw1 _) hv hc h
    have ha1 := mb2 hv hc x5 w1 x1 w2 (by rw [x6, w3]; decide)
    have ha2 := mb2 hv hc z5 w1 z1 w2 (by rw [z6, w3]; decide)
    have hb := w2.base
    refine ⟨fin _ r1, ?_⟩
    rw [hln] at w7
    have h11 : (litN (3 + 9)).length = 4 := by decide
    omega
  rw [if_neg k9] at h
  have k10 : k = 10 := by omega
  subst k10
  obtain ⟨r1, v2, kp2, c2, b2, w1, w2, w3, w4, w5, w6, w7⟩ := lrc_p hL hl hf (show sc < sc + 1 by omega) (hw1 _) hv hc h
  have ha1 := mb2 hv hc x5 w1 x1 w2 (by rw [x6, w3]; decide)
  have ha2 := mb2 hv hc z5 w1 z1 w2 (by rw [z6, w3]; decide)
  have hb := w2.base
  refine ⟨fin _ r1, ?_⟩
  rw [hln] at w7
  have h11 : (litN (3 + 10)).length = 6 := by decide
  omega
theorem kw_6 (s : List Nat) {k : Nat} (hk : k ≤ 10) (h : kw s = nI k) : s = litN (3 + k) := by
  rcases kw_any s with e | ⟨k', k1, k2, k3⟩
  · exact absurd (e.symm.trans h) (fun z => nI_m1 (n := k) (by omega) z.symm)
  · have := (nI_eq (by omega) (by omega)).mp (k2.symm.trans h)
    subst this
    exact k3
theorem lob_p (hL : L ≤ 4096) (hl : l ≤ 4200) {f : Nat → Bool → LSt → LRs} (hf : okSp T L Sd In Nx Am K F N S I X Lt l f) {n p q : Nat} {br : Bool} {sc sh kc : Nat} {pl : List Nat} {D : List Nat → Option Nat} {fi : List (Nat × Nat × Option Nat)} {G : Nat → Nod} {st' : LSt} (hw : WFs (sc, sh, kc, pl, D, fi, G)) (hv : VV T L Sd In Nx Am K F N S I X Lt l n p q) (hc : cb T L p = 123) (h : lob T L f sc p (sc + 1, sh, kc, pl, D, fi, upG G sc (mkN 12 sc 0 0 [] [])) = .inr st') : FPs br (sc, sh, kc, pl, D, fi, G) st' ∧ st'.2.2.2.1.length ≤ pl.length + (q - p) := by
  simp only [lob] at h
  rcases mbc hL hl hv hc (w := 15) (by decide) with ⟨e, _⟩ | ⟨v, kp, c, b, e, _, z1, z2, z3, z4, z5, z6⟩
  · rw [e] at h; cases h
  rw [e] at h
  simp only at h
  by_cases c34 : cb T L v = 34
  rotate_left
  · rw [if_neg c34] at h; cases h
  rw [if_pos c34] at h
  have e2 : ∀ y, upG (upG G sc (mkN 12 sc 0 0 [] [])) sc y = upG G sc y := fun y => funext (fun i => by
    by_cases q : i = sc
    · rw [q, upG_s, upG_s]
    · rw [upG_n q, upG_n q, upG_n q])
  have hDs : ∀ w d, D w = some d → d < sc := fun w d h => (hw.1 w d h).1
  have hw1 : WFs (sc + 1, sh, kc, pl, D, fi, upG G sc (mkN 12 sc 0 0 [] [])) := by
    refine ⟨fun w d hd => ?_, by have := hw.2; omega⟩
    obtain ⟨a, b⟩ := hw.1 w d hd
    rw [upG_n (by omega)]
    exact ⟨by omega, b⟩
  have grp : ∀ k, k = 6 ∨ k = 7 → kw (ts T L v) = nI k → lit T L f sc p k (sc + 1, sh, kc, pl, D, fi, upG G sc (mkN 12 sc 0 0 [] [])) = .inr st' → FPs br (sc, sh, kc, pl, D, fi, G) st' ∧ st'.2.2.2.1.length ≤ pl.length + (q - p) := by
    intro k hk ek hh
    obtain ⟨r1, r2⟩ := lit_p hL hl hf hk rfl upG_s hw1 hDs hv hc e (kw_6 _ (by omega) ek) c34 hh
    rw [e2] at r1
    exact ⟨FQ.fp r1 (Nat.le_refl _) (Nat.le_refl _) ⟨[], (List.append_nil _).symm⟩ (fun _ _ h => h) (fun _ _ h => Or.inl h) (show k ≤ 11 by omega) (fun _ => show k ≤ 10 by omega) rfl rfl, r2⟩
  by_cases c67 : kw (ts T L v) = 6 ∨ kw (ts T L v) = 7
  · rw [if_pos c67] at h
    rcases c67 with c6 | c7
    · rw [c6] at h
      exact grp 6 (Or.inl rfl) c6 h
    · rw [c7] at h
      exact grp 7 (Or.inr rfl) c7 h
  rw [if_neg c67] at h
  by_cases c8 : kw (ts T L v) = 8 ∨ kw (ts T L v) = 9 ∨ kw (ts T L v) = 10
  · rw [if_pos c8] at h
    rcases c8 with c | c | c
    · rw [c] at h
      exact ldf_p hL hl hf (k := 8) (Or.inl rfl) hw hv hc e (kw_6 _ (by decide) c) c34 h
    · rw [c] at h
      exact ldf_p hL hl hf (k := 9) (Or.inr (Or.inl rfl)) hw hv hc e (kw_6 _ (by decide) c) c34 h
    · rw [c] at h
      exact ldf_p hL hl hf (k := 10) (Or.inr (Or.inr rfl)) hw hv hc e (kw_6 _ (by decide) c) c34 h
  rw [if_neg c8] at h
  exact lwd_p2 hw z1 c34 h (by omega) (by omega)
theorem look_p (hL : L ≤ 4096) (hl : l ≤ 4200) : ∀ k, okSp T L Sd In Nx Am K F N S I X Lt l (look T L k) := by
  intro k
  induction k with
  | zero =>
    intro p br st st' n q hv hw h
    obtain ⟨sc, sh, kc, pl, D, fi, G⟩ := st
    simp only [look] at h
    by_cases c : 128 ≤ sc
    · rw [if_pos c] at h; cases h
    · rw [if_neg c] at h; cases h
  | succ k ih =>
    intro p br st st' n q hv hw h
    obtain ⟨sc, sh, kc, pl, D, fi, G⟩ := st
    simp only [look] at h
    by_cases c : 128 ≤ sc
    · rw [if_pos c] at h; cases h
    rw [if_neg c] at h
    by_cases c1 : cb T L p = 34
    · rw [if_pos c1] at h
      exact lwd_p hw hv c1 h
    rw [if_neg c1] at h
    by_cases c2 : cb T L p = 91
    · rw [if_pos c2] at h
      by_cases c3 : br = true
      · rw [if_pos c3] at h; cases h
      rw [if_neg c3] at h
      by_cases c4 : 1 ≤ (prt T L p).length ∧ (prt T L p).length ≤ 16
      · rw [if_pos c4] at h
        obtain ⟨a1, a2, a3, a4⟩ := hv.lst c2
        have hw1 : WFs (sc + 1, sh + 1, kc, pl, D, fi, upG G sc (mkN 11 sc sh 0 [] [])) := by
          refine ⟨fun w d hd => ?_, by have := hw.2; omega⟩
          obtain ⟨a, b⟩ := hw.1 w d hd
          rw [upG_n (by omega)]
          exact ⟨by omega, b⟩
        obtain ⟨r1, r2⟩ := lun_p ih (s := sc) (prt T L p) _ _ _ _ _ _ _ (show sc < sc + 1 by omega) hw1 a4 h
        have hb := hv.base
        refine ⟨FQ.fp r1 (by omega) (Nat.le_refl _) ⟨[], (List.append_nil _).symm⟩ (fun _ _ h => h) (fun _ _ h => Or.inl h) (show 11 ≤ 11 by omega) (fun q => absurd q c3) rfl rfl, ?_⟩
        show st'.2.2.2.1.length ≤ pl.length + (q - p)
        have r2 : st'.2.2.2.1.length ≤ pl.length + (q - (p + 1)) + 1 := r2
        omega
      · rw [if_neg c4] at h; cases h
    rw [if_neg c2] at h
    by_cases c3 : cb T L p = 123
    · rw [if_pos c3] at h
      exact lob_p hL hl ih hw hv c3 h
    · rw [if_neg c3] at h; cases h
end PURE2
