-- the class's look at records, objects, values
section COBJ
variable {T : Nat → Int32} {L : Nat} {Sd In Nx Am K F S I X Lt : Nat → Int32} {N : Nat → Int64} {l : Nat}
theorem c_rec_go (hL : L ≤ 4096) (hl : l ≤ 4200) {f : FL} {g : Nat → Bool → LSt → LRs} {d : Nat} (hf : okCl T L Sd In Nx Am K F N S I X Lt l f (d + 1) g) (hg : okSp T L Sd In Nx Am K F N S I X Lt l g) (lf lp : Int32) {s : Nat} : ∀ (ks : List (Nat × Nat)) (fuel i lo hi : Nat) (hc hr : Int32) (Pl Ki Me Fi Ne Na Fn Ac Fd Ed : Nat → Int32) (lc sc : Int32) (Cf Cs : Nat → Int32) (cc : Int32) (k sh kc : Nat) (pl : List Nat) (D : List Nat → Option Nat) (fi : List (Nat × Nat × Option Nat)) (G : Nat → Nod), ks.length < fuel → i + ks.length ≤ 32 → CI Pl Ki Me Fi Ne Na Fn Ac lc sc Cf Cs cc (k, sh, kc, pl, D, fi, G) → WFs (k, sh, kc, pl, D, fi, G) → s < k → n_me (G s) = s → n_kd (G s) = 10 → (n_ch (G s)).length = i → LCH T L Sd In Nx Am K F N S I X Lt l ks lo hi hc hr → hi ≤ 4096 → (ks ≠ [] → pl.length + (hi - lo) + 2 ≤ 4096 + (if i = 0 then 1 else 0)) → (ks = [] → pl.length + 2 ≤ 4096) →
    CX lf lp (m_X4_lookAtRecord_91 f T Sd In Nx Am (nI L) fuel lf lp Pl Ki Me Fi Ne Na Fn Ac Fd Ed lc sc Cf Cs cc (nI s) (nI d) (nI (i + ks.length)) hc (if (n_ch (G s)).length = 0 then -1 else nI ((n_ch (G s)).getD ((n_ch (G s)).length - 1) 0)) (nI i)) 1 0 (lfs T L g s ks i (k, sh, kc, pl, D, fi, G)) := by
  intro ks
  have h27 : (litN 27).length = 2 := by decide
  induction ks with
  | nil =>
    intro fuel i lo hi hc hr Pl Ki Me Fi Ne Na Fn Ac Fd Ed lc sc Cf Cs cc k sh kc pl D fi G hfu hi16 hI hw hs hm hk hch hlc hhi hbu hbn
    obtain ⟨fu, rfl⟩ : ∃ z, fuel = z + 1 := ⟨fuel - 1, by omega⟩
    have i3 := hI.2.2.1
    have := hbn rfl
    obtain ⟨Pl', w1, w2⟩ := wrL (w := 27) (by decide) hI.2.2.2.2.1 (by omega)
    simp only [m_X4_lookAtRecord_91, lfs, wrt]
    rw [if_pos (nI_le (by simp) (by omega)), i3, w1]
    exact ⟨_, _, _, _, _, _, _, _, _, _, _, _, _, _, _, rfl, hI.wr w2 (by rw [List.length_append, h27]; omega)⟩
  | cons v t ih =>
    intro fuel i lo hi hc hr Pl Ki Me Fi Ne Na Fn Ac Fd Ed lc sc Cf Cs cc k sh kc pl D fi G hfu hi16 hI hw hs hm hk hch hlc hhi hbu hbn
    obtain ⟨fu, rfl⟩ : ∃ z, fuel = z + 1 := ⟨fuel - 1, by omega⟩
    rw [List.length_cons] at hfu hi16
    obtain ⟨c, b, c1, c2, c3, c4, c5, c6⟩ := hlc
    have hb := c4.base
    have i2 := hI.2.1
    have i3 := hI.2.2.1
    have hbu := hbu (by simp)
    have step : ∀ (Pl1 : Nat → Int32) (pl0 : List Nat), pl0 = pl ++ (if i = 0 then [] else [44]) → CI Pl1 Ki Me Fi Ne Na Fn Ac (nI pl0.length) sc Cf Cs cc (k, sh, kc, pl0, D, fi, G) → CX lf lp (m_X4_lookAtRecord_112 f T Sd In Nx Am (nI L) (m_X4_lookAtRecord_91 f T Sd In Nx Am (nI L) fu) lf lp Pl1 Ki Me Fi Ne Na Fn Ac Fd Ed (nI pl0.length) sc Cf Cs cc (nI s) (nI d) (nI (i + (v :: t).length)) hc (if (n_ch (G s)).length = 0 then -1 else nI ((n_ch (G s)).getD ((n_ch (G s)).length - 1) 0)) (nI i)) 1 0 (lfs T L g s (v :: t) i (k, sh, kc, pl, D, fi, G)) := by
      intro Pl1 pl0 hpl0 hI1
      have hl0 : pl0.length + (if i = 0 then 1 else 0) = pl.length + 1 := by
        rw [hpl0, List.length_append]
        by_cases e0 : i = 0
        · rw [if_pos e0, if_pos e0]; rfl
        · rw [if_neg e0, if_neg e0]; rfl
      have hw1 : WFs (k, sh, kc, pl0, D, fi, G) := hw
      have hf1 := c_fld hL hl hf hg lf lp (Fd := Fd) (Ed := Ed) hI1 hs hk hm hw1 c4 (by omega)
      simp only [m_X4_lookAtRecord_112, lfs, lfd_0]
      rw [c2]
      have e0 : wrt (if i = 0 then [] else [44]) (k, sh, kc, pl, D, fi, G) = (k, sh, kc, pl0, D, fi, G) := by rw [hpl0]; rfl
      rw [e0]
      cases hr1 : lfd0 T L g s v.2 (k, sh, kc, pl0, D, fi, G) with
      | inl e =>
        rw [hr1] at hf1
        obtain ⟨u, hu⟩ := hf1
        rw [hu]
        obtain ⟨u1, u2, u3, u4, u5, u6, u7, u8, u9, u10, u11, u12, u13, u14, u15⟩ := u
        simp only [Option.bind_some, if_true, jonR]
        exact ⟨_, rfl⟩
      | inr st1 =>
        rw [hr1] at hf1
        obtain ⟨p1, p2, p3, p4⟩ := lfd0_p hL hl hg hw1 c4 hr1
        have hfq := lfd_p hL hl hg hs hw c4 (st' := jon s k st1) (i := i) (by rw [lfd_0, e0, hr1]; rfl)
        obtain ⟨k1, sh1, kc1, pl1, D1, fi1, G1⟩ := st1
        obtain ⟨Pl2, Ki2, Me2, Fi2, Ne2, Na2, Fn2, Ac2, Fd2, Ed2, lc2, sc2, Cf2, Cs2, cc2, hu, hI2, hFn⟩ := hf1
        rw [hu]
        have i22 := hI2.2.1
        have p2 : ∀ i, i < k → G1 i = upG G s (klN (G s) kc) i := p2
        have eGs : G1 s = klN (G s) kc := by rw [p2 s hs, upG_s]
        have ech : n_ch (G1 s) = n_ch (G s) := by rw [eGs]; rfl
        have hms : n_me (G1 s) = s := by rw [eGs]; exact hm
        have hks : n_kd (G1 s) = 10 := by rw [eGs]; exact hk
        have hlt : ∀ x, x ∈ n_ch (G1 s) → x < k := fun x hx => by
          rw [ech] at hx
          exact (hI.lt hs hm (by omega) (by omega) hx).2.1
        simp only [Option.bind_some, if_neg (nI_m1 (show k < 2 ^ 31 by omega))]
        rw [← ech, joi_eq (show s < 128 by omega) (fun x hx => by have := hlt x hx; omega)]
        simp only [Option.bind_some, m_X7_next]
        rw [ent_eq (n := 4096) (by decide) (show v.2 < 4096 by omega)]
        simp only [Option.bind_some, nI_1, jonR]
        have hlen : (n_ch (G1 s)).length = i := by rw [ech]; exact hch
        have hIj := hI2.jon (s := s) (c := k) hs p1 hms (by omega) (by omega) p3 hlt (by omega) (fun _ => hFn)
        obtain ⟨j1, j2⟩ := jon_kd (s := s) (c := k) (G := G1)
        have ecs : n_ch (upG (upG G1 s (chN (G1 s) k)) k (paN (G1 k) s) s) = n_ch (G1 s) ++ [k] := by
          rw [upG_n (show s ≠ k by omega), upG_s]
          rfl
        have hlast : (if (n_ch (G1 s) ++ [k]).length = 0 then (-1 : Int32) else nI ((n_ch (G1 s) ++ [k]).getD ((n_ch (G1 s) ++ [k]).length - 1) 0)) = nI k := by
          rw [List.length_append, List.length_singleton, if_neg (by omega), Nat.add_sub_cancel, show (n_ch (G1 s) ++ [k]).getD (n_ch (G1 s)).length 0 = k from (congrFun snc_app.symm _).trans snc_s]
        have hpl1 : pl1.length ≤ pl.length + (b - v.2) + (if i = 0 then 0 else 1) := hfq.2
        have hpl2 : (if i = 0 then 0 else 1) + (if i = 0 then 1 else 0) = 1 := by
          by_cases e0 : i = 0
          · rw [if_pos e0, if_pos e0]
          · rw [if_neg e0, if_neg e0]
        have fin := ih fu (i + 1) _ hi (Nx v.2) (X c) Pl2 Ki2 Me2 _ _ Na2 Fn2 _ Fd2 Ed2 lc2 sc2 Cf2 Cs2 cc2 k1 sh1 kc1 pl1 D1 fi1 _ (by omega) (by omega) hIj (hfq.1.wf hw) (by have : k < k1 := p1; omega) ((j2 s).trans hms) ((j1 s).trans hks) (by rw [ecs, List.length_append, List.length_singleton]; omega) c6 hhi (fun _ => by
          rw [if_neg (show ¬ i + 1 = 0 by omega)]
          omega) (fun _ => by omega)
        rw [ecs, hlast] at fin
        rw [List.length_cons, show i + (t.length + 1) = i + 1 + t.length by omega]
        exact fin
    simp only [m_X4_lookAtRecord_91]
    rw [if_neg (nI_ge (show i < i + (v :: t).length by rw [List.length_cons]; omega) (by rw [List.length_cons]; omega))]
    by_cases e0 : i = 0
    · rw [if_pos (show nI i ≤ 0 by rw [e0]; decide), i3]
      refine step Pl pl (by rw [if_pos e0, List.append_nil]) ?_
      rw [i3] at hI
      exact hI
    · rw [if_neg (show ¬ nI i ≤ 0 from nI_ge (a := 0) (by omega) (by omega))]
      rw [if_neg e0] at hbu
      obtain ⟨Pl1, w1, w2⟩ := wbL (v := 44) (by decide) hI.2.2.2.2.1 (by omega)
      rw [i3, show (44 : Int32) = nI 44 from rfl, w1]
      simp only [Option.bind_some]
      exact step Pl1 _ (by rw [if_neg e0]) (hI.wr w2 (by rw [List.length_append, List.length_singleton]; omega))
theorem c_rec (hL : L ≤ 4096) (hl : l ≤ 4200) {f : FL} {g : Nat → Bool → LSt → LRs} {d : Nat} (hf : okCl T L Sd In Nx Am K F N S I X Lt l f (d + 1) g) (hg : okSp T L Sd In Nx Am K F N S I X Lt l g) (lf lp : Int32) {s n p q : Nat} {Fd Ed : Nat → Int32} {Pl Ki Me Fi Ne Na Fn Ac : Nat → Int32} {lc sc : Int32} {Cf Cs : Nat → Int32} {cc : Int32} {k sh kc : Nat} {pl : List Nat} {D : List Nat → Option Nat} {fi : List (Nat × Nat × Option Nat)} {G : Nat → Nod} (hI : CI Pl Ki Me Fi Ne Na Fn Ac lc sc Cf Cs cc (k, sh, kc, pl, D, fi, G)) (hw : WFs (k, sh, kc, pl, D, fi, G)) (hs : s < k) (hG : ∃ sg, G s = mkN 10 s sg 0 [] []) (hv : VV T L Sd In Nx Am K F N S I X Lt l n p q) (hc : cb T L p = 123) (hb : ∀ v kp c b, (kp, v) ∈ prt T L p → VV T L Sd In Nx Am K F N S I X Lt l c v b → ts T L kp = litN 29 → p < kp → kp + 9 ≤ v → b < q → pl.length + 11 + (b - v) ≤ 4096) :
    CX lf lp (m_X4_lookAtRecord f lf lp T Sd In Nx Am (nI L) Pl Ki Me Fi Ne Na Fn Ac Fd Ed lc sc Cf Cs cc (nI s) (nI p) (nI d)) 1 0 (lrc T L g s p (k, sh, kc, pl, D, fi, G)) := by
  have hp := hv.base
  have h29 : (litN 29).length = 6 := by decide
  have h30 : (litN 30).length = 11 := by decide
  obtain ⟨sg, hG⟩ := hG
  simp only [lrc, wrt]
  unfold m_X4_lookAtRecord
  rcases mbc hL hl hv hc (w := 29) (by decide) with ⟨e, em⟩ | ⟨v, kp, c, b, e, em, z1, z2, z3, z4, z5, z6⟩
  · rw [e, em]
    simp only [Option.bind_some, if_true, m_X4_refuse, true_or]
    exact ⟨_, rfl⟩
  rw [e, em]
  have hzb := z1.base
  simp only [Option.bind_some, if_neg (nI_m1 (show v < 2 ^ 31 by omega)), m_X7_amount, ent_eq (n := 4096) (by decide) (show v < 4096 by omega), isl_eq hL (show v < 4096 by omega), m_X4_lookAtRecord_56, m_X4_refuse, true_or, if_true]
  by_cases c91 : cb T L v = 91
  rotate_left
  · rw [if_neg c91, I00, if_neg (fun z => c91 z.1)]
    exact ⟨_, rfl⟩
  obtain ⟨a1, a2, a3, a4⟩ := z1.lst c91
  have htwo := z1.two (Or.inl c91)
  rw [if_pos c91, I10, a1]
  by_cases x2 : (prt T L v).length ≤ 32
  rotate_left
  · rw [if_neg (show ¬ nI (prt T L v).length ≤ 32 from nI_ge (a := 32) (b := (prt T L v).length) (by omega) (by omega)), if_neg (fun z => x2 z.2)]
    exact ⟨_, rfl⟩
  rw [if_pos (show nI (prt T L v).length ≤ 32 from nI_le (b := 32) x2 (by decide)), if_pos ⟨c91, x2⟩]
  have hbb := hb v kp c b z5 z1 z6 z2 (by omega) z4
  have i3 := hI.2.2.1
  obtain ⟨Pl1, w1, w2⟩ := wrL (w := 30) (by decide) hI.2.2.2.2.1 (by omega)
  have hI1 := hI.wr w2 (by rw [List.length_append, h30]; omega)
  rw [i3, w1]
  simp only [Option.bind_some, m_X7_inner]
  rw [ent_eq (n := 4096) (by decide) (show v < 4096 by omega)]
  simp only [Option.bind_some]
  have ech : n_ch (G s) = [] := by rw [hG]; rfl
  have fin := c_rec_go hL hl hf hg lf lp (s := s) (prt T L v) sr_fuel 0 _ _ _ _ Pl1 Ki Me Fi Ne Na Fn Ac Fd Ed _ sc Cf Cs cc k sh kc _ D fi G (by unfold sr_fuel; omega) (by omega) hI1 hw hs (by rw [hG]; rfl) (by rw [hG]; rfl) (by rw [ech]; rfl) a4 (by omega) (fun _ => by
    rw [if_pos rfl, List.length_append, h30]
    omega) (fun _ => by rw [List.length_append, h30]; omega)
  rw [Nat.zero_add, nI_0, ech] at fin
  exact fin
end COBJ
