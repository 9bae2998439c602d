-- the class's look at unions and items
section CIOPS
variable {Pl Ki Me Fi Ne Na Fn Ac Cf Cs Pl' : Nat → Int32} {lc sc cc : Int32} {k sh kc : Nat} {pl : List Nat} {D : List Nat → Option Nat} {fi : List (Nat × Nat × Option Nat)} {G : Nat → Nod}
theorem CI.kid {s : Nat} (h : CI Pl Ki Me Fi Ne Na Fn Ac lc sc Cf Cs cc (k, sh, kc, pl, D, fi, G)) : CI Pl Ki Me Fi Ne Na Fn Ac lc sc Cf Cs cc (k, sh, kc + 1, pl, D, fi, upG G s (klN (G s) kc)) := by
  obtain ⟨i1, i2, i3, i4, i5, i6, i7, i8, i9⟩ := h
  exact ⟨i1, i2, i3, i4, i5, i6, i7.kl rfl rfl rfl rfl rfl rfl rfl, i8, i9⟩
theorem CI.wr {t : List Nat} (h : CI Pl Ki Me Fi Ne Na Fn Ac lc sc Cf Cs cc (k, sh, kc, pl, D, fi, G)) (hp : PLI Pl' (pl ++ t)) (hl : (pl ++ t).length ≤ 4096) : CI Pl' Ki Me Fi Ne Na Fn Ac (nI (pl ++ t).length) sc Cf Cs cc (k, sh, kc, pl ++ t, D, fi, G) := by
  obtain ⟨i1, i2, i3, i4, i5, i6, i7, i8, i9⟩ := h
  exact ⟨i1, i2, rfl, hl, hp, i6.wr _, i7.wr _, i8, i9⟩
theorem CI.jon {s c : Nat} (h : CI Pl Ki Me Fi Ne Na Fn Ac lc sc Cf Cs cc (k, sh, kc, pl, D, fi, G)) (hs : s < c) (hc : c < k) (hm : n_me (G s) = s) (h8 : n_kd (G s) ≠ 8) (h9 : n_kd (G s) ≠ 9) (hp : n_pa (G c) = 999) (hlt : ∀ x, x ∈ n_ch (G s) → x < c) (hl : (n_ch (G s)).length < 32) (hf : n_kd (G s) = 10 → ∃ a, Fn c = nI a ∧ PNL pl a (n_fn (G c))) :
    CI Pl Ki Me (if (n_ch (G s)).length = 0 then upd Fi s (nI c) else Fi) (if (n_ch (G s)).length = 0 then Ne else upd Ne ((n_ch (G s)).getD ((n_ch (G s)).length - 1) 0) (nI c)) Na Fn (upd Ac s (Ac s + 1)) lc sc Cf Cs cc (jon s c (k, sh, kc, pl, D, fi, G)) := by
  obtain ⟨i1, i2, i3, i4, i5, i6, i7, i8, i9⟩ := h
  exact ⟨i1, i2, i3, i4, i5, i6, i7.jon i2 hs hc hm h8 h9 hp hlt hl hf, i8, i9⟩
theorem CI.lt {s x : Nat} (h : CI Pl Ki Me Fi Ne Na Fn Ac lc sc Cf Cs cc (k, sh, kc, pl, D, fi, G)) (hs : s < k) (hm : n_me (G s) = s) (h8 : n_kd (G s) ≠ 8) (h9 : n_kd (G s) ≠ 9) (hx : x ∈ n_ch (G s)) : s < x ∧ x < k ∧ n_me (G x) < k := by
  obtain ⟨i1, i2, i3, i4, i5, i6, i7, i8, i9⟩ := h
  obtain ⟨s1, s2, s3, s4⟩ := i7 s hs
  obtain ⟨t1, t2, t3, t4⟩ := s4 hm
  obtain ⟨u1, u2, u3, u4⟩ := t2 h8 h9
  obtain ⟨j, hj, e⟩ := mem_ch hx
  have : (n_ch (G s)).getD j 0 < k := (u1.1 j hj).1
  rw [e] at this
  exact ⟨(u4 x hx).1, this, (i7 x this).2.1⟩
end CIOPS
def KD1 (G : Nat → Nod) (x : Nat) : Prop := n_kd (G (n_me (G x))) ≤ 11 ∧ n_me (G (n_me (G x))) = n_me (G x)
theorem KD1.cg {G G' : Nat → Nod} {x : Nat} (h : KD1 G x) (h1 : ∀ i, n_kd (G' i) = n_kd (G i)) (h2 : ∀ i, n_me (G' i) = n_me (G i)) : KD1 G' x := by
  unfold KD1
  rw [h2 x, h1, h2]
  exact h
theorem KD1.low {G G' : Nat → Nod} {x k : Nat} (h : KD1 G x) (h1 : ∀ i, i < k → G' i = G i) (hx : x < k) (hm : n_me (G x) < k) : KD1 G' x := by
  unfold KD1
  rw [h1 x hx, h1 _ hm]
  exact h
theorem jon_kd {s c : Nat} {G : Nat → Nod} : (∀ i, n_kd (upG (upG G s (chN (G s) c)) c (paN (G c) s) i) = n_kd (G i)) ∧ (∀ i, n_me (upG (upG G s (chN (G s) c)) c (paN (G c) s) i) = n_me (G i)) := by
  have e : ∀ {β : Type} (g : Nod → β), (∀ x, g (chN x c) = g x) → (∀ x, g (paN x s) = g x) → ∀ i, g (upG (upG G s (chN (G s) c)) c (paN (G c) s) i) = g (G i) := fun g h1 h2 i => by
    by_cases q : i = c
    · rw [q, upG_s]; exact h2 _
    · rw [upG_n q]
      by_cases q2 : i = s
      · rw [q2, upG_s]; exact h1 _
      · rw [upG_n q2]
  exact ⟨e _ (fun _ => rfl) (fun _ => rfl), e _ (fun _ => rfl) (fun _ => rfl)⟩
theorem klN_kd {s kc : Nat} {G : Nat → Nod} : (∀ i, n_kd (upG G s (klN (G s) kc) i) = n_kd (G i)) ∧ (∀ i, n_me (upG G s (klN (G s) kc) i) = n_me (G i)) ∧ (∀ i, n_ch (upG G s (klN (G s) kc) i) = n_ch (G i)) ∧ (∀ i, n_pa (upG G s (klN (G s) kc) i) = n_pa (G i)) ∧ (∀ i, n_fn (upG G s (klN (G s) kc) i) = n_fn (G i)) := by
  have e : ∀ {β : Type} (g : Nod → β), (∀ x, g (klN x kc) = g x) → ∀ i, g (upG G s (klN (G s) kc) i) = g (G i) := fun g h1 i => by
    by_cases q : i = s
    · rw [q, upG_s]; exact h1 _
    · rw [upG_n q]
  exact ⟨e _ (fun _ => rfl), e _ (fun _ => rfl), e _ (fun _ => rfl), e _ (fun _ => rfl), e _ (fun _ => rfl)⟩
section CUNI
variable {T : Nat → Int32} {L : Nat} {Sd In Nx Am K F S I X Lt : Nat → Int32} {N : Nat → Int64} {l : Nat}
theorem c_uni_go {f : FL} {g : Nat → Bool → LSt → LRs} {d : Nat} (hf : okCl T L Sd In Nx Am K F N S I X Lt l f (d + 1) g) (hg : okSp T L Sd In Nx Am K F N S I X Lt l g) (lf lp : Int32) {s : Nat} : ∀ (ks : List (Nat × Nat)) (fuel i lo hi : Nat) (hc hr : Int32) (Pl Ki Me Fi Ne Na Fn Ac Fd Ed : Nat → Int32) (lc sc : Int32) (Cf Cs : Nat → Int32) (cc : Int32) (k sh kc : Nat) (pl : List Nat) (D : List Nat → Option Nat) (fi : List (Nat × Nat × Option Nat)) (G : Nat → Nod), ks.length < fuel → i + ks.length ≤ 16 → CI Pl Ki Me Fi Ne Na Fn Ac lc sc Cf Cs cc (k, sh, kc, pl, D, fi, G) → WFs (k, sh, kc, pl, D, fi, G) → s < k → n_me (G s) = s → n_kd (G s) = 11 → (n_ch (G s)).length = i → (∀ x, x ∈ n_ch (G s) → KD1 G x) → LCH T L Sd In Nx Am K F N S I X Lt l ks lo hi hc hr → hi ≤ 4096 → pl.length + (hi - lo) + 1 ≤ 4096 →
    CX lf lp (m_X4_lookAtUnion_68 f T Sd In Nx Am (nI L) fuel lf lp Pl Ki Me Fi Ne Na Fn Ac Fd Ed lc sc Cf Cs cc (nI s) (nI d) (nI (i + ks.length)) hc (if (n_ch (G s)).length = 0 then -1 else nI ((n_ch (G s)).getD ((n_ch (G s)).length - 1) 0)) (nI i)) 1 0 (lun g s ks i (k, sh, kc, pl, D, fi, G)) := by
  intro ks
  induction ks with
  | nil =>
    intro fuel i lo hi hc hr Pl Ki Me Fi Ne Na Fn Ac Fd Ed lc sc Cf Cs cc k sh kc pl D fi G hfu hi16 hI hw hs hm hk hch hkd hl hhi hbu
    obtain ⟨fu, rfl⟩ : ∃ z, fuel = z + 1 := ⟨fuel - 1, by omega⟩
    have i3 := hI.2.2.1
    obtain ⟨Pl', w1, w2⟩ := wbL (v := 93) (by decide) hI.2.2.2.2.1 (by omega)
    simp only [m_X4_lookAtUnion_68, lun, wrt]
    rw [if_pos (nI_le (by simp) (by omega)), i3, show (93 : Int32) = nI 93 from rfl, w1]
    exact ⟨_, _, _, _, _, _, _, _, _, _, _, _, _, _, _, rfl, hI.wr w2 (by rw [List.length_append, List.length_singleton]; omega)⟩
  | cons v t ih =>
    intro fuel i lo hi hc hr Pl Ki Me Fi Ne Na Fn Ac Fd Ed lc sc Cf Cs cc k sh kc pl D fi G hfu hi16 hI hw hs hm hk hch hkd hl hhi hbu
    obtain ⟨fu, rfl⟩ : ∃ z, fuel = z + 1 := ⟨fuel - 1, by omega⟩
    rw [List.length_cons] at hfu hi16
    obtain ⟨c, b, c1, c2, c3, c4, c5, c6⟩ := hl
    have hb := c4.base
    have i2 := hI.2.1
    have i3 := hI.2.2.1
    have hy : (if i = 0 then 91 else 44) ≤ 255 := by split <;> decide
    obtain ⟨Pl1, w1, w2⟩ := wbL (v := if i = 0 then 91 else 44) hy hI.2.2.2.2.1 (by omega)
    have hI1 := hI.wr w2 (by rw [List.length_append, List.length_singleton]; omega)
    have hw1 : WFs (k, sh, kc, pl ++ [if i = 0 then 91 else 44], D, fi, G) := hw
    have hf1 := hf lf lp Pl1 Ki Me Fi Ne Na Fn Ac Fd Ed _ sc Cf Cs cc v.2 true _ _ _ hI1 hw1 c4 (by
      show (pl ++ [if i = 0 then 91 else 44]).length + (b - v.2) ≤ 4096
      rw [List.length_append, List.length_singleton]; omega)
    have h91 : CX lf lp (m_X4_lookAtUnion_91 f T Sd In Nx Am (nI L) (m_X4_lookAtUnion_68 f T Sd In Nx Am (nI L) fu) lf lp Pl Ki Me Fi Ne Na Fn Ac Fd Ed lc sc Cf Cs cc (nI s) (nI d) (nI (i + (v :: t).length)) hc (if (n_ch (G s)).length = 0 then -1 else nI ((n_ch (G s)).getD ((n_ch (G s)).length - 1) 0)) (nI i) (nI (if i = 0 then 91 else 44))) 1 0 (lun g s (v :: t) i (k, sh, kc, pl, D, fi, G)) := by
      simp only [m_X4_lookAtUnion_91, lun, wrt, nI_1]
      rw [i3, w1, c2]
      simp only [Option.bind_some]
      simp only [if_true] at hf1
      cases hv : g v.2 true (k, sh, kc, pl ++ [if i = 0 then 91 else 44], D, fi, G) with
      | inl e =>
        rw [hv] at hf1
        obtain ⟨u, hu⟩ := hf1
        rw [hu]
        obtain ⟨u1, u2, u3, u4, u5, u6, u7, u8, u9, u10, u11, u12, u13, u14, u15⟩ := u
        simp only [Option.bind_some, if_true]
        exact ⟨_, rfl⟩
      | inr st1 =>
        rw [hv] at hf1
        obtain ⟨fp, fl⟩ := hg _ _ _ _ _ _ c4 hw1 hv
        obtain ⟨k1, sh1, kc1, pl1, D1, fi1, G1⟩ := st1
        obtain ⟨Pl2, Ki2, Me2, Fi2, Ne2, Na2, Fn2, Ac2, Fd2, Ed2, lc2, sc2, Cf2, Cs2, cc2, hu, hI2⟩ := hf1
        rw [hu]
        have fl : pl1.length ≤ (pl ++ [if i = 0 then 91 else 44]).length + (b - v.2) := fl
        rw [List.length_append, List.length_singleton] at fl
        obtain ⟨a1, a2, a3, a4, a5, a6, a7, a8, a9, a10, a11, a12, a13⟩ := fp
        have i22 := hI2.2.1
        have eGs : G1 s = G s := a5 s hs
        have hms : n_me (G1 s) = s := by rw [eGs]; exact hm
        have hks : n_kd (G1 s) = 11 := by rw [eGs]; exact hk
        have hkd1 : ∀ x, x ∈ n_ch (G1 s) → KD1 G1 x := fun x hx => by
          rw [eGs] at hx
          obtain ⟨z1, z2, z3⟩ := hI.lt hs hm (by omega) (by omega) hx
          exact (hkd x hx).low a5 z2 z3
        simp only [Option.bind_some, if_neg (nI_m1 (show k < 2 ^ 31 by omega)), hal_eq i22 hI2.2.2.2.2.2.2.1 (show s < k1 by omega) a1 hms hks hkd1 ⟨a12, a11.2⟩]
        by_cases q : hlk s k (k1, sh1, kc1, pl1, D1, fi1, G1) = true
        · have q' : (n_ch (G1 s)).any (fun b => alk G1 b k) = true := q
          rw [if_pos q, if_pos q']
          simp only [if_neg (show ¬ (1 : Int32) = 0 by decide), m_X4_refuse, Option.bind_some, true_or, if_true]
          exact ⟨_, rfl⟩
        · have q' : ¬ (n_ch (G1 s)).any (fun b => alk G1 b k) = true := q
          rw [if_neg q, if_neg q']
          simp only [if_true]
          have hlt : ∀ x, x ∈ n_ch (G1 s) → x < k := fun x hx => by
            rw [eGs] at hx
            exact (hI.lt hs hm (by omega) (by omega) hx).2.1
          rw [← eGs, joi_eq (show s < 128 by omega) (fun x hx => by have := hlt x hx; omega)]
          simp only [Option.bind_some, m_X7_next]
          rw [ent_eq (n := 4096) (by decide) (show v.2 < 4096 by omega)]
          simp only [Option.bind_some]
          have hIk := hI2.kid (s := s)
          obtain ⟨e1, e2, e3, e4, e5⟩ := klN_kd (s := s) (kc := kc1) (G := G1)
          have hlen : (n_ch (G1 s)).length = i := by rw [eGs]; exact hch
          have hIj := hIk.jon (s := s) (c := k) hs a1 ((e2 s).trans hms) (by rw [e1, hks]; decide) (by rw [e1, hks]; decide) ((e4 k).trans a10) (fun x hx => hlt x (by rw [e3] at hx; exact hx)) (by rw [e3]; omega) (fun z => by rw [e1, hks] at z; cases z)
          rw [e3] at hIj
          have q1 : FQ s (k, sh, kc, pl, D, fi, G) (k1, sh1, kc1, pl1, D1, fi1, G1) := by
            have := (FPs.q (br := true) (a := (k, sh, kc, pl ++ [if i = 0 then 91 else 44], D, fi, G)) (b := (k1, sh1, kc1, pl1, D1, fi1, G1)) ⟨a1, a2, a3, a4, a5, a6, a7, a8, a9, a10, a11, a12, a13⟩ hs)
            exact ((FQ.refl hw).wrt _).trans this
          have q2 := (q1.kid).jon (c := k) hs (Nat.le_refl _)
          have hw2 := q2.wf hw
          obtain ⟨j1, j2⟩ := jon_kd (s := s) (c := k) (G := upG G1 s (klN (G1 s) kc1))
          have ecs : n_ch (upG (upG (upG G1 s (klN (G1 s) kc1)) s (chN (upG G1 s (klN (G1 s) kc1) s) k)) k (paN (upG G1 s (klN (G1 s) kc1) k) s) s) = n_ch (G1 s) ++ [k] := by
            rw [upG_n (show s ≠ k by omega), upG_s]
            show n_ch (upG G1 s (klN (G1 s) kc1) s) ++ [k] = _
            rw [e3]
          have hlast : (if (n_ch (G1 s) ++ [k]).length = 0 then (-1 : Int32) else nI ((n_ch (G1 s) ++ [k]).getD ((n_ch (G1 s) ++ [k]).length - 1) 0)) = nI k := by
            rw [List.length_append, List.length_singleton, if_neg (by omega), Nat.add_sub_cancel, show (n_ch (G1 s) ++ [k]).getD (n_ch (G1 s)).length 0 = k from (congrFun snc_app.symm _).trans snc_s]
          have fin := ih fu (i + 1) _ hi (Nx v.2) (X c) Pl2 Ki2 Me2 _ _ Na2 Fn2 _ Fd2 Ed2 lc2 sc2 Cf2 Cs2 cc2 k1 sh1 (kc1 + 1) pl1 D1 fi1 _ (by omega) (by omega) hIj hw2 (by omega) ((j2 s).trans ((e2 s).trans hms)) ((j1 s).trans ((e1 s).trans hks)) (by rw [ecs, List.length_append, List.length_singleton]; omega) (fun x hx => by
            rw [ecs] at hx
            refine KD1.cg ?_ j1 j2
            refine KD1.cg ?_ e1 e2
            rcases List.mem_append.mp hx with z | z
            · exact hkd1 x z
            · rw [List.mem_singleton.mp z]
              exact ⟨a12, a11.2⟩) c6 hhi (by omega)
          rw [ecs, hlast] at fin
          rw [List.length_cons, show i + (t.length + 1) = i + 1 + t.length by omega]
          exact fin
    simp only [m_X4_lookAtUnion_68]
    rw [if_neg (nI_ge (show i < i + (v :: t).length by rw [List.length_cons]; omega) (by rw [List.length_cons]; omega))]
    by_cases e0 : i = 0
    · rw [if_pos (by rw [e0]; rfl)]
      rw [if_pos e0] at h91
      exact h91
    · rw [if_neg (show ¬ nI i = 0 from fun z => e0 ((nI_eq (b := 0) (by omega) (by decide)).mp z))]
      rw [if_neg e0] at h91
      exact h91
theorem c_uni (hL : L ≤ 4096) {f : FL} {g : Nat → Bool → LSt → LRs} {d : Nat} (hf : okCl T L Sd In Nx Am K F N S I X Lt l f (d + 1) g) (hg : okSp T L Sd In Nx Am K F N S I X Lt l g) (lf lp : Int32) {s n p q : Nat} {br : Bool} {Pl Ki Me Fi Ne Na Fn Ac Fd Ed : Nat → Int32} {lc sc : Int32} {Cf Cs : Nat → Int32} {cc : Int32} {k sh kc : Nat} {pl : List Nat} {D : List Nat → Option Nat} {fi : List (Nat × Nat × Option Nat)} {G : Nat → Nod} (hI : CI Pl Ki Me Fi Ne Na Fn Ac lc sc Cf Cs cc (k, sh, kc, pl, D, fi, G)) (hs : s + 1 = k) (hG : G s = mkN 12 s 0 0 [] []) (hD : ∀ w d, D w = some d → d < s) (hw : WFs (k, sh, kc, pl, D, fi, G)) (hv : VV T L Sd In Nx Am K F N S I X Lt l n p q) (hc : cb T L p = 91) (hb : pl.length + (q - p) ≤ 4096) :
    CX lf lp (m_X4_lookAtUnion f lf lp T Sd In Nx Am (nI L) Pl Ki Me Fi Ne Na Fn Ac Fd Ed lc sc Cf Cs cc (nI s) (nI p) (nI d) (if br = true then 1 else 0)) 1 0 (if br = true then .inl (4, p) else if 1 ≤ (prt T L p).length ∧ (prt T L p).length ≤ 16 then lun g s (prt T L p) 0 (k, sh + 1, kc, pl, D, fi, upG G s (mkN 11 s sh 0 [] [])) else .inl (5, p)) := by
  have hp := hv.base
  obtain ⟨a1, a2, a3, a4⟩ := hv.lst hc
  unfold m_X4_lookAtUnion
  by_cases e : br = true
  · rw [if_pos e, if_pos e, if_neg (show ¬ (1 : Int32) = 0 by decide)]
    simp only [m_X4_refuse, Option.bind_some, true_or, if_true]
    exact ⟨_, rfl⟩
  · rw [if_neg e, if_neg e, if_pos rfl]
    simp only [m_X7_amount, ent_eq (n := 4096) (by decide) (show p < 4096 by omega), Option.bind_some, a1, m_X4_lookAtUnion_35, m_X4_refuse, true_or, if_true, stk_eq (show s < 128 by have := hI.2.1; omega), m_X7_inner]
    by_cases c1 : 1 ≤ (prt T L p).length
    · rw [if_neg (show ¬ nI (prt T L p).length < 1 from Int32.not_lt.mpr (nI_le (a := 1) c1 (by omega)))]
      by_cases c2 : (prt T L p).length ≤ 16
      · rw [if_pos (show nI (prt T L p).length ≤ 16 from nI_le (b := 16) c2 (by decide)), if_pos ⟨c1, c2⟩]
        obtain ⟨i1, i2, i3, i4, i5, i6, i7, i8, i9⟩ := hI
        have hI1 : CI Pl (upd Ki s (nI 11)) Me Fi Ne Na Fn Ac lc sc Cf Cs cc (k, sh + 1, kc, pl, D, fi, upG G s (mkN 11 s sh 0 [] [])) := ⟨i1, i2, i3, i4, i5, i6, i7.set (by omega) hG, i8, i9⟩
        have hw1 : WFs (k, sh + 1, kc, pl, D, fi, upG G s (mkN 11 s sh 0 [] [])) := by
          refine ⟨fun w d hd => ?_, hw.2⟩
          have := hD w d hd
          rw [upG_n (by omega)]
          exact hw.1 w d hd
        have hgo := c_uni_go hf hg lf lp (s := s) (prt T L p) sr_fuel 0 _ _ _ _ Pl (upd Ki s (nI 11)) Me Fi Ne Na Fn Ac Fd Ed lc sc Cf Cs cc k (sh + 1) kc pl D fi _ (by unfold sr_fuel; omega) (by omega) hI1 hw1 (by omega) (by rw [upG_s]; rfl) (by rw [upG_s]; rfl) (by rw [upG_s]; rfl) (fun x hx => by rw [upG_s] at hx; exact absurd hx List.not_mem_nil) a4 (by omega) (by omega)
        rw [upG_s] at hgo
        rw [Nat.zero_add] at hgo
        exact hgo
      · rw [if_neg (show ¬ nI (prt T L p).length ≤ 16 from nI_ge (a := 16) (b := (prt T L p).length) (by omega) (by omega)), if_neg (fun z => c2 z.2)]
        exact ⟨_, rfl⟩
    · rw [if_pos (show nI (prt T L p).length < 1 from nI_lt (b := 1) (by omega) (by decide)), if_neg (fun z => c1 z.1)]
      exact ⟨_, rfl⟩
theorem c_itm (hL : L ≤ 4096) (hl : l ≤ 4200) {f : FL} {g : Nat → Bool → LSt → LRs} {d : Nat} (hf : okCl T L Sd In Nx Am K F N S I X Lt l f (d + 1) g) (hg : okSp T L Sd In Nx Am K F N S I X Lt l g) (lf lp : Int32) {s n p q k6 t0 : Nat} (hk6 : k6 = 6 ∨ k6 = 7) {Pl Ki Me Fi Ne Na Fn Ac Fd Ed : Nat → Int32} {lc sc : Int32} {Cf Cs : Nat → Int32} {cc : Int32} {k sh kc : Nat} {pl : List Nat} {D : List Nat → Option Nat} {fi : List (Nat × Nat × Option Nat)} {G : Nat → Nod} (hI : CI Pl Ki Me Fi Ne Na Fn Ac lc sc Cf Cs cc (k, sh, kc, pl, D, fi, G)) (hs : s + 1 = k) (hG : G s = mkN 12 s 0 0 [] []) (hD : ∀ w d, D w = some d → d < s) (hw : WFs (k, sh, kc, pl, D, fi, G)) (hv : VV T L Sd In Nx Am K F N S I X Lt l n p q) (hc : cb T L p = 123) (h0 : mbr T L p (litN 15) = some t0) (h1 : ts T L t0 = litN (3 + k6)) (h1' : cb T L t0 = 34) (hb : pl.length + (q - p) ≤ 4096) :
    CX lf lp (m_X4_lookAtItems f lf lp T Sd In Nx Am (nI L) Pl Ki Me Fi Ne Na Fn Ac Fd Ed lc sc Cf Cs cc (nI s) (nI p) (nI d) (nI k6) (if k6 = 6 then 16 else 19)) 1 0 (lit T L g s p k6 (k, sh, kc, pl, D, fi, G)) := by
  have hp := hv.base
  have h15 : (litN 15).length = 4 := by decide
  have h3k : (litN (3 + k6)).length = (if k6 = 6 then 5 else 3) := by rcases hk6 with e | e <;> (subst e; decide)
  have hwl : (litN (if k6 = 6 then 16 else 19)).length = (if k6 = 6 then 5 else 6) := by rcases hk6 with e | e <;> (subst e; decide)
  have htl : (litN (if k6 = 6 then 17 else 18)).length = (if k6 = 6 then 24 else 23) := by rcases hk6 with e | e <;> (subst e; decide)
  have hne : litN 15 ≠ litN (if k6 = 6 then 16 else 19) := by rcases hk6 with e | e <;> (subst e; decide)
  rcases mbc hL hl hv hc (w := 15) (by decide) with ⟨e, _⟩ | ⟨v0, kp0, c0, b0, e0, _, x1, x2, x3, x4, x5, x6⟩
  · rw [h0] at e; cases e
  rw [h0] at e0
  cases e0
  obtain ⟨s0, y1, y2, y3, y4, y5, y6⟩ := x1.str h1'
  rw [y2] at h1
  subst h1
  unfold m_X4_lookAtItems
  simp only [lit]
  rcases mbc hL hl hv hc (w := if k6 = 6 then 16 else 19) (by split <;> decide) with ⟨e, em⟩ | ⟨v, kp, c, b, e, em, z1, z2, z3, z4, z5, z6⟩
  · rw [e, em]
    simp only [Option.bind_some, if_true, m_X4_refuse, true_or]
    exact ⟨_, rfl⟩
  rw [e, em]
  have hap := mb2 hv hc x5 z5 x1 z1 (by rw [x6, z6]; exact hne)
  have hzb := z1.base
  have i2 := hI.2.1
  have i3 := hI.2.2.1
  simp only [Option.bind_some, if_neg (nI_m1 (show v < 2 ^ 31 by omega)), stk_eq (show s < 128 by omega)]
  have hbud : pl.length + (if k6 = 6 then 24 else 23) + (b - v) + 1 ≤ 4096 := by
    rcases hk6 with ek | ek
    · simp only [if_pos ek] at hwl h3k z3 ⊢
      omega
    · have e6 : ¬ k6 = 6 := by omega
      simp only [if_neg e6] at hwl h3k z3 ⊢
      omega
  have hy : (if k6 = 6 then 17 else 18) < 75 := by split <;> decide
  obtain ⟨Pl1, w1, w2⟩ := wrL (w := if k6 = 6 then 17 else 18) hy hI.2.2.2.2.1 (by rw [htl]; omega)
  have hln : (pl ++ litN (if k6 = 6 then 17 else 18)).length = pl.length + (if k6 = 6 then 24 else 23) := by rw [List.length_append, htl]
  have hI1 : CI Pl1 (upd Ki s (nI k6)) Me Fi Ne Na Fn Ac (nI (pl ++ litN (if k6 = 6 then 17 else 18)).length) sc Cf Cs cc (k, sh + 1, kc + 1, pl ++ litN (if k6 = 6 then 17 else 18), D, fi, upG G s (mkN k6 s sh 0 [] [kc])) := by
    obtain ⟨i1, i2, i3, i4, i5, i6, i7, i8, i9⟩ := hI
    exact ⟨i1, i2, rfl, by omega, w2, i6.wr _, (i7.set (by omega) hG).wr _, i8, i9⟩
  have hw1 : WFs (k, sh + 1, kc + 1, pl ++ litN (if k6 = 6 then 17 else 18), D, fi, upG G s (mkN k6 s sh 0 [] [kc])) := by
    refine ⟨fun w d hd => ?_, hw.2⟩
    have := hD w d hd
    rw [upG_n (by omega)]
    exact hw.1 w d hd
  have hf1 := hf lf lp Pl1 (upd Ki s (nI k6)) Me Fi Ne Na Fn Ac Fd Ed _ sc Cf Cs cc v false _ _ _ hI1 hw1 z1 (by
    show (pl ++ litN (if k6 = 6 then 17 else 18)).length + (b - v) ≤ 4096
    omega)
  simp only [if_neg (show ¬ false = true by decide)] at hf1
  have main : CX lf lp (m_X4_lookAtItems_54 f T Sd In Nx Am (nI L) lf lp Pl (upd Ki s (nI k6)) Me Fi Ne Na Fn Ac Fd Ed lc sc Cf Cs cc (nI s) (nI d) (nI v) (if k6 = 6 then 17 else 18)) 1 0 (match g v false (k, sh + 1, kc + 1, pl ++ litN (if k6 = 6 then 17 else 18), D, fi, upG G s (mkN k6 s sh 0 [] [kc])) with
      | .inl e => .inl e
      | .inr st' => .inr (wrt [125] (jon s k st'))) := by
    unfold m_X4_lookAtItems_54
    rw [i3, w1]
    simp only [Option.bind_some, nI_1]
    cases hr : g v false (k, sh + 1, kc + 1, pl ++ litN (if k6 = 6 then 17 else 18), D, fi, upG G s (mkN k6 s sh 0 [] [kc])) with
    | inl e =>
      rw [hr] at hf1
      obtain ⟨u, hu⟩ := hf1
      rw [hu]
      obtain ⟨u1, u2, u3, u4, u5, u6, u7, u8, u9, u10, u11, u12, u13, u14, u15⟩ := u
      simp only [Option.bind_some, if_true]
      exact ⟨_, rfl⟩
    | inr st1 =>
      rw [hr] at hf1
      obtain ⟨fp, fl⟩ := hg _ _ _ _ _ _ z1 hw1 hr
      obtain ⟨k1, sh1, kc1, pl1, D1, fi1, G1⟩ := st1
      obtain ⟨Pl2, Ki2, Me2, Fi2, Ne2, Na2, Fn2, Ac2, Fd2, Ed2, lc2, sc2, Cf2, Cs2, cc2, hu, hI2⟩ := hf1
      rw [hu]
      have fl : pl1.length ≤ (pl ++ litN (if k6 = 6 then 17 else 18)).length + (b - v) := fl
      obtain ⟨a1, a2, a3, a4, a5, a6, a7, a8, a9, a10, a11, a12, a13⟩ := fp
      have eGs : G1 s = mkN k6 s sh 0 [] [kc] := by rw [a5 s (by omega), upG_s]
      have i22 := hI2.2.1
      have i23 := hI2.2.2.1
      simp only [Option.bind_some, if_neg (nI_m1 (show k < 2 ^ 31 by omega))]
      have hjo := joi_eq (Fi := Fi2) (Ne := Ne2) (Ac := Ac2) (s := s) (c := k) (ch := n_ch (G1 s)) (by omega) (fun x hx => by rw [eGs] at hx; exact absurd hx List.not_mem_nil)
      have hc0 : (n_ch (G1 s)).length = 0 := by rw [eGs]; rfl
      have hIj := hI2.jon (s := s) (c := k) (by omega) a1 (by rw [eGs]; rfl) (by rw [eGs]; show k6 ≠ 8; omega) (by rw [eGs]; show k6 ≠ 9; omega) a10 (fun x hx => by rw [eGs] at hx; exact absurd hx List.not_mem_nil) (by omega) (fun z => by rw [eGs] at z; have z : k6 = 10 := z; omega)
      rw [if_pos hc0] at hjo
      rw [hjo]
      simp only [Option.bind_some]
      obtain ⟨Pl3, w3, w4⟩ := wbL (v := 125) (by decide) hI2.2.2.2.2.1 (by omega)
      rw [i23, show (125 : Int32) = nI 125 from rfl, w3]
      simp only [Option.bind_some]
      exact ⟨_, _, _, _, _, _, _, _, _, _, _, _, _, _, _, rfl, hIj.wr w4 (by rw [List.length_append, List.length_singleton]; omega)⟩
  by_cases ek : k6 = 6
  · rw [if_pos (show nI k6 = 6 by rw [ek]; rfl)]
    rw [if_pos ek] at main
    simp only [if_pos ek]
    exact main
  · rw [if_neg (show ¬ nI k6 = 6 from fun z => ek ((nI_eq (b := 6) (by omega) (by decide)).mp z))]
    rw [if_neg ek] at main
    simp only [if_neg ek]
    exact main
end CUNI
