-- defaults: the telling, and the class's
section FITS
variable (T : Nat → Int32) (L : Nat) (G : Nat → Nod)
def fst1 (m : Nat) : Nat := (n_ch (G m)).getD 0 0
noncomputable def okd (m p : Nat) : Prop :=
  if n_kd (G m) = 0 then cb T L p = 110 else if n_kd (G m) = 1 then cb T L p = 116 ∨ cb T L p = 102 else if n_kd (G m) = 2 then (cb T L p = 45 ∨ (48 ≤ cb T L p ∧ cb T L p ≤ 57)) ∧ lg_cmp (snv T L p) (snv T L p).toInt32.toInt64 = 0 else if n_kd (G m) = 3 then (cb T L p = 45 ∨ (48 ≤ cb T L p ∧ cb T L p ≤ 57)) else if n_kd (G m) = 4 then cb T L p = 34 else if n_kd (G m) = 5 then cb T L p = 34 else if n_kd (G m) = 6 then cb T L p = 91 else if n_kd (G m) = 7 then cb T L p = 123 else if n_kd (G m) = 8 then cb T L p = 34 ∧ (ts T L p).length = n_wd (G m) else if n_kd (G m) = 9 then cb T L p = 34 ∧ ts T L p ∈ n_sy (G m) else if n_kd (G m) = 10 then cb T L p = 123 else False
def ftl (f : Nat → Option Nat) : List (Nat × Nat) → Option Nat
  | [] => none
  | v :: t => match f v.2 with
    | some q => some q
    | none => ftl f t
noncomputable def ftr (f : Nat → Nat → Option Nat) (p : Nat) : List Nat → Option Nat
  | [] => none
  | c :: t => match mbr T L p (n_fn (G c)) with
    | none => some p
    | some v => match f c v with
      | some q => some q
      | none => ftr f p t
noncomputable def ftb (f : Nat → Nat → Option Nat) (m p : Nat) : Option Nat := if dec (okd T L G m p) = true then (if n_kd (G m) = 6 ∨ n_kd (G m) = 7 then ftl (f (fst1 G m)) (prt T L p) else if n_kd (G m) = 10 then ftr T L G f p (n_ch (G m)) else none) else some p
noncomputable def fto : Nat → Nat → Nat → Option Nat
  | 0, _, p => some p
  | k + 1, s, p => ftb T L G (fto k) (n_me (G (if n_kd (G (n_me (G s))) = 11 then fst1 G (n_me (G s)) else s))) p
end FITS
def oI : Option Nat → Int32
  | none => -1
  | some q => nI q
theorem sIf {P Q : Prop} {i : Decidable P} [j : Decidable Q] (h : P ↔ Q) : (@ite _ P i (some 1) (some 0) : Option Int32) = some (@ite Int32 Q j 1 0) := by
  by_cases q : P
  · rw [if_pos q, if_pos (h.mp q)]
  · rw [if_neg q, if_neg (fun z => q (h.mpr z))]
section CFIT
variable {T : Nat → Int32} {L : Nat} {Sd In Nx Am K F S I X Lt : Nat → Int32} {N : Nat → Int64} {l : Nat} {Pl Ki Me Fi Ne Fn Ac : Nat → Int32} {pl : List Nat} {k0 : Nat} {G : Nat → Nod}
theorem VV.oc {n p q : Nat} (h : VV T L Sd In Nx Am K F N S I X Lt l n p q) (hc : cb T L p = 123) : Am p = nI (prt T L p).length ∧ p + (prt T L p).length < q ∧ OCH T L Sd In Nx Am K F N S I X Lt l (prt T L p) (p + 1) q (In p) (I n) := by
  obtain ⟨ks, g0, g1, g2, g3⟩ := h.obj hc
  rw [prt_eq g0]
  exact ⟨g1, g2, g3⟩
theorem mbf_go (hP : PLI Pl pl) (hpl : pl.length ≤ 4096) {p a tot : Nat} {w : List Nat} (hp : p < 4096) (hA : Am p = nI tot) (ht : tot ≤ 4096) (hw : PNL pl a w) : ∀ (ks : List (Nat × Nat)) (fuel i lo hi : Nat) (hc hr : Int32), i + ks.length = tot → ks.length < fuel → OCH T L Sd In Nx Am K F N S I X Lt l ks lo hi hc hr → m_X0_memberFor_12 Sd In Nx Am Pl (nI pl.length) fuel (nI a) (nI p) hc (nI i) = some (tfc (tfind T L w ks)) := by
  intro ks
  induction ks with
  | nil =>
    intro fuel i lo hi hc hr hi2 hf h
    obtain ⟨f, rfl⟩ : ∃ f, fuel = f + 1 := ⟨fuel - 1, by omega⟩
    simp only [m_X0_memberFor_12, m_X7_amount, ent_eq (n := 4096) (by decide) hp, Option.bind_some, hA]
    rw [if_pos (nI_le (by simp at hi2; omega) (by omega))]
    rfl
  | cons k t ih =>
    intro fuel i lo hi hc hr hi2 hf h
    obtain ⟨f, rfl⟩ : ∃ f, fuel = f + 1 := ⟨fuel - 1, by omega⟩
    simp only [List.length_cons] at hi2 hf
    obtain ⟨c, b, s, h1, h2, h3, ⟨k1, k2, k3, k4, k5, k6, k7, k8, k9, k10⟩, h5, h6, h7⟩ := h
    have hk1 : k.1 < 4096 := k5.1
    simp only [m_X0_memberFor_12, m_X7_amount, ent_eq (n := 4096) (by decide) hp, Option.bind_some, hA]
    rw [if_neg (nI_ge (show i < tot by omega) (by omega)), h2, isd_eq (hw.pn hP hpl) k5]
    simp only [Option.bind_some, tfind, m_X7_next, m_X7_inner, ent_eq (n := 4096) (by decide) hk1, k4]
    by_cases e : w = s
    · rw [if_pos e, if_pos (show s = w from e.symm), I10, k1]
      rfl
    · rw [if_neg e, if_neg (show ¬ s = w from fun z => e z.symm), I00, nI_1]
      exact ih f (i + 1) _ _ _ _ (by omega) (by omega) h7
theorem mbf_eq (hL : L ≤ 4096) (hP : PLI Pl pl) (hpl : pl.length ≤ 4096) {n p q a : Nat} {w : List Nat} (hv : VV T L Sd In Nx Am K F N S I X Lt l n p q) (hc : cb T L p = 123) (hw : PNL pl a w) : m_X0_memberFor Sd In Nx Am Pl (nI pl.length) (nI a) (nI p) = some (oI (mbr T L p w)) := by
  have hb := hv.base
  obtain ⟨g1, g2, g3⟩ := hv.oc hc
  have := mbf_go hP hpl (p := p) (a := a) (tot := (prt T L p).length) (by omega) g1 (by omega) hw (prt T L p) sr_fuel 0 _ _ _ _ (by omega) (by unfold sr_fuel; omega) g3
  rw [nI_0] at this
  unfold m_X0_memberFor mbr
  simp only [m_X7_inner, ent_eq (n := 4096) (by decide) (show p < 4096 by omega), Option.bind_some]
  rw [this]
  cases tfind T L w (prt T L p) <;> rfl
/-- a member's value -/
theorem OCH.vv : ∀ (ks : List (Nat × Nat)) (lo hi : Nat) (hc hr : Int32) (w : List Nat) (k : Nat × Nat), OCH T L Sd In Nx Am K F N S I X Lt l ks lo hi hc hr → tfind T L w ks = some k → ∃ c b, VV T L Sd In Nx Am K F N S I X Lt l c k.2 b := by
  intro ks
  induction ks with
  | nil => intro lo hi hc hr w k _ h; cases h
  | cons k0 t ih =>
    intro lo hi hc hr w k h ht
    obtain ⟨c, b, s, h1, h2, h3, h4, h5, h6, h7⟩ := h
    simp only [tfind] at ht
    by_cases e : ts T L k0.1 = w
    · rw [if_pos e] at ht
      cases ht
      exact ⟨_, _, h5⟩
    · rw [if_neg e] at ht
      exact ih _ _ _ _ w k h7 ht
theorem mbr_vv {n p q v : Nat} {w : List Nat} (hv : VV T L Sd In Nx Am K F N S I X Lt l n p q) (hc : cb T L p = 123) (h : mbr T L p w = some v) : ∃ c b, VV T L Sd In Nx Am K F N S I X Lt l c v b := by
  obtain ⟨g1, g2, g3⟩ := hv.oc hc
  unfold mbr at h
  cases ht : tfind T L w (prt T L p) with
  | none => rw [ht] at h; cases h
  | some k =>
    rw [ht] at h
    cases h
    exact g3.vv _ _ _ _ _ w k ht
theorem c_fit (hL : L ≤ 4096) (hP : PLI Pl pl) (hpl : pl.length ≤ 4096) (h0 : k0 ≤ 128) (hC : LCs Ki Me Fi Ne Fn Ac pl k0 G) (hO : ∀ i, i < k0 → OKS G k0 i) : ∀ (k M d : Nat), k + d = 25 → k < M → ∀ (s p n q : Nat), s < k0 → VV T L Sd In Nx Am K F N S I X Lt l n p q → m_X0_misfit M T Sd In Nx Am (nI L) Pl Ki Me Fi Ne Fn Ac (nI pl.length) (nI s) (nI p) (nI d) = some (oI (fto T L G k s p)) ∧ ∀ z, fto T L G k s p = some z → z < 4096 := by
  have kof : ∀ x, x < k0 → m_X6_kind Ki Me (nI x) = some (nI (n_kd (G (n_me (G x))))) ∧ n_me (G x) < k0 ∧ Me x = nI (n_me (G x)) := fun x hx => by
    obtain ⟨o1, o2, o3, o4, o5⟩ := hO x hx
    obtain ⟨x1, x2, x3, x4⟩ := hC x hx
    obtain ⟨z1, z2, z3, z4⟩ := hC _ o3
    exact ⟨by rw [knd_eq (by omega) (by omega) x1, (z4 o1).1 o2], o3, x1⟩
  have chn : ∀ m, m < k0 → n_me (G m) = m → n_kd (G m) ≠ 8 → n_kd (G m) ≠ 9 → ∀ c, c ∈ n_ch (G m) → c < k0 := fun m hm he h8 h9 c hc => by
    obtain ⟨z1, z2, z3, z4⟩ := hC m hm
    obtain ⟨u1, _⟩ := (z4 he).2.1 h8 h9
    obtain ⟨j, hj, e⟩ := mem_ch hc
    rw [← e]
    exact (u1.1 j hj).1
  have fstc : ∀ x, x < k0 → (n_kd (G (n_me (G x))) = 6 ∨ n_kd (G (n_me (G x))) = 7 ∨ n_kd (G (n_me (G x))) = 11) → m_X6_first Me Fi (nI x) = some (nI (fst1 G (n_me (G x)))) ∧ fst1 G (n_me (G x)) < k0 ∧ fst1 G (n_me (G x)) ∈ n_ch (G (n_me (G x))) := fun x hx hk => by
    obtain ⟨o1, o2, o3, o4, o5⟩ := hO x hx
    obtain ⟨_, _, x1⟩ := kof x hx
    obtain ⟨z1, z2, z3, z4⟩ := hC _ o3
    obtain ⟨p1, p2, p3, p4, p5⟩ := hO _ o3
    obtain ⟨u1, u2, u3, u4⟩ := (z4 o1).2.1 (by omega) (by omega)
    have hlen : 0 < (n_ch (G (n_me (G x)))).length := by
      rcases hk with z | z | z
      · have := (p5 o1).1 (Or.inl z); omega
      · have := (p5 o1).1 (Or.inr z); omega
      · exact ((p5 o1).2.1 z).1
    have hmem : fst1 G (n_me (G x)) ∈ n_ch (G (n_me (G x))) := ch_mem hlen
    refine ⟨?_, chn _ o3 o1 (by omega) (by omega) _ hmem, hmem⟩
    simp only [m_X6_first, ent_eq (n := 128) (by decide) (show x < 128 by omega), x1, ent_eq (n := 128) (by decide) (show n_me (G x) < 128 by omega), Option.bind_some]
    rw [u1.2.2, if_neg (by omega)]
    rfl
  intro k
  induction k with
  | zero =>
    intro M d hd hM s p n q hs hv
    obtain ⟨M, rfl⟩ : ∃ z, M = z + 1 := ⟨M - 1, by omega⟩
    have hb := hv.base
    have ed : d = 25 := by omega
    subst ed
    obtain ⟨k1, k2, k3⟩ := kof s hs
    have o2 := (hO s hs).2.1
    simp only [m_X0_misfit, k1, Option.bind_some, fto, m_X0_misfit_25, if_pos (show (24 : Int32) < nI 25 by decide)]
    by_cases q11 : n_kd (G (n_me (G s))) = 11
    · rw [if_pos (show nI (n_kd (G (n_me (G s)))) = 11 by rw [q11]; rfl), (fstc s hs (Or.inr (Or.inr q11))).1]
      exact ⟨rfl, fun z hz => by cases hz; omega⟩
    · rw [if_neg (show ¬ nI (n_kd (G (n_me (G s)))) = 11 from fun z => q11 ((nI_eq (b := 11) (by omega) (by decide)).mp z))]
      exact ⟨rfl, fun z hz => by cases hz; omega⟩
  | succ k ih =>
    intro M d hd hM s p n q hs hv
    obtain ⟨M, rfl⟩ : ∃ z, M = z + 1 := ⟨M - 1, by omega⟩
    have hb := hv.base
    have ih2 := ih M (d + 1) (by omega) (by omega)
    have body : ∀ c, c < k0 → m_X0_misfit_25 (m_X0_misfit M) T Sd In Nx Am (nI L) Pl Ki Me Fi Ne Fn Ac (nI pl.length) (nI p) (nI d) (nI c) = some (oI (ftb T L G (fto T L G k) (n_me (G c)) p)) ∧ ∀ z, ftb T L G (fto T L G k) (n_me (G c)) p = some z → z < 4096 := by
      intro c hc
      obtain ⟨k1, k2, k3⟩ := kof c hc
      obtain ⟨o1, o2, o3, o4, o5⟩ := hO c hc
      obtain ⟨z1, z2, z3, z4⟩ := hC _ o3
      obtain ⟨t1, t2, t3, t4⟩ := z4 o1
      unfold m_X0_misfit_25 ftb
      rw [if_neg (show ¬ (24 : Int32) < nI d from Int32.not_lt.mpr (nI_le (b := 24) (by omega) (by decide)))]
      generalize hm : n_me (G c) = m at *
      have nk : ∀ j, j < 100 → ((nI (n_kd (G m)) = nI j) = (n_kd (G m) = j)) := fun j hj => propext (nI_eq (by omega) (by omega))
      have ubb : ∀ j, j < 256 → ((ubI (cb T L p) = nI j) = (cb T L p = j)) := fun j hj => propext (ub_e (cb_le T L p) hj)
      have hok : m_X0_isOfKind T Sd Am (nI L) Pl Ki Me Fi Ac (nI pl.length) (nI c) (nI p) = some (if dec (okd T L G m p) = true then 1 else 0) := by
        unfold m_X0_isOfKind
        rw [k1]
        simp only [Option.bind_some]
        have fin : ∀ (P : Prop) (i : Decidable P), okd T L G m p = P → some (@ite Int32 P i 1 0) = some (if dec (okd T L G m p) = true then 1 else 0) := by
          intro P i e
          by_cases q : P
          · rw [if_pos q, dec_t (by rw [e]; exact q), bT]
          · rw [if_neg q, dec_f (by rw [e]; exact q), bF]
        have b01 : ∀ (P : Prop) (i : Decidable P), ((if (@ite Int32 P i 1 0) = 0 ∨ (@ite Int32 P i 1 0) = 1 then some (@ite Int32 P i 1 0) else none) : Option Int32) = some (@ite Int32 P i 1 0) := by
          intro P i
          by_cases q : P
          · simp only [if_pos q]; rfl
          · simp only [if_neg q]; rfl
        by_cases q0 : n_kd (G m) = 0
        · rw [if_pos (show nI (n_kd (G m)) = 0 by rw [q0]; rfl), byt_eq hL (by omega)]
          simp only [Option.bind_some]
          rw [sIf (P := ubI (cb T L p) = 110) (Q := cb T L p = 110) (ub_e (cb_le T L p) (c := 110) (by decide))]
          exact fin _ _ (by unfold okd; rw [if_pos q0])
        rw [if_neg (show ¬ nI (n_kd (G m)) = 0 from fun z => q0 ((nk 0 (by decide)).mp z))]
        by_cases q1 : n_kd (G m) = 1
        · rw [if_pos (show nI (n_kd (G m)) = 1 by rw [q1]; rfl), byt_eq hL (by omega)]
          simp only [Option.bind_some]
          have e1 : (if ubI (cb T L p) = 116 then some (1 : Int32) else if ubI (cb T L p) = 102 then some 1 else some 0) = some (if cb T L p = 116 ∨ cb T L p = 102 then 1 else 0) := by
            have a1 : ubI (cb T L p) = 116 ↔ cb T L p = 116 := ub_e (cb_le T L p) (c := 116) (by decide)
            have a2 : ubI (cb T L p) = 102 ↔ cb T L p = 102 := ub_e (cb_le T L p) (c := 102) (by decide)
            by_cases a : cb T L p = 116
            · rw [if_pos (a1.mpr a), if_pos (Or.inl a)]
            · rw [if_neg (fun z => a (a1.mp z))]
              by_cases b : cb T L p = 102
              · rw [if_pos (a2.mpr b), if_pos (Or.inr b)]
              · rw [if_neg (fun z => b (a2.mp z)), if_neg (fun z => z.elim a b)]
          rw [e1]
          exact fin _ _ (by unfold okd; rw [if_neg q0, if_pos q1])
        rw [if_neg (show ¬ nI (n_kd (G m)) = 1 from fun z => q1 ((nk 1 (by decide)).mp z))]
        by_cases q2 : n_kd (G m) = 2
        · rw [if_pos (show nI (n_kd (G m)) = 2 by rw [q2]; rfl), isn_eq hL (by omega)]
          simp only [Option.bind_some]
          by_cases cn : cb T L p = 45 ∨ (48 ≤ cb T L p ∧ cb T L p ≤ 57)
          · rw [if_pos cn, I10, hv.nmc hL cn]
            simp only [Option.bind_some]
            rw [sIf (Q := lg_cmp (snv T L p) (snv T L p).toInt32.toInt64 = 0) Iff.rfl]
            exact fin _ _ (by unfold okd; rw [if_neg q0, if_neg q1, if_pos q2]; exact propext ⟨fun z => z.2, fun z => ⟨cn, z⟩⟩)
          · rw [if_neg cn, I00, dec_f (fun z => by unfold okd at z; rw [if_neg q0, if_neg q1, if_pos q2] at z; exact cn z.1), bF]
        rw [if_neg (show ¬ nI (n_kd (G m)) = 2 from fun z => q2 ((nk 2 (by decide)).mp z))]
        by_cases q3 : n_kd (G m) = 3
        · rw [if_pos (show nI (n_kd (G m)) = 3 by rw [q3]; rfl), isn_eq hL (by omega)]
          simp only [Option.bind_some, b01]
          exact fin _ _ (by unfold okd; rw [if_neg q0, if_neg q1, if_neg q2, if_pos q3])
        rw [if_neg (show ¬ nI (n_kd (G m)) = 3 from fun z => q3 ((nk 3 (by decide)).mp z))]
        by_cases q4 : n_kd (G m) = 4
        · rw [if_pos (show nI (n_kd (G m)) = 4 by rw [q4]; rfl), iss_eq hL (by omega)]
          simp only [Option.bind_some, b01]
          exact fin _ _ (by unfold okd; rw [if_neg q0, if_neg q1, if_neg q2, if_neg q3, if_pos q4])
        rw [if_neg (show ¬ nI (n_kd (G m)) = 4 from fun z => q4 ((nk 4 (by decide)).mp z))]
        by_cases q5 : n_kd (G m) = 5
        · rw [if_pos (show nI (n_kd (G m)) = 5 by rw [q5]; rfl), iss_eq hL (by omega)]
          simp only [Option.bind_some, b01]
          exact fin _ _ (by unfold okd; rw [if_neg q0, if_neg q1, if_neg q2, if_neg q3, if_neg q4, if_pos q5])
        rw [if_neg (show ¬ nI (n_kd (G m)) = 5 from fun z => q5 ((nk 5 (by decide)).mp z))]
        by_cases q6 : n_kd (G m) = 6
        · rw [if_pos (show nI (n_kd (G m)) = 6 by rw [q6]; rfl), isl_eq hL (by omega)]
          simp only [Option.bind_some, b01]
          exact fin _ _ (by unfold okd; rw [if_neg q0, if_neg q1, if_neg q2, if_neg q3, if_neg q4, if_neg q5, if_pos q6])
        rw [if_neg (show ¬ nI (n_kd (G m)) = 6 from fun z => q6 ((nk 6 (by decide)).mp z))]
        by_cases q7 : n_kd (G m) = 7
        · rw [if_pos (show nI (n_kd (G m)) = 7 by rw [q7]; rfl), iso_eq hL (by omega)]
          simp only [Option.bind_some, b01]
          exact fin _ _ (by unfold okd; rw [if_neg q0, if_neg q1, if_neg q2, if_neg q3, if_neg q4, if_neg q5, if_neg q6, if_pos q7])
        rw [if_neg (show ¬ nI (n_kd (G m)) = 7 from fun z => q7 ((nk 7 (by decide)).mp z))]
        by_cases q8 : n_kd (G m) = 8
        · rw [if_pos (show nI (n_kd (G m)) = 8 by rw [q8]; rfl), iss_eq hL (by omega)]
          simp only [Option.bind_some]
          by_cases c34 : cb T L p = 34
          · obtain ⟨s0, y1, y2, y3, y4, y5, y6⟩ := hv.str c34
            rw [if_pos c34, I10]
            simp only [m_X7_amount, ent_eq (n := 4096) (by decide) (show p < 4096 by omega), y3.2.2.1, Option.bind_some, m_X6_amount, ent_eq (n := 128) (by decide) (show c < 128 by omega), k3, ent_eq (n := 128) (by decide) (show m < 128 by omega), (t3 q8).1]
            have hwd : n_wd (G m) < 2 ^ 31 := by
              have := (t3 q8).2
              omega
            rw [sIf (Q := s0.length = n_wd (G m)) (nI_eq (by omega) hwd)]
            exact fin _ _ (by unfold okd; rw [if_neg q0, if_neg q1, if_neg q2, if_neg q3, if_neg q4, if_neg q5, if_neg q6, if_neg q7, if_pos q8, y2]; exact propext ⟨fun z => z.2, fun z => ⟨c34, z⟩⟩)
          · rw [if_neg c34, I00, dec_f (fun z => by unfold okd at z; rw [if_neg q0, if_neg q1, if_neg q2, if_neg q3, if_neg q4, if_neg q5, if_neg q6, if_neg q7, if_pos q8] at z; exact c34 z.1), bF]
        rw [if_neg (show ¬ nI (n_kd (G m)) = 8 from fun z => q8 ((nk 8 (by decide)).mp z))]
        by_cases q9 : n_kd (G m) = 9
        · rw [if_pos (show nI (n_kd (G m)) = 9 by rw [q9]; rfl), iss_eq hL (by omega)]
          simp only [Option.bind_some]
          by_cases c34 : cb T L p = 34
          · obtain ⟨s0, y1, y2, y3, y4, y5, y6⟩ := hv.str c34
            obtain ⟨u1, u2, x, u3, u4⟩ := t4 q9
            rw [if_pos c34, I10]
            rcases hsy_eq (Pl := Pl) (lc := pl.length) (show c < 128 by omega) (show m < 128 by omega) k3 u1 (by omega) u3 (show SYM Pl pl.length (n_sy (G m)).length x (fun j => (n_sy (G m)).getD j []) from ⟨fun i hi => (u4.1 i hi).pn hP hpl, u4.2⟩) y3 with ⟨a, b⟩ | ⟨a, b⟩
            · rw [b]
              simp only [Option.bind_some]
              rw [I10, dec_t (by unfold okd; rw [if_neg q0, if_neg q1, if_neg q2, if_neg q3, if_neg q4, if_neg q5, if_neg q6, if_neg q7, if_neg q8, if_pos q9, y2]; exact ⟨c34, sy_mem.mp a⟩), bT]
            · rw [b]
              simp only [Option.bind_some]
              rw [if_pos trivial, dec_f (fun z => by unfold okd at z; rw [if_neg q0, if_neg q1, if_neg q2, if_neg q3, if_neg q4, if_neg q5, if_neg q6, if_neg q7, if_neg q8, if_pos q9, y2] at z; exact a (sy_mem.mpr z.2)), bF]
          · rw [if_neg c34, I00, dec_f (fun z => by unfold okd at z; rw [if_neg q0, if_neg q1, if_neg q2, if_neg q3, if_neg q4, if_neg q5, if_neg q6, if_neg q7, if_neg q8, if_pos q9] at z; exact c34 z.1), bF]
        rw [if_neg (show ¬ nI (n_kd (G m)) = 9 from fun z => q9 ((nk 9 (by decide)).mp z))]
        by_cases q10 : n_kd (G m) = 10
        · rw [if_pos (show nI (n_kd (G m)) = 10 by rw [q10]; rfl), iso_eq hL (by omega)]
          simp only [Option.bind_some, b01]
          exact fin _ _ (by unfold okd; rw [if_neg q0, if_neg q1, if_neg q2, if_neg q3, if_neg q4, if_neg q5, if_neg q6, if_neg q7, if_neg q8, if_neg q9, if_pos q10])
        · rw [if_neg (show ¬ nI (n_kd (G m)) = 10 from fun z => q10 ((nk 10 (by decide)).mp z)), dec_f (fun z => by unfold okd at z; rw [if_neg q0, if_neg q1, if_neg q2, if_neg q3, if_neg q4, if_neg q5, if_neg q6, if_neg q7, if_neg q8, if_neg q9, if_neg q10] at z; exact z), bF]
      rw [hok]
      simp only [Option.bind_some]
      by_cases hd1 : okd T L G m p
      rotate_left
      · rw [dec_f hd1, bF, I00, bF]
        exact ⟨rfl, fun z hz => by cases hz; omega⟩
      rw [dec_t hd1, bT, I10, bT, k1]
      simp only [Option.bind_some]
      have lst : ∀ (a : Nat), a < k0 → ∀ (ks : List (Nat × Nat)) (fuel i lo hi tot : Nat) (hcp hr : Int32), Am p = nI tot → tot ≤ 4096 → i + ks.length = tot → ks.length < fuel → LCH T L Sd In Nx Am K F N S I X Lt l ks lo hi hcp hr → m_X0_misfitInList_13 (m_X0_misfit M) T Sd In Nx Am (nI L) Pl Ki Me Fi Ne Fn Ac (nI pl.length) fuel (nI a) (nI p) (nI d) hcp (nI i) = some (oI (ftl (fto T L G k a) ks)) ∧ ∀ z, ftl (fto T L G k a) ks = some z → z < 4096 := by
        intro a ha ks
        induction ks with
        | nil =>
          intro fuel i lo hi tot hcp hr hA ht hi2 hfu h
          obtain ⟨fu, rfl⟩ : ∃ z, fuel = z + 1 := ⟨fuel - 1, by omega⟩
          simp only [m_X0_misfitInList_13, m_X7_amount, ent_eq (n := 4096) (by decide) (show p < 4096 by omega), hA, Option.bind_some]
          rw [if_pos (nI_le (by simp at hi2; omega) (by omega))]
          exact ⟨rfl, fun z hz => by cases hz⟩
        | cons v t ihk =>
          intro fuel i lo hi tot hcp hr hA ht hi2 hfu h
          obtain ⟨fu, rfl⟩ : ∃ z, fuel = z + 1 := ⟨fuel - 1, by omega⟩
          simp only [List.length_cons] at hi2 hfu
          obtain ⟨c', b', c1, c2, c3, c4, c5, c6⟩ := h
          have hcb := c4.base
          simp only [m_X0_misfitInList_13, m_X7_amount, ent_eq (n := 4096) (by decide) (show p < 4096 by omega), hA, Option.bind_some, nI_1]
          rw [if_neg (nI_ge (show i < tot by omega) (by omega)), c2, (ih2 a v.2 _ _ ha c4).1]
          simp only [Option.bind_some, ftl]
          cases hft : fto T L G k a v.2 with
          | none =>
            simp only [oI, if_true, m_X7_next, ent_eq (n := 4096) (by decide) (show v.2 < 4096 by omega), Option.bind_some]
            exact ihk fu (i + 1) _ _ tot _ _ hA ht (by omega) (by omega) c6
          | some z =>
            have hz := (ih2 a v.2 _ _ ha c4).2 z hft
            dsimp only
            rw [show oI (some z) = nI z from rfl, if_neg (nI_m1 (show z < 2 ^ 31 by omega))]
            exact ⟨rfl, fun z' hz' => by cases hz'; exact hz⟩
      have mpp : ∀ (a : Nat), a < k0 → ∀ (ks : List (Nat × Nat)) (fuel i lo hi tot : Nat) (hcp hr : Int32), Am p = nI tot → tot ≤ 4096 → i + ks.length = tot → ks.length < fuel → OCH T L Sd In Nx Am K F N S I X Lt l ks lo hi hcp hr → m_X0_misfitInMap_13 (m_X0_misfit M) T Sd In Nx Am (nI L) Pl Ki Me Fi Ne Fn Ac (nI pl.length) fuel (nI a) (nI p) (nI d) hcp (nI i) = some (oI (ftl (fto T L G k a) ks)) ∧ ∀ z, ftl (fto T L G k a) ks = some z → z < 4096 := by
        intro a ha ks
        induction ks with
        | nil =>
          intro fuel i lo hi tot hcp hr hA ht hi2 hfu h
          obtain ⟨fu, rfl⟩ : ∃ z, fuel = z + 1 := ⟨fuel - 1, by omega⟩
          simp only [m_X0_misfitInMap_13, m_X7_amount, ent_eq (n := 4096) (by decide) (show p < 4096 by omega), hA, Option.bind_some]
          rw [if_pos (nI_le (by simp at hi2; omega) (by omega))]
          exact ⟨rfl, fun z hz => by cases hz⟩
        | cons v t ihk =>
          intro fuel i lo hi tot hcp hr hA ht hi2 hfu h
          obtain ⟨fu, rfl⟩ : ∃ z, fuel = z + 1 := ⟨fuel - 1, by omega⟩
          simp only [List.length_cons] at hi2 hfu
          obtain ⟨c', b', s', h1, h2, h3, ⟨y1, y2, y3, y4, y5, y6, y7, y8, y9, y10⟩, h5, h6, h7⟩ := h
          have hcb := h5.base
          have hk1 : v.1 < 4096 := y5.1
          simp only [m_X0_misfitInMap_13, m_X7_amount, ent_eq (n := 4096) (by decide) (show p < 4096 by omega), hA, Option.bind_some, nI_1]
          rw [if_neg (nI_ge (show i < tot by omega) (by omega)), h2]
          simp only [m_X7_inner, ent_eq (n := 4096) (by decide) hk1, y1, Option.bind_some]
          rw [(ih2 a v.2 _ _ ha h5).1]
          simp only [Option.bind_some, ftl]
          cases hft : fto T L G k a v.2 with
          | none =>
            simp only [oI, if_true, m_X7_next, ent_eq (n := 4096) (by decide) hk1, Option.bind_some]
            exact ihk fu (i + 1) _ _ tot _ _ hA ht (by omega) (by omega) h7
          | some z =>
            have hz := (ih2 a v.2 _ _ ha h5).2 z hft
            dsimp only
            rw [show oI (some z) = nI z from rfl, if_neg (nI_m1 (show z < 2 ^ 31 by omega))]
            exact ⟨rfl, fun z' hz' => by cases hz'; exact hz⟩
      have nkk : ∀ j, j < 100 → (nI (n_kd (G m)) = nI j ↔ n_kd (G m) = j) := fun j hj => nI_eq (by omega) (by omega)
      by_cases q6 : n_kd (G m) = 6
      · obtain ⟨f1, f2, f3⟩ := fstc c hc (by rw [hm]; exact Or.inl q6)
        rw [hm] at f1 f2
        have c91 : cb T L p = 91 := by
          unfold okd at hd1
          rw [if_neg (by omega), if_neg (by omega), if_neg (by omega), if_neg (by omega), if_neg (by omega), if_neg (by omega), if_pos q6] at hd1
          exact hd1
        obtain ⟨a1, a2, a3, a4⟩ := hv.lst c91
        rw [if_pos (show nI (n_kd (G m)) = 6 from (nkk 6 (by decide)).mpr q6), f1, if_pos (Or.inl q6)]
        simp only [Option.bind_some, m_X0_misfitInList, m_X7_inner, ent_eq (n := 4096) (by decide) (show p < 4096 by omega)]
        have := lst _ f2 (prt T L p) sr_fuel 0 _ _ _ _ _ a1 (by omega) (by omega) (by unfold sr_fuel; omega) a4
        rw [nI_0] at this
        rw [this.1]
        exact ⟨rfl, this.2⟩
      rw [if_neg (show ¬ nI (n_kd (G m)) = 6 from fun z => q6 ((nkk 6 (by decide)).mp z))]
      by_cases q7 : n_kd (G m) = 7
      · obtain ⟨f1, f2, f3⟩ := fstc c hc (by rw [hm]; exact Or.inr (Or.inl q7))
        rw [hm] at f1 f2
        have c123 : cb T L p = 123 := by
          unfold okd at hd1
          rw [if_neg (by omega), if_neg (by omega), if_neg (by omega), if_neg (by omega), if_neg (by omega), if_neg (by omega), if_neg (by omega), if_pos q7] at hd1
          exact hd1
        obtain ⟨a1, a3, a4⟩ := hv.oc c123
        rw [if_pos (show nI (n_kd (G m)) = 7 from (nkk 7 (by decide)).mpr q7), f1, if_pos (Or.inr q7)]
        simp only [Option.bind_some, m_X0_misfitInMap, m_X7_inner, ent_eq (n := 4096) (by decide) (show p < 4096 by omega)]
        have := mpp _ f2 (prt T L p) sr_fuel 0 _ _ _ _ _ a1 (by omega) (by omega) (by unfold sr_fuel; omega) a4
        rw [nI_0] at this
        rw [this.1]
        exact ⟨rfl, this.2⟩
      rw [if_neg (show ¬ nI (n_kd (G m)) = 7 from fun z => q7 ((nkk 7 (by decide)).mp z)), if_neg (show ¬ (n_kd (G m) = 6 ∨ n_kd (G m) = 7) from fun z => z.elim q6 q7)]
      by_cases q10 : n_kd (G m) = 10
      rotate_left
      · rw [if_neg q10]
        have : ∀ (a b : Option Int32), (if nI (n_kd (G m)) = 8 then some (-1) else if nI (n_kd (G m)) = 9 then some (-1) else if nI (n_kd (G m)) = 10 then a else some (-1)) = (some (-1) : Option Int32) := fun a b => by
          rw [if_neg (show ¬ nI (n_kd (G m)) = 10 from fun z => q10 ((nkk 10 (by decide)).mp z))]
          by_cases q8 : nI (n_kd (G m)) = 8
          · rw [if_pos q8]
          · rw [if_neg q8]
            by_cases q9 : nI (n_kd (G m)) = 9
            · rw [if_pos q9]
            · rw [if_neg q9]
        rw [this _ none]
        exact ⟨rfl, fun z hz => by cases hz⟩
      rw [if_neg (show ¬ nI (n_kd (G m)) = 8 from fun z => by have := (nkk 8 (by decide)).mp z; omega), if_neg (show ¬ nI (n_kd (G m)) = 9 from fun z => by have := (nkk 9 (by decide)).mp z; omega), if_pos (show nI (n_kd (G m)) = 10 from (nkk 10 (by decide)).mpr q10), if_pos q10]
      have c123 : cb T L p = 123 := by
        unfold okd at hd1
        rw [if_neg (by omega), if_neg (by omega), if_neg (by omega), if_neg (by omega), if_neg (by omega), if_neg (by omega), if_neg (by omega), if_neg (by omega), if_neg (by omega), if_neg (by omega), if_pos q10] at hd1
        exact hd1
      obtain ⟨u1, u2, u3, u4⟩ := t2 (by omega) (by omega)
      have rcd : ∀ (fuel j : Nat), j ≤ (n_ch (G m)).length → (n_ch (G m)).length - j < fuel → m_X0_misfitInRecord_13 (m_X0_misfit M) T Sd In Nx Am (nI L) Pl Ki Me Fi Ne Fn Ac (nI pl.length) fuel (nI c) (nI p) (nI d) (if j = (n_ch (G m)).length then -1 else nI ((n_ch (G m)).getD j 0)) (nI j) = some (oI (ftr T L G (fto T L G k) p ((n_ch (G m)).drop j))) ∧ ∀ z, ftr T L G (fto T L G k) p ((n_ch (G m)).drop j) = some z → z < 4096 := by
        intro fuel
        induction fuel with
        | zero => intro j _ hf; exact absurd hf (Nat.not_lt_zero _)
        | succ fuel ihf =>
          intro j hj hfu
          simp only [m_X0_misfitInRecord_13, m_X6_amount, ent_eq (n := 128) (by decide) (show c < 128 by omega), k3, ent_eq (n := 128) (by decide) (show m < 128 by omega), u2, Option.bind_some, nI_1]
          by_cases ej : j = (n_ch (G m)).length
          · rw [if_pos (nI_le (show (n_ch (G m)).length ≤ j by omega) (by omega)), ej, List.drop_length]
            exact ⟨rfl, fun z hz => by cases hz⟩
          · have hjl : j < (n_ch (G m)).length := by omega
            have hmem := ch_mem hjl
            obtain ⟨d1, d2⟩ := u1.1 j hjl
            have d1 : (n_ch (G m)).getD j 0 < k0 := d1
            obtain ⟨a, x1, x2⟩ := (u4 _ hmem).2.2 q10
            have edr : (n_ch (G m)).drop j = (n_ch (G m)).getD j 0 :: (n_ch (G m)).drop (j + 1) := by rw [ls_get hjl]; exact List.drop_eq_getElem_cons hjl
            rw [if_neg (nI_ge hjl (by omega)), if_neg ej, edr]
            simp only [m_X6_fieldName, ent_eq (n := 128) (by decide) (show (n_ch (G m)).getD j 0 < 128 by omega), x1, Option.bind_some, mbf_eq hL hP hpl hv c123 x2, ftr, m_X0_misfitInRecord_63, m_X6_next, d2, nI_1]
            cases hmb : mbr T L p (n_fn (G ((n_ch (G m)).getD j 0))) with
            | none =>
              simp only [oI, if_true, if_neg (nI_m1 (show p < 2 ^ 31 by omega))]
              exact ⟨trivial, fun z hz => by cases hz; omega⟩
            | some v =>
              obtain ⟨c', b', hv'⟩ := mbr_vv hv c123 hmb
              have hvb := hv'.base
              obtain ⟨ia, ib⟩ := ih2 ((n_ch (G m)).getD j 0) v _ _ d1 hv'
              dsimp only
              rw [show oI (some v) = nI v from rfl, if_neg (nI_m1 (show v < 2 ^ 31 by omega)), ia]
              simp only [Option.bind_some]
              cases hft : fto T L G k ((n_ch (G m)).getD j 0) v with
              | none =>
                simp only [oI, if_true]
                exact ihf (j + 1) (by omega) (by omega)
              | some z =>
                have hz := ib z hft
                dsimp only
                rw [show oI (some z) = nI z from rfl, if_neg (nI_m1 (show z < 2 ^ 31 by omega))]
                exact ⟨rfl, fun z' hz' => by cases hz'; exact hz⟩
      simp only [m_X0_misfitInRecord, m_X6_first, ent_eq (n := 128) (by decide) (show c < 128 by omega), k3, ent_eq (n := 128) (by decide) (show m < 128 by omega), Option.bind_some]
      have := rcd sr_fuel 0 (by omega) (by unfold sr_fuel; omega)
      rw [← u1.ptr, nI_0, List.drop_zero] at this
      rw [this.1]
      exact ⟨rfl, this.2⟩
    obtain ⟨k1, k2, k3⟩ := kof s hs
    have o2 := (hO s hs).2.1
    simp only [m_X0_misfit, k1, Option.bind_some, fto]
    by_cases q11 : n_kd (G (n_me (G s))) = 11
    · obtain ⟨f1, f2, f3⟩ := fstc s hs (Or.inr (Or.inr q11))
      rw [if_pos (show nI (n_kd (G (n_me (G s)))) = 11 by rw [q11]; rfl), f1, if_pos q11]
      simp only [Option.bind_some]
      exact body _ f2
    · rw [if_neg (show ¬ nI (n_kd (G (n_me (G s)))) = 11 from fun z => q11 ((nI_eq (b := 11) (by omega) (by decide)).mp z)), if_neg q11]
      exact body s hs
end CFIT
