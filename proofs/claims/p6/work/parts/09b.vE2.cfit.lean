section
-- defaults: the telling, and the class's
section FITS
variable (T : Nat → Int32) (L : Nat) (G : Nat → Nod)
def fst1 (m : Nat) : Nat := (n_ch (G m)).getD 0 0
noncomputable def okd (m p : Nat) : Prop :=
  if n_kd (G m) = 0 then cb T L p = 110 else if n_kd (G m) = 1 then cb T L p = 116 ∨ cb T L p = 102 else if n_kd (G m) = 2 then (cb T L p = 45 ∨ (48 ≤ cb T L p ∧ cb T L p ≤ 57)) ∧ lg_cmp (snv T L p) (snv T L p).toInt32.toInt64 = 0 else if n_kd (G m) = 3 then (cb T L p = 45 ∨ (48 ≤ cb T L p ∧ cb T L p ≤ 57)) else if n_kd (G m) = 4 then cb T L p = 34 else if n_kd (G m) = 5 then cb T L p = 34 else if n_kd (G m) = 6 then cb T L p = 91 else if n_kd (G m) = 7 then cb T L p = 123 else if n_kd (G m) = 8 then cb T L p = 34 ∧ (ts T L p).length = n_wd (G m) else if n_kd (G m) = 9 then cb T L p = 34 ∧ ts T L p ∈ n_sy (G m) else if n_kd (G m) = 10 then cb T L p = 123 else False
def ftl (f : Nat → Option Nat) : List (Nat × Nat) → Option Nat
  | [] => none
  | v :: t => match f v.2 with
    | some q => some q
    | none => ftl f t
noncomputable def ftr (f : Nat → Nat → Option Nat) (p : Nat) : List Nat → Option Nat
  | [] => none
  | c :: t => match mbr T L p (n_fn (G c)) with
    | none => some p
    | some v => match f c v with
      | some q => some q
      | none => ftr f p t
noncomputable def ftb (f : Nat → Nat → Option Nat) (m p : Nat) : Option Nat := if dec (okd T L G m p) = true then (if n_kd (G m) = 6 ∨ n_kd (G m) = 7 then ftl (f (fst1 G m)) (prt T L p) else if n_kd (G m) = 10 then ftr T L G f p (n_ch (G m)) else none) else some p
noncomputable def fto : Nat → Nat → Nat → Option Nat
  | 0, _, p => some p
  | k + 1, s, p => ftb T L G (fto k) (n_me (G (if n_kd (G (n_me (G s))) = 11 then fst1 G (n_me (G s)) else s))) p
end FITS
def oI : Option Nat → Int32
  | none => -1
  | some q => nI q
theorem sIf {P Q : Prop} {i : Decidable P} [j : Decidable Q] (h : P ↔ Q) : (@ite _ P i (some 1) (some 0) : Option Int32) = some (@ite Int32 Q j 1 0) := by
  by_cases q : P
  · rw [if_pos q, if_pos (h.mp q)]
  · rw [if_neg q, if_neg (fun z => q (h.mpr z))]
section CFIT
variable {T : Nat → Int32} {L : Nat} {Sd In Nx Am K F S I X Lt : Nat → Int32} {N : Nat → Int64} {l : Nat} {Pl Ki Me Fi Ne Fn Ac : Nat → Int32} {pl : List Nat} {k0 : Nat} {G : Nat → Nod}
theorem VV.oc {n p q : Nat} (h : VV T L Sd In Nx Am K F N S I X Lt l n p q) (hc : cb T L p = 123) : Am p = nI (prt T L p).length ∧ p + (prt T L p).length < q ∧ OCH T L Sd In Nx Am K F N S I X Lt l (prt T L p) (p + 1) q (In p) (I n) := by
  obtain ⟨ks, g0, g1, g2, g3⟩ := h.obj hc
  rw [prt_eq g0]
  exact ⟨g1, g2, g3⟩
theorem mbf_go (hP : PLI Pl pl) (hpl : pl.length ≤ 4096) {p a tot : Nat} {w : List Nat} (hp : p < 4096) (hA : Am p = nI tot) (ht : tot ≤ 4096) (hw : PNL pl a w) : ∀ (ks : List (Nat × Nat)) (fuel i lo hi : Nat) (hc hr : Int32), i + ks.length = tot → ks.length < fuel → OCH T L Sd In Nx Am K F N S I X Lt l ks lo hi hc hr → m_X0_memberFor_12 Sd In Nx Am Pl (nI pl.length) fuel (nI a) (nI p) hc (nI i) = some (tfc (tfind T L w ks)) := by
  intro ks
  induction ks with
  | nil =>
    intro fuel i lo hi hc hr hi2 hf h
    obtain ⟨f, rfl⟩ : ∃ f, fuel = f + 1 := ⟨fuel - 1, by omega⟩
    simp only [m_X0_memberFor_12, m_X7_amount, ent_eq (n := 4096) (by decide) hp, Option.bind_some, hA]
    rw [if_pos (nI_le (by simp at hi2; omega) (by omega))]
    rfl
  | cons k t ih =>
    intro fuel i lo hi hc hr hi2 hf h
    obtain ⟨f, rfl⟩ : ∃ f, fuel = f + 1 := ⟨fuel - 1, by omega⟩
    simp only [List.length_cons] at hi2 hf
    obtain ⟨c, b, s, h1, h2, h3, ⟨k1, k2, k3, k4, k5, k6, k7, k8, k9, k10⟩, h5, h6, h7⟩ := h
    have hk1 : k.1 < 4096 := k5.1
    simp only [m_X0_memberFor_12, m_X7_amount, ent_eq (n := 4096) (by decide) hp, Option.bind_some, hA]
    rw [if_neg (nI_ge (show i < tot by omega) (by omega)), h2, isd_eq (hw.pn hP hpl) k5]
    simp only [Option.bind_some, tfind, m_X7_next, m_X7_inner, ent_eq (n := 4096) (by decide) hk1, k4]
    by_cases e : w = s
    · rw [if_pos e, if_pos (show s = w from e.symm), I10, k1]
      rfl
    · rw [if_neg e, if_neg (show ¬ s = w from fun z => e z.symm), I00, nI_1]
      exact ih f (i + 1) _ _ _ _ (by omega) (by omega) h7
theorem mbf_eq (hL : L ≤ 4096) (hP : PLI Pl pl) (hpl : pl.length ≤ 4096) {n p q a : Nat} {w : List Nat} (hv : VV T L Sd In Nx Am K F N S I X Lt l n p q) (hc : cb T L p = 123) (hw : PNL pl a w) : m_X0_memberFor Sd In Nx Am Pl (nI pl.length) (nI a) (nI p) = some (oI (mbr T L p w)) := by
  have hb := hv.base
  obtain ⟨g1, g2, g3⟩ := hv.oc hc
  have := mbf_go hP hpl (p := p) (a := a) (tot := (prt T L p).length) (by omega) g1 (by omega) hw (prt T L p) sr_fuel 0 _ _ _ _ (by omega) (by unfold sr_fuel; omega) g3
  rw [nI_0] at this
  unfold m_X0_memberFor mbr
  simp only [m_X7_inner, ent_eq (n := 4096) (by decide) (show p < 4096 by omega), Option.bind_some]
  rw [this]
  cases tfind T L w (prt T L p) <;> rfl
/-- a member's value -/
theorem OCH.vv : ∀ (ks : List (Nat × Nat)) (lo hi : Nat) (hc hr : Int32) (w : List Nat) (k : Nat × Nat), OCH T L Sd In Nx Am K F N S I X Lt l ks lo hi hc hr → tfind T L w ks = some k → ∃ c b, VV T L Sd In Nx Am K F N S I X Lt l c k.2 b := by
  intro ks
  induction ks with
  | nil => intro lo hi hc hr w k _ h; cases h
  | cons k0 t ih =>
    intro lo hi hc hr w k h ht
    obtain ⟨c, b, s, h1, h2, h3, h4, h5, h6, h7⟩ := h
    simp only [tfind] at ht
    by_cases e : ts T L k0.1 = w
    · rw [if_pos e] at ht
      cases ht
      exact ⟨_, _, h5⟩
    · rw [if_neg e] at ht
      exact ih _ _ _ _ w k h7 ht
theorem mbr_vv {n p q v : Nat} {w : List Nat} (hv : VV T L Sd In Nx Am K F N S I X Lt l n p q) (hc : cb T L p = 123) (h : mbr T L p w = some v) : ∃ c b, VV T L Sd In Nx Am K F N S I X Lt l c v b := by
  obtain ⟨g1, g2, g3⟩ := hv.oc hc
  unfold mbr at h
  cases ht : tfind T L w (prt T L p) with
  | none => rw [ht] at h; cases h
  | some k =>
    rw [ht] at h
    cases h
    exact g3.vv _ _ _ _ _ w k ht
theorem c_fit (hL : L ≤ 4096) (hP : PLI Pl pl) (hpl : pl.length ≤ 4096) (h0 : k0 ≤ 128) (hC : LCs Ki Me Fi Ne Fn Ac pl k0 G) (hO : ∀ i, i < k0 → OKS G k0 i) : ∀ (k M d : Nat), k + d = 25 → k < M → ∀ (s p n q : Nat), s < k0 → VV T L Sd In Nx Am K F N S I X Lt l n p q → m_X0_misfit M T Sd In Nx Am (nI L) Pl Ki Me Fi Ne Fn Ac (nI pl.length) (nI s) (nI p) (nI d) = some (oI (fto T L G k s p)) ∧ ∀ z, fto T L G k s p = some z → z < 4096 := by
  have kof : ∀ x, x < k0 → m_X6_kind Ki Me (nI x) = some (nI (n_kd (G (n_me (G x))))) ∧ n_me (G x) < k0 ∧ Me x = nI (n_me (G x)) := fun x hx => by
    obtain ⟨o1, o2, o3, o4, o5⟩ := hO x hx
    obtain ⟨x1, x2, x3, x4⟩ := hC x hx
    obtain ⟨z1, z2, z3, z4⟩ := hC _ o3
    exact ⟨by rw [knd_eq (by omega) (by omega) x1, (z4 o1).1 o2], o3, x1⟩
  have chn : ∀ m, m < k0 → n_me (G m) = m → n_kd (G m) ≠ 8 → n_kd (G m) ≠ 9 → ∀ c, c ∈ n_ch (G m) → c < k0 := fun m hm he h8 h9 c hc => by
    obtain ⟨z1, z2, z3, z4⟩ := hC m hm
    obtain ⟨u1, _⟩ := (z4 he).2.1 h8 h9
    obtain ⟨j, hj, e⟩ := mem_ch hc
    rw [← e]
    exact (u1.1 j hj).1
  have fstc : ∀ x, x < k0 → (n_kd (G (n_me (G x))) = 6 ∨ n_kd (G (n_me (G x))) = 7 ∨ n_kd (G (n_me (G x))) = 11) → m_X6_first Me Fi (nI x) = some (nI (fst1 G (n_me (G x)))) ∧ fst1 G (n_me (G x)) < k0 ∧ fst1 G (n_me (G x)) ∈ n_ch (G (n_me (G x))) := fun x hx hk => by
    obtain ⟨o1, o2, o3, o4, o5⟩ := hO x hx
    obtain ⟨_, _, x1⟩ := kof x hx
    obtain ⟨z1, z2, z3, z4⟩ := hC _ o3
    obtain ⟨p1, p2, p3, p4, p5⟩ := hO _ o3
    obtain ⟨u1, u2, u3, u4⟩ := (z4 o1).2.1 (by omega) (by omega)
    have hlen : 0 < (n_ch (G (n_me (G x)))).length := by
      rcases hk with z | z | z
      · have := (p5 o1).1 (Or.inl z); omega
      · have := (p5 o1).1 (Or.inr z); omega
      · exact ((p5 o1).2.1 z).1
    have hmem : fst1 G (n_me (G x)) ∈ n_ch (G (n_me (G x))) := ch_mem hlen
    refine ⟨?_, chn _ o3 o1 (by omega) (by omega) _ hmem, hmem⟩
    simp only [m_X6_first, ent_eq (n := 128) (by decide) (show x < 128 by omega), x1, ent_eq (n := 128) (by decide) (show n_me (G x) < 128 by omega), Option.bind_some]
    rw [u1.2.2, if_neg (by omega)]
    rfl
  intro k
  induction k with
  | zero =>
    intro M d hd hM s p n q hs hv
    obtain ⟨M, rfl⟩ : ∃ z, M = z + 1 := ⟨M - 1, by omega⟩
    have hb := hv.base
    have ed : d = 25 := by omega
    subst ed
    obtain ⟨k1, k2, k3⟩ := kof s hs
    have o2 := (hO s hs).2.1
    simp only [m_X0_misfit, k1, Option.bind_some, fto, m_X0_misfit_25, if_pos (show (24 : Int32) < nI 25 by decide)]
    by_cases q11 : n_kd (G (n_me (G s))) = 11
    · rw [if_pos (show nI (n_kd (G (n_me (G s)))) = 11 by rw [q11]; rfl), (fstc s hs (Or.inr (Or.inr q11))).1]
      exact ⟨rfl, fun z hz => by cases hz; omega⟩
    · rw [if_neg (show ¬ nI (n_kd (G (n_me (G s)))) = 11 from fun z => q11 ((nI_eq (b := 11) (by omega) (by decide)).mp z))]
      exact ⟨rfl, fun z hz => by cases hz; omega⟩
  | succ k ih =>
    intro M d hd hM s p n q hs hv
    obtain ⟨M, rfl⟩ : ∃ z, M = z + 1 := ⟨M - 1, by omega⟩
    have hb := hv.base
    have ih2 := ih M (d + 1) (by omega) (by omega)
    have body : ∀ c, c < k0 → m_X0_misfit_25 (m_X0_misfit M) T Sd In Nx Am (nI L) Pl Ki Me Fi Ne Fn Ac (nI pl.length) (nI p) (nI d) (nI c) = some (oI (ftb T L G (fto T L G k) (n_me (G c)) p)) ∧ ∀ z, ftb T L G (fto T L G k) (n_me (G c)) p = some z → z < 4096 := by
      intro c hc
      obtain ⟨k1, k2, k3⟩ := kof c hc
      obtain ⟨o1, o2, o3, o4, o5⟩ := hO c hc
      obtain ⟨z1, z2, z3, z4⟩ := hC _ o3
      obtain ⟨t1, t2, t3, t4⟩ := z4 o1
      unfold m_X0_misfit_25 ftb
      rw [if_neg (show ¬ (24 : Int32) < nI d from Int32.not_lt.mpr (nI_le (b := 24) (by omega) (by decide)))]
      generalize hm : n_me (G c) = m at *
      have nk : ∀ j, j < 100 → ((nI (n_kd (G m)) = nI j) = (n_kd (G m) = j)) := fun j hj => propext (nI_eq (by omega) (by omega))
      have ubb : ∀ j, j < 256 → ((ubI (cb T L p) = nI j) = (cb T L p = j)) := fun j hj => propext (ub_e (cb_le T L p) hj)
      have hok : m_X0_isOfKind T Sd Am (nI L) Pl Ki Me Fi Ac (nI pl.length) (nI c) (nI p) = some (if dec (okd T L G m p) = true then 1 else 0) := by
        unfold m_X0_isOfKind
        rw [k1]
        simp only [Option.bind_some]
        have fin : ∀ (P : Prop) (i : Decidable P), okd T L G m p = P → some (@ite Int32 P i 1 0) = some (if dec (okd T L G m p) = true then 1 else 0) := by
          intro P i e
          by_cases q : P
          · rw [if_pos q, dec_t (by rw [e]; exact q), bT]
          · rw [if_neg q, dec_f (by rw [e]; exact q), bF]
        have b01 : ∀ (P : Prop) (i : Decidable P), ((if (@ite Int32 P i 1 0) = 0 ∨ (@ite Int32 P i 1 0) = 1 then some (@ite Int32 P i 1 0) else none) : Option Int32) = some (@ite Int32 P i 1 0) := by
          intro P i
          by_cases q : P
          · simp only [if_pos q]; rfl
          · simp only [if_neg q]; rfl
        by_cases q0 : n_kd (G m) = 0
        · rw [if_pos (show nI (n_kd (G m)) = 0 by rw [q0]; rfl), byt_eq hL (by omega)]
          simp only [Option.bind_some]
          rw [sIf (P := ubI (cb T L p) = 110) (Q := cb T L p = 110) (ub_e (cb_le T L p) (c := 110) (by decide))]
          exact fin _ _ (by unfold okd; rw [if_pos q0])
        rw [if_neg (show ¬ nI (n_kd (G m)) = 0 from fun z => q0 ((nk 0 (by decide)).mp z))]
        by_cases q1 : n_kd (G m) = 1
        · rw [if_pos (show nI (n_kd (G m)) = 1 by rw [q1]; rfl), byt_eq hL (by omega)]
          simp only [Option.bind_some]
          have e1 : (if ubI (cb T L p) = 116 then some (1 : Int32) else if ubI (cb T L p) = 102 then some 1 else some 0) = some (if cb T L p = 116 ∨ cb T L p = 102 then 1 else 0) := by
            have a1 : ubI (cb T L p) = 116 ↔ cb T L p = 116 := ub_e (cb_le T L p) (c := 116) (by decide)
            have a2 : ubI (cb T L p) = 102 ↔ cb T L p = 102 := ub_e (cb_le T L p) (c := 102) (by decide)
            by_cases a : cb T L p = 116
            · rw [if_pos (a1.mpr a), if_pos (Or.inl a)]
            · rw [if_neg (fun z => a (a1.mp z))]
              by_cases b : cb T L p = 102
              · rw [if_pos (a2.mpr b), if_pos (Or.inr b)]
              · rw [if_neg (fun z => b (a2.mp z)), if_neg (fun z => z.elim a b)]
          rw [e1]
          exact fin _ _ (by unfold okd; rw [if_neg q0, if_pos q1])
        rw [if_neg (show ¬ nI (n_kd (G m)) = 1 from fun z => q1 ((nk 1 (by decide)).mp z))]
        by_cases q2 : n_kd (G m) = 2
        · rw [if_pos (show nI (n_kd (G m)) = 2 by rw [q2]; rfl), isn_eq hL (by omega)]
          simp only [Option.bind_some]
          by_cases cn : cb T L p = 45 ∨ (48 ≤ cb T L p ∧ cb T L p ≤ 57)
          · rw [if_pos cn, I10, hv.nmc hL cn]
            simp only [Option.bind_some]
            rw [sIf (Q := lg_cmp (snv T L p) (snv T L p).toInt32.toInt64 = 0) Iff.rfl]
            exact fin _ _ (by unfold okd; rw [if_neg q0, if_neg q1, if_pos q2]; exact propext ⟨fun z => z.2, fun z => ⟨cn, z⟩⟩)
          · rw [if_neg cn, I00, dec_f (fun z => by unfold okd at z; rw [if_neg q0, if_neg q1, if_pos q2] at z; exact cn z.1), bF]
        rw [if_neg (show ¬ nI (n_kd (G m)) = 2 from fun z => q2 ((nk 2 (by decide)).mp z))]
        by_cases q3 : n_kd (G m) = 3
        · rw [if_pos (show nI (n_kd (G m)) = 3 by rw [q3]; rfl), isn_eq hL (by omega)]
          simp only [Option.bind_some, b01]
          exact fin _ _ (by unfold okd; rw [if_neg q0, if_neg q1, if_neg q2, if_pos q3])
        rw [if_neg (show ¬ nI (n_kd (G m)) = 3 from fun z => q3 ((nk 3 (by decide)).mp z))]
        by_cases q4 : n_kd (G m) = 4
        · rw [if_pos (show nI (n_kd (G m)) = 4 by rw [q4]; rfl), iss_eq hL (by omega)]
          simp only [Option.bind_some, b01]
          exact fin _ _ (by unfold okd; rw [if_neg q0, if_neg q1, if_neg q2, if_neg q3, if_pos q4])
        rw [if_neg (show ¬ nI (n_kd (G m)) = 4 from fun z => q4 ((nk 4 (by decide)).mp z))]
        by_cases q5 : n_kd (G m) = 5
        · rw [if_pos (show nI (n_kd (G m)) = 5 by rw [q5]; rfl), iss_eq hL (by omega)]
          simp only [Option.bind_some, b01]
          exact fin _ _ (by unfold okd; rw [if_neg q0, if_neg q1, if_neg q2, if_neg q3, if_neg q4, if_pos q5])
        rw [if_neg (show ¬ nI (n_kd (G m)) = 5 from fun z => q5 ((nk 5 (by decide)).mp z))]
        by_cases q6 : n_kd (G m) = 6
        · rw [if_pos (show nI (n_kd (G m)) = 6 by rw [q6]; rfl), isl_eq hL (by omega)]
          simp only [Option.bind_some, b01]
          exact fin _ _ (by unfold okd; rw [if_neg q0, if_neg q1, if_neg q2, if_neg q3, if_neg q4, if_neg q5, if_pos q6])
        rw [if_neg (show ¬ nI (n_kd (G m)) = 6 from fun z => q6 ((nk 6 (by decide)).mp z))]
        by_cases q7 : n_kd (G m) = 7
        · rw [if_pos (show nI (n_kd (G m)) = 7 by rw [q7]; rfl), iso_eq hL (by omega)]
          simp only [Option.bind_some, b01]
          exact fin _ _ (by unfold okd; rw [if_neg q0, if_neg q1, if_neg q2, if_neg q3, if_neg q4, if_neg q5, if_neg q6, if_pos q7])
        rw [if_neg (show ¬ nI (n_kd (G m)) = 7 from fun z => q7 ((nk 7 (by decide)).mp z))]
        by_cases q8 : n_kd (G m) = 8
        · rw [if_pos (show nI (n_kd (G m)) = 8 by rw [q8]; rfl), iss_eq hL (by omega)]
          simp only [Option.bind_some]
          by_cases c34 : cb T L p = 34
          · obtain ⟨s0, y1, y2, y3, y4, y5, y6⟩ := hv.str c34
            rw [if_pos c34, I10]
            simp only [m_X7_amount, ent_eq (n := 4096) (by decide) (show p < 4096 by omega), y3.2.2.1, Option.bind_some, m_X6_amount, ent_eq (n := 128) (by decide) (show c < 128 by omega), k3, ent_eq (n := 128) (by decide) (show m < 128 by omega), (t3 q8).1]
            have hwd : n_wd (G m) < 2 ^ 31 := by
              have := (t3 q8).2
              omega
            rw [sIf (Q := s0.length = n_wd (G m)) (nI_eq (by omega) hwd)]
            exact fin _ _ (by unfold okd; rw [if_neg q0, if_neg q1, if_neg q2, if_neg q3, if_neg q4, if_neg q5, if_neg q6, if_neg q7, if_pos q8, y2]; exact propext ⟨fun z => z.2, fun z => ⟨c34, z⟩⟩)
          · rw [if_neg c34, I00, dec_f (fun z => by unfold okd at z; rw [if_neg q0, if_neg q1, if_neg q2, if_neg q3, if_neg q4, if_neg q5, if_neg q6, if_neg q7, if_pos q8] at z; exact c34 z.1), bF]
        rw [if_neg (show ¬ nI (n_kd (G m)) = 8 from fun z => q8 ((nk 8 (by decide)).mp z))]
        by_cases q9 : n_kd (G m) = 9
        · rw [if_pos (show nI (n_kd (G m)) = 9 by rw [q9]; rfl), iss_eq hL (by omega)]
          simp only [Option.bind_some]
          by_cases c34 : cb T L p = 34
          · obtain ⟨s0, y1, y2, y3, y4, y5, y6⟩ := hv.str c34
            obtain ⟨u1, u2, x, u3, u4⟩ := t4 q9
            rw [if_pos c34, I10]
            rcases hsy_eq (Pl := Pl) (lc := pl.length) (show c < 128 by omega) (show m < 128 by omega) k3 u1 (by omega) u3 (show SYM Pl pl.length (n_sy (G m)).length x (fun j => (n_sy (G m)).getD j []) from ⟨fun i hi => (u4.1 i hi).pn hP hpl, u4.2⟩) y3 with ⟨a, b⟩ | ⟨a, b⟩
            · rw [b]
              simp only [Option.bind_some]
              rw [I10, dec_t (by unfold okd; rw [if_neg q0, if_neg q1, if_neg q2, if_neg q3, if_neg q4, if_neg q5, if_neg q6, if_neg q7, if_neg q8, if_pos q9, y2]; exact ⟨c34, sy_mem.mp a⟩), bT]
            · rw [b]
              simp only [Option.bind_some]
              rw [if_pos trivial, dec_f (fun z => by unfold okd at z; rw [if_neg q0, if_neg q1, if_neg q2, if_neg q3, if_neg q4, if_neg q5, if_neg q6, if_neg q7, if_neg q8, if_pos q9, y2] at z; exact a (sy_mem.mpr z.2)), bF]
          · rw [if_neg c34, I00, dec_f (fun z => by unfold okd at z; rw [if_neg q0, if_neg q1, if_neg q2, if_neg q3, if_neg q4, if_neg q5, if_neg q6, if_neg q7, if_neg q8, if_pos q9] at z; exact c34 z.1), bF]
        rw [if_neg (show ¬ nI (n_kd (G m)) = 9 from fun z => q9 ((nk 9 (by decide)).mp z))]
        by_cases q10 : n_kd (G m) = 10
        · rw [if_pos (show nI (n_kd (G m)) = 10 by rw [q10]; rfl), iso_eq hL (by omega)]
          simp only [Option.bind_some, b01]
          exact fin _ _ (by unfold okd; rw [if_neg q0, if_neg q1, if_neg q2, if_neg q3, if_neg q4, if_neg q5, if_neg q6, if_neg q7, if_neg q8, if_neg q9, if_pos q10])
        · rw [if_neg (show ¬ nI (n_kd (G m)) = 10 from fun z => q10 ((nk 10 (by decide)).mp z)), dec_f (fun z => by unfold okd at z; rw [if_neg q0, if_neg q1, if_neg q2, if_neg q3, if_neg q4, if_neg q5, if_neg q6, if_neg q7, if_neg q8, if_neg q9, if_neg q10] at z; exact z), bF]
      rw [hok]
      simp only [Option.bind_some]
      by_cases hd1 : okd T L G m p
      rotate_left
      · rw [dec_f hd1, bF, I00, bF]
        exact ⟨rfl, fun z hz => by cases hz; omega⟩
      rw [dec_t hd1, bT, I10, bT, k1]
      simp only [Option.bind_some]
      have lst : ∀ (a : Nat), a < k0 → ∀ (ks : List (Nat × Nat)) (fuel i lo hi tot : Nat) (hcp hr : Int32), Am p = nI tot → tot ≤ 4096 → i + ks.length = tot → ks.length < fuel → LCH T L Sd In Nx Am K F N S I X Lt l ks lo hi hcp hr → m_X0_misfitInList_13 (m_X0_misfit M) T Sd In Nx Am (nI L) Pl Ki Me Fi Ne Fn Ac (nI pl.length) fuel (nI a) (nI p) (nI d) hcp (nI i) = some (oI (ftl (fto T L G k a) ks)) ∧ ∀ z, ftl (fto T L G k a) ks = some z → z < 4096 := by
        intro a ha ks
        induction ks with
        | nil =>
          intro fuel i lo hi tot hcp hr hA ht hi2 hfu h
          obtain ⟨fu, rfl⟩ : ∃ z, fuel = z + 1 := ⟨fuel - 1, by omega⟩
          simp only [m_X0_misfitInList_13, m_X7_amount, ent_eq (n := 4096) (by decide) (show p < 4096 by omega), hA, Option.bind_some]
          rw [if_pos (nI_le (by simp at hi2; omega) (by omega))]
          exact ⟨rfl, fun z hz => by cases hz⟩
        | cons v t ihk =>
          intro fuel i lo hi tot hcp hr hA ht hi2 hfu h
          obtain ⟨fu, rfl⟩ : ∃ z, fuel = z + 1 := ⟨fuel - 1, by omega⟩
          simp only [List.length_cons] at hi2 hfu
          obtain ⟨c', b', c1, c2, c3, c4, c5, c6⟩ := h
          have hcb := c4.base
          simp only [m_X0_misfitInList_13, m_X7_amount, ent_eq (n := 4096) (by decide) (show p < 4096 by omega), hA, Option.bind_some, nI_1]
          rw [if_neg (nI_ge (show i < tot by omega) (by omega)), c2, (ih2 a v.2 _ _ ha c4).1]
          simp only [Option.bind_some, ftl]
          cases hft : fto T L G k a v.2 with
          | none =>
            simp only [oI, if_true, m_X7_next, ent_eq (n := 4096) (by decide) (show v.2 < 4096 by omega), Option.bind_some]
            exact ihk fu (i + 1) _ _ tot _ _ hA ht (by omega) (by omega) c6
          | some z =>
            have hz := (ih2 a v.2 _ _ ha c4).2 z hft
            dsimp only
            rw [show oI (some z) = nI z from rfl, if_neg (nI_m1 (show z < 2 ^ 31 by omega))]
            exact ⟨rfl, fun z' hz' => by cases hz'; exact hz⟩
      have mpp : ∀ (a : Nat), a < k0 → ∀ (ks : List (Nat × Nat)) (fuel i lo hi tot : Nat) (hcp hr : Int32), Am p = nI tot → tot ≤ 4096 → i + ks.length = tot → ks.length < fuel → OCH T L Sd In Nx Am K F N S I X Lt l ks lo hi hcp hr → m_X0_misfitInMap_13 (m_X0_misfit M) T Sd In Nx Am (nI L) Pl Ki Me Fi Ne Fn Ac (nI pl.length) fuel (nI a) (nI p) (nI d) hcp (nI i) = some (oI (ftl (fto T L G k a) ks)) ∧ ∀ z, ftl (fto T L G k a) ks = some z → z < 4096 := by
        intro a ha ks
        induction ks with
        | nil =>
          intro fuel i lo hi tot hcp hr hA ht hi2 hfu h
          obtain ⟨fu, rfl⟩ : ∃ z, fuel = z + 1 := ⟨fuel - 1, by omega⟩
          simp only [m_X0_misfitInMap_13, m_X7_amount, ent_eq (n := 4096) (by decide) (show p < 4096 by omega), hA, Option.bind_some]
          rw [if_pos (nI_le (by simp at hi2; omega) (by omega))]
          exact ⟨rfl, fun z hz => by cases hz⟩
        | cons v t ihk =>
          intro fuel i lo hi tot hcp hr hA ht hi2 hfu h
          obtain ⟨fu, rfl⟩ : ∃ z, fuel = z + 1 := ⟨fuel - 1, by omega⟩
          simp only [List.length_cons] at hi2 hfu
          obtain ⟨c', b', s', h1, h2, h3, ⟨y1, y2, y3, y4, y5, y6, y7, y8, y9, y10⟩, h5, h6, h7⟩ := h
          have hcb := h5.base
          have hk1 : v.1 < 4096 := y5.1
          simp only [m_X0_misfitInMap_13, m_X7_amount, ent_eq (n := 4096) (by decide) (show p < 4096 by omega), hA, Option.bind_some, nI_1]
          rw [if_neg (nI_ge (show i < tot by omega) (by omega)), h2]
          simp only [m_X7_inner, ent_eq (n := 4096) (by decide) hk1, y1, Option.bind_some]
          rw [(ih2 a v.2 _ _ ha h5).1]
          simp only [Option.bind_some, ftl]
          cases hft : fto T L G k a v.2 with
          | none =>
            simp only [oI, if_true, m_X7_next, ent_eq (n := 4096) (by decide) hk1, Option.bind_some]
            exact ihk fu (i + 1) _ _ tot _ _ hA ht (by omega) (by omega) h7
          | some z =>
            have hz := (ih2 a v.2 _ _ ha h5).2 z hft
            dsimp only
            rw [show oI (some z) = nI z from rfl, if_neg (nI_m1 (show z < 2 ^ 31 by omega))]
            exact ⟨rfl, fun z' hz' => by cases hz'; exact hz⟩
      have nkk : ∀ j, j < 100 → (nI (n_kd (G m)) = nI j ↔ n_kd (G m) = j) := fun j hj => nI_eq (by omega) (by omega)
      by_cases q6 : n_kd (G m) = 6
      · obtain ⟨f1, f2, f3⟩ := fstc c hc (by rw [hm]; exact Or.inl q6)
        rw [hm] at f1 f2
        have c91 : cb T L p = 91 := by
          unfold okd at hd1
          rw [if_neg (by omega), if_neg (by omega), if_neg (by omega), if_neg (by omega), if_neg (by omega), if_neg (by omega), if_pos q6] at hd1
          exact hd1
        obtain ⟨a1, a2, a3, a4⟩ := hv.lst c91
        rw [if_pos (show nI (n_kd (G m)) = 6 from (nkk 6 (by decide)).mpr q6), f1, if_pos (Or.inl q6)]
        simp only [Option.bind_some, m_X0_misfitInList, m_X7_inner, ent_eq (n := 4096) (by decide) (show p < 4096 by omega)]
        have := lst _ f2 (prt T L p) sr_fuel 0 _ _ _ _ _ a1 (by omega) (by omega) (by unfold sr_fuel; omega) a4
        rw [nI_0] at this
        rw [this.1]
        exact ⟨rfl, this.2⟩
      rw [if_neg (show ¬ nI (n_kd (G m)) = 6 from fun z => q6 ((nkk 6 (by decide)).mp z))]
      by_cases q7 : n_kd (G m) = 7
      · obtain ⟨f1, f2, f3⟩ := fstc c hc (by rw [hm]; exact Or.inr (Or.inl q7))
        rw [hm] at f1 f2
        have c123 : cb T L p = 123 := by
          unfold okd at hd1
          rw [if_neg (by omega), if_neg (by omega), if_neg (by omega), if_neg (by omega), if_neg (by omega), if_neg (by omega), if_neg (by omega), if_pos q7] at hd1
          exact hd1
        obtain ⟨a1, a3, a4⟩ := hv.oc c123
        rw [if_pos (show nI (n_kd (G m)) = 7 from (nkk 7 (by decide)).mpr q7), f1, if_pos (Or.inr q7)]
        simp only [Option.bind_some, m_X0_misfitInMap, m_X7_inner, ent_eq (n := 4096) (by decide) (show p < 4096 by omega)]
        have := mpp _ f2 (prt T L p) sr_fuel 0 _ _ _ _ _ a1 (by omega) (by omega) (by unfold sr_fuel; omega) a4
        rw [nI_0] at this
        rw [this.1]
        exact ⟨rfl, this.2⟩
      rw [if_neg (show ¬ nI (n_kd (G m)) = 7 from fun z => q7 ((nkk 7 (by decide)).mp z)), if_neg (show ¬ (n_kd (G m) = 6 ∨ n_kd (G m) = 7) from fun z => z.elim q6 q7)]
      by_cases q10 : n_kd (G m) = 10
      rotate_left
      · rw [if_neg q10]
        have : ∀ (a b : Option Int32), (if nI (n_kd (G m)) = 8 then some (-1) else if nI (n_kd (G m)) = 9 then some (-1) else if nI (n_kd (G m)) = 10 then a else some (-1)) = (some (-1) : Option Int32) := fun a b => by
          rw [if_neg (show ¬ nI (n_kd (G m)) = 10 from fun z => q10 ((nkk 10 (by decide)).mp z))]
          by_cases q8 : nI (n_kd (G m)) = 8
          · rw [if_pos q8]
          · rw [if_neg q8]
            by_cases q9 : nI (n_kd (G m)) = 9
            · rw [if_pos q9]
            · rw [if_neg q9]
        rw [this _ none]
        exact ⟨rfl, fun z hz => by cases hz⟩
      rw [if_neg (show ¬ nI (n_kd (G m)) = 8 from fun z => by have := (nkk 8 (by decide)).mp z; omega), if_neg (show ¬ nI (n_kd (G m)) = 9 from fun z => by have := (nkk 9 (by decide)).mp z; omega), if_pos (show nI (n_kd (G m)) = 10 from (nkk 10 (by decide)).mpr q10), if_pos q10]
      have c123 : cb T L p = 123 := by
        unfold okd at hd1
        rw [if_neg (by omega), if_neg (by omega), if_neg (by omega), if_neg (by omega), if_neg (by omega), if_neg (by omega), if_neg (by omega), if_neg (by omega), if_neg (by omega), if_neg (by omega), if_pos q10] at hd1
        exact hd1
      obtain ⟨u1, u2, u3, u4⟩ := t2 (by omega) (by omega)
      have rcd : ∀ (fuel j : Nat), j ≤ (n_ch (G m)).length → (n_ch (G m)).length - j < fuel → m_X0_misfitInRecord_13 (m_X0_misfit M) T Sd In Nx Am (nI L) Pl Ki Me Fi Ne Fn Ac (nI pl.length) fuel (nI c) (nI p) (nI d) (if j = (n_ch (G m)).length then -1 else nI ((n_ch (G m)).getD j 0)) (nI j) = some (oI (ftr T L G (fto T L G k) p ((n_ch (G m)).drop j))) ∧ ∀ z, ftr T L G (fto T L G k) p ((n_ch (G m)).drop j) = some z → z < 4096 := by
        intro fuel
        induction fuel with
        | zero => intro j _ hf; exact absurd hf (Nat.not_lt_zero _)
        | succ fuel ihf =>
          intro j hj hfu
          simp only [m_X0_misfitInRecord_13, m_X6_amount, ent_eq (n := 128) (by decide) (show c < 128 by omega), k3, ent_eq (n := 128) (by decide) (show m < 128 by omega), u2, Option.bind_some, nI_1]
          by_cases ej : j = (n_ch (G m)).length
          · rw [if_pos (nI_le (show (n_ch (G m)).length ≤ j by omega) (by omega)), ej, List.drop_length]
            exact ⟨rfl, fun z hz => by cases hz⟩
          · have hjl : j < (n_ch (G m)).length := by omega
            have hmem := ch_mem hjl
            obtain ⟨d1, d2⟩ := u1.1 j hjl
            have d1 : (n_ch (G m)).getD j 0 < k0 := d1
            obtain ⟨a, x1, x2⟩ := (u4 _ hmem).2.2 q10
            have edr : (n_ch (G m)).drop j = (n_ch (G m)).getD j 0 :: (n_ch (G m)).drop (j + 1) := by rw [ls_get hjl]; exact List.drop_eq_getElem_cons hjl
            rw [if_neg (nI_ge hjl (by omega)), if_neg ej, edr]
            simp only [m_X6_fieldName, ent_eq (n := 128) (by decide) (show (n_ch (G m)).getD j 0 < 128 by omega), x1, Option.bind_some, mbf_eq hL hP hpl hv c123 x2, ftr, m_X0_misfitInRecord_63, m_X6_next, d2, nI_1]
            cases hmb : mbr T L p (n_fn (G ((n_ch (G m)).getD j 0))) with
            | none =>
              simp only [oI, if_true, if_neg (nI_m1 (show p < 2 ^ 31 by omega))]
              exact ⟨trivial, fun z hz => by cases hz; omega⟩
            | some v =>
              obtain ⟨c', b', hv'⟩ := mbr_vv hv c123 hmb
              have hvb := hv'.base
              obtain ⟨ia, ib⟩ := ih2 ((n_ch (G m)).getD j 0) v _ _ d1 hv'
              dsimp only
              rw [show oI (some v) = nI v from rfl, if_neg (nI_m1 (show v < 2 ^ 31 by omega)), ia]
              simp only [Option.bind_some]
              cases hft : fto T L G k ((n_ch (G m)).getD j 0) v with
              | none =>
                simp only [oI, if_true]
                exact ihf (j + 1) (by omega) (by omega)
              | some z =>
                have hz := ib z hft
                dsimp only
                rw [show oI (some z) = nI z from rfl, if_neg (nI_m1 (show z < 2 ^ 31 by omega))]
                exact ⟨rfl, fun z' hz' => by cases hz'; exact hz⟩
      simp only [m_X0_misfitInRecord, m_X6_first, ent_eq (n := 128) (by decide) (show c < 128 by omega), k3, ent_eq (n := 128) (by decide) (show m < 128 by omega), Option.bind_some]
      have := rcd sr_fuel 0 (by omega) (by unfold sr_fuel; omega)
      rw [← u1.ptr, nI_0, List.drop_zero] at this
      rw [this.1]
      exact ⟨rfl, this.2⟩
    obtain ⟨k1, k2, k3⟩ := kof s hs
    have o2 := (hO s hs).2.1
    simp only [m_X0_misfit, k1, Option.bind_some, fto]
    by_cases q11 : n_kd (G (n_me (G s))) = 11
    · obtain ⟨f1, f2, f3⟩ := fstc s hs (Or.inr (Or.inr q11))
      rw [if_pos (show nI (n_kd (G (n_me (G s)))) = 11 by rw [q11]; rfl), f1, if_pos q11]
      simp only [Option.bind_some]
      exact body _ f2
    · rw [if_neg (show ¬ nI (n_kd (G (n_me (G s)))) = 11 from fun z => q11 ((nI_eq (b := 11) (by omega) (by decide)).mp z)), if_neg q11]
      exact body s hs
end CFIT
end
section
-- defaults: the reference's
def rO (fl pp : Int32) : Option Nat → Option (Except (Int32 × Int32) (Unit × (Int32 × Int32)))
  | none => some (.ok ((), (fl, pp)))
  | some z => some (.error (12, nI z))
section RFIT
variable {T : Nat → Int32} {L : Nat} {Sd In Nx Am K F S I X Lt : Nat → Int32} {N : Nat → Int64} {l : Nat} {So Wi Kd kS kN kX : Nat → Int32} {sh kc k0 : Nat} {G : Nat → Nod}
theorem VV.kw {n p q : Nat} (h : VV T L Sd In Nx Am K F N S I X Lt l n p q) : (K n = 4 ↔ cb T L p = 116) ∧ (K n = 5 ↔ cb T L p = 102) ∧ (K n = 6 ↔ cb T L p = 110) := by
  have hk := h.kn
  unfold kdn at hk
  rcases h.any with x | x | x | x | x | x | x
  · rw [if_pos x] at hk
    rw [hk]
    exact ⟨⟨fun z => absurd z (by decide), fun z => by omega⟩, ⟨fun z => absurd z (by decide), fun z => by omega⟩, ⟨fun z => absurd z (by decide), fun z => by omega⟩⟩
  · rw [if_neg (by omega), if_pos x] at hk
    rw [hk]
    exact ⟨⟨fun z => absurd z (by decide), fun z => by omega⟩, ⟨fun z => absurd z (by decide), fun z => by omega⟩, ⟨fun z => absurd z (by decide), fun z => by omega⟩⟩
  · rw [if_neg (by omega), if_neg (by omega), if_pos x] at hk
    rw [hk]
    exact ⟨⟨fun z => absurd z (by decide), fun z => by omega⟩, ⟨fun z => absurd z (by decide), fun z => by omega⟩, ⟨fun z => absurd z (by decide), fun z => by omega⟩⟩
  · rw [if_neg (by omega), if_neg (by omega), if_neg (by omega), if_pos x] at hk
    rw [hk]
    exact ⟨⟨fun z => absurd z (by decide), fun z => by omega⟩, ⟨fun z => absurd z (by decide), fun z => by omega⟩, ⟨fun z => absurd z (by decide), fun z => by omega⟩⟩
  · rw [if_neg (by omega), if_neg (by omega), if_neg (by omega), if_neg (by omega), if_pos x] at hk
    rw [hk]
    exact ⟨⟨fun _ => x, fun _ => rfl⟩, ⟨fun z => absurd z (by decide), fun z => by omega⟩, ⟨fun z => absurd z (by decide), fun z => by omega⟩⟩
  · rw [if_neg (by omega), if_neg (by omega), if_neg (by omega), if_neg (by omega), if_neg (by omega), if_pos x] at hk
    rw [hk]
    exact ⟨⟨fun z => absurd z (by decide), fun z => by omega⟩, ⟨fun _ => x, fun _ => rfl⟩, ⟨fun z => absurd z (by decide), fun z => by omega⟩⟩
  · rw [if_neg (by omega), if_neg (by omega), if_neg (by omega), if_neg (by omega), if_neg (by omega), if_neg (by omega)] at hk
    rw [hk]
    exact ⟨⟨fun z => absurd z (by decide), fun z => by omega⟩, ⟨fun z => absurd z (by decide), fun z => by omega⟩, ⟨fun _ => x, fun _ => rfl⟩⟩
/-- inner values are less deep -/
theorem sv_el {k p q : Nat} (h : sval T L (k + 1) p = .inr q) (hc : cb T L p = 91 ∨ cb T L p = 123) : ∀ v, v ∈ prt T L p → ∃ b, sval T L k v.2 = .inr b := by
  simp only [sval] at h
  rw [if_neg (by omega), if_pos hc] at h
  by_cases c3 : k = 0
  · rw [if_pos c3] at h; cases h
  rw [if_neg c3] at h
  by_cases c4 : cb T L (sbl T L (p + 1)) = (if cb T L p = 123 then 125 else 93)
  · intro v hv
    rw [prt_eq ⟨k, Or.inl ⟨c4, rfl⟩⟩] at hv
    exact absurd hv List.not_mem_nil
  · rw [if_neg c4] at h
    cases hs : sgrp (sval T L k) T L (decide (cb T L p = 123)) (if cb T L p = 123 then 125 else 93) (L + 1) (sbl T L (p + 1)) [] with
    | inl w => rw [hs] at h; cases h
    | inr r =>
      obtain ⟨ks, q'⟩ := r
      have hz := sgrp_p (by split <;> decide) (sval_p k) _ _ _ _ _ hs
      intro v hv
      rw [prt_eq ⟨k, Or.inr ⟨c4, q', hs⟩⟩] at hv
      obtain ⟨_, _, ⟨b, hb, _⟩, _⟩ := hz.2.2.2.2 v hv
      exact ⟨b, hb⟩
theorem tf_mem {w : List Nat} {k : Nat × Nat} : ∀ (ks : List (Nat × Nat)), tfind T L w ks = some k → k ∈ ks := by
  intro ks
  induction ks with
  | nil => intro h; cases h
  | cons k0 t ih =>
    intro h
    simp only [tfind] at h
    by_cases e : ts T L k0.1 = w
    · rw [if_pos e] at h
      cases h
      exact List.mem_cons_self
    · rw [if_neg e] at h
      exact List.mem_cons_of_mem _ (ih h)
theorem mlr_go (hl : l ≤ 4200) {m : Nat} {w : List Nat} (hm : m < 4200) (hw : RSt N S Lt l m w) (hwb : ∀ v, v ∈ w → v ≤ 255) : ∀ (ks : List (Nat × Nat)) (fuel lo hi : Nat) (hc hr : Int32), ks.length < fuel → OCH T L Sd In Nx Am K F N S I X Lt l ks lo hi hc hr → (tfind T L w ks = none ∧ m_X9_memberLike_7 N S I X Lt fuel (nI m) hr = some (-1)) ∨ (∃ k c b, tfind T L w ks = some k ∧ m_X9_memberLike_7 N S I X Lt fuel (nI m) hr = some (nI c) ∧ VV T L Sd In Nx Am K F N S I X Lt l c k.2 b) := by
  intro ks
  induction ks with
  | nil =>
    intro fuel lo hi hc hr hf h
    obtain ⟨f, rfl⟩ : ∃ f, fuel = f + 1 := ⟨fuel - 1, by omega⟩
    refine Or.inl ⟨rfl, ?_⟩
    simp only [m_X9_memberLike_7]
    rw [h.2.2, if_pos (show (-1 : Int32) < 0 by decide)]
  | cons k t ih =>
    intro fuel lo hi hc hr hf h
    obtain ⟨f, rfl⟩ : ∃ f, fuel = f + 1 := ⟨fuel - 1, by omega⟩
    simp only [List.length_cons] at hf
    obtain ⟨c, b, s, h1, h2, h3, ⟨k1, k2, k3, k4, k5, k6, k7, k8, k9, k10⟩, h5, h6, h7⟩ := h
    simp only [m_X9_memberLike_7]
    rw [h3, if_neg (nI_pos (show c < 2 ^ 31 by omega)), same_r (show c < 4200 by omega) hm hl hl k6 hw k10 hwb]
    simp only [Option.bind_some, tfind, k4]
    by_cases e : s = w
    · simp only [if_pos e, if_neg (show ¬ (1 : Int32) = 0 by decide), bd_go (show c < 4200 by omega) (by decide), bd_gc (show c < 4200 by omega) (by decide), nI_clamp (show c < 2 ^ 31 by omega), k2]
      exact Or.inr ⟨k, c + 1, b, rfl, rfl, h5⟩
    · simp only [if_neg e, if_true, bd_go (show c < 4200 by omega) (by decide), bd_gc (show c < 4200 by omega) (by decide), nI_clamp (show c < 2 ^ 31 by omega), k2, bd_go (show c + 1 < 4200 by omega) (by decide), bd_gc (show c + 1 < 4200 by omega) (by decide), nI_clamp (show c + 1 < 2 ^ 31 by omega)]
      exact ih f _ _ _ _ (by omega) h7
theorem r_fit (hl : l ≤ 4200) (h0 : k0 ≤ 128) (hsh : sh ≤ 140) (h6 : 6 ≤ sh) (hkc : kc ≤ 2200) (hS : ∀ t, t < 6 → So t = nI t) (hR : RLs N S Lt l So Wi Kd kS kN kX sh kc k0 G) (hO : ∀ i, i < k0 → OKS G k0 i) (hW : ∀ i, i < k0 → n_me (G i) = i → n_kd (G i) = 8 → n_wd (G i) ≤ 64) (hL : L ≤ 4096) : ∀ (k M : Nat), 2 * k + 2 ≤ M → ∀ (s p n q : Nat) (fl pp : Int32), s < k0 → VV T L Sd In Nx Am K F N S I X Lt l n p q → (∃ q', sval T L k p = .inr q') → m_X9_fit M fl pp K F N S I X Lt So Wi Kd kS kN kX (nI n) (nI (n_sg (G s))) = rO fl pp (fto T L G k s p) := by
  have nrm : ∀ x, x < k0 → n_sg (G x) = n_sg (G (n_me (G x))) ∧ n_me (G x) < k0 ∧ n_sg (G x) < sh ∧ So (n_sg (G x)) = nI (srt (n_kd (G (n_me (G x))))) := by
    intro x hx
    obtain ⟨o1, o2, o3, o4, o5⟩ := hO x hx
    have e1 : n_sg (G x) = n_sg (G (n_me (G x))) := by
      by_cases q : n_me (G x) = x
      · rw [q]
      · exact (hR x hx).2.2.1 q
    obtain ⟨t1, t2, t3⟩ := (hR _ o3).2.2.2 o1
    by_cases q : n_kd (G (n_me (G x))) ≤ 5
    · have e2 := t1 q
      have hs : srt (n_kd (G (n_me (G x)))) = n_kd (G (n_me (G x))) := by unfold srt; rw [if_neg (by omega), if_neg (by omega), if_neg (by omega), if_neg (by omega)]
      rw [e1, e2]
      refine ⟨rfl, o3, by omega, ?_⟩
      rw [hs, hS _ (by omega)]
    · obtain ⟨c1, c2, c3, _⟩ := t3 (by omega) o2
      rw [e1]
      exact ⟨rfl, o3, c2, c3⟩
  have kids : ∀ x, x < k0 → 6 ≤ n_kd (G (n_me (G x))) → n_kd (G (n_me (G x))) ≠ 9 → ICH kX (Kd (n_sg (G x))) (n_ch (G (n_me (G x)))).length (fun j => (n_kl (G (n_me (G x)))).getD j 0) kc ∧ (∀ j, j < (n_ch (G (n_me (G x)))).length → kS ((n_kl (G (n_me (G x)))).getD j 0) = nI (n_sg (G ((n_ch (G (n_me (G x)))).getD j 0))) ∧ (n_kd (G (n_me (G x))) = 10 → RNm N S Lt l (kN ((n_kl (G (n_me (G x)))).getD j 0)) (n_fn (G ((n_ch (G (n_me (G x)))).getD j 0)))) ∧ (n_ch (G (n_me (G x)))).getD j 0 < k0) := by
    intro x hx h1 h2
    obtain ⟨o1, o2, o3, o4, o5⟩ := hO x hx
    obtain ⟨p1, p2, p3, p4, p5⟩ := hO _ o3
    obtain ⟨t1, t2, t3⟩ := (hR _ o3).2.2.2 o1
    obtain ⟨c1, c2, c3, c4, c5, c6, c7, c8⟩ := t3 h1 o2
    have hlen := (p5 o1).2.2 h2
    rw [(nrm x hx).1]
    rw [hlen] at c4
    exact ⟨c4, fun j hj => ⟨(c6 j hj).1, (c6 j hj).2, (p4 _ (ch_mem hj)).1⟩⟩
  intro k
  induction k with
  | zero =>
    intro M hM s p n q fl pp hs hv ⟨q', h⟩
    cases h
  | succ k ih =>
    intro M hM s p n q fl pp hs hv ⟨q', hsv⟩
    have hb := hv.base
    obtain ⟨kk2, kk1, kk0, kk3⟩ := hv.kk
    obtain ⟨kw4, kw5, kw6'⟩ := hv.kw
    have body : ∀ (M c : Nat) (fl pp : Int32), 2 * k + 3 ≤ M → c < k0 → n_kd (G (n_me (G c))) ≤ 10 → m_X9_fit M fl pp K F N S I X Lt So Wi Kd kS kN kX (nI n) (nI (n_sg (G c))) = rO fl pp (ftb T L G (fto T L G k) (n_me (G c)) p) := by
      intro M c fl pp hM hc h10
      obtain ⟨M, rfl⟩ : ∃ z, M = z + 1 := ⟨M - 1, by omega⟩
      have ih2 := ih M (by omega)
      obtain ⟨r1, r2, r3, r4⟩ := nrm c hc
      obtain ⟨o1, o2, o3, o4, o5⟩ := hO c hc
      have kd0 := kids c hc
      have sg140 : n_sg (G c) < 140 := by omega
      simp only [m_X9_fit, bd_go (show n < 4200 by omega) (by decide), bd_gc (show n < 4200 by omega) (by decide), nI_clamp (show n < 2 ^ 31 by omega), bd_go sg140 (by decide), bd_gc sg140 (by decide), nI_clamp (show n_sg (G c) < 2 ^ 31 by omega), r4, hb.2.2.2, m_X9_fit_89, m_X9_fit_119, m_X9_fit_124, m_X9_fit_166, m_X9_fit_167, m_X9_fit_192, m_X9_fit_217, m_X9_fit_256, m_X9_fit_257, m_X9_fit_291, m_X9_fit_292, m_X9_fit_336, m_X9_fit_402, m_X9_fit_478]
      generalize hm : n_me (G c) = m at *
      have ns : ∀ j, j < 100 → (nI (srt (n_kd (G m))) = nI j ↔ srt (n_kd (G m)) = j) := fun j hj => nI_eq (by have := (srt_6 _ o2).2.2.2; omega) (by omega)
      unfold ftb
      have good : ∀ {r : Option Nat}, okd T L G m p → n_kd (G m) ≠ 6 → n_kd (G m) ≠ 7 → n_kd (G m) ≠ 10 → rO fl pp (if dec (okd T L G m p) = true then (if n_kd (G m) = 6 ∨ n_kd (G m) = 7 then r else if n_kd (G m) = 10 then ftr T L G (fto T L G k) p (n_ch (G m)) else none) else some p) = some (.ok ((), (fl, pp))) := fun h a b c => by rw [dec_t h, bT, if_neg (fun z => z.elim a b), if_neg c]; rfl
      have bad : ∀ {r : Option Nat}, ¬ okd T L G m p → rO fl pp (if dec (okd T L G m p) = true then r else some p) = some (.error (12, nI p)) := fun h => by rw [dec_f h, bF]; rfl
      by_cases q0 : n_kd (G m) = 0
      · rw [if_pos (show nI (srt (n_kd (G m))) = 0 by rw [q0]; rfl)]
        have ok : okd T L G m p ↔ K n = 6 := by unfold okd; rw [if_pos q0]; exact kw6'.symm
        by_cases z : K n = 6
        · rw [if_pos z, nd1, trO, good (ok.mpr z) (by omega) (by omega) (by omega)]
        · rw [if_neg z, nd0, trE, bad (fun w => z (ok.mp w))]
      rw [if_neg (show ¬ nI (srt (n_kd (G m))) = 0 from fun z => by have := (ns 0 (by decide)).mp z; rw [show (0 : Nat) = srt 0 from rfl] at this; exact q0 (srt_i _ o2 0 (by decide) this))]
      by_cases q1 : n_kd (G m) = 1
      · rw [if_pos (show nI (srt (n_kd (G m))) = 1 by rw [q1]; rfl)]
        have ok : okd T L G m p ↔ (K n = 4 ∨ K n = 5) := by unfold okd; rw [if_neg q0, if_pos q1, kw4, kw5]
        by_cases z : K n = 4
        · rw [if_pos z, nd1, trO, good (ok.mpr (Or.inl z)) (by omega) (by omega) (by omega)]
        · rw [if_neg z]
          by_cases z2 : K n = 5
          · rw [if_pos z2, nd1, trO, good (ok.mpr (Or.inr z2)) (by omega) (by omega) (by omega)]
          · rw [if_neg z2, nd0, trE, bad (fun w => (ok.mp w).elim z z2)]
      rw [if_neg (show ¬ nI (srt (n_kd (G m))) = 1 from fun z => by have := (ns 1 (by decide)).mp z; rw [show (1 : Nat) = srt 1 from rfl] at this; exact q1 (srt_i _ o2 1 (by decide) this))]
      by_cases q2 : n_kd (G m) = 2
      · rw [if_pos (show nI (srt (n_kd (G m))) = 2 by rw [q2]; rfl)]
        by_cases cn : cb T L p = 45 ∨ (48 ≤ cb T L p ∧ cb T L p ≤ 57)
        · rw [if_pos (kk3.mpr cn), (hv.num cn).1]
          have ok : okd T L G m p ↔ lg_cmp (snv T L p) (snv T L p).toInt32.toInt64 = 0 := by unfold okd; rw [if_neg q0, if_neg q1, if_pos q2]; exact ⟨fun z => z.2, fun z => ⟨cn, z⟩⟩
          by_cases z : lg_cmp (snv T L p) (snv T L p).toInt32.toInt64 = 0
          · rw [if_pos z, nd1, trO, good (ok.mpr z) (by omega) (by omega) (by omega)]
          · rw [if_neg z, nd0, trE, bad (fun w => z (ok.mp w))]
        · rw [if_neg (fun z => cn (kk3.mp z)), nd0, trE, bad (fun w => by unfold okd at w; rw [if_neg q0, if_neg q1, if_pos q2] at w; exact cn w.1)]
      rw [if_neg (show ¬ nI (srt (n_kd (G m))) = 2 from fun z => by have := (ns 2 (by decide)).mp z; rw [show (2 : Nat) = srt 2 from rfl] at this; exact q2 (srt_i _ o2 2 (by decide) this))]
      by_cases q3 : n_kd (G m) = 3
      · rw [if_pos (show nI (srt (n_kd (G m))) = 3 by rw [q3]; rfl)]
        have ok : okd T L G m p ↔ K n = 3 := by unfold okd; rw [if_neg q0, if_neg q1, if_neg q2, if_pos q3]; exact kk3.symm
        by_cases z : K n = 3
        · rw [if_pos z, nd1, trO, good (ok.mpr z) (by omega) (by omega) (by omega)]
        · rw [if_neg z, nd0, trE, bad (fun w => z (ok.mp w))]
      rw [if_neg (show ¬ nI (srt (n_kd (G m))) = 3 from fun z => by have := (ns 3 (by decide)).mp z; rw [show (3 : Nat) = srt 3 from rfl] at this; exact q3 (srt_i _ o2 3 (by decide) this))]
      by_cases q4 : n_kd (G m) = 4
      · rw [if_pos (show nI (srt (n_kd (G m))) = 4 by rw [q4]; rfl)]
        have ok : okd T L G m p ↔ K n = 2 := by unfold okd; rw [if_neg q0, if_neg q1, if_neg q2, if_neg q3, if_pos q4]; exact kk2.symm
        by_cases z : K n = 2
        · rw [if_pos z, nd1, trO, good (ok.mpr z) (by omega) (by omega) (by omega)]
        · rw [if_neg z, nd0, trE, bad (fun w => z (ok.mp w))]
      rw [if_neg (show ¬ nI (srt (n_kd (G m))) = 4 from fun z => by have := (ns 4 (by decide)).mp z; rw [show (4 : Nat) = srt 4 from rfl] at this; exact q4 (srt_i _ o2 4 (by decide) this))]
      by_cases q5 : n_kd (G m) = 5
      · rw [if_pos (show nI (srt (n_kd (G m))) = 5 by rw [q5]; rfl)]
        have ok : okd T L G m p ↔ K n = 2 := by unfold okd; rw [if_neg q0, if_neg q1, if_neg q2, if_neg q3, if_neg q4, if_pos q5]; exact kk2.symm
        by_cases z : K n = 2
        · rw [if_pos z, nd1, trO, good (ok.mpr z) (by omega) (by omega) (by omega)]
        · rw [if_neg z, nd0, trE, bad (fun w => z (ok.mp w))]
      rw [if_neg (show ¬ nI (srt (n_kd (G m))) = 5 from fun z => by have := (ns 5 (by decide)).mp z; rw [show (5 : Nat) = srt 5 from rfl] at this; exact q5 (srt_i _ o2 5 (by decide) this))]
      by_cases q6 : n_kd (G m) = 6
      · rw [if_pos (show nI (srt (n_kd (G m))) = 6 by rw [q6]; rfl)]
        have ok : okd T L G m p ↔ K n = 1 := by unfold okd; rw [if_neg q0, if_neg q1, if_neg q2, if_neg q3, if_neg q4, if_neg q5, if_pos q6]; exact kk1.symm
        by_cases z : K n = 1
        · have c91 := kk1.mp z
          rw [if_pos z, nd1, trO, dec_t (ok.mpr z), bT, if_pos (Or.inl q6)]
          obtain ⟨ch1, ch2⟩ := kd0 (by omega) (by omega)
          have hlen := ((hO m o3).2.2.2.2 o1).1 (Or.inl q6)
          obtain ⟨w1, w2, w3⟩ := ch2 0 (by omega)
          have hk0 := (ch1.1 0 (by omega)).1
          have hk0 : (n_kl (G m)).getD 0 0 < kc := hk0
          have hKd : Kd (n_sg (G c)) = nI ((n_kl (G m)).getD 0 0) := by rw [ch1.2.2, if_neg (by omega)]
          obtain ⟨a1, a2, a3, a4⟩ := hv.lst c91
          have hel := sv_el hsv (Or.inl c91)
          have go : ∀ (ks : List (Nat × Nat)) (fuel lo hi : Nat) (hcp hr : Int32) (fl pp : Int32), ks.length < fuel → (∀ v, v ∈ ks → ∃ b, sval T L k v.2 = .inr b) → LCH T L Sd In Nx Am K F N S I X Lt l ks lo hi hcp hr → m_X9_fit_350 (m_X9_fit M) K F N S I X Lt So Wi Kd kS kN kX fuel fl pp (nI (n_sg (G c))) hr = rO fl pp (ftl (fto T L G k (fst1 G m)) ks) := by
            intro ks
            induction ks with
            | nil =>
              intro fuel lo hi hcp hr fl pp hfu _ h
              obtain ⟨fu, rfl⟩ : ∃ z, fuel = z + 1 := ⟨fuel - 1, by omega⟩
              simp only [m_X9_fit_350]
              rw [h.2.2, if_pos (show (-1 : Int32) < 0 by decide)]
              rfl
            | cons v t ihk =>
              intro fuel lo hi hcp hr fl pp hfu hsb h
              obtain ⟨fu, rfl⟩ : ∃ z, fuel = z + 1 := ⟨fuel - 1, by omega⟩
              simp only [List.length_cons] at hfu
              obtain ⟨c', b', c1, c2, c3, c4, c5, c6⟩ := h
              have hcb := c4.base
              simp only [m_X9_fit_350]
              rw [c3, if_neg (nI_pos (show c' < 2 ^ 31 by omega))]
              simp only [bd_go sg140 (by decide), bd_gc sg140 (by decide), nI_clamp (show n_sg (G c) < 2 ^ 31 by omega), hKd, bd_go (show (n_kl (G m)).getD 0 0 < 2200 by omega) (by decide), bd_gc (show (n_kl (G m)).getD 0 0 < 2200 by omega) (by decide), nI_clamp (show (n_kl (G m)).getD 0 0 < 2 ^ 31 by omega), w1]
              rw [show (n_ch (G m)).getD 0 0 = fst1 G m from rfl, ih2 (fst1 G m) v.2 c' b' fl pp w3 c4 (hsb v List.mem_cons_self)]
              simp only [ftl]
              cases hft : fto T L G k (fst1 G m) v.2 with
              | none =>
                simp only [rO, trO, bd_go (show c' < 4200 by omega) (by decide), bd_gc (show c' < 4200 by omega) (by decide), nI_clamp (show c' < 2 ^ 31 by omega)]
                exact ihk fu _ _ _ _ fl pp (by omega) (fun v hv => hsb v (List.mem_cons_of_mem _ hv)) c6
              | some z => rfl
          exact go (prt T L p) sr_fuel _ _ _ _ fl pp (by unfold sr_fuel; omega) hel a4
        · rw [if_neg z, nd0, trE, bad (fun w => z (ok.mp w))]
      rw [if_neg (show ¬ nI (srt (n_kd (G m))) = 6 from fun z => by have := (ns 6 (by decide)).mp z; rw [show (6 : Nat) = srt 6 from rfl] at this; exact q6 (srt_i _ o2 6 (by decide) this))]
      by_cases q7 : n_kd (G m) = 7
      · rw [if_pos (show nI (srt (n_kd (G m))) = 7 by rw [q7]; rfl)]
        have ok : okd T L G m p ↔ K n = 0 := by unfold okd; rw [if_neg q0, if_neg q1, if_neg q2, if_neg q3, if_neg q4, if_neg q5, if_neg q6, if_pos q7]; exact kk0.symm
        by_cases z : K n = 0
        · have c123 := kk0.mp z
          rw [if_pos z, nd1, trO, dec_t (ok.mpr z), bT, if_pos (Or.inr q7)]
          obtain ⟨ch1, ch2⟩ := kd0 (by omega) (by omega)
          have hlen := ((hO m o3).2.2.2.2 o1).1 (Or.inr q7)
          obtain ⟨w1, w2, w3⟩ := ch2 0 (by omega)
          have hk0 := (ch1.1 0 (by omega)).1
          have hk0 : (n_kl (G m)).getD 0 0 < kc := hk0
          have hKd : Kd (n_sg (G c)) = nI ((n_kl (G m)).getD 0 0) := by rw [ch1.2.2, if_neg (by omega)]
          obtain ⟨a1, a3, a4⟩ := hv.oc c123
          have hel := sv_el hsv (Or.inr c123)
          have go : ∀ (ks : List (Nat × Nat)) (fuel lo hi : Nat) (hcp hr : Int32) (fl pp : Int32), ks.length < fuel → (∀ v, v ∈ ks → ∃ b, sval T L k v.2 = .inr b) → OCH T L Sd In Nx Am K F N S I X Lt l ks lo hi hcp hr → m_X9_fit_416 (m_X9_fit M) K F N S I X Lt So Wi Kd kS kN kX fuel fl pp (nI (n_sg (G c))) hr = rO fl pp (ftl (fto T L G k (fst1 G m)) ks) := by
            intro ks
            induction ks with
            | nil =>
              intro fuel lo hi hcp hr fl pp hfu _ h
              obtain ⟨fu, rfl⟩ : ∃ z, fuel = z + 1 := ⟨fuel - 1, by omega⟩
              simp only [m_X9_fit_416]
              rw [h.2.2, if_pos (show (-1 : Int32) < 0 by decide)]
              rfl
            | cons v t ihk =>
              intro fuel lo hi hcp hr fl pp hfu hsb h
              obtain ⟨fu, rfl⟩ : ∃ z, fuel = z + 1 := ⟨fuel - 1, by omega⟩
              simp only [List.length_cons] at hfu
              obtain ⟨c', b', s', h1, h2, h3, ⟨y1, y2, y3, y4, y5, y6, y7, y8, y9, y10⟩, h5, h6', h7⟩ := h
              have hcb := h5.base
              simp only [m_X9_fit_416]
              rw [h3, if_neg (nI_pos (show c' < 2 ^ 31 by omega))]
              simp only [bd_go (show c' < 4200 by omega) (by decide), bd_gc (show c' < 4200 by omega) (by decide), nI_clamp (show c' < 2 ^ 31 by omega), y2, bd_go (show c' + 1 < 4200 by omega) (by decide), bd_gc (show c' + 1 < 4200 by omega) (by decide), nI_clamp (show c' + 1 < 2 ^ 31 by omega), bd_go sg140 (by decide), bd_gc sg140 (by decide), nI_clamp (show n_sg (G c) < 2 ^ 31 by omega), hKd, bd_go (show (n_kl (G m)).getD 0 0 < 2200 by omega) (by decide), bd_gc (show (n_kl (G m)).getD 0 0 < 2200 by omega) (by decide), nI_clamp (show (n_kl (G m)).getD 0 0 < 2 ^ 31 by omega), w1]
              rw [show (n_ch (G m)).getD 0 0 = fst1 G m from rfl, ih2 (fst1 G m) v.2 (c' + 1) b' fl pp w3 h5 (hsb v List.mem_cons_self)]
              simp only [ftl]
              cases hft : fto T L G k (fst1 G m) v.2 with
              | none =>
                simp only [rO, trO]
                exact ihk fu _ _ _ _ fl pp (by omega) (fun v hv => hsb v (List.mem_cons_of_mem _ hv)) h7
              | some z => rfl
          exact go (prt T L p) sr_fuel _ _ _ _ fl pp (by unfold sr_fuel; omega) hel a4
        · rw [if_neg z, nd0, trE, bad (fun w => z (ok.mp w))]
      rw [if_neg (show ¬ nI (srt (n_kd (G m))) = 7 from fun z => by have := (ns 7 (by decide)).mp z; rw [show (7 : Nat) = srt 7 from rfl] at this; exact q7 (srt_i _ o2 7 (by decide) this)), if_neg (show ¬ nI (srt (n_kd (G m))) = 8 from fun z => by have := (ns 8 (by decide)).mp z; rw [show (8 : Nat) = srt 11 from rfl] at this; have := srt_i _ o2 11 (by decide) this; omega)]
      by_cases q8 : n_kd (G m) = 8
      · rw [if_pos (show nI (srt (n_kd (G m))) = 9 by rw [q8]; rfl)]
        by_cases c34 : cb T L p = 34
        · obtain ⟨s0, y1, y2, y3, y4, y5, y6⟩ := hv.str c34
          obtain ⟨t1, t2, t3⟩ := (hR _ o3).2.2.2 o1
          have hwi := (t3 (by omega) o2).2.2.2.2.2.2.1 q8
          have hwd := hW m o3 o1 q8
          rw [if_pos (kk2.mpr c34), y4.1, r1, hwi]
          have ok : okd T L G m p ↔ s0.length = n_wd (G m) := by unfold okd; rw [if_neg q0, if_neg q1, if_neg q2, if_neg q3, if_neg q4, if_neg q5, if_neg q6, if_neg q7, if_pos q8, y2]; exact ⟨fun z => z.2, fun z => ⟨c34, z⟩⟩
          by_cases z : s0.length = n_wd (G m)
          · rw [if_pos (by rw [z]), nd1, trO, good (ok.mpr z) (by omega) (by omega) (by omega)]
          · rw [if_neg (fun w => z ((nI_eq (by omega) (by omega)).mp w)), nd0, trE, bad (fun w => z (ok.mp w))]
        · rw [if_neg (fun z => c34 (kk2.mp z)), nd0, trE, bad (fun w => by unfold okd at w; rw [if_neg q0, if_neg q1, if_neg q2, if_neg q3, if_neg q4, if_neg q5, if_neg q6, if_neg q7, if_pos q8] at w; exact c34 w.1)]
      rw [if_neg (show ¬ nI (srt (n_kd (G m))) = 9 from fun z => by have := (ns 9 (by decide)).mp z; rw [show (9 : Nat) = srt 8 from rfl] at this; exact q8 (srt_i _ o2 8 (by decide) this))]
      by_cases q9 : n_kd (G m) = 9
      · rw [if_pos (show nI (srt (n_kd (G m))) = 10 by rw [q9]; rfl)]
        by_cases c34 : cb T L p = 34
        · obtain ⟨s0, y1, y2, y3, y4, y5, y6⟩ := hv.str c34
          obtain ⟨t1, t2, t3⟩ := (hR _ o3).2.2.2 o1
          obtain ⟨e1, e2, e3, e4, e5, e6, e7, e8⟩ := t3 (by omega) o2
          obtain ⟨e9, e10⟩ := e8 q9
          rw [if_pos (kk2.mpr c34)]
          have hch : ICH kX (Kd (n_sg (G c))) (n_kl (G m)).length (fun j => (n_kl (G m)).getD j 0) kc := by rw [r1]; exact e4
          have hkl : (n_kl (G m)).length < 90000 := by
            have hmono : ∀ j, j < (n_kl (G m)).length → j ≤ (n_kl (G m)).getD j 0 := by
              intro j
              induction j with
              | zero => intro _; omega
              | succ j ihj =>
                intro hj
                have := ihj (by omega)
                have := e4.2.1 j (j + 1) (by omega) hj
                simp only at this
                omega
            by_cases z : (n_kl (G m)).length = 0
            · omega
            · have := hmono ((n_kl (G m)).length - 1) (by omega)
              have hx := (e4.1 ((n_kl (G m)).length - 1) (by omega)).1
              simp only at hx
              omega
          have ok : okd T L G m p ↔ s0 ∈ n_sy (G m) := by unfold okd; rw [if_neg q0, if_neg q1, if_neg q2, if_neg q3, if_neg q4, if_neg q5, if_neg q6, if_neg q7, if_neg q8, if_pos q9, y2]; exact ⟨fun z => z.2, fun z => ⟨c34, z⟩⟩
          rcases rsy_eq (N := N) (S := S) (Lt := Lt) hl sg140 hkc hch e10 (u := s0) (n := n) ⟨n, rfl, hb.2.2.1, y4, y6⟩ hb.2.2.1 hkl with ⟨⟨j, j1, j2⟩, j', j3, j4⟩ | ⟨j1, j2⟩
          · rw [j4]
            simp only [Option.bind_some]
            rw [if_neg (nI_pos (show j' < 2 ^ 31 by omega)), nd1, trO, good (ok.mpr (sy_mem.mp ⟨j, by omega, j2⟩)) (by omega) (by omega) (by omega)]
          · rw [j2]
            simp only [Option.bind_some]
            rw [if_pos (show (-1 : Int32) < 0 by decide), nd0, trE, bad (fun w => by
              obtain ⟨i', h1, h2⟩ := sy_mem.mpr (ok.mp w)
              exact j1 ⟨i', by omega, h2⟩)]
        · rw [if_neg (fun z => c34 (kk2.mp z)), nd0, trE, bad (fun w => by unfold okd at w; rw [if_neg q0, if_neg q1, if_neg q2, if_neg q3, if_neg q4, if_neg q5, if_neg q6, if_neg q7, if_neg q8, if_pos q9] at w; exact c34 w.1)]
      rw [if_neg (show ¬ nI (srt (n_kd (G m))) = 10 from fun z => by have := (ns 10 (by decide)).mp z; rw [show (10 : Nat) = srt 9 from rfl] at this; exact q9 (srt_i _ o2 9 (by decide) this))]
      have q10 : n_kd (G m) = 10 := by omega
      have ok : okd T L G m p ↔ K n = 0 := by unfold okd; rw [if_neg q0, if_neg q1, if_neg q2, if_neg q3, if_neg q4, if_neg q5, if_neg q6, if_neg q7, if_neg q8, if_neg q9, if_pos q10]; exact kk0.symm
      by_cases z : K n = 0
      rotate_left
      · rw [if_neg z, nd0, trE, bad (fun w => z (ok.mp w))]
      have c123 := kk0.mp z
      rw [if_pos z, nd1, trO, dec_t (ok.mpr z), bT, if_neg (fun w => w.elim q6 q7), if_pos q10]
      obtain ⟨ch1, ch2⟩ := kd0 (by omega) (by omega)
      obtain ⟨a1, a3, a4⟩ := hv.oc c123
      have hel := sv_el hsv (Or.inr c123)
      have hlen32 : (n_ch (G m)).length < 90000 := by
        have hmono : ∀ j, j < (n_ch (G m)).length → j ≤ (n_kl (G m)).getD j 0 := by
          intro j
          induction j with
          | zero => intro _; omega
          | succ j ihj =>
            intro hj
            have := ihj (by omega)
            have := ch1.2.1 j (j + 1) (by omega) hj
            simp only at this
            omega
        by_cases z : (n_ch (G m)).length = 0
        · omega
        · have := hmono ((n_ch (G m)).length - 1) (by omega)
          have hx := (ch1.1 ((n_ch (G m)).length - 1) (by omega)).1
          simp only at hx
          omega
      have go : ∀ (fuel j : Nat) (fl pp : Int32), j ≤ (n_ch (G m)).length → (n_ch (G m)).length - j < fuel → m_X9_fit_492 (m_X9_fit M) K F N S I X Lt So Wi Kd kS kN kX fuel fl pp (nI n) (nI p) (if j = (n_ch (G m)).length then -1 else nI ((n_kl (G m)).getD j 0)) = rO fl pp (ftr T L G (fto T L G k) p ((n_ch (G m)).drop j)) := by
        intro fuel
        induction fuel with
        | zero => intro j _ _ _ hf; exact absurd hf (Nat.not_lt_zero _)
        | succ fuel ihf =>
          intro j fl pp hj hfu
          simp only [m_X9_fit_492]
          by_cases ej : j = (n_ch (G m)).length
          · rw [if_pos ej, if_pos (show (-1 : Int32) < 0 by decide), ej, List.drop_length]
            rfl
          · have hjl : j < (n_ch (G m)).length := by omega
            obtain ⟨d1, d2⟩ := ch1.1 j hjl
            have d1 : (n_kl (G m)).getD j 0 < kc := d1
            obtain ⟨w1, w2, w3⟩ := ch2 j hjl
            obtain ⟨mm, m1, m2, m3, m4⟩ := w2 q10
            have edr : (n_ch (G m)).drop j = (n_ch (G m)).getD j 0 :: (n_ch (G m)).drop (j + 1) := by rw [ls_get hjl]; exact List.drop_eq_getElem_cons hjl
            rw [if_neg ej, if_neg (nI_pos (show (n_kl (G m)).getD j 0 < 2 ^ 31 by omega)), edr]
            simp only [bd_go (show (n_kl (G m)).getD j 0 < 2200 by omega) (by decide), bd_gc (show (n_kl (G m)).getD j 0 < 2200 by omega) (by decide), nI_clamp (show (n_kl (G m)).getD j 0 < 2 ^ 31 by omega), m1, m_X9_memberLike, bd_go (show n < 4200 by omega) (by decide), bd_gc (show n < 4200 by omega) (by decide), nI_clamp (show n < 2 ^ 31 by omega), m_X9_fit_522, w1, d2, ftr, mbr]
            rcases mlr_go hl m2 m3 m4 (prt T L p) sr_fuel _ _ _ _ (by unfold sr_fuel; omega) a4 with ⟨g1, g2⟩ | ⟨kk, c', b', g1, g2, g3⟩
            · rw [g1, g2]
              simp only [Option.bind_some, if_pos (show (-1 : Int32) < 0 by decide)]
              rw [nd0, trE]
              rfl
            · rw [g1, g2]
              have hgb := g3.base
              simp only [Option.bind_some, if_neg (nI_pos (show c' < 2 ^ 31 by omega))]
              rw [nd1, trO, ih2 ((n_ch (G m)).getD j 0) kk.2 c' b' fl pp w3 g3 (hel kk (tf_mem _ g1))]
              simp only [Option.map_some]
              cases hft : fto T L G k ((n_ch (G m)).getD j 0) kk.2 with
              | none =>
                simp only [rO, trO]
                exact ihf (j + 1) fl pp (by omega) (by omega)
              | some z => rfl
      have := go sr_fuel 0 fl pp (by omega) (by unfold sr_fuel; omega)
      rw [← ch1.ptr, List.drop_zero] at this
      exact this
    obtain ⟨M, rfl⟩ : ∃ z, M = z + 1 := ⟨M - 1, by omega⟩
    obtain ⟨o1, o2, o3, o4, o5⟩ := hO s hs
    by_cases q11 : n_kd (G (n_me (G s))) = 11
    · obtain ⟨r1, r2, r3, r4⟩ := nrm s hs
      obtain ⟨ch1, ch2⟩ := kids s hs (by omega) (by omega)
      obtain ⟨b1, b2⟩ := ((hO _ o3).2.2.2.2 o1).2.1 q11
      obtain ⟨w1, w2, w3⟩ := ch2 0 b1
      have hk0 := (ch1.1 0 b1).1
      have hk0 : (n_kl (G (n_me (G s)))).getD 0 0 < kc := hk0
      have hKd : Kd (n_sg (G s)) = nI ((n_kl (G (n_me (G s)))).getD 0 0) := by rw [ch1.2.2, if_neg (by omega)]
      have sg140 : n_sg (G s) < 140 := by omega
      have hs8 : nI (srt (n_kd (G (n_me (G s))))) = 8 := by rw [q11]; rfl
      simp only [m_X9_fit, bd_go (show n < 4200 by omega) (by decide), bd_gc (show n < 4200 by omega) (by decide), nI_clamp (show n < 2 ^ 31 by omega), bd_go sg140 (by decide), bd_gc sg140 (by decide), nI_clamp (show n_sg (G s) < 2 ^ 31 by omega), r4, hs8, hKd, bd_go (show (n_kl (G (n_me (G s)))).getD 0 0 < 2200 by omega) (by decide), bd_gc (show (n_kl (G (n_me (G s)))).getD 0 0 < 2200 by omega) (by decide), nI_clamp (show (n_kl (G (n_me (G s)))).getD 0 0 < 2 ^ 31 by omega), w1, if_neg (show ¬ (8 : Int32) = 0 by decide), if_neg (show ¬ (8 : Int32) = 1 by decide), if_neg (show ¬ (8 : Int32) = 2 by decide), if_neg (show ¬ (8 : Int32) = 3 by decide), if_neg (show ¬ (8 : Int32) = 4 by decide), if_neg (show ¬ (8 : Int32) = 5 by decide), if_neg (show ¬ (8 : Int32) = 6 by decide), if_neg (show ¬ (8 : Int32) = 7 by decide), if_true]
      rw [show (n_ch (G (n_me (G s)))).getD 0 0 = fst1 G (n_me (G s)) from rfl, body M (fst1 G (n_me (G s))) fl pp (by omega) w3 (b2 _ (ch_mem b1))]
      simp only [fto, if_pos q11]
      cases ftb T L G (fto T L G k) (n_me (G (fst1 G (n_me (G s))))) p with
      | none => rfl
      | some z => rfl
    · rw [body (M + 1) s fl pp (by omega) hs (by omega)]
      simp only [fto, if_neg q11]
end RFIT
end
section
-- the telling hangs on the bytes below the length alone
section CONG
variable {B T : Nat → Int32} {L : Nat}
theorem cg_sbl (h : cb B L = cb T L) : sbl B L = sbl T L := by
  have go : ∀ n a, sblf B L n a = sblf T L n a := by
    intro n
    induction n with
    | zero => intro a; rfl
    | succ n ih => intro a; simp only [sblf, h, ih]
  exact funext (fun a => go _ a)
theorem cg_shex (h : cb B L = cb T L) : ∀ a n j v, shex B L a n j v = shex T L a n j v := by
  intro a n
  induction n with
  | zero => intro j v; rfl
  | succ n ih => intro j v; simp only [shex, h, ih]
theorem cg_sesc (h : cb B L = cb T L) : sesc B L = sesc T L := funext (fun a => by simp only [sesc, h, cg_shex h])
theorem cg_elen (h : cb B L = cb T L) : elen B L = elen T L := funext (fun a => by simp only [elen, h])
theorem cg_sstr (h : cb B L = cb T L) : sstr B L = sstr T L := by
  have go : ∀ n q, sstrf B L n q = sstrf T L n q := by
    intro n
    induction n with
    | zero => intro q; rfl
    | succ n ih => intro q; simp only [sstrf, h, ih, cg_sesc h, cg_elen h]
  exact funext (fun q => go _ q)
theorem cg_swd (h : cb B L = cb T L) : ∀ l p, swd B L l p = swd T L l p := by
  intro l
  induction l with
  | nil => intro p; rfl
  | cons c t ih => intro p; simp only [swd, h, ih]
theorem cg_sdg (h : cb B L = cb T L) : sdg B L = sdg T L := by
  have go : ∀ n a, sdgf B L n a = sdgf T L n a := by
    intro n
    induction n with
    | zero => intro a; rfl
    | succ n ih => intro a; simp only [sdgf, h, ih]
  exact funext (fun a => go _ a)
theorem cg_swl (h : cb B L = cb T L) : ∀ last n q v, swl B L last n q v = swl T L last n q v := by
  intro last n
  induction n with
  | zero => intro q v; rfl
  | succ n ih => intro q v; simp only [swl, h, ih]
theorem cg_snum (h : cb B L = cb T L) : snum B L = snum T L := funext (fun a => by simp only [snum, h, cg_sdg h, cg_swl h])
theorem cg_swv (h : cb B L = cb T L) : ∀ n q v, swv B L n q v = swv T L n q v := by
  intro n
  induction n with
  | zero => intro q v; rfl
  | succ n ih => intro q v; simp only [swv, h, ih]
theorem cg_snv (h : cb B L = cb T L) : snv B L = snv T L := funext (fun a => by simp only [snv, h, cg_sdg h, cg_swv h])
theorem cg_skey (h : cb B L = cb T L) : skey B L = skey T L := funext (fun a => funext (fun s => by simp only [skey, h, cg_sstr h, cg_sbl h]))
theorem cg_sgrp (h : cb B L = cb T L) (fv : Nat → Nat ⊕ Nat) (obj : Bool) (cl : Nat) : ∀ n part seen, sgrp fv B L obj cl n part seen = sgrp fv T L obj cl n part seen := by
  intro n
  induction n with
  | zero => intro part seen; rfl
  | succ n ih => intro part seen; simp only [sgrp, h, cg_sbl h, cg_skey h, ih]
theorem cg_sval (h : cb B L = cb T L) : ∀ d, sval B L d = sval T L d := by
  intro d
  induction d with
  | zero => exact funext (fun p => rfl)
  | succ d ih => exact funext (fun p => by simp only [sval, h, cg_sbl h, cg_sstr h, cg_swd h, cg_snum h, cg_sgrp h, ih])
theorem cg_GK (h : cb B L = cb T L) : ∀ d p l, GK B L d p l = GK T L d p l := fun d p l => by simp only [GK, h, cg_sbl h, cg_sgrp h, cg_sval h]
theorem cg_RKey (h : cb B L = cb T L) {K F S Lt : Nat → Int32} {N : Nat → Int64} {l : Nat} : RKey B L K F N S Lt l = RKey T L K F N S Lt l := funext (fun c => funext (fun p => by simp only [RKey, cg_sstr h]))
theorem cg_RT (h : cb B L = cb T L) {K F S I X Lt : Nat → Int32} {N : Nat → Int64} {l : Nat} : ∀ d, RT B L K F N S I X Lt l d = RT T L K F N S I X Lt l d := by
  intro d
  induction d with
  | zero => exact funext (fun n => funext (fun m => funext (fun p => rfl)))
  | succ d ih => exact funext (fun n => funext (fun m => funext (fun p => by simp only [RT, h, cg_sstr h, cg_GK h, cg_snv h, cg_RKey h, ih])))
end CONG
end
section
-- the whole text
def st0 : LSt := (0, 6, 0, [], (fun _ => none), [], (fun _ => mkN 12 0 0 0 [] []))
section RDS
variable (T : Nat → Int32) (L : Nat)
noncomputable def fdf (G : Nat → Nod) : List (Nat × Nat × Option Nat) → Option Nat
  | [] => none
  | x :: t => match x.2.2 with
    | none => fdf G t
    | some p => match fto T L G 25 x.2.1 p with
      | some z => some z
      | none => fdf G t
noncomputable def fdd (G : Nat → Nod) : List (Nat × Nat) → Option Nat
  | [] => none
  | x :: t => match fto T L G 25 x.1 x.2 with
    | some z => some z
    | none => fdd G t
noncomputable def rdS : (Nat × Nat) ⊕ LSt := match sread T L with
  | .inl w => .inl (1, w)
  | .inr p => match look T L 16 p false st0 with
    | .inl e => .inl e
    | .inr st => match fdf T L st.2.2.2.2.2.2 st.2.2.2.2.2.1 with
      | some z => .inl (12, z)
      | none => .inr st
end RDS
theorem fdd_eq {T : Nat → Int32} {L : Nat} {G : Nat → Nod} : ∀ fi : List (Nat × Nat × Option Nat), fdd T L G (dul fi) = fdf T L G fi := by
  intro fi
  induction fi with
  | nil => rfl
  | cons x t ih =>
    obtain ⟨a, b, o⟩ := x
    cases o with
    | none =>
      simp only [fdf]
      rw [← ih]
      rfl
    | some p =>
      simp only [fdf]
      rw [← ih, show dul ((a, b, some p) :: t) = (b, p) :: dul t from rfl]
      rfl
theorem dul_mem {fi : List (Nat × Nat × Option Nat)} {x : Nat × Nat} (h : x ∈ dul fi) : ∃ a, (a, x.1, some x.2) ∈ fi := by
  unfold dul at h
  obtain ⟨y, h1, h2⟩ := List.mem_filterMap.mp h
  obtain ⟨a, b, o⟩ := y
  cases o with
  | none => cases h2
  | some p =>
    cases h2
    exact ⟨a, h1⟩
section RDC
variable {T : Nat → Int32} {L : Nat} {Sd In Nx Am K F S I X Lt : Nat → Int32} {N : Nat → Int64} {l : Nat}
theorem VV.sv {n p q : Nat} (h : VV T L Sd In Nx Am K F N S I X Lt l n p q) : ∃ q', sval T L 25 p = .inr q' := by
  obtain ⟨d, m, h1, _, _, _, _, h25⟩ := h
  have := sval_mono h1 (25 - d)
  rw [show d + (25 - d) = 25 by omega] at this
  exact ⟨q, this⟩
theorem wf0 : WFs st0 := ⟨fun w d h => (by cases h), Nat.le_refl _⟩
theorem ci0 {Pl Ki Me Fi Ne Na Fn Ac Cf Cs : Nat → Int32} : CI Pl Ki Me Fi Ne Na Fn Ac (nI 0) (nI 0) Cf Cs (nI 0) st0 := ⟨rfl, by decide, rfl, by show 0 ≤ 4096; omega, fun i hi => absurd hi (Nat.not_lt_zero _), ⟨fun i hi => absurd hi (Nat.not_lt_zero _), fun w i h => (by cases h)⟩, fun i hi => absurd hi (Nat.not_lt_zero _), rfl, fun j hj => absurd hj (Nat.not_lt_zero _)⟩
theorem ri0 {So Nm Wi Kd kS kN kD kX Fi : Nat → Int32} (hS : ∀ t, t < 6 → So t = nI t) : RI T L Sd In Nx Am K F N S I X Lt l So Nm Wi Kd (nI 6) (nI 0) (nI 0) kS kN kD kX (nI 0) Fi st0 := ⟨rfl, Nat.le_refl _, Nat.le_refl _, rfl, by omega, rfl, by omega, rfl, by show 0 ≤ 2200; omega, hS, ⟨fun t h1 h2 => absurd h2 (by omega), fun w i h => (by cases h)⟩, fun i hi => absurd hi (Nat.not_lt_zero _), ⟨fun i j hi => absurd hi (Nat.not_lt_zero _), fun i j a hi => absurd hi (Nat.not_lt_zero _)⟩, fun j hj => absurd hj (Nat.not_lt_zero _)⟩
theorem chk_go (hL : L ≤ 4096) {Pl Ki Me Fi Ne Fn Ac Cf Cs : Nat → Int32} {pl : List Nat} {k0 : Nat} {G : Nat → Nod} {fi : List (Nat × Nat × Option Nat)} (hP : PLI Pl pl) (hpl : pl.length ≤ 4096) (h0 : k0 ≤ 128) (hC : LCs Ki Me Fi Ne Fn Ac pl k0 G) (hO : ∀ i, i < k0 → OKS G k0 i) (hD : DUI Cf Cs fi) (hn : (dul fi).length ≤ 128) (hV : ∀ x, x ∈ dul fi → x.1 < k0 ∧ ∃ n q, VV T L Sd In Nx Am K F N S I X Lt l n x.2 q) (lf lp : Int32) : ∀ (fuel j : Nat), j ≤ (dul fi).length → (dul fi).length - j < fuel → m_X4_checkDefaults_18 T Sd In Nx Am (nI L) Pl Ki Me Fi Ne Fn Ac (nI pl.length) Cf Cs (nI (dul fi).length) fuel lf lp (nI j) = some (match fdd T L G ((dul fi).drop j) with | none => (lf, lp) | some z => (12, nI z)) := by
  intro fuel
  induction fuel with
  | zero => intro j _ hf; exact absurd hf (Nat.not_lt_zero _)
  | succ fuel ih =>
    intro j hj hf
    simp only [m_X4_checkDefaults_18, m_X11_count, Option.bind_some, nI_1]
    by_cases e : j = (dul fi).length
    · rw [if_pos (nI_le (show (dul fi).length ≤ j by omega) (by omega)), e, List.drop_length]
      rfl
    · have hjl : j < (dul fi).length := by omega
      obtain ⟨d1, d2⟩ := hD j hjl
      have eg : (dul fi).getD j (0, 0) = (dul fi)[j] := by simp only [List.getD, List.getElem?_eq_getElem hjl, Option.getD_some]
      rw [eg] at d1 d2
      obtain ⟨v1, n, q, v2⟩ := hV _ (List.getElem_mem hjl)
      obtain ⟨c1, c2⟩ := c_fit hL hP hpl h0 hC hO 25 27 0 (by decide) (by decide) (dul fi)[j].1 (dul fi)[j].2 n q v1 v2
      rw [nI_0] at c1
      rw [if_neg (nI_ge hjl (by omega)), List.drop_eq_getElem_cons hjl]
      simp only [m_X11_first, m_X11_second, ent_eq (n := 128) (by decide) (show j < 128 by omega), d1, d2, Option.bind_some, c1, fdd, m_X4_refuse]
      cases hft : fto T L G 25 (dul fi)[j].1 (dul fi)[j].2 with
      | none =>
        simp only [oI, if_true]
        exact ih (j + 1) (by omega) (by omega)
      | some z =>
        have hz := c2 z hft
        dsimp only
        rw [show oI (some z) = nI z from rfl, if_neg (nI_m1 (show z < 2 ^ 31 by omega))]
/-- what looking at the whole leaves to be used, on both sides -/
theorem fi_vv {So Nm Wi Kd kS kN kD kX Fi : Nat → Int32} {shI lkI kcI dnI : Int32} {st : LSt} (hI : RI T L Sd In Nx Am K F N S I X Lt l So Nm Wi Kd shI lkI kcI kS kN kD kX dnI Fi st) : ∀ x, x ∈ dul st.2.2.2.2.2.1 → x.1 < st.1 ∧ ∃ n q, VV T L Sd In Nx Am K F N S I X Lt l n x.2 q := by
  obtain ⟨k, sh, kc, pl, D, fi, G⟩ := st
  obtain ⟨i1, i2, i3, i4, i5, i6, i7, i8, i9, i10, i11, i12, i13, i14⟩ := hI
  intro x hx
  obtain ⟨a, ha⟩ := dul_mem hx
  obtain ⟨j, hj, e⟩ := List.getElem_of_mem ha
  have eg : fi.getD j (0, 0, none) = (a, x.1, some x.2) := by simp only [List.getD, List.getElem?_eq_getElem hj, Option.getD_some]; exact e
  obtain ⟨f1, f2, ⟨s, i, b1, b2, b3, b4, b5, b6, b7⟩, f4⟩ := i14 j hj
  rw [eg] at b7 f4
  obtain ⟨n', q', _, hv⟩ := f4
  refine ⟨?_, n', q', hv⟩
  have := (((i12 s b1).2.2.2 b2).2.1 _ (ch_mem b4)).1
  rw [b7] at this
  exact this
end RDC
end
section
-- the whole text, in both programs
section RDR
variable {B : Nat → Int32} {L : Nat}
theorem rda_unf (hB : BY B L) (hL : L ≤ 4096) {e0 shI lkI kcI dnI rt : Int32} {K F S I X Lt So Nm Wi Kd Ma Fa kS kN kD kX Fi : Nat → Int32} {N : Nat → Int64} {r : Except TR (Unit × TR)} (h : m_X9_readAll B (nI L) (nI 0) (nI 0) 0 (-1) e0 (nI 0) K F N S I X Lt (nI 0) shI lkI So Nm Wi Kd Ma Fa kcI kS kN kD kX dnI Fi rt = some r) :
    (∃ w u, sread B L = .inl w ∧ r = .error u ∧ fpR u = (1, nI w)) ∨ (∃ (p n' l' b : Nat) (K' F' : Nat → Int32) (N' : Nat → Int64) (S' I' X' Lt' : Nat → Int32), sread B L = .inr p ∧ l' ≤ 4200 ∧ n' ≤ 4200 ∧ RT B L K' F' N' S' I' X' Lt' l' 25 0 n' p ∧ sval B L 25 p = .inr b ∧ ¬ (48 ≤ cb B L b ∧ cb B L b ≤ 57) ∧ m_X9_readAll_38 B (nI L) (nI L) (nI 0) 0 (-1) (nI b) (nI n') K' F' N' S' I' X' Lt' (nI l') shI lkI So Nm Wi Kd Ma Fa kcI kS kN kD kX dnI Fi rt (nI 0) 1 = some r) := by
  have hb0 := sbl_le2 (B := B) (L := L) (a := 0) (Nat.zero_le _)
  unfold m_X9_readAll at h
  rw [blk_r hB hL (Nat.zero_le _)] at h
  simp only [Option.bind_some] at h
  have hv := valx hB hL 27 0 (by decide) (sbl B L 0) 0 0 K F N S I X Lt 0 (-1) hb0 (Nat.zero_le _) (Nat.zero_le _)
  cases hx : m_X9_value 27 B (nI L) (nI (sbl B L 0)) (nI 0) 0 (-1) (nI 0) K F N S I X Lt (nI 0) with
  | none => rw [hx, trN] at h; cases h
  | some x =>
    cases x with
    | error u =>
      rw [hx, trE] at h
      obtain ⟨w, w1, w2⟩ := (hv _ hx).1 u rfl
      obtain ⟨u1, u2, u3, u4, u5, u6, u7, u8, u9, u10, u11, u12, u13⟩ := u
      refine Or.inl ⟨w, _, ?_, (Option.some.inj h).symm, w2⟩
      unfold sread
      rw [show sval B L 25 (sbl B L 0) = .inl w from w1]
    | ok vu =>
      obtain ⟨v, u⟩ := vu
      rw [hx, trO] at h
      obtain ⟨b, n', l', K', F', N', S', I', X', Lt', w1, w2, w3, w4, w5, w6, w7, w8, w9, w10, w11⟩ := (hv _ hx).2 v u rfl
      have w1 : sval B L 25 (sbl B L 0) = .inr b := w1
      have hsp := sval_p _ _ _ w1
      subst w2
      subst w3
      dsimp only at h
      have hb2 := sbl_le2 (B := B) (L := L) (a := b) hsp.2
      have hb3 := sbl_le (B := B) (L := L) (a := b)
      rw [blk_r hB hL hsp.2] at h
      simp only [Option.bind_some] at h
      by_cases c : sbl B L b = L
      · rw [if_pos (by rw [c]), c] at h
        refine Or.inr ⟨sbl B L 0, n', l', b, K', F', N', S', I', X', Lt', ?_, by omega, by omega, w11, w1, fun hd => ?_, h⟩
        · unfold sread
          rw [w1]
          dsimp only
          rw [if_neg (by omega)]
        · rw [sbl_s, if_neg (by omega)] at c
          rw [c, cb_end (Nat.le_refl _)] at hd
          omega
      · rw [if_neg (fun z => c ((nI_eq (by omega) (by omega)).mp z))] at h
        unfold m_X9_readAll_38 at h
        rw [nd0, trE] at h
        refine Or.inl ⟨sbl B L b, _, ?_, (Option.some.inj h).symm, rfl⟩
        unfold sread
        rw [w1]
        dsimp only
        rw [if_pos (by omega)]
theorem cg_sread {T : Nat → Int32} (h : cb B L = cb T L) : sread B L = sread T L := by
  unfold sread
  rw [cg_sval h, cg_sbl h]
/-- the class's rows of a good text, from any rows -/
theorem tre_ex {T : Nat → Int32} (hL : L ≤ 4096) {p : Nat} (h : sread T L = .inr p) : ∃ Sd In Nx Am, TRE T L Sd In Nx Am 25 p := by
  rcases read_eq (T := T) hL (fun _ => 0) (fun _ => 0) (fun _ => 0) (fun _ => 0) 0 (fun _ => 0) (fun _ => 0) (fun _ => 0) (fun _ => 0) 0 with ⟨w, u, h1, _⟩ | ⟨p', u, h1, _, _, h2⟩
  · rw [h] at h1; cases h1
  · rw [h] at h1
    cases h1
    exact ⟨_, _, _, _, h2⟩
end RDR
section RDX
variable {T : Nat → Int32} {L : Nat} {Sd In Nx Am K F S I X Lt : Nat → Int32} {N : Nat → Int64} {l : Nat}
theorem rda_59 (hL : L ≤ 4096) (hl : l ≤ 4200) {B So Nm Wi Kd Ma Fa kS kN kD kX Fi : Nat → Int32} {k0 sh kc : Nat} {pl : List Nat} {D : List Nat → Option Nat} {fi : List (Nat × Nat × Option Nat)} {G : Nat → Nod} (hI : RI T L Sd In Nx Am K F N S I X Lt l So Nm Wi Kd (nI sh) (nI k0) (nI kc) kS kN kD kX (nI fi.length) Fi (k0, sh, kc, pl, D, fi, G)) (hO : ∀ i, i < k0 → OKS G k0 i) (hW : ∀ i, i < k0 → n_me (G i) = i → n_kd (G i) = 8 → n_wd (G i) ≤ 64) {a1 a2 a5 a6 a14 rt : Int32} : ∀ (fuel j : Nat) (fl pp : Int32), j ≤ fi.length → fi.length - j < fuel →
    (∃ u, fdf T L G (fi.drop j) = none ∧ m_X9_readAll_59 B (nI L) fuel a1 a2 fl pp a5 a6 K F N S I X Lt a14 (nI sh) (nI k0) So Nm Wi Kd Ma Fa (nI kc) kS kN kD kX (nI fi.length) Fi rt (nI j) = some (.ok ((), u))) ∨ (∃ z u, fdf T L G (fi.drop j) = some z ∧ m_X9_readAll_59 B (nI L) fuel a1 a2 fl pp a5 a6 K F N S I X Lt a14 (nI sh) (nI k0) So Nm Wi Kd Ma Fa (nI kc) kS kN kD kX (nI fi.length) Fi rt (nI j) = some (.error u) ∧ fpR u = (12, nI z)) := by
  obtain ⟨i1, i2, i3, i4, i5, i6, i7, i8, i9, i10, i11, i12, i13, i14⟩ := hI
  intro fuel
  induction fuel with
  | zero => intro j fl pp _ hf; exact absurd hf (Nat.not_lt_zero _)
  | succ fuel ih =>
    intro j fl pp hj hf
    simp only [m_X9_readAll_59, nI_1]
    by_cases e : j = fi.length
    · rw [if_pos (nI_le (show fi.length ≤ j by omega) (by omega)), e, List.drop_length]
      exact Or.inl ⟨_, rfl, rfl⟩
    · have hjl : j < fi.length := by omega
      obtain ⟨f1, f2, ⟨s, i, b1, b2, b3, b4, b5, b6, b7⟩, f4⟩ := i14 j hjl
      have eg : fi.getD j (0, 0, none) = fi[j] := by simp only [List.getD, List.getElem?_eq_getElem hjl, Option.getD_some]
      rw [eg] at f1 f2 b6 b7 f4
      rw [if_neg (nI_ge hjl (by omega)), List.drop_eq_getElem_cons hjl]
      simp only [bd_go (show j < 2200 by omega) (by decide), bd_gc (show j < 2200 by omega) (by decide), nI_clamp (show j < 2 ^ 31 by omega), f1, bd_go (show (fi[j]).1 < 2200 by omega) (by decide), bd_gc (show (fi[j]).1 < 2200 by omega) (by decide), nI_clamp (show (fi[j]).1 < 2 ^ 31 by omega), fdf]
      obtain ⟨t1, t2, t3⟩ := (i12 s b1).2.2.2 b2
      obtain ⟨c1, c2, c3, c4, c5, c6, c7, c8⟩ := t3 (by omega) (by omega)
      have hks := (c6 i b4).1
      have hcc := (t2 _ (ch_mem b4)).1
      rw [b7] at hks hcc
      rw [b6] at hks
      cases ho : (fi[j]).2.2 with
      | none =>
        rw [ho] at f4
        have f4 : kD (fi[j]).1 = -1 := f4
        rw [f4, if_pos (show (-1 : Int32) < 0 by decide)]
        exact ih (j + 1) fl pp (by omega) (by omega)
      | some p =>
        rw [ho] at f4
        obtain ⟨n, q, g1, g2⟩ := f4
        have hgb := g2.base
        have hfit := r_fit hl i5 (show sh ≤ 140 by omega) i2 i7 i10 i12 hO hW hL 25 60 (by decide) (fi[j]).2.1 p n q fl pp hcc g2 g2.sv
        rw [g1, if_neg (nI_pos (show n < 2 ^ 31 by omega)), hks, hfit]
        dsimp only
        cases hft : fto T L G 25 (fi[j]).2.1 p with
        | none =>
          simp only [rO, trO]
          exact ih (j + 1) fl pp (by omega) (by omega)
        | some z =>
          simp only [rO, trE]
          exact Or.inr ⟨z, _, rfl, rfl, rfl⟩
theorem VV.mk {B : Nat → Int32} (h : cb B L = cb T L) {p n' b : Nat} (hT : TRE T L Sd In Nx Am 25 p) (hR : RT B L K F N S I X Lt l 25 0 n' p) (hs : sval B L 25 p = .inr b) (hn : n' ≤ 4200) (hd : ¬ (48 ≤ cb B L b ∧ cb B L b ≤ 57)) : VV T L Sd In Nx Am K F N S I X Lt l 0 p b := by
  rw [cg_RT h] at hR
  rw [cg_sval h] at hs
  rw [h] at hd
  exact ⟨25, n', hs, hT, hR, hn, hd, Nat.le_refl _⟩
end RDX
end
section
-- both programs read a text alike
section RDB
variable {T B : Nat → Int32} {L : Nat}
/-- what a look at the whole gives, on both sides -/
theorem wd_of {Ki Me Fi Ne Fn Ac : Nat → Int32} {pl : List Nat} {k : Nat} {G : Nat → Nod} (h : LCs Ki Me Fi Ne Fn Ac pl k G) : ∀ i, i < k → n_me (G i) = i → n_kd (G i) = 8 → n_wd (G i) ≤ 64 := fun i hi hm hk => (((h i hi).2.2.2 hm).2.2.1 hk).2
theorem rd_ref (hB : BY B L) (hL : L ≤ 4096) (hcb : cb B L = cb T L) {e0 rt : Int32} {K F S I X Lt So Nm Wi Kd Ma Fa kS kN kD kX Fi : Nat → Int32} {N : Nat → Int64} {r : Except TR (Unit × TR)} (hS : ∀ t, t < 6 → So t = nI t) (h : m_X9_readAll B (nI L) (nI 0) (nI 0) 0 (-1) e0 (nI 0) K F N S I X Lt (nI 0) (nI 6) (nI 0) So Nm Wi Kd Ma Fa (nI 0) kS kN kD kX (nI 0) Fi rt = some r) :
    (∃ e u, rdS T L = .inl e ∧ r = .error u ∧ fpR u = (nI e.1, nI e.2)) ∨ (∃ st u, rdS T L = .inr st ∧ r = .ok ((), u)) := by
  rcases rda_unf hB hL h with ⟨w, u, h1, h2, h3⟩ | ⟨p, n', l', b, K', F', N', S', I', X', Lt', h1, h2, h3, h4, h5, h6, h7⟩
  · rw [cg_sread hcb] at h1
    refine Or.inl ⟨(1, w), u, ?_, h2, h3⟩
    unfold rdS
    rw [h1]
  · rw [cg_sread hcb] at h1
    obtain ⟨Sd, In, Nx, Am, hT⟩ := tre_ex hL h1
    have hV := VV.mk hcb hT h4 h5 h3 h6
    have hVb := hV.base
    have hr := r_look (T := T) (Sd := Sd) (In := In) (Nx := Nx) (Am := Am) (K := K') (F := F') (N := N') (S := S') (I := I') (X := X') (Lt := Lt') hL h2 16 18 0 rfl (by decide) 0 (-1) So Nm Wi Kd Ma Fa kS kN kD kX Fi _ _ _ _ p false st0 0 b (ri0 hS) wf0 hV
    have hc := c_look (T := T) (Sd := Sd) (In := In) (Nx := Nx) (Am := Am) (K := K') (F := F') (N := N') (S := S') (I := I') (X := X') (Lt := Lt') hL h2 16 18 0 rfl (by decide) 0 (-1) (fun _ => 0) (fun _ => 0) (fun _ => 0) (fun _ => 0) (fun _ => 0) (fun _ => 0) (fun _ => 0) (fun _ => 0) (fun _ => 0) (fun _ => 0) _ _ (fun _ => 0) (fun _ => 0) _ p false st0 0 b ci0 wf0 hV (by show 0 + (b - p) ≤ 4096; omega)
    rw [bF] at hr
    unfold m_X9_readAll_38 at h7
    rw [nd1, trO] at h7
    simp only [nI_0] at h7 hr
    unfold rdS
    rw [h1]
    dsimp only
    cases hlk : look T L 16 p false st0 with
    | inl e =>
      rw [hlk] at hr
      rcases hr with hu | ⟨u, hu⟩
      · rw [hu, trN] at h7; cases h7
      · rw [hu, trE] at h7
        obtain ⟨u1, u2, u3, u4, u5, u6, u7, u8, u9, u10, u11, u12, u13, u14, u15⟩ := u
        exact Or.inl ⟨e, _, rfl, (Option.some.inj h7).symm, rfl⟩
    | inr st =>
      have hO := look_f (T := T) (Sd := Sd) (In := In) (Nx := Nx) (Am := Am) (K := K') (F := F') (N := N') (S := S') (I := I') (X := X') (Lt := Lt') hL h2 16 p false st0 st 0 b hV wf0 hlk
      rw [hlk] at hr hc
      rcases hr with hu | ⟨v, u, hu, hP⟩
      · rw [hu, trN] at h7; cases h7
      rw [hu, trO] at h7
      obtain ⟨k1, sh1, kc1, pl1, D1, fi1, G1⟩ := st
      obtain ⟨fl1, pp1, shI, lkI, So1, Nm1, Wi1, Kd1, Ma1, Fa1, kcI, kS1, kN1, kD1, kX1, dnI, Fi1⟩ := u
      obtain ⟨hI2, _, _⟩ := hP
      obtain ⟨j1, j2, j3, j4, j5, j6, j7, j8, j9, j10, j11, j12, j13, j14⟩ := hI2
      subst j1
      subst j4
      subst j6
      subst j8
      obtain ⟨Pl2, Ki2, Me2, Fi2, Ne2, Na2, Fn2, Ac2, Fd2, Ed2, lc2, sc2, Cf2, Cs2, cc2, _, hI3⟩ := hc
      have hW := wd_of hI3.2.2.2.2.2.2.1
      have h59 := rda_59 hL h2 (B := B) (Ma := Ma1) (Fa := Fa1) (a1 := nI L) (a2 := 0) (a5 := nI b) (a6 := nI n') (a14 := nI l') (rt := v) (So := So1) (Nm := Nm1) (Wi := Wi1) (Kd := Kd1) (kS := kS1) (kN := kN1) (kD := kD1) (kX := kX1) (Fi := Fi1) (pl := pl1) (D := D1) (show RI T L Sd In Nx Am K' F' N' S' I' X' Lt' l' So1 Nm1 Wi1 Kd1 (nI sh1) (nI k1) (nI kc1) kS1 kN1 kD1 kX1 (nI fi1.length) Fi1 (k1, sh1, kc1, pl1, D1, fi1, G1) from ⟨rfl, j2, j3, rfl, j5, rfl, j7, rfl, j9, j10, j11, j12, j13, j14⟩) (fun i hi => hO i (Nat.zero_le _) hi) hW sr_fuel 0 fl1 pp1 (Nat.zero_le _) (by unfold sr_fuel; omega)
      rw [nI_0, List.drop_zero] at h59
      dsimp only at h7 ⊢
      rcases h59 with ⟨u, d1, d2⟩ | ⟨z, u, d1, d2, d3⟩
      · rw [d2] at h7
        rw [d1]
        exact Or.inr ⟨_, _, rfl, (Option.some.inj h7).symm⟩
      · rw [d2] at h7
        rw [d1]
        exact Or.inl ⟨(12, z), _, rfl, (Option.some.inj h7).symm, d3⟩
theorem ref_run (hT : BY T L) (hL : L ≤ 4096) {p : Nat} (hs : sread T L = .inr p) : ∃ (n' l' b : Nat) (K F : Nat → Int32) (N : Nat → Int64) (S I X Lt So Nm Wi Kd Ma Fa kS kN kD kX Fi : Nat → Int32), l' ≤ 4200 ∧ n' ≤ 4200 ∧ RT T L K F N S I X Lt l' 25 0 n' p ∧ sval T L 25 p = .inr b ∧ ¬ (48 ≤ cb T L b ∧ cb T L b ≤ 57) ∧ (∀ t, t < 6 → So t = nI t) ∧ ∃ y, m_X9_schemaOf 18 0 (-1) K F N S I X Lt (nI 6) 0 So Nm Wi Kd Ma Fa 0 kS kN kD kX 0 Fi 0 0 0 = some y := by
  have hex : ∃ r, m_X9_readAll T (nI L) (nI 0) (nI 0) 0 (-1) 0 (nI 0) (fun _ => 0) (fun _ => 0) (fun _ => 0) (fun _ => 0) (fun _ => 0) (fun _ => 0) (fun _ => 0) (nI 0) (nI 6) (nI 0) (ov 6 (fun s => nI s) (fun _ => 0)) (ov 6 (fun _ => -1) (fun _ => 0)) (fun _ => 0) (ov 6 (fun _ => -1) (fun _ => 0)) (fun _ => 0) (fun _ => 0) (nI 0) (fun _ => 0) (fun _ => 0) (fun _ => 0) (fun _ => 0) (nI 0) (fun _ => 0) 0 = some r := by
    rcases readAll_ok T hL (fun _ => 0) (fun _ => 0) with ⟨v, u, _, hg⟩ | ⟨c, _, hg⟩
    · have this : m_X9_readAll (ov L T T) (nI L) (nI 0) (nI 0) 0 (-1) 0 (nI 0) (fun _ => 0) (fun _ => 0) (fun _ => 0) (fun _ => 0) (fun _ => 0) (fun _ => 0) (fun _ => 0) (nI 0) (nI 6) (nI 0) (ov 6 (fun s => nI s) (fun _ => 0)) (ov 6 (fun _ => -1) (fun _ => 0)) (fun _ => 0) (ov 6 (fun _ => -1) (fun _ => 0)) (fun _ => 0) (fun _ => 0) (nI 0) (fun _ => 0) (fun _ => 0) (fun _ => 0) (fun _ => 0) (nI 0) (fun _ => 0) 0 = some (.ok (v, u (fun j => match j with | 6 => T | _ => fun _ => 0, fun _ => 0))) := hg (fun j => match j with | 6 => T | _ => fun _ => 0, fun _ => 0)
      rw [ov_same] at this
      exact ⟨_, this⟩
    · obtain ⟨u, this, _⟩ := hg (fun j => match j with | 6 => T | _ => fun _ => 0, fun _ => 0)
      have this : m_X9_readAll (ov L T T) (nI L) (nI 0) (nI 0) 0 (-1) 0 (nI 0) (fun _ => 0) (fun _ => 0) (fun _ => 0) (fun _ => 0) (fun _ => 0) (fun _ => 0) (fun _ => 0) (nI 0) (nI 6) (nI 0) (ov 6 (fun s => nI s) (fun _ => 0)) (ov 6 (fun _ => -1) (fun _ => 0)) (fun _ => 0) (ov 6 (fun _ => -1) (fun _ => 0)) (fun _ => 0) (fun _ => 0) (nI 0) (fun _ => 0) (fun _ => 0) (fun _ => 0) (fun _ => 0) (nI 0) (fun _ => 0) 0 = some (.error u) := this
      rw [ov_same] at this
      exact ⟨_, this⟩
  obtain ⟨r, hr⟩ := hex
  rcases rda_unf hT hL hr with ⟨w, u, h1, _⟩ | ⟨p', n', l', b, K', F', N', S', I', X', Lt', h1, h2, h3, h4, h5, h6, h7⟩
  · rw [hs] at h1; cases h1
  rw [hs] at h1
  cases h1
  unfold m_X9_readAll_38 at h7
  rw [nd1, trO] at h7
  simp only [nI_0] at h7
  refine ⟨n', l', b, K', F', N', S', I', X', Lt', ov 6 (fun s => nI s) (fun _ => 0), ov 6 (fun _ => -1) (fun _ => 0), fun _ => 0, ov 6 (fun _ => -1) (fun _ => 0), fun _ => 0, fun _ => 0, fun _ => 0, fun _ => 0, fun _ => 0, fun _ => 0, fun _ => 0, h2, h3, h4, h5, h6, ?_, ?_⟩
  rotate_left
  · cases hx : m_X9_schemaOf 18 0 (-1) K' F' N' S' I' X' Lt' (nI 6) 0 (ov 6 (fun s => nI s) (fun _ => 0)) (ov 6 (fun _ => -1) (fun _ => 0)) (fun _ => 0) (ov 6 (fun _ => -1) (fun _ => 0)) (fun _ => 0) (fun _ => 0) 0 (fun _ => 0) (fun _ => 0) (fun _ => 0) (fun _ => 0) 0 (fun _ => 0) 0 0 0 with
    | none => rw [hx, trN] at h7; cases h7
    | some y => exact ⟨y, rfl⟩
  · intro t ht
    exact if_pos ht
theorem rd_cls (hT : BY T L) (hL : L ≤ 4096) (lf lp wp : Int32) (Sd0 In0 Nx0 Am0 Pl Ki Me Fi Ne Na Fn Ac Fd Ed Cf Cs kh kp ko kn : Nat → Int32) (lc sc cc kc : Int32) :
    (∃ e u, rdS T L = .inl e ∧ m_X4_read lf lp T Sd0 In0 Nx0 Am0 (nI L) wp Pl Ki Me Fi Ne Na Fn Ac Fd Ed lc sc Cf Cs cc kh kp ko kn kc = some (nI e.1, (nI e.1, nI e.2, u))) ∨ (∃ st u, rdS T L = .inr st ∧ m_X4_read lf lp T Sd0 In0 Nx0 Am0 (nI L) wp Pl Ki Me Fi Ne Na Fn Ac Fd Ed lc sc Cf Cs cc kh kp ko kn kc = some (lf, (lf, lp, u))) := by
  unfold m_X4_read rdS
  simp only [m_X6_clear, m_X11_clear, Option.bind_some]
  rcases read_eq (T := T) hL Sd0 In0 Nx0 Am0 wp kh kp ko kn kc with ⟨w, u, h1, h2, h3⟩ | ⟨p, u, h1, h2, h3, h4⟩
  · rw [h1, h2]
    obtain ⟨u1, u2, u3, u4, u5, u6, u7, u8, u9, u10⟩ := u
    have h3 : u5 = nI w := h3
    simp only [Option.bind_some, if_true, m_X7_wrongPlace, m_X4_refuse, h3]
    exact Or.inl ⟨_, _, rfl, rfl⟩
  · rw [h1, h2]
    obtain ⟨Sd, In, Nx, Am, u5, u6, u7, u8, u9, u10⟩ := u
    have h4 : TRE T L Sd In Nx Am 25 p := h4
    dsimp only
    simp only [Option.bind_some, if_neg (nI_m1 (show p < 2 ^ 31 by omega))]
    obtain ⟨n', l', b, K', F', N', S', I', X', Lt', So, Nm, Wi, Kd, Ma, Fa, kS, kN, kD, kX, Fir, g1, g2, g3, g4, g5, g6, y, g7⟩ := ref_run hT hL h1
    have hV := VV.mk (T := T) (B := T) rfl h4 g3 g4 g2 g5
    have hVb := hV.base
    have hr := r_look (T := T) (Sd := Sd) (In := In) (Nx := Nx) (Am := Am) (K := K') (F := F') (N := N') (S := S') (I := I') (X := X') (Lt := Lt') hL g1 16 18 0 rfl (by decide) 0 (-1) So Nm Wi Kd Ma Fa kS kN kD kX Fir _ _ _ _ p false st0 0 b (ri0 g6) wf0 hV
    have hc := c_look (T := T) (Sd := Sd) (In := In) (Nx := Nx) (Am := Am) (K := K') (F := F') (N := N') (S := S') (I := I') (X := X') (Lt := Lt') hL g1 16 18 0 rfl (by decide) lf lp Pl Ki Me Fi Ne Na Fn Ac Fd Ed _ _ Cf Cs _ p false st0 0 b ci0 wf0 hV (by show 0 + (b - p) ≤ 4096; omega)
    rw [bF] at hr hc
    simp only [nI_0] at hr hc
    rw [g7] at hr
    cases hlk : look T L 16 p false st0 with
    | inl e =>
      rw [hlk] at hc
      obtain ⟨u, hu⟩ := hc
      rw [hu]
      obtain ⟨v1, v2, v3, v4, v5, v6, v7, v8, v9, v10, v11, v12, v13, v14, v15⟩ := u
      simp only [Option.bind_some, if_true]
      exact Or.inl ⟨_, _, rfl, rfl⟩
    | inr st =>
      have hO := look_f (T := T) (Sd := Sd) (In := In) (Nx := Nx) (Am := Am) (K := K') (F := F') (N := N') (S := S') (I := I') (X := X') (Lt := Lt') hL g1 16 p false st0 st 0 b hV wf0 hlk
      have hfp := (look_p (T := T) (Sd := Sd) (In := In) (Nx := Nx) (Am := Am) (K := K') (F := F') (N := N') (S := S') (I := I') (X := X') (Lt := Lt') hL g1 16 p false st0 st 0 b hV wf0 hlk).1
      rw [hlk] at hr hc
      rcases hr with hu0 | ⟨v, ur, hu0, hP⟩
      · cases hu0
      obtain ⟨Pl2, Ki2, Me2, Fi2, Ne2, Na2, Fn2, Ac2, Fd2, Ed2, lc2, sc2, Cf2, Cs2, cc2, hu, hI3⟩ := hc
      rw [hu]
      obtain ⟨fl1, pp1, shI, lkI, So1, Nm1, Wi1, Kd1, Ma1, Fa1, kcI, kS1, kN1, kD1, kX1, dnI, Fi1⟩ := ur
      have hfv := fi_vv hP.1
      obtain ⟨k1, sh1, kc1, pl1, D1, fi1, G1⟩ := st
      obtain ⟨i1, i2, i3, i4, i5, i6, i7, i8, i9⟩ := hI3
      have hdl : (dul fi1).length ≤ 128 := by
        have hx : (dul fi1).length + 0 + 1 ≤ 0 + k1 := hfp.2.2.2.2.2.2.2.1
        omega
      have hck := chk_go hL i5 i4 i2 i7 (fun i hi => hO i (Nat.zero_le _) hi) i9 hdl hfv lf lp sr_fuel 0 (Nat.zero_le _) (by unfold sr_fuel; omega)
      rw [List.drop_zero, fdd_eq, nI_0] at hck
      simp only [Option.bind_some]
      rw [if_neg (show ¬ nI st0.1 = -1 from by show ¬ nI 0 = -1; decide)]
      unfold m_X4_checkDefaults
      rw [i3, i8, hck]
      cases hfd : fdf T L G1 fi1 with
      | none =>
        simp only [Option.bind_some]
        exact Or.inr ⟨_, _, rfl, rfl⟩
      | some z =>
        simp only [Option.bind_some]
        exact Or.inl ⟨_, _, rfl, rfl⟩
end RDB
end
