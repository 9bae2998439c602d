-- the class's look at fields and records
theorem bF {α : Type} {a b : α} : (if false = true then a else b) = b := if_neg (by decide)
theorem bT {α : Type} {a b : α} : (if true = true then a else b) = a := if_pos rfl
theorem I10 {α : Type} {a b : α} : (if (1 : Int32) = 0 then a else b) = b := if_neg (by decide)
theorem I00 {α : Type} {a b : α} : (if (0 : Int32) = 0 then a else b) = a := if_pos rfl
section CREC
variable {T : Nat → Int32} {L : Nat} {Sd In Nx Am K F S I X Lt : Nat → Int32} {N : Nat → Int64} {l : Nat}
/-- a field, before it is joined to the others -/
noncomputable def lfd0 (T : Nat → Int32) (L : Nat) (f : Nat → Bool → LSt → LRs) (s p : Nat) : LSt → LRs
  | (sc, sh, kc, pl, D, fi, G) => if cb T L p = 123 then
      (match mbr T L p (litN 20) with
      | none => .inl (8, p)
      | some n => if cb T L n = 34 then
          (if dec (isNm (ts T L n) ∧ ∀ c, c ∈ n_ch (G s) → n_fn (G c) ≠ ts T L n) = true then
            (match mbr T L p (litN 15) with
            | none => .inl (8, p)
            | some t => match f t false (sc, sh, kc + 1, pl ++ (litN 21 ++ (qt (ts T L n) ++ litN 31)), D, fi, upG G s (klN (G s) kc)) with
              | .inl e => .inl e
              | .inr (sc', sh', kc', pl', D', fi', G') => .inr (sc', sh', kc', pl' ++ [125], D', fi' ++ [(kc, sc, mbr T L p (litN 28))], upG G' sc (fnN (G' sc) (ts T L n))))
          else .inl (9, n))
        else .inl (8, p))
    else .inl (11, p)
def jonR (s c : Nat) : LRs → LRs
  | .inl e => .inl e
  | .inr st => .inr (jon s c st)
theorem lfd_0 {f : Nat → Bool → LSt → LRs} {s p i : Nat} {st : LSt} : lfd T L f s p i st = jonR s st.1 (lfd0 T L f s p (wrt (if i = 0 then [] else [44]) st)) := by
  obtain ⟨sc, sh, kc, pl, D, fi, G⟩ := st
  show lfd T L f s p i (sc, sh, kc, pl, D, fi, G) = jonR s sc (lfd0 T L f s p (sc, sh, kc, pl ++ (if i = 0 then [] else [44]), D, fi, G))
  simp only [lfd, lfd0]
  by_cases c1 : cb T L p = 123
  · rw [if_pos c1, if_pos c1]
    cases mbr T L p (litN 20) with
    | none => rfl
    | some n =>
      simp only
      by_cases c2 : cb T L n = 34
      · rw [if_pos c2, if_pos c2]
        by_cases hd : isNm (ts T L n) ∧ ∀ c, c ∈ n_ch (G s) → n_fn (G c) ≠ ts T L n
        · rw [dec_t hd, bT, bT]
          cases mbr T L p (litN 15) with
          | none => rfl
          | some t =>
            simp only [List.append_assoc]
            cases f t false (sc, sh, kc + 1, pl ++ ((if i = 0 then [] else [44]) ++ (litN 21 ++ (qt (ts T L n) ++ litN 31))), D, fi, upG G s (klN (G s) kc)) with
            | inl e => rfl
            | inr st' => rfl
        · rw [dec_f hd, bF, bF]; rfl
      · rw [if_neg c2, if_neg c2]; rfl
  · rw [if_neg c1, if_neg c1]; rfl
theorem hfd_c {Pl Ki Me Fi Ne Na Fn Ac : Nat → Int32} {lc sc : Int32} {Cf Cs : Nat → Int32} {cc : Int32} {k sh kc : Nat} {pl : List Nat} {D : List Nat → Option Nat} {fi : List (Nat × Nat × Option Nat)} {G : Nat → Nod} (hI : CI Pl Ki Me Fi Ne Na Fn Ac lc sc Cf Cs cc (k, sh, kc, pl, D, fi, G)) {s p : Nat} {t : List Nat} (hs : s < k) (h9 : n_kd (G s) = 10) (hm : n_me (G s) = s) (ht : SAID Sd Am p t) : m_X6_hasField Pl Me Fi Ne Fn Ac lc Sd Am (nI s) (nI p) = some (if dec (∀ c, c ∈ n_ch (G s) → n_fn (G c) ≠ t) = true then 0 else 1) := by
  obtain ⟨i1, i2, i3, i4, i5, i6, i7, i8, i9⟩ := hI
  obtain ⟨s1, s2, s3, s4⟩ := i7 s hs
  obtain ⟨t1, t2, t3, t4⟩ := s4 hm
  obtain ⟨u1, u2, u3, u4⟩ := t2 (by omega) (by omega)
  rw [hm] at s1
  rw [i3]
  rcases hfd_eq (Pl := Pl) (lc := pl.length) (show s < 128 by omega) s1 u2 (by omega) (u1.keep2 (hi' := 128) (fun j hj => by have : (n_ch (G s)).getD j 0 < k := (u1.1 j hj).1; omega) (fun _ _ => rfl)) (nm := fun j => n_fn (G ((n_ch (G s)).getD j 0))) (fun j hj => by
    obtain ⟨a, x1, x2⟩ := (u4 _ (ch_mem hj)).2.2 h9
    exact ⟨a, x1, x2.pn i5 i4⟩) ht with ⟨⟨i, j1, j2⟩, b⟩ | ⟨a, b⟩
  · rw [b, dec_f (fun z => z _ (ch_mem j1) j2), bF]
  · rw [b, dec_t (fun c hc e => by
      obtain ⟨j, hj, ej⟩ := mem_ch hc
      exact a ⟨j, hj, by show n_fn (G ((n_ch (G s)).getD j 0)) = t; rw [ej]; exact e⟩), bT]
theorem add_eq {Cf Cs : Nat → Int32} {n : Nat} {a b : Int32} (hn : n < 128) : m_X11_add Cf Cs (nI n) a b = some (upd Cf n a, upd Cs n b, nI (n + 1)) := by
  unfold m_X11_add m_X8_enter
  rw [if_neg (show ¬ (128 : Int32) ≤ nI n from nI_ge (b := 128) hn (by decide))]
  simp only [if_neg (nI_pos (show n < 2 ^ 31 by omega)), if_neg (show ¬ Int32.ofNat 128 ≤ nI n from nI_ge (b := 128) hn (by decide)), bd_go hn (by decide), bd_gc hn (by decide), nI_clamp (show n < 2 ^ 31 by omega), Option.bind_some, nI_1]
theorem dul_n {fi : List (Nat × Nat × Option Nat)} {a b : Nat} : dul (fi ++ [(a, b, none)]) = dul fi := by
  unfold dul
  rw [List.filterMap_append]
  simp
theorem dul_s {fi : List (Nat × Nat × Option Nat)} {a b v : Nat} : dul (fi ++ [(a, b, some v)]) = dul fi ++ [(b, v)] := by
  unfold dul
  rw [List.filterMap_append]
  simp
theorem DUI.add {Cf Cs : Nat → Int32} {fi : List (Nat × Nat × Option Nat)} {a b v : Nat} (h : DUI Cf Cs fi) : DUI (upd Cf (dul fi).length (nI b)) (upd Cs (dul fi).length (nI v)) (fi ++ [(a, b, some v)]) := by
  intro j hj
  rw [dul_s] at hj ⊢
  rw [List.length_append, List.length_singleton] at hj
  by_cases e : j = (dul fi).length
  · rw [e, pk_us, pk_us]
    simp [List.getD]
  · rw [pk_un e, pk_un e]
    have := h j (by omega)
    simp only [List.getD, List.getElem?_append_left (show j < (dul fi).length by omega)]
    exact this
/-- the answer for a field: with its name -/
def CXF (lf lp : Int32) (x : Option (Int32 × TL)) (k : Nat) : LRs → Prop
  | .inl e => ∃ u, x = some (-1, (nI e.1, (nI e.2, u)))
  | .inr st => ∃ Pl Ki Me Fi Ne Na Fn Ac Fd Ed lc sc Cf Cs cc, x = some (nI k, (lf, lp, Pl, Ki, Me, Fi, Ne, Na, Fn, Ac, Fd, Ed, lc, sc, Cf, Cs, cc)) ∧ CI Pl Ki Me Fi Ne Na Fn Ac lc sc Cf Cs cc st ∧ ∃ a, Fn k = nI a ∧ PNL st.2.2.2.1 a (n_fn (st.2.2.2.2.2.2 k))
theorem lfd0_p (hL : L ≤ 4096) (hl : l ≤ 4200) {g : Nat → Bool → LSt → LRs} (hg : okSp T L Sd In Nx Am K F N S I X Lt l g) {s n p q k sh kc : Nat} {pl : List Nat} {D : List Nat → Option Nat} {fi : List (Nat × Nat × Option Nat)} {G : Nat → Nod} {st' : LSt} (hw : WFs (k, sh, kc, pl, D, fi, G)) (hv : VV T L Sd In Nx Am K F N S I X Lt l n p q) (h : lfd0 T L g s p (k, sh, kc, pl, D, fi, G) = .inr st') : k < st'.1 ∧ (∀ i, i < k → st'.2.2.2.2.2.2 i = upG G s (klN (G s) kc) i) ∧ n_pa (st'.2.2.2.2.2.2 k) = 999 ∧ KD1 st'.2.2.2.2.2.2 k := by
  simp only [lfd0] at h
  by_cases c1 : cb T L p = 123
  rotate_left
  · rw [if_neg c1] at h; cases h
  rw [if_pos c1] at h
  cases e0 : mbr T L p (litN 20) with
  | none => rw [e0] at h; cases h
  | some n0 =>
  rw [e0] at h
  simp only at h
  by_cases c2 : cb T L n0 = 34
  rotate_left
  · rw [if_neg c2] at h; cases h
  rw [if_pos c2] at h
  cases hd : dec (isNm (ts T L n0) ∧ ∀ c, c ∈ n_ch (G s) → n_fn (G c) ≠ ts T L n0) with
  | false => rw [hd] at h; cases h
  | true =>
  rw [hd, bT] at h
  rcases mbc hL hl hv c1 (w := 15) (by decide) with ⟨e, _⟩ | ⟨v, kp, c, b, e, _, z1, z2, z3, z4, z5, z6⟩
  · rw [e] at h; cases h
  rw [e] at h
  simp only at h
  have hw1 : WFs (k, sh, kc + 1, pl ++ (litN 21 ++ (qt (ts T L n0) ++ litN 31)), D, fi, upG G s (klN (G s) kc)) := ⟨DOK.up (x := klN (G s) kc) hw.1 rfl rfl, hw.2⟩
  cases hr : g v false (k, sh, kc + 1, pl ++ (litN 21 ++ (qt (ts T L n0) ++ litN 31)), D, fi, upG G s (klN (G s) kc)) with
  | inl e => rw [hr] at h; cases h
  | inr st1 =>
    rw [hr] at h
    obtain ⟨fp, _⟩ := hg _ _ _ _ _ _ z1 hw1 hr
    obtain ⟨k1, sh1, kc1, pl1, D1, fi1, G1⟩ := st1
    have e := Sum.inr.inj h
    rw [← e]
    obtain ⟨a1, a2, a3, a4, a5, a6, a7, a8, a9, a10, a11, a12, a13⟩ := fp
    have eg : ∀ {β : Type} (f : Nod → β), (∀ x, f (fnN x (ts T L n0)) = f x) → ∀ i, f (upG G1 k (fnN (G1 k) (ts T L n0)) i) = f (G1 i) := fun f h1 i => by
      by_cases q : i = k
      · rw [q, upG_s]; exact h1 _
      · rw [upG_n q]
    refine ⟨a1, fun i hi => ?_, ?_, KD1.cg ⟨a12, a11.2⟩ (eg _ (fun _ => rfl)) (eg _ (fun _ => rfl))⟩
    · show upG G1 k (fnN (G1 k) (ts T L n0)) i = _
      rw [upG_n (by omega)]
      exact a5 i hi
    · exact (eg n_pa (fun _ => rfl) k).trans a10
theorem c_fld (hL : L ≤ 4096) (hl : l ≤ 4200) {f : FL} {g : Nat → Bool → LSt → LRs} {d : Nat} (hf : okCl T L Sd In Nx Am K F N S I X Lt l f (d + 1) g) (hg : okSp T L Sd In Nx Am K F N S I X Lt l g) (lf lp : Int32) {s n p q : Nat} {Fd Ed : Nat → Int32} {Pl Ki Me Fi Ne Na Fn Ac : Nat → Int32} {lc sc : Int32} {Cf Cs : Nat → Int32} {cc : Int32} {k sh kc : Nat} {pl : List Nat} {D : List Nat → Option Nat} {fi : List (Nat × Nat × Option Nat)} {G : Nat → Nod} (hI : CI Pl Ki Me Fi Ne Na Fn Ac lc sc Cf Cs cc (k, sh, kc, pl, D, fi, G)) (hs : s < k) (h10 : n_kd (G s) = 10) (hm : n_me (G s) = s) (hw : WFs (k, sh, kc, pl, D, fi, G)) (hv : VV T L Sd In Nx Am K F N S I X Lt l n p q) (hb : pl.length + (q - p) ≤ 4096) :
    CXF lf lp (m_X4_lookAtField f lf lp T Sd In Nx Am (nI L) Pl Ki Me Fi Ne Na Fn Ac Fd Ed lc sc Cf Cs cc (nI s) (nI p) (nI d)) k (lfd0 T L g s p (k, sh, kc, pl, D, fi, G)) := by
  have hp := hv.base
  have h20 : (litN 20).length = 4 := by decide
  have h15 : (litN 15).length = 4 := by decide
  have h21 : (litN 21).length = 8 := by decide
  have h31 : (litN 31).length = 8 := by decide
  unfold m_X4_lookAtField m_X4_isGoodField
  simp only [lfd0, iso_eq hL (show p < 4096 by omega), Option.bind_some, m_X4_refuse, true_or, if_true, m_X4_isGoodField_76]
  by_cases hc : cb T L p = 123
  rotate_left
  · simp only [if_neg hc, if_true, Option.bind_some]
    exact ⟨_, rfl⟩
  rw [if_pos hc, if_pos hc, I10]
  rcases mbc hL hl hv hc (w := 20) (by decide) with ⟨e, em⟩ | ⟨v0, kp0, c0, b0, e0, em0, x1, x2, x3, x4, x5, x6⟩
  · rw [e, em]
    simp only [Option.bind_some, iss_m1, if_true]
    exact ⟨_, rfl⟩
  rw [e0, em0]
  have hxb := x1.base
  simp only [Option.bind_some, iss_eq hL (show v0 < 4096 by omega)]
  by_cases c34 : cb T L v0 = 34
  rotate_left
  · simp only [if_neg c34, if_true, Option.bind_some]
    exact ⟨_, rfl⟩
  rw [if_pos c34, if_pos c34, I10]
  obtain ⟨s0, y1, y2, y3, y4, y5, y6⟩ := x1.str c34
  rw [y2]
  rcases snm_eq hL c34 y3 with ⟨n1, n2⟩ | ⟨n1, n2⟩
  rotate_left
  · rw [n2, dec_f (fun z => n1 z.1), bF]
    simp only [Option.bind_some, if_true]
    exact ⟨_, rfl⟩
  rw [n2]
  simp only [Option.bind_some, if_neg (show ¬ (1 : Int32) = 0 by decide)]
  rw [hfd_c hI hs h10 hm y3]
  simp only [Option.bind_some]
  by_cases hno : ∀ c, c ∈ n_ch (G s) → n_fn (G c) ≠ s0
  rotate_left
  · rw [dec_f hno, dec_f (fun z => hno z.2), bF, bF, I10]
    simp only [Option.bind_some, if_true]
    exact ⟨_, rfl⟩
  rw [dec_t hno, dec_t ⟨n1, hno⟩, bT, bT, I00]
  rcases mbc hL hl hv hc (w := 15) (by decide) with ⟨e, em⟩ | ⟨v, kp, c, b, e, em, z1, z2, z3, z4, z5, z6⟩
  · rw [e, em]
    simp only [Option.bind_some, if_true]
    exact ⟨_, rfl⟩
  rw [e, em]
  have hap := mb2 hv hc x5 z5 x1 z1 (by rw [x6, z6]; decide)
  have hzb := z1.base
  have i2 := hI.2.1
  have i3 := hI.2.2.1
  have i5 := hI.2.2.2.2.1
  simp only [Option.bind_some, if_neg (nI_m1 (show v < 2 ^ 31 by omega)), if_neg (show ¬ (1 : Int32) = 0 by decide)]
  obtain ⟨Pl1, w1, w2⟩ := wrL (w := 21) (by decide) i5 (by omega)
  have el1 : (pl ++ litN 21).length = pl.length + 8 := by rw [List.length_append, h21]
  obtain ⟨Pl2, w3, w4⟩ := wsL y3 y6 w2 (by omega)
  have el2 : (pl ++ litN 21 ++ qt s0).length = pl.length + 8 + (s0.length + 2) := by rw [List.length_append, el1, qt_len]
  obtain ⟨Pl3, w5, w6⟩ := wrL (w := 31) (by decide) w4 (by omega)
  have ea : pl ++ litN 21 ++ qt s0 ++ litN 31 = pl ++ (litN 21 ++ (qt s0 ++ litN 31)) := by rw [List.append_assoc, List.append_assoc]
  have el3 : (pl ++ (litN 21 ++ (qt s0 ++ litN 31))).length = pl.length + 18 + s0.length + 0 + 0 := by
    rw [← ea, List.length_append, el2, h31]
    omega
  rw [ea] at w5 w6
  rw [i3, w1]
  simp only [Option.bind_some]
  rw [w3]
  simp only [Option.bind_some]
  rw [w5]
  simp only [Option.bind_some, nI_1]
  have hI1 : CI Pl3 Ki Me Fi Ne Na Fn Ac (nI (pl ++ (litN 21 ++ (qt s0 ++ litN 31))).length) sc Cf Cs cc (k, sh, kc + 1, pl ++ (litN 21 ++ (qt s0 ++ litN 31)), D, fi, upG G s (klN (G s) kc)) := (hI.wr w6 (by omega)).kid
  have hw1 : WFs (k, sh, kc + 1, pl ++ (litN 21 ++ (qt s0 ++ litN 31)), D, fi, upG G s (klN (G s) kc)) := ⟨DOK.up (x := klN (G s) kc) hw.1 rfl rfl, hw.2⟩
  have hf1 := hf lf lp Pl3 Ki Me Fi Ne Na Fn Ac Fd Ed _ sc Cf Cs cc v false _ _ _ hI1 hw1 z1 (by
    show (pl ++ (litN 21 ++ (qt s0 ++ litN 31))).length + (b - v) ≤ 4096
    omega)
  rw [bF] at hf1
  cases hr : g v false (k, sh, kc + 1, pl ++ (litN 21 ++ (qt s0 ++ litN 31)), D, fi, upG G s (klN (G s) kc)) with
  | inl e =>
    rw [hr] at hf1
    obtain ⟨u, hu⟩ := hf1
    rw [hu]
    obtain ⟨u1, u2, u3, u4, u5, u6, u7, u8, u9, u10, u11, u12, u13, u14, u15⟩ := u
    simp only [Option.bind_some, if_true]
    exact ⟨_, rfl⟩
  | inr st1 =>
    rw [hr] at hf1
    obtain ⟨fp, fl⟩ := hg _ _ _ _ _ _ z1 hw1 hr
    obtain ⟨k1, sh1, kc1, pl1, D1, fi1, G1⟩ := st1
    obtain ⟨Pl4, Ki2, Me2, Fi2, Ne2, Na2, Fn2, Ac2, Fd2, Ed2, lc2, sc2, Cf2, Cs2, cc2, hu, hI2⟩ := hf1
    rw [hu]
    have fl : pl1.length ≤ (pl ++ (litN 21 ++ (qt s0 ++ litN 31))).length + (b - v) := fl
    obtain ⟨a1, a2, a3, ⟨tt, a4⟩, a5, a6, a7, a8, a9, a10, a11, a12, a13⟩ := fp
    have i22 := hI2.2.1
    have i23 := hI2.2.2.1
    simp only [Option.bind_some, if_neg (nI_m1 (show k < 2 ^ 31 by omega))]
    obtain ⟨Pl5, w7, w8⟩ := wbL (v := 125) (by decide) hI2.2.2.2.2.1 (by omega)
    have hI3 := hI2.wr w8 (by rw [List.length_append, List.length_singleton]; omega)
    rw [i23, show (125 : Int32) = nI 125 from rfl, w7]
    simp only [Option.bind_some]
    have hPN : PNL (pl1 ++ [125]) (pl.length + 8 + 1) s0 := by
      rw [a4]
      refine PNL.app (PNL.app ?_)
      have := PNL.new (pl := pl) (a := litN 21) (b := litN 31) n1
      rw [h21] at this
      exact this
    have hdl : (dul fi1).length < 128 := by
      have := hw.2
      omega
    have fin : ∀ (Fd' Cf' Cs' : Nat → Int32) (cc' : Int32) (o : Option Nat), cc' = nI (dul (fi1 ++ [(kc, k, o)])).length → DUI Cf' Cs' (fi1 ++ [(kc, k, o)]) → CI Pl5 Ki2 Me2 Fi2 Ne2 Na2 (upd Fn2 k (nI (pl.length + 8 + 1))) Ac2 (nI (pl1 ++ [125]).length) sc2 Cf' Cs' cc' (k1, sh1, kc1, pl1 ++ [125], D1, fi1 ++ [(kc, k, o)], upG G1 k (fnN (G1 k) s0)) ∧ ∃ a, upd Fn2 k (nI (pl.length + 8 + 1)) k = nI a ∧ PNL (pl1 ++ [125]) a (n_fn (upG G1 k (fnN (G1 k) s0) k)) := by
      intro Fd' Cf' Cs' cc' o h1 h2
      obtain ⟨j1, j2, j3, j4, j5, j6, j7, j8, j9⟩ := hI3
      exact ⟨⟨j1, j2, rfl, j4, j5, j6, j7.fld a1 a10 j2, h1, h2⟩, pl.length + 8 + 1, pk_us, by rw [upG_s]; exact hPN⟩
    have hcc := hI2.2.2.2.2.2.2.2.1
    have hDU := hI2.2.2.2.2.2.2.2.2
    rw [el1]
    have hfd := fun y => stf_eq (Fn := Fn2) (Fd := Fd2) (s := k) (v := nI (pl.length + 8 + 1)) (w := y) (by omega)
    rcases mbc hL hl hv hc (w := 28) (by decide) with ⟨e, em⟩ | ⟨dv, kp2, c2, b2, e, em, q1, q2, q3, q4, q5, q6⟩
    · obtain ⟨Fd', hF⟩ := hfd 0
      rw [e, em]
      simp only [Option.bind_some, if_true, m_X4_lookAtField_120]
      rw [hF]
      simp only [Option.bind_some, if_true]
      obtain ⟨g1, g2⟩ := fin Fd' Cf2 Cs2 cc2 none (by rw [dul_n]; exact hcc) (fun j hj => by rw [dul_n] at hj ⊢; exact hDU j hj)
      exact ⟨_, _, _, _, _, _, _, _, _, _, _, _, _, _, _, rfl, g1, g2⟩
    · obtain ⟨Fd', hF⟩ := hfd 1
      have hqb := q1.base
      rw [e, em]
      simp only [Option.bind_some, if_neg (nI_m1 (show dv < 2 ^ 31 by omega)), m_X4_lookAtField_120]
      rw [hF]
      simp only [Option.bind_some, if_neg (nI_m1 (show dv < 2 ^ 31 by omega))]
      rw [hcc, add_eq hdl]
      simp only [Option.bind_some]
      obtain ⟨g1, g2⟩ := fin Fd' _ _ (nI ((dul fi1).length + 1)) (some dv) (by rw [dul_s, List.length_append, List.length_singleton]) hDU.add
      exact ⟨_, _, _, _, _, _, _, _, _, _, _, _, _, _, _, rfl, g1, g2⟩
end CREC
