-- what the document says of schemas, over the bytes alone
noncomputable def dec (P : Prop) : Bool := @decide P (Classical.propDecidable P)
theorem dec_t {P : Prop} (h : P) : dec P = true := @decide_eq_true P (Classical.propDecidable P) h
theorem dec_f {P : Prop} (h : ¬ P) : dec P = false := @decide_eq_false P (Classical.propDecidable P) h
theorem GK.one {T : Nat → Int32} {L d d' p : Nat} {a b : List (Nat × Nat)} (h1 : GK T L d p a) (h2 : GK T L d' p b) : a = b := by
  have up : ∀ {d e : Nat} {a : List (Nat × Nat)}, GK T L d p a → GK T L (d + e) p a := by
    intro d e a h
    rcases h with h | ⟨x1, q, x2⟩
    · exact Or.inl h
    · exact Or.inr ⟨x1, q, sgrp_mono (fun v b hv => sval_mono hv e) _ _ _ _ x2⟩
  have y := up (e := d) h2
  rw [Nat.add_comm] at y
  exact gk_eq (up (e := d') h1) y
noncomputable def prt (T : Nat → Int32) (L p : Nat) : List (Nat × Nat) := Classical.epsilon (fun ks => ∃ d, GK T L d p ks)
theorem prt_eq {T : Nat → Int32} {L p : Nat} {ks : List (Nat × Nat)} (h : ∃ d, GK T L d p ks) : prt T L p = ks := by
  obtain ⟨d, h⟩ := h
  obtain ⟨d', h'⟩ := Classical.epsilon_spec (p := fun ks => ∃ d, GK T L d p ks) ⟨ks, d, h⟩
  exact GK.one h' h
noncomputable def mbr (T : Nat → Int32) (L p : Nat) (w : List Nat) : Option Nat := (tfind T L w (prt T L p)).map Prod.snd
/-- kind, meant, shape, size, name as a field, symbols, inner slots, kids, outer slot -/
abbrev Nod := Nat × Nat × Nat × Nat × List Nat × List (List Nat) × List Nat × List Nat × Nat
def n_kd (x : Nod) : Nat := x.1
def n_me (x : Nod) : Nat := x.2.1
def n_sg (x : Nod) : Nat := x.2.2.1
def n_wd (x : Nod) : Nat := x.2.2.2.1
def n_fn (x : Nod) : List Nat := x.2.2.2.2.1
def n_sy (x : Nod) : List (List Nat) := x.2.2.2.2.2.1
def n_ch (x : Nod) : List Nat := x.2.2.2.2.2.2.1
def n_kl (x : Nod) : List Nat := x.2.2.2.2.2.2.2.1
def n_pa (x : Nod) : Nat := x.2.2.2.2.2.2.2.2
def mkN (kd me sg wd : Nat) (sy : List (List Nat)) (kl : List Nat) : Nod := (kd, me, sg, wd, [], sy, [], kl, 999)
def chN (x : Nod) (c : Nat) : Nod := (n_kd x, n_me x, n_sg x, n_wd x, n_fn x, n_sy x, n_ch x ++ [c], n_kl x, n_pa x)
def klN (x : Nod) (k : Nat) : Nod := (n_kd x, n_me x, n_sg x, n_wd x, n_fn x, n_sy x, n_ch x, n_kl x ++ [k], n_pa x)
def syN (x : Nod) (w : List Nat) (k : Nat) : Nod := (n_kd x, n_me x, n_sg x, n_wd x, n_fn x, n_sy x ++ [w], n_ch x, n_kl x ++ [k], n_pa x)
def paN (x : Nod) (s : Nat) : Nod := (n_kd x, n_me x, n_sg x, n_wd x, n_fn x, n_sy x, n_ch x, n_kl x, s)
def fnN (x : Nod) (w : List Nat) : Nod := (n_kd x, n_me x, n_sg x, n_wd x, w, n_sy x, n_ch x, n_kl x, n_pa x)
def upG (G : Nat → Nod) (i : Nat) (x : Nod) : Nat → Nod := fun j => if j = i then x else G j
theorem upG_s {G : Nat → Nod} {i : Nat} {x : Nod} : upG G i x i = x := if_pos rfl
theorem upG_n {G : Nat → Nod} {i j : Nat} {x : Nod} (h : j ≠ i) : upG G i x j = G j := if_neg h
/-- slots, shapes, kids, plain form, definitions, fields done, nodes -/
abbrev LSt := Nat × Nat × Nat × List Nat × (List Nat → Option Nat) × List (Nat × Nat × Option Nat) × (Nat → Nod)
abbrev LRs := (Nat × Nat) ⊕ LSt
def qt (w : List Nat) : List Nat := 34 :: (w ++ [34])
def wrt (b : List Nat) : LSt → LSt
  | (sc, sh, kc, pl, D, fi, G) => (sc, sh, kc, pl ++ b, D, fi, G)
def jon (s c : Nat) : LSt → LSt
  | (sc, sh, kc, pl, D, fi, G) => (sc, sh, kc, pl, D, fi, upG (upG G s (chN (G s) c)) c (paN (G c) s))
def kid (s : Nat) : LSt → LSt
  | (sc, sh, kc, pl, D, fi, G) => (sc, sh, kc + 1, pl, D, fi, upG G s (klN (G s) kc))
def alk (G : Nat → Nod) (b c : Nat) : Bool := decide (n_kd (G (n_me (G b))) = n_kd (G (n_me (G c))) ∧ (¬ (8 ≤ n_kd (G (n_me (G b))) ∧ n_kd (G (n_me (G b))) ≤ 10) ∨ n_me (G b) = n_me (G c)))
def hlk (s c : Nat) : LSt → Bool
  | (_, _, _, _, _, _, G) => (n_ch (G s)).any (fun b => alk G b c)
section SPEC
variable (T : Nat → Int32) (L : Nat)
noncomputable def lwd (s p : Nat) : LSt → LRs
  | (sc, sh, kc, pl, D, fi, G) => if kw6 (ts T L p) = -1 then
      (match D (ts T L p) with
      | none => .inl (3, p)
      | some d => .inr (sc, sh, kc, pl ++ qt (ts T L p), D, fi, upG G s (mkN 12 d (n_sg (G d)) 0 [] [])))
    else .inr (sc, sh, kc, pl ++ qt (ts T L p), D, fi, upG G s (mkN (kw6 (ts T L p)).toNatClampNeg s (kw6 (ts T L p)).toNatClampNeg 0 [] []))
def lun (f : Nat → Bool → LSt → LRs) (s : Nat) : List (Nat × Nat) → Nat → LSt → LRs
  | [], _, st => .inr (wrt [93] st)
  | v :: t, i, st => match f v.2 true (wrt [if i = 0 then 91 else 44] st) with
    | .inl e => .inl e
    | .inr st' => if hlk s st.1 st' = true then .inl (6, v.2) else lun f s t (i + 1) (jon s st.1 (kid s st'))
noncomputable def lit (f : Nat → Bool → LSt → LRs) (s p k : Nat) : LSt → LRs
  | (sc, sh, kc, pl, D, fi, G) => match mbr T L p (litN (if k = 6 then 16 else 19)) with
    | none => .inl (8, p)
    | some v => match f v false (sc, sh + 1, kc + 1, pl ++ litN (if k = 6 then 17 else 18), D, fi, upG G s (mkN k s sh 0 [] [kc])) with
      | .inl e => .inl e
      | .inr st' => .inr (wrt [125] (jon s sc st'))
def dgs (w : Nat) : List Nat := if 10 ≤ w then [48 + w / 10, 48 + w % 10] else [48 + w % 10]
def lsz (x : Int64) : Option Nat := if x = lN x.toNatClampNeg ∧ x.toNatClampNeg ≤ 64 then some x.toNatClampNeg else none
noncomputable def lfx (s p : Nat) : LSt → LRs
  | (sc, sh, kc, pl, D, fi, G) => match mbr T L p (litN 23) with
    | none => .inl (8, p)
    | some v => match (if cb T L v = 45 ∨ (48 ≤ cb T L v ∧ cb T L v ≤ 57) then lsz (snv T L v) else none : Option Nat) with
      | none => .inl (10, v)
      | some w => .inr (sc, sh, kc, pl ++ (litN 24 ++ (dgs w ++ [125])), D, fi, upG G s (mkN 8 s (n_sg (G s)) w [] []))
noncomputable def lsy (s : Nat) : List (Nat × Nat) → LSt → LRs
  | [], st => .inr st
  | v :: t, (sc, sh, kc, pl, D, fi, G) => if dec (cb T L v.2 = 34 ∧ isNm (ts T L v.2) ∧ ts T L v.2 ∉ n_sy (G s)) = true then
      lsy s t (sc, sh, kc + 1, pl ++ ((if n_sy (G s) = [] then [] else [44]) ++ qt (ts T L v.2)), D, fi, upG G s (syN (G s) (ts T L v.2) kc))
    else .inl (11, v.2)
noncomputable def len (s p : Nat) (st : LSt) : LRs := match mbr T L p (litN 25) with
  | none => .inl (8, p)
  | some v => if cb T L v = 91 ∧ 1 ≤ (prt T L v).length ∧ (prt T L v).length ≤ 32 then
      (match lsy T L s (prt T L v) (wrt (litN 26) st) with
      | .inl e => .inl e
      | .inr (sc, sh, kc, pl, D, fi, G) => match mbr T L p (litN 28) with
        | none => .inr (sc, sh, kc, pl ++ litN 27, D, fi, G)
        | some d => if dec (cb T L d = 34 ∧ ts T L d ∈ n_sy (G s)) = true then .inr (sc, sh, kc, pl ++ litN 27, D, fi, G) else .inl (12, d))
    else .inl (11, v)
noncomputable def lfd (f : Nat → Bool → LSt → LRs) (s p i : Nat) : LSt → LRs
  | (sc, sh, kc, pl, D, fi, G) => if cb T L p = 123 then
      (match mbr T L p (litN 20) with
      | none => .inl (8, p)
      | some n => if cb T L n = 34 then
          (if dec (isNm (ts T L n) ∧ ∀ c, c ∈ n_ch (G s) → n_fn (G c) ≠ ts T L n) = true then
            (match mbr T L p (litN 15) with
            | none => .inl (8, p)
            | some t => match f t false (sc, sh, kc + 1, pl ++ ((if i = 0 then [] else [44]) ++ (litN 21 ++ (qt (ts T L n) ++ litN 31))), D, fi, upG G s (klN (G s) kc)) with
              | .inl e => .inl e
              | .inr (sc', sh', kc', pl', D', fi', G') => .inr (jon s sc (sc', sh', kc', pl' ++ [125], D', fi' ++ [(kc, sc, mbr T L p (litN 28))], upG G' sc (fnN (G' sc) (ts T L n)))))
          else .inl (9, n))
        else .inl (8, p))
    else .inl (11, p)
noncomputable def lfs (f : Nat → Bool → LSt → LRs) (s : Nat) : List (Nat × Nat) → Nat → LSt → LRs
  | [], _, st => .inr (wrt (litN 27) st)
  | v :: t, i, st => match lfd T L f s v.2 i st with
    | .inl e => .inl e
    | .inr st' => lfs f s t (i + 1) st'
noncomputable def lrc (f : Nat → Bool → LSt → LRs) (s p : Nat) (st : LSt) : LRs := match mbr T L p (litN 29) with
  | none => .inl (8, p)
  | some v => if cb T L v = 91 ∧ (prt T L v).length ≤ 32 then lfs T L f s (prt T L v) 0 (wrt (litN 30) st) else .inl (11, v)
noncomputable def ldf (f : Nat → Bool → LSt → LRs) (s p k : Nat) : LSt → LRs
  | (sc, sh, kc, pl, D, fi, G) => match mbr T L p (litN 20) with
    | none => .inl (8, p)
    | some n => if cb T L n = 34 then
        (if dec (isNm (ts T L n) ∧ kw (ts T L n) = -1 ∧ D (ts T L n) = none) = true then
          (if k = 8 then lfx T L s p (sc, sh + 1, kc, pl ++ (litN 21 ++ (qt (ts T L n) ++ (litN 22 ++ (litN (3 + k) ++ [34])))), (fun u => if u = ts T L n then some s else D u), fi, upG G s (mkN k s sh 0 [] []))
          else if k = 9 then len T L s p (sc, sh + 1, kc, pl ++ (litN 21 ++ (qt (ts T L n) ++ (litN 22 ++ (litN (3 + k) ++ [34])))), (fun u => if u = ts T L n then some s else D u), fi, upG G s (mkN k s sh 0 [] []))
          else lrc T L f s p (sc, sh + 1, kc, pl ++ (litN 21 ++ (qt (ts T L n) ++ (litN 22 ++ (litN (3 + k) ++ [34])))), (fun u => if u = ts T L n then some s else D u), fi, upG G s (mkN k s sh 0 [] [])))
        else .inl (9, n))
      else .inl (8, p)
noncomputable def lob (f : Nat → Bool → LSt → LRs) (s p : Nat) (st : LSt) : LRs := match mbr T L p (litN 15) with
  | none => .inl (7, p)
  | some t => if cb T L t = 34 then
      (if kw (ts T L t) = 6 ∨ kw (ts T L t) = 7 then lit T L f s p (kw (ts T L t)).toNatClampNeg st
      else if kw (ts T L t) = 8 ∨ kw (ts T L t) = 9 ∨ kw (ts T L t) = 10 then ldf T L f s p (kw (ts T L t)).toNatClampNeg st
      else lwd T L s t st)
    else .inl (7, p)
noncomputable def look : Nat → Nat → Bool → LSt → LRs
  | 0, p, _, (sc, _, _, _, _, _, _) => if 128 ≤ sc then .inl (13, p) else .inl (14, p)
  | k + 1, p, br, (sc, sh, kc, pl, D, fi, G) => if 128 ≤ sc then .inl (13, p) else
      if cb T L p = 34 then lwd T L sc p (sc + 1, sh, kc, pl, D, fi, upG G sc (mkN 12 sc 0 0 [] []))
      else if cb T L p = 91 then
        (if br = true then .inl (4, p)
        else if 1 ≤ (prt T L p).length ∧ (prt T L p).length ≤ 16 then lun (look k) sc (prt T L p) 0 (sc + 1, sh + 1, kc, pl, D, fi, upG G sc (mkN 11 sc sh 0 [] []))
        else .inl (5, p))
      else if cb T L p = 123 then lob T L (look k) sc p (sc + 1, sh, kc, pl, D, fi, upG G sc (mkN 12 sc 0 0 [] []))
      else .inl (2, p)
end SPEC
section MEMB
variable {T : Nat → Int32} {L : Nat} {Sd In Nx Am K F S I X Lt : Nat → Int32} {N : Nat → Int64} {l : Nat}
theorem VV.lst {n p q : Nat} (h : VV T L Sd In Nx Am K F N S I X Lt l n p q) (hc : cb T L p = 91) : Am p = nI (prt T L p).length ∧ S n = nI (prt T L p).length ∧ p + (prt T L p).length < q ∧ LCH T L Sd In Nx Am K F N S I X Lt l (prt T L p) (p + 1) q (In p) (I n) := by
  obtain ⟨ks, g0, g⟩ := h.list hc
  rw [prt_eq g0]
  exact g
theorem mbc (hL : L ≤ 4096) (hl : l ≤ 4200) {n p q : Nat} (h : VV T L Sd In Nx Am K F N S I X Lt l n p q) (hc : cb T L p = 123) {w : Nat} (hw : w < 75) :
    (mbr T L p (litN w) = none ∧ m_X7_member T Sd In Nx Am (nI L) (nI p) w = some (-1)) ∨ (∃ v kp c b, mbr T L p (litN w) = some v ∧ m_X7_member T Sd In Nx Am (nI L) (nI p) w = some (nI v) ∧ VV T L Sd In Nx Am K F N S I X Lt l c v b ∧ p < kp ∧ kp + (litN w).length + 3 ≤ v ∧ b < q ∧ (kp, v) ∈ prt T L p ∧ ts T L kp = litN w) := by
  obtain ⟨hb1, hb2, hb3, hb4⟩ := h.base
  obtain ⟨ks, g0, g1, g2, g3⟩ := h.obj hc
  have e0 := prt_eq g0
  have a := memc_go (p := p) (w := w) (tot := ks.length) hL (by omega) g1 (by omega) hw ks sr_fuel 0 _ _ _ _ (by omega) (by unfold sr_fuel; omega) g3
  have b := memr_go hl hw ks sr_fuel _ _ _ _ (by unfold sr_fuel; omega) g3
  unfold m_X7_member mbr
  simp only [m_X7_inner, ent_eq (n := 4096) (by decide) (show p < 4096 by omega), Option.bind_some, e0]
  rw [nI_0] at a
  rw [a]
  rcases b with ⟨b1, b2⟩ | ⟨k, c, b', b1, b2, b3, b4⟩
  · rw [b1]
    exact Or.inl ⟨rfl, rfl⟩
  · rw [b1]
    obtain ⟨m1, m2, m3, m4, m5⟩ := b4
    exact Or.inr ⟨k.2, k.1, c, b', rfl, rfl, m5, by omega, m2, m3, b2, m4⟩
theorem mbr_r (hl : l ≤ 4200) {n p q : Nat} (h : VV T L Sd In Nx Am K F N S I X Lt l n p q) (hc : cb T L p = 123) {w : Nat} (hw : w < 75) (hL : L ≤ 4096) :
    (mbr T L p (litN w) = none ∧ m_X9_member K N S I X Lt (nI n) w = some (-1)) ∨ (∃ v c b, mbr T L p (litN w) = some v ∧ m_X9_member K N S I X Lt (nI n) w = some (nI c) ∧ VV T L Sd In Nx Am K F N S I X Lt l c v b) := by
  obtain ⟨hb1, hb2, hb3, hb4⟩ := h.base
  obtain ⟨ks, g0, g1, g2, g3⟩ := h.obj hc
  have e0 := prt_eq g0
  have b := memr_go hl hw ks sr_fuel _ _ _ _ (by unfold sr_fuel; omega) g3
  unfold m_X9_member mbr
  simp only [e0, bd_go hb3 (by decide), bd_gc hb3 (by decide), nI_clamp (show n < 2 ^ 31 by omega)]
  rcases b with ⟨b1, b2⟩ | ⟨k, c, b', b1, b2, b3, b4⟩
  · rw [b1, b2]
    exact Or.inl ⟨rfl, rfl⟩
  · rw [b1, b3]
    exact Or.inr ⟨k.2, c, b', rfl, rfl, b4.2.2.2.2⟩
theorem mb2 {n p q : Nat} (h : VV T L Sd In Nx Am K F N S I X Lt l n p q) (hc : cb T L p = 123) {kp kp' v v' c c' b b' : Nat} (h1 : (kp, v) ∈ prt T L p) (h2 : (kp', v') ∈ prt T L p) (hv : VV T L Sd In Nx Am K F N S I X Lt l c v b) (hv' : VV T L Sd In Nx Am K F N S I X Lt l c' v' b') (hn : ts T L kp ≠ ts T L kp') : b < kp' ∨ b' < kp := by
  obtain ⟨ks, g0, g1, g2, g3⟩ := h.obj hc
  rw [prt_eq g0] at h1 h2
  obtain ⟨x, x', ⟨_, y⟩, ⟨_, y'⟩, z⟩ := g3.two _ _ _ _ _ (kp, v) (kp', v') h1 h2 hn
  rw [hv.one y, hv'.one y']
  exact z
end MEMB
