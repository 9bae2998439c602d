-- what every slot is, once looked at
def OKS (G : Nat → Nod) (k i : Nat) : Prop := n_me (G (n_me (G i))) = n_me (G i) ∧ n_kd (G (n_me (G i))) ≤ 11 ∧ n_me (G i) < k ∧ (∀ c, c ∈ n_ch (G i) → c < k ∧ n_me (G c) < k) ∧ (n_me (G i) = i → (n_kd (G i) = 6 ∨ n_kd (G i) = 7 → (n_ch (G i)).length = 1) ∧ (n_kd (G i) = 11 → 0 < (n_ch (G i)).length ∧ ∀ c, c ∈ n_ch (G i) → n_kd (G (n_me (G c))) ≤ 10) ∧ (n_kd (G i) ≠ 9 → (n_kl (G i)).length = (n_ch (G i)).length))
theorem OKS.low {G G' : Nat → Nod} {i k k' : Nat} (h : OKS G k i) (hi : i < k) (h1 : ∀ j, j < k → n_kd (G' j) = n_kd (G j) ∧ n_me (G' j) = n_me (G j)) (h3 : n_ch (G' i) = n_ch (G i)) (h5 : n_kl (G' i) = n_kl (G i)) (hk : k ≤ k') : OKS G' k' i := by
  obtain ⟨a1, a2, hm, hc, a3⟩ := h
  refine ⟨?_, ?_, ?_, fun c hcc => ?_, fun z => ?_⟩
  · rw [(h1 i hi).2, (h1 _ hm).2]; exact a1
  · rw [(h1 i hi).2, (h1 _ hm).1]; exact a2
  · rw [(h1 i hi).2]; omega
  · rw [h3] at hcc
    obtain ⟨c1, c2⟩ := hc c hcc
    rw [(h1 c c1).2]
    omega
  · rw [(h1 i hi).2] at z
    obtain ⟨b1, b2, b3⟩ := a3 z
    rw [(h1 i hi).1, h3, h5]
    refine ⟨b1, fun q => ⟨(b2 q).1, fun c hcc => ?_⟩, b3⟩
    obtain ⟨c1, c2⟩ := hc c hcc
    rw [(h1 c c1).2, (h1 _ c2).1]
    exact (b2 q).2 c hcc
/-- the slots from a on but s, and the inner slots of s -/
def NW (s a : Nat) : LSt → Prop
  | (sc, _, _, _, _, _, G) => (∀ i, a ≤ i → i < sc → i ≠ s → OKS G sc i) ∧ (∀ c, c ∈ n_ch (G s) → c < sc ∧ n_me (G c) < sc) ∧ s < sc ∧ n_me (G s) < sc
theorem NW.cg {s a : Nat} {sc sh kc : Nat} {pl : List Nat} {D : List Nat → Option Nat} {fi : List (Nat × Nat × Option Nat)} {G : Nat → Nod} {sh' kc' : Nat} {pl' : List Nat} {D' : List Nat → Option Nat} {fi' : List (Nat × Nat × Option Nat)} {G' : Nat → Nod} (h : NW s a (sc, sh, kc, pl, D, fi, G)) (h1 : ∀ j, n_kd (G' j) = n_kd (G j)) (h2 : ∀ j, n_me (G' j) = n_me (G j)) (h3 : ∀ j, j ≠ s → n_ch (G' j) = n_ch (G j)) (h5 : ∀ j, j ≠ s → n_kl (G' j) = n_kl (G j)) (h4 : ∀ c, c ∈ n_ch (G' s) → c < sc ∧ n_me (G c) < sc) : NW s a (sc, sh', kc', pl', D', fi', G') := by
  obtain ⟨a1, a2, a3, a4⟩ := h
  exact ⟨fun i i1 i2 i3 => (a1 i i1 i2 i3).low i2 (fun j _ => ⟨h1 j, h2 j⟩) (h3 i i3) (h5 i i3) (Nat.le_refl _), fun c hc => by rw [h2]; exact h4 c hc, a3, by rw [h2]; exact a4⟩
theorem NW.call {s a : Nat} {br : Bool} {st st' : LSt} (h : NW s a st) (hp : FPs br st st') (ho : ∀ i, st.1 ≤ i → i < st'.1 → OKS st'.2.2.2.2.2.2 st'.1 i) : NW s a st' := by
  obtain ⟨sc, sh, kc, pl, D, fi, G⟩ := st
  obtain ⟨sc', sh', kc', pl', D', fi', G'⟩ := st'
  obtain ⟨a1, a2, a3, a4⟩ := h
  have b1 := hp.1
  have b5 := hp.2.2.2.2.1
  refine ⟨fun i i1 i2 i3 => ?_, fun c hc => ?_, by omega, by rw [b5 s a3]; omega⟩
  · by_cases q : i < sc
    · exact (a1 i i1 q i3).low q (fun j hj => by rw [b5 j hj]; exact ⟨rfl, rfl⟩) (by rw [b5 i q]) (by rw [b5 i q]) (by omega)
    · exact ho i (by show sc ≤ i; omega) i2
  · rw [b5 s a3] at hc
    obtain ⟨c1, c2⟩ := a2 c hc
    rw [b5 c c1]
    omega
section OKF
variable {T : Nat → Int32} {L : Nat} {Sd In Nx Am K F S I X Lt : Nat → Int32} {N : Nat → Int64} {l : Nat}
def okFn (T : Nat → Int32) (L : Nat) (Sd In Nx Am K F : Nat → Int32) (N : Nat → Int64) (S I X Lt : Nat → Int32) (l : Nat) (f : Nat → Bool → LSt → LRs) : Prop := ∀ (p : Nat) (br : Bool) (st st' : LSt) (n q : Nat), VV T L Sd In Nx Am K F N S I X Lt l n p q → WFs st → f p br st = .inr st' → ∀ i, st.1 ≤ i → i < st'.1 → OKS st'.2.2.2.2.2.2 st'.1 i
theorem NW.kid {s a k0 : Nat} {sc sh kc : Nat} {pl : List Nat} {D : List Nat → Option Nat} {fi : List (Nat × Nat × Option Nat)} {G : Nat → Nod} {pl' : List Nat} (h : NW s a (sc, sh, kc, pl, D, fi, G)) : NW s a (sc, sh, kc + 1, pl', D, fi, upG G s (klN (G s) k0)) := by
  obtain ⟨e1, e2, e3, e4, e5⟩ := klN_kd (s := s) (kc := k0) (G := G)
  exact h.cg e1 e2 (fun j _ => e3 j) (fun j hj => by rw [upG_n hj]) (fun c hc => h.2.1 c (by rw [e3] at hc; exact hc))
theorem NW.jn {s a c : Nat} {st : LSt} (h : NW s a st) (hc : c < st.1) (hs : s ≠ c) (hm : n_me (st.2.2.2.2.2.2 c) < st.1) : NW s a (jon s c st) := by
  obtain ⟨sc, sh, kc, pl, D, fi, G⟩ := st
  obtain ⟨e1, e2⟩ := jon_kd (s := s) (c := c) (G := G)
  refine h.cg e1 e2 (fun j hj => ?_) (fun j hj => ?_) (fun x hx => ?_)
  · by_cases q : j = c
    · rw [q, upG_s]; rfl
    · rw [upG_n q, upG_n hj]
  · by_cases q : j = c
    · rw [q, upG_s]; rfl
    · rw [upG_n q, upG_n hj]
  · rw [upG_n hs, upG_s] at hx
    rcases List.mem_append.mp hx with q | q
    · exact h.2.1 x q
    · rw [List.mem_singleton.mp q]
      exact ⟨hc, hm⟩
theorem lun_f {f : Nat → Bool → LSt → LRs} (hf : okSp T L Sd In Nx Am K F N S I X Lt l f) (ho : okFn T L Sd In Nx Am K F N S I X Lt l f) {s a : Nat} : ∀ (ks : List (Nat × Nat)) (i lo hi : Nat) (st st' : LSt) (hc hr : Int32), WFs st → NW s a st → (∀ c, c ∈ n_ch (st.2.2.2.2.2.2 s) → n_kd (st.2.2.2.2.2.2 (n_me (st.2.2.2.2.2.2 c))) ≤ 10) → LCH T L Sd In Nx Am K F N S I X Lt l ks lo hi hc hr → lun f s ks i st = .inr st' → NW s a st' ∧ (∀ c, c ∈ n_ch (st'.2.2.2.2.2.2 s) → n_kd (st'.2.2.2.2.2.2 (n_me (st'.2.2.2.2.2.2 c))) ≤ 10) ∧ (n_ch (st'.2.2.2.2.2.2 s)).length = (n_ch (st.2.2.2.2.2.2 s)).length + ks.length ∧ (n_kl (st'.2.2.2.2.2.2 s)).length = (n_kl (st.2.2.2.2.2.2 s)).length + ks.length := by
  intro ks
  induction ks with
  | nil =>
    intro i lo hi st st' hc hr hw hn hk hl h
    simp only [lun] at h
    have e := Sum.inr.inj h
    rw [← e]
    obtain ⟨sc, sh, kc, pl, D, fi, G⟩ := st
    exact ⟨hn, hk, rfl, rfl⟩
  | cons v t ih =>
    intro i lo hi st st' hc hr hw hn hk hl h
    obtain ⟨c, b, c1, c2, c3, c4, c5, c6⟩ := hl
    obtain ⟨sc, sh, kc, pl, D, fi, G⟩ := st
    simp only [lun, wrt] at h
    have hw1 : WFs (sc, sh, kc, pl ++ [if i = 0 then 91 else 44], D, fi, G) := hw
    have hn1 : NW s a (sc, sh, kc, pl ++ [if i = 0 then 91 else 44], D, fi, G) := hn
    cases hv : f v.2 true (sc, sh, kc, pl ++ [if i = 0 then 91 else 44], D, fi, G) with
    | inl e => rw [hv] at h; cases h
    | inr st1 =>
      rw [hv] at h
      simp only at h
      obtain ⟨g1, _⟩ := hf _ _ _ _ _ _ c4 hw1 hv
      have g2 := ho _ _ _ _ _ _ c4 hw1 hv
      by_cases ha : hlk s sc st1 = true
      · rw [if_pos ha] at h; cases h
      · rw [if_neg ha] at h
        have hs : s < sc := hn.2.2.1
        have q1 : FQ s (sc, sh, kc, pl, D, fi, G) st1 := ((FQ.refl hw).wrt _).trans (g1.q hs)
        have q2 := (q1.kid).jon (c := sc) hs (Nat.le_refl _)
        have n1 := hn1.call g1 g2
        obtain ⟨k1, sh1, kc1, pl1, D1, fi1, G1⟩ := st1
        obtain ⟨a1, a2, a3, a4, a5, a6, a7, a8, a9, a10, a11, a12, a13⟩ := g1
        obtain ⟨e1, e2, e3, e4, e5⟩ := klN_kd (s := s) (kc := kc1) (G := G1)
        have n2 := (n1.kid (k0 := kc1) (pl' := pl1)).jn (c := sc) a1 (by omega) (by show n_me (upG G1 s (klN (G1 s) kc1) sc) < k1; rw [e2]; exact a11.1)
        obtain ⟨y1, y2⟩ := jon_kd (s := s) (c := sc) (G := upG G1 s (klN (G1 s) kc1))
        have ecs : n_ch (upG (upG (upG G1 s (klN (G1 s) kc1)) s (chN (upG G1 s (klN (G1 s) kc1) s) sc)) sc (paN (upG G1 s (klN (G1 s) kc1) sc) s) s) = n_ch (G s) ++ [sc] := by
          rw [upG_n (show s ≠ sc by omega), upG_s]
          show n_ch (upG G1 s (klN (G1 s) kc1) s) ++ [sc] = _
          rw [e3, a5 s hs]
        have eks : n_kl (upG (upG (upG G1 s (klN (G1 s) kc1)) s (chN (upG G1 s (klN (G1 s) kc1) s) sc)) sc (paN (upG G1 s (klN (G1 s) kc1) sc) s) s) = n_kl (G s) ++ [kc1] := by
          rw [upG_n (show s ≠ sc by omega), upG_s]
          show n_kl (upG G1 s (klN (G1 s) kc1) s) = _
          rw [upG_s, ← a5 s hs]
          rfl
        obtain ⟨r1, r2, r3, r4⟩ := ih (i + 1) _ _ _ _ _ _ (q2.wf hw) n2 (fun x hx => by
          have hx : x ∈ n_ch (upG (upG (upG G1 s (klN (G1 s) kc1)) s (chN (upG G1 s (klN (G1 s) kc1) s) sc)) sc (paN (upG G1 s (klN (G1 s) kc1) sc) s) s) := hx
          rw [ecs] at hx
          show n_kd (upG (upG (upG G1 s (klN (G1 s) kc1)) s (chN (upG G1 s (klN (G1 s) kc1) s) sc)) sc (paN (upG G1 s (klN (G1 s) kc1) sc) s) (n_me (upG (upG (upG G1 s (klN (G1 s) kc1)) s (chN (upG G1 s (klN (G1 s) kc1) s) sc)) sc (paN (upG G1 s (klN (G1 s) kc1) sc) s) x))) ≤ 10
          rw [y2, e2, y1, e1]
          rcases List.mem_append.mp hx with z | z
          · obtain ⟨z1, z2⟩ := hn.2.1 x z
            rw [a5 x z1, a5 _ z2]
            exact hk x z
          · rw [List.mem_singleton.mp z]
            exact a13 rfl) c6 h
        refine ⟨r1, r2, r3.trans ?_, r4.trans ?_⟩
        rotate_left
        · show (n_kl (upG (upG (upG G1 s (klN (G1 s) kc1)) s (chN (upG G1 s (klN (G1 s) kc1) s) sc)) sc (paN (upG G1 s (klN (G1 s) kc1) sc) s) s)).length + t.length = (n_kl (G s)).length + (t.length + 1)
          rw [eks, List.length_append, List.length_singleton]
          omega
        show (n_ch (upG (upG (upG G1 s (klN (G1 s) kc1)) s (chN (upG G1 s (klN (G1 s) kc1) s) sc)) sc (paN (upG G1 s (klN (G1 s) kc1) sc) s) s)).length + t.length = (n_ch (G s)).length + (t.length + 1)
        rw [ecs, List.length_append, List.length_singleton]
        omega
theorem NW.nd {s a : Nat} {sc sh kc : Nat} {pl : List Nat} {D : List Nat → Option Nat} {fi : List (Nat × Nat × Option Nat)} {G : Nat → Nod} {x : Nod} {sh' kc' : Nat} {pl' : List Nat} {D' : List Nat → Option Nat} (h : NW s a (sc, sh, kc, pl, D, fi, G)) (h1 : n_kd x = n_kd (G s)) (h2 : n_me x = n_me (G s)) (h3 : n_ch x = n_ch (G s)) : NW s a (sc, sh', kc', pl', D', fi, upG G s x) := by
  have e : ∀ {β : Type} (g : Nod → β), g x = g (G s) → ∀ j, g (upG G s x j) = g (G j) := fun g hg j => by
    by_cases q : j = s
    · rw [q, upG_s]; exact hg
    · rw [upG_n q]
  exact h.cg (e _ h1) (e _ h2) (fun j _ => e _ h3 j) (fun j hj => by rw [upG_n hj]) (fun c hc => h.2.1 c (by rw [e n_ch h3 s] at hc; exact hc))
theorem lsy_f {s a : Nat} : ∀ (ks : List (Nat × Nat)) (st st' : LSt), NW s a st → lsy T L s ks st = .inr st' → NW s a st' := by
  intro ks
  induction ks with
  | nil =>
    intro st st' hn h
    simp only [lsy] at h
    rw [← Sum.inr.inj h]
    exact hn
  | cons v t ih =>
    intro st st' hn h
    obtain ⟨sc, sh, kc, pl, D, fi, G⟩ := st
    simp only [lsy] at h
    by_cases hd : cb T L v.2 = 34 ∧ isNm (ts T L v.2) ∧ ts T L v.2 ∉ n_sy (G s)
    · rw [dec_t hd, if_pos rfl] at h
      exact ih _ _ (NW.nd (x := syN (G s) (ts T L v.2) kc) hn rfl rfl rfl) h
    · rw [dec_f hd, if_neg (by decide)] at h; cases h
theorem lfd_f (hL : L ≤ 4096) (hl : l ≤ 4200) {f : Nat → Bool → LSt → LRs} (hf : okSp T L Sd In Nx Am K F N S I X Lt l f) (ho : okFn T L Sd In Nx Am K F N S I X Lt l f) {s a n p q i : Nat} {st st' : LSt} (hw : WFs st) (hn : NW s a st) (hv : VV T L Sd In Nx Am K F N S I X Lt l n p q) (h : lfd T L f s p i st = .inr st') : NW s a st' ∧ ((n_kl (st.2.2.2.2.2.2 s)).length = (n_ch (st.2.2.2.2.2.2 s)).length → (n_kl (st'.2.2.2.2.2.2 s)).length = (n_ch (st'.2.2.2.2.2.2 s)).length) := by
  obtain ⟨sc, sh, kc, pl, D, fi, G⟩ := st
  have hs : s < sc := hn.2.2.1
  simp only [lfd] at h
  by_cases hc : cb T L p = 123
  rotate_left
  · rw [if_neg hc] at h; cases h
  rw [if_pos hc] at h
  cases e0 : mbr T L p (litN 20) with
  | none => rw [e0] at h; cases h
  | some v0 =>
  rw [e0] at h
  simp only at h
  by_cases c34 : cb T L v0 = 34
  rotate_left
  · rw [if_neg c34] at h; cases h
  rw [if_pos c34] at h
  by_cases hd : isNm (ts T L v0) ∧ ∀ c, c ∈ n_ch (G s) → n_fn (G c) ≠ ts T L v0
  rotate_left
  · rw [dec_f hd, if_neg (by decide)] at h; cases h
  rw [dec_t hd, if_pos rfl] at h
  rcases mbc hL hl hv hc (w := 15) (by decide) with ⟨e, _⟩ | ⟨v, kp, c, b, e, _, z1, z2, z3, z4, z5, z6⟩
  · rw [e] at h; cases h
  rw [e] at h
  simp only at h
  have hw1 : WFs (sc, sh, kc + 1, pl ++ ((if i = 0 then [] else [44]) ++ (litN 21 ++ (qt (ts T L v0) ++ litN 31))), D, fi, upG G s (klN (G s) kc)) := ⟨DOK.up (x := klN (G s) kc) hw.1 rfl rfl, hw.2⟩
  cases hr : f v false (sc, sh, kc + 1, pl ++ ((if i = 0 then [] else [44]) ++ (litN 21 ++ (qt (ts T L v0) ++ litN 31))), D, fi, upG G s (klN (G s) kc)) with
  | inl e => rw [hr] at h; cases h
  | inr st1 =>
    rw [hr] at h
    obtain ⟨g1, _⟩ := hf _ _ _ _ _ _ z1 hw1 hr
    have g2 := ho _ _ _ _ _ _ z1 hw1 hr
    have n1 := (hn.kid (k0 := kc) (pl' := pl ++ ((if i = 0 then [] else [44]) ++ (litN 21 ++ (qt (ts T L v0) ++ litN 31))))).call g1 g2
    obtain ⟨k1, sh1, kc1, pl1, D1, fi1, G1⟩ := st1
    obtain ⟨a1, a2, a3, a4, a5, a6, a7, a8, a9, a10, a11, a12, a13⟩ := g1
    have e := Sum.inr.inj h
    rw [← e]
    have ef : ∀ {β : Type} (g : Nod → β), g (fnN (G1 sc) (ts T L v0)) = g (G1 sc) → ∀ j, g (upG G1 sc (fnN (G1 sc) (ts T L v0)) j) = g (G1 j) := fun g hg j => by
      by_cases q : j = sc
      · rw [q, upG_s]; exact hg
      · rw [upG_n q]
    have n2 : NW s a (k1, sh1, kc1, pl1 ++ [125], D1, fi1 ++ [(kc, sc, mbr T L p (litN 28))], upG G1 sc (fnN (G1 sc) (ts T L v0))) := n1.cg (ef _ rfl) (ef _ rfl) (fun j _ => ef _ rfl j) (fun j _ => ef _ rfl j) (fun c hc => n1.2.1 c (by rw [ef n_ch rfl s] at hc; exact hc))
    refine ⟨n2.jn (c := sc) a1 (by omega) (by show n_me (upG G1 sc (fnN (G1 sc) (ts T L v0)) sc) < k1; rw [ef n_me rfl]; exact a11.1), fun hq => ?_⟩
    have eGs : G1 s = klN (G s) kc := by rw [a5 s hs, upG_s]
    show (n_kl (upG (upG (upG G1 sc (fnN (G1 sc) (ts T L v0))) s (chN (upG G1 sc (fnN (G1 sc) (ts T L v0)) s) sc)) sc (paN (upG G1 sc (fnN (G1 sc) (ts T L v0)) sc) s) s)).length = (n_ch (upG (upG (upG G1 sc (fnN (G1 sc) (ts T L v0))) s (chN (upG G1 sc (fnN (G1 sc) (ts T L v0)) s) sc)) sc (paN (upG G1 sc (fnN (G1 sc) (ts T L v0)) sc) s) s)).length
    rw [upG_n (show s ≠ sc by omega), upG_s, upG_n (show s ≠ sc by omega), eGs]
    show (n_kl (G s) ++ [kc]).length = (n_ch (G s) ++ [sc]).length
    rw [List.length_append, List.length_append, List.length_singleton, List.length_singleton]
    have hq : (n_kl (G s)).length = (n_ch (G s)).length := hq
    omega
theorem lfs_f (hL : L ≤ 4096) (hl : l ≤ 4200) {f : Nat → Bool → LSt → LRs} (hf : okSp T L Sd In Nx Am K F N S I X Lt l f) (ho : okFn T L Sd In Nx Am K F N S I X Lt l f) {s a : Nat} : ∀ (ks : List (Nat × Nat)) (i lo hi : Nat) (st st' : LSt) (hc hr : Int32), WFs st → NW s a st → LCH T L Sd In Nx Am K F N S I X Lt l ks lo hi hc hr → lfs T L f s ks i st = .inr st' → (n_kl (st.2.2.2.2.2.2 s)).length = (n_ch (st.2.2.2.2.2.2 s)).length → NW s a st' ∧ (n_kl (st'.2.2.2.2.2.2 s)).length = (n_ch (st'.2.2.2.2.2.2 s)).length := by
  intro ks
  induction ks with
  | nil =>
    intro i lo hi st st' hc hr hw hn hlc h hkl
    simp only [lfs] at h
    rw [← Sum.inr.inj h]
    obtain ⟨sc, sh, kc, pl, D, fi, G⟩ := st
    exact ⟨hn, hkl⟩
  | cons k t ih =>
    intro i lo hi st st' hc hr hw hn hlc h hkl
    obtain ⟨c, b, c1, c2, c3, c4, c5, c6⟩ := hlc
    simp only [lfs] at h
    cases hv : lfd T L f s k.2 i st with
    | inl e => rw [hv] at h; cases h
    | inr st1 =>
      rw [hv] at h
      simp only at h
      obtain ⟨n1, n2⟩ := lfd_f hL hl hf ho hw hn c4 hv
      obtain ⟨sc, sh, kc, pl, D, fi, G⟩ := st
      have g1 := (lfd_p hL hl hf hn.2.2.1 hw c4 hv).1
      exact ih (i + 1) _ _ _ _ _ _ (g1.wf hw) n1 c6 h (n2 hkl)
theorem ldf_f (hL : L ≤ 4096) (hl : l ≤ 4200) {f : Nat → Bool → LSt → LRs} (hf : okSp T L Sd In Nx Am K F N S I X Lt l f) (ho : okFn T L Sd In Nx Am K F N S I X Lt l f) {k n p q : Nat} (hk : k = 8 ∨ k = 9 ∨ k = 10) {sc sh kc : Nat} {pl : List Nat} {D : List Nat → Option Nat} {fi : List (Nat × Nat × Option Nat)} {G : Nat → Nod} {st' : LSt} (hw : WFs (sc, sh, kc, pl, D, fi, G)) (hv : VV T L Sd In Nx Am K F N S I X Lt l n p q) (hc : cb T L p = 123) (h : ldf T L f sc p k (sc + 1, sh, kc, pl, D, fi, upG G sc (mkN 12 sc 0 0 [] [])) = .inr st') : NW sc sc st' ∧ n_me (st'.2.2.2.2.2.2 sc) = sc ∧ n_kd (st'.2.2.2.2.2.2 sc) = k ∧ (k ≠ 9 → (n_kl (st'.2.2.2.2.2.2 sc)).length = (n_ch (st'.2.2.2.2.2.2 sc)).length) := by
  simp only [ldf] at h
  cases e0 : mbr T L p (litN 20) with
  | none => rw [e0] at h; cases h
  | some v =>
  rw [e0] at h
  simp only at h
  by_cases c34 : cb T L v = 34
  rotate_left
  · rw [if_neg c34] at h; cases h
  rw [if_pos c34] at h
  by_cases hd : isNm (ts T L v) ∧ kw (ts T L v) = -1 ∧ D (ts T L v) = none
  rotate_left
  · rw [dec_f hd, if_neg (by decide)] at h; cases h
  rw [dec_t hd, if_pos rfl] at h
  have e2 : ∀ y, upG (upG G sc (mkN 12 sc 0 0 [] [])) sc y = upG G sc y := fun y => funext (fun i => by
    by_cases q : i = sc
    · rw [q, upG_s, upG_s]
    · rw [upG_n q, upG_n q, upG_n q])
  rw [e2] at h
  have hw1 : ∀ pl', WFs (sc + 1, sh + 1, kc, pl', (fun u => if u = ts T L v then some sc else D u), fi, upG G sc (mkN k sc sh 0 [] [])) := by
    intro pl'
    refine ⟨fun w d hdd => ?_, by have := hw.2; omega⟩
    have hdd : (if w = ts T L v then some sc else D w) = some d := hdd
    by_cases ew : w = ts T L v
    · rw [if_pos ew] at hdd
      have e := Option.some.inj hdd
      subst e
      rw [upG_s]
      exact ⟨by omega, rfl, show 8 ≤ k by omega, show k ≤ 10 by omega⟩
    · rw [if_neg ew] at hdd
      obtain ⟨a, b⟩ := hw.1 w d hdd
      rw [upG_n (by omega)]
      exact ⟨by omega, b⟩
  have n0 : ∀ pl', NW sc sc (sc + 1, sh + 1, kc, pl', (fun u => if u = ts T L v then some sc else D u), fi, upG G sc (mkN k sc sh 0 [] [])) := fun pl' => ⟨fun i i1 i2 i3 => absurd (show i = sc by omega) i3, fun c hc => by rw [upG_s] at hc; exact absurd hc List.not_mem_nil, by omega, by rw [upG_s]; show sc < sc + 1; omega⟩
  have fin : ∀ pl' st', FQ sc (sc + 1, sh + 1, kc, pl', (fun u => if u = ts T L v then some sc else D u), fi, upG G sc (mkN k sc sh 0 [] [])) st' → n_me (st'.2.2.2.2.2.2 sc) = sc ∧ n_kd (st'.2.2.2.2.2.2 sc) = k := fun pl' st' hq => by
    obtain ⟨sc', sh', kc', pl'', D', fi', G'⟩ := st'
    obtain ⟨_, _, _, _, _, _, _, _, _, b10, b11, _⟩ := hq
    rw [upG_s] at b10 b11
    exact ⟨b11, b10⟩
  by_cases k8 : k = 8
  · rw [if_pos k8] at h
    subst k8
    have hq := (lfx_p hL hl (show sc < sc + 1 by omega) (by rw [upG_s]; exact ⟨rfl, rfl, rfl⟩) (hw1 _) hv hc h).1
    have key : NW sc sc st' ∧ (n_kl (st'.2.2.2.2.2.2 sc)).length = (n_ch (st'.2.2.2.2.2.2 sc)).length := ?_
    · exact ⟨key.1, (fin _ _ hq).1, (fin _ _ hq).2, fun _ => key.2⟩
    simp only [lfx] at h
    cases e1 : mbr T L p (litN 23) with
    | none => rw [e1] at h; cases h
    | some v2 =>
      rw [e1] at h
      simp only at h
      cases e2 : (if cb T L v2 = 45 ∨ (48 ≤ cb T L v2 ∧ cb T L v2 ≤ 57) then lsz (snv T L v2) else none : Option Nat) with
      | none => rw [e2] at h; cases h
      | some w =>
        rw [e2] at h
        rw [← Sum.inr.inj h]
        refine ⟨(n0 []).nd (by rw [upG_s]; rfl) (by rw [upG_s]; rfl) (by rw [upG_s]; rfl), ?_⟩
        show (n_kl (upG (upG G sc (mkN 8 sc sh 0 [] [])) sc _ sc)).length = (n_ch (upG (upG G sc (mkN 8 sc sh 0 [] [])) sc _ sc)).length
        rw [upG_s]
        rfl
  rw [if_neg k8] at h
  by_cases k9 : k = 9
  · rw [if_pos k9] at h
    subst k9
    have hq := (len_p hL hl (show sc < sc + 1 by omega) (by rw [upG_s]; rfl) (hw1 _) hv hc h).1
    refine ⟨?_, (fin _ _ hq).1, (fin _ _ hq).2, fun z => absurd rfl z⟩
    rw [len_2] at h
    cases e1 : mbr T L p (litN 25) with
    | none => rw [e1] at h; cases h
    | some v2 =>
      rw [e1] at h
      simp only at h
      by_cases c9 : cb T L v2 = 91 ∧ 1 ≤ (prt T L v2).length ∧ (prt T L v2).length ≤ 32
      rotate_left
      · rw [if_neg c9] at h; cases h
      rw [if_pos c9] at h
      cases hr : lsy T L sc (prt T L v2) (wrt (litN 26) (sc + 1, sh + 1, kc, pl ++ (litN 21 ++ (qt (ts T L v) ++ (litN 22 ++ (litN (3 + 9) ++ [34])))), (fun u => if u = ts T L v then some sc else D u), fi, upG G sc (mkN 9 sc sh 0 [] []))) with
      | inl e => rw [hr] at h; cases h
      | inr st1 =>
        rw [hr] at h
        have n1 := lsy_f (prt T L v2) _ _ (show NW sc sc (wrt (litN 26) (sc + 1, sh + 1, kc, pl ++ (litN 21 ++ (qt (ts T L v) ++ (litN 22 ++ (litN (3 + 9) ++ [34])))), (fun u => if u = ts T L v then some sc else D u), fi, upG G sc (mkN 9 sc sh 0 [] []))) from n0 _) hr
        obtain ⟨k1, sh1, kc1, pl1, D1, fi1, G1⟩ := st1
        simp only [len2] at h
        cases hm : mbr T L p (litN 28) with
        | none =>
          rw [hm] at h
          rw [← Sum.inr.inj h]
          exact n1
        | some d =>
          rw [hm] at h
          simp only at h
          by_cases hdd : cb T L d = 34 ∧ ts T L d ∈ n_sy (G1 sc)
          · rw [dec_t hdd, bT] at h
            rw [← Sum.inr.inj h]
            exact n1
          · rw [dec_f hdd, bF] at h; cases h
  rw [if_neg k9] at h
  have k10 : k = 10 := by omega
  subst k10
  have hq := (lrc_p hL hl hf (show sc < sc + 1 by omega) (hw1 _) hv hc h).1
  have key : NW sc sc st' ∧ (n_kl (st'.2.2.2.2.2.2 sc)).length = (n_ch (st'.2.2.2.2.2.2 sc)).length := ?_
  · exact ⟨key.1, (fin _ _ hq).1, (fin _ _ hq).2, fun _ => key.2⟩
  simp only [lrc] at h
  rcases mbc hL hl hv hc (w := 29) (by decide) with ⟨e, _⟩ | ⟨v2, kp, c, b, e, _, z1, z2, z3, z4, z5, z6⟩
  · rw [e] at h; cases h
  rw [e] at h
  simp only at h
  by_cases c9 : cb T L v2 = 91 ∧ (prt T L v2).length ≤ 32
  rotate_left
  · rw [if_neg c9] at h; cases h
  rw [if_pos c9] at h
  exact lfs_f hL hl hf ho (prt T L v2) _ _ _ _ _ _ _ (hw1 _) (n0 _) (z1.lst c9.1).2.2.2 h (by
    show (n_kl (upG G sc (mkN 10 sc sh 0 [] []) sc)).length = (n_ch (upG G sc (mkN 10 sc sh 0 [] []) sc)).length
    rw [upG_s]
    rfl)
/-- from the others to all of them -/
theorem NW.fin {s : Nat} {st : LSt} (h : NW s s st) (hs : n_me (st.2.2.2.2.2.2 s) = s) (hk : n_kd (st.2.2.2.2.2.2 s) ≤ 11) (h6 : n_kd (st.2.2.2.2.2.2 s) = 6 ∨ n_kd (st.2.2.2.2.2.2 s) = 7 → (n_ch (st.2.2.2.2.2.2 s)).length = 1) (h11 : n_kd (st.2.2.2.2.2.2 s) = 11 → 0 < (n_ch (st.2.2.2.2.2.2 s)).length ∧ ∀ c, c ∈ n_ch (st.2.2.2.2.2.2 s) → n_kd (st.2.2.2.2.2.2 (n_me (st.2.2.2.2.2.2 c))) ≤ 10) (h9 : n_kd (st.2.2.2.2.2.2 s) ≠ 9 → (n_kl (st.2.2.2.2.2.2 s)).length = (n_ch (st.2.2.2.2.2.2 s)).length) : ∀ i, s ≤ i → i < st.1 → OKS st.2.2.2.2.2.2 st.1 i := by
  obtain ⟨sc, sh, kc, pl, D, fi, G⟩ := st
  intro i i1 i2
  by_cases e : i = s
  · subst e
    exact ⟨by rw [hs]; exact hs, by rw [hs]; exact hk, h.2.2.2, h.2.1, fun _ => ⟨h6, h11, h9⟩⟩
  · exact h.1 i i1 i2 e
theorem lwd_f {p : Nat} {sc sh kc : Nat} {pl : List Nat} {D : List Nat → Option Nat} {fi : List (Nat × Nat × Option Nat)} {G : Nat → Nod} {x : Nod} {st' : LSt} (hw : WFs (sc, sh, kc, pl, D, fi, G)) (h : lwd T L sc p (sc + 1, sh, kc, pl, D, fi, upG G sc x) = .inr st') : ∀ i, sc ≤ i → i < st'.1 → OKS st'.2.2.2.2.2.2 st'.1 i := by
  simp only [lwd] at h
  by_cases c6 : kw6 (ts T L p) = -1
  · rw [if_pos c6] at h
    cases hD : D (ts T L p) with
    | none => rw [hD] at h; cases h
    | some d =>
      rw [hD] at h
      rw [← Sum.inr.inj h]
      obtain ⟨d1, d2, d3, d4⟩ := hw.1 _ _ hD
      intro i i1 i2
      have ei : i = sc := by have : i < sc + 1 := i2; omega
      subst ei
      have eg : upG (upG G i x) i (mkN 12 d (n_sg (upG G i x d)) 0 [] []) d = G d := by rw [upG_n (by omega), upG_n (by omega)]
      show OKS (upG (upG G i x) i (mkN 12 d (n_sg (upG G i x d)) 0 [] [])) (i + 1) i
      unfold OKS
      rw [upG_s]
      show n_me (upG (upG G i x) i _ d) = d ∧ n_kd (upG (upG G i x) i _ d) ≤ 11 ∧ d < i + 1 ∧ (∀ c, c ∈ ([] : List Nat) → c < i + 1 ∧ _) ∧ (d = i → _)
      rw [eg]
      exact ⟨d2, by omega, by omega, fun c hc => absurd hc List.not_mem_nil, fun z => by omega⟩
  · rw [if_neg c6] at h
    rw [← Sum.inr.inj h]
    have hk : (kw6 (ts T L p)).toNatClampNeg ≤ 5 := by
      rcases kw6_of (ts T L p) with ⟨k, k1, k2, k3⟩ | ⟨k1, _⟩
      · rw [k3, nI_clamp (by omega)]; exact k1
      · exact absurd k1 c6
    generalize (kw6 (ts T L p)).toNatClampNeg = k at hk
    intro i i1 i2
    have ei : i = sc := by have : i < sc + 1 := i2; omega
    subst ei
    show OKS (upG (upG G i x) i (mkN k i k 0 [] [])) (i + 1) i
    unfold OKS
    rw [upG_s]
    show n_me (upG (upG G i x) i (mkN k i k 0 [] []) i) = i ∧ n_kd (upG (upG G i x) i (mkN k i k 0 [] []) i) ≤ 11 ∧ i < i + 1 ∧ (∀ c, c ∈ ([] : List Nat) → c < i + 1 ∧ _) ∧ (i = i → (k = 6 ∨ k = 7 → _) ∧ (k = 11 → _) ∧ (k ≠ 9 → ([] : List Nat).length = ([] : List Nat).length))
    rw [upG_s]
    exact ⟨rfl, show k ≤ 11 by omega, by omega, fun c hc => absurd hc List.not_mem_nil, fun _ => ⟨fun z => by omega, fun z => by omega, fun _ => rfl⟩⟩
theorem look_f (hL : L ≤ 4096) (hl : l ≤ 4200) : ∀ k, okFn T L Sd In Nx Am K F N S I X Lt l (look T L k) := by
  intro k
  induction k with
  | zero =>
    intro p br st st' n q hv hw h
    obtain ⟨sc, sh, kc, pl, D, fi, G⟩ := st
    simp only [look] at h
    by_cases c : 128 ≤ sc
    · rw [if_pos c] at h; cases h
    · rw [if_neg c] at h; cases h
  | succ k ih =>
    intro p br st st' n q hv hw h
    obtain ⟨sc, sh, kc, pl, D, fi, G⟩ := st
    have hg := look_p (T := T) (Sd := Sd) (In := In) (Nx := Nx) (Am := Am) (K := K) (F := F) (N := N) (S := S) (I := I) (X := X) (Lt := Lt) hL hl k
    simp only [look] at h
    show ∀ i, sc ≤ i → _
    by_cases c : 128 ≤ sc
    · rw [if_pos c] at h; cases h
    rw [if_neg c] at h
    have e2 : ∀ y, upG (upG G sc (mkN 12 sc 0 0 [] [])) sc y = upG G sc y := fun y => funext (fun i => by
      by_cases q : i = sc
      · rw [q, upG_s, upG_s]
      · rw [upG_n q, upG_n q, upG_n q])
    have n0 : ∀ x sh' kc' pl', n_ch x = [] → n_me x = sc → NW sc sc (sc + 1, sh', kc', pl', D, fi, upG G sc x) := fun x sh' kc' pl' h1 h2 => ⟨fun i i1 i2 i3 => absurd (show i = sc by omega) i3, fun c hc => by rw [upG_s, h1] at hc; exact absurd hc List.not_mem_nil, by omega, by rw [upG_s, h2]; omega⟩
    have w0 : ∀ x sh' kc' pl', WFs (sc + 1, sh', kc', pl', D, fi, upG G sc x) := fun x sh' kc' pl' => by
      refine ⟨fun w d hd => ?_, by have := hw.2; omega⟩
      obtain ⟨a, b⟩ := hw.1 w d hd
      rw [upG_n (by omega)]
      exact ⟨by omega, b⟩
    by_cases c1 : cb T L p = 34
    · rw [if_pos c1] at h
      exact lwd_f hw h
    rw [if_neg c1] at h
    by_cases c2 : cb T L p = 91
    · rw [if_pos c2] at h
      by_cases c3 : br = true
      · rw [if_pos c3] at h; cases h
      rw [if_neg c3] at h
      by_cases c4 : 1 ≤ (prt T L p).length ∧ (prt T L p).length ≤ 16
      · rw [if_pos c4] at h
        obtain ⟨a1, a2, a3, a4⟩ := hv.lst c2
        obtain ⟨r1, r2, r3, r4⟩ := lun_f hg ih (s := sc) (a := sc) (prt T L p) _ _ _ _ _ _ _ (w0 _ _ _ _) (n0 (mkN 11 sc sh 0 [] []) (sh + 1) kc pl rfl rfl) (fun c hc => by
          have hc : c ∈ n_ch (upG G sc (mkN 11 sc sh 0 [] []) sc) := hc
          rw [upG_s] at hc
          exact absurd hc List.not_mem_nil) a4 h
        have hq := (lun_p hg (s := sc) (prt T L p) _ _ _ _ _ _ _ (show sc < sc + 1 by omega) (w0 _ _ _ _) a4 h).1
        have r3 : (n_ch (st'.2.2.2.2.2.2 sc)).length = (n_ch (upG G sc (mkN 11 sc sh 0 [] []) sc)).length + (prt T L p).length := r3
        rw [upG_s] at r3
        have r3 : (n_ch (st'.2.2.2.2.2.2 sc)).length = 0 + (prt T L p).length := r3
        have r4 : (n_kl (st'.2.2.2.2.2.2 sc)).length = (n_kl (upG G sc (mkN 11 sc sh 0 [] []) sc)).length + (prt T L p).length := r4
        rw [upG_s] at r4
        have r4 : (n_kl (st'.2.2.2.2.2.2 sc)).length = 0 + (prt T L p).length := r4
        have hmk : n_me (st'.2.2.2.2.2.2 sc) = sc ∧ n_kd (st'.2.2.2.2.2.2 sc) = 11 := by
          obtain ⟨sc', sh', kc', pl'', D', fi', G'⟩ := st'
          obtain ⟨_, _, _, _, _, _, _, _, _, b10, b11, _⟩ := hq
          rw [upG_s] at b10 b11
          exact ⟨b11, b10⟩
        exact r1.fin hmk.1 (by omega) (fun z => by omega) (fun _ => ⟨by omega, r2⟩) (fun _ => by omega)
      · rw [if_neg c4] at h; cases h
    rw [if_neg c2] at h
    by_cases c3 : cb T L p = 123
    rotate_left
    · rw [if_neg c3] at h; cases h
    rw [if_pos c3] at h
    simp only [lob] at h
    rcases mbc hL hl hv c3 (w := 15) (by decide) with ⟨e, _⟩ | ⟨v, kp, c, b, e, _, z1, z2, z3, z4, z5, z6⟩
    · rw [e] at h; cases h
    rw [e] at h
    simp only at h
    by_cases c34 : cb T L v = 34
    rotate_left
    · rw [if_neg c34] at h; cases h
    rw [if_pos c34] at h
    by_cases c67 : kw (ts T L v) = 6 ∨ kw (ts T L v) = 7
    · rw [if_pos c67] at h
      have hk6 : (kw (ts T L v)).toNatClampNeg = 6 ∨ (kw (ts T L v)).toNatClampNeg = 7 := by
        rcases c67 with z | z <;> rw [z]
        · exact Or.inl (by decide)
        · exact Or.inr (by decide)
      generalize (kw (ts T L v)).toNatClampNeg = k6 at h hk6
      simp only [lit] at h
      rcases mbc hL hl hv c3 (w := if k6 = 6 then 16 else 19) (by split <;> decide) with ⟨e', _⟩ | ⟨v2, kp2, c2', b2, e', _, q1, q2, q3, q4, q5, q6⟩
      · rw [e'] at h; cases h
      rw [e'] at h
      simp only at h
      rw [e2] at h
      cases hr : look T L k v2 false (sc + 1, sh + 1, kc + 1, pl ++ litN (if k6 = 6 then 17 else 18), D, fi, upG G sc (mkN k6 sc sh 0 [] [kc])) with
      | inl e => rw [hr] at h; cases h
      | inr st1 =>
        rw [hr] at h
        rw [← Sum.inr.inj h]
        obtain ⟨g1, _⟩ := hg _ _ _ _ _ _ q1 (w0 _ _ _ _) hr
        have g2 := ih _ _ _ _ _ _ q1 (w0 _ _ _ _) hr
        have n1 := (n0 (mkN k6 sc sh 0 [] [kc]) (sh + 1) (kc + 1) (pl ++ litN (if k6 = 6 then 17 else 18)) rfl rfl).call g1 g2
        obtain ⟨k1, sh1, kc1, pl1, D1, fi1, G1⟩ := st1
        obtain ⟨a1, a2, a3, a4, a5, a6, a7, a8, a9, a10, a11, a12, a13⟩ := g1
        have eGs : G1 sc = mkN k6 sc sh 0 [] [kc] := by rw [a5 sc (by omega), upG_s]
        have n2 := n1.jn (c := sc + 1) a1 (by omega) a11.1
        have n3 : NW sc sc (wrt [125] (jon sc (sc + 1) (k1, sh1, kc1, pl1, D1, fi1, G1))) := n2
        obtain ⟨y1, y2⟩ := jon_kd (s := sc) (c := sc + 1) (G := G1)
        have ecs : n_ch (upG (upG G1 sc (chN (G1 sc) (sc + 1))) (sc + 1) (paN (G1 (sc + 1)) sc) sc) = [sc + 1] := by
          rw [upG_n (by omega), upG_s, eGs]
          rfl
        refine n3.fin ((y2 sc).trans (by rw [eGs]; rfl)) (by show n_kd (upG (upG G1 sc (chN (G1 sc) (sc + 1))) (sc + 1) (paN (G1 (sc + 1)) sc) sc) ≤ 11; rw [y1, eGs]; show k6 ≤ 11; omega) (fun _ => ?_) (fun z => ?_) (fun _ => ?_)
        · show (n_ch (upG (upG G1 sc (chN (G1 sc) (sc + 1))) (sc + 1) (paN (G1 (sc + 1)) sc) sc)).length = 1
          rw [ecs]
          rfl
        · have z : n_kd (upG (upG G1 sc (chN (G1 sc) (sc + 1))) (sc + 1) (paN (G1 (sc + 1)) sc) sc) = 11 := z
          rw [y1, eGs] at z
          have z : k6 = 11 := z
          omega
        · show (n_kl (upG (upG G1 sc (chN (G1 sc) (sc + 1))) (sc + 1) (paN (G1 (sc + 1)) sc) sc)).length = (n_ch (upG (upG G1 sc (chN (G1 sc) (sc + 1))) (sc + 1) (paN (G1 (sc + 1)) sc) sc)).length
          rw [ecs, upG_n (by omega), upG_s, eGs]
          rfl
    rw [if_neg c67] at h
    by_cases c8 : kw (ts T L v) = 8 ∨ kw (ts T L v) = 9 ∨ kw (ts T L v) = 10
    · rw [if_pos c8] at h
      have hk8 : (kw (ts T L v)).toNatClampNeg = 8 ∨ (kw (ts T L v)).toNatClampNeg = 9 ∨ (kw (ts T L v)).toNatClampNeg = 10 := by
        rcases c8 with z | z | z <;> rw [z]
        · exact Or.inl (by decide)
        · exact Or.inr (Or.inl (by decide))
        · exact Or.inr (Or.inr (by decide))
      generalize (kw (ts T L v)).toNatClampNeg = k8 at h hk8
      obtain ⟨r1, r2, r3, r4⟩ := ldf_f hL hl hg ih hk8 hw hv c3 h
      exact r1.fin r2 (by omega) (fun z => by omega) (fun z => by omega) (fun z => r4 (by omega))
    rw [if_neg c8] at h
    exact lwd_f hw h
end OKF
