-- the plain form: what looking writes is what the nodes tell
section PLW
variable {T : Nat → Int32} {L : Nat} {Sd In Nx Am K F S I X Lt : Nat → Int32} {N : Nat → Int64} {l : Nat}
noncomputable def tol (D : List Nat → Option Nat) : Nat → Bool := fun d => dec (∃ w, D w = some d)
theorem tol_f {D : List Nat → Option Nat} {d : Nat} (h : ∀ w, D w ≠ some d) : tol D d = false := dec_f (fun ⟨w, e⟩ => h w e)
theorem tol_t {D : List Nat → Option Nat} {w : List Nat} {d : Nat} (h : D w = some d) : tol D d = true := dec_t ⟨w, h⟩
theorem tol_up {D : List Nat → Option Nat} {w : List Nat} {s : Nat} (h0 : D w = none) (h1 : ∀ u d, D u = some d → d ≠ s) : tol (fun u => if u = w then some s else D u) = upB (tol D) s := by
  funext d
  by_cases e : d = s
  · subst e
    show dec _ = if d = d then true else tol D d
    rw [if_pos rfl]
    exact dec_t ⟨w, if_pos rfl⟩
  · show dec _ = if d = s then true else tol D d
    rw [if_neg e]
    by_cases q : ∃ u, D u = some d
    · obtain ⟨u, hu⟩ := q
      rw [tol_t hu]
      exact dec_t ⟨u, (if_neg (fun z => by rw [z, h0] at hu; cases hu)).trans hu⟩
    · rw [tol_f (fun u hu => q ⟨u, hu⟩)]
      refine dec_f (fun ⟨u, hu⟩ => ?_)
      have hu : (if u = w then some s else D u) = some d := hu
      by_cases z : u = w
      · rw [if_pos z] at hu
        exact e (Option.some.inj hu).symm
      · rw [if_neg z] at hu
        exact q ⟨u, hu⟩
def SCo (x y : Nod) : Prop := n_kd x = n_kd y ∧ n_me x = n_me y ∧ n_wd x = n_wd y ∧ n_sy x = n_sy y ∧ n_ch x = n_ch y
def AGf (Gf : Nat → Nod) (a b : Nat) (G : Nat → Nod) : Prop := ∀ i, a ≤ i → i < b → SCo (Gf i) (G i) ∧ n_fn (Gf i) = n_fn (G i)
def FCo (Gf : Nat → Nod) (nm : Nat → List Nat) (D : List Nat → Option Nat) : Prop := ∀ w d, D w = some d → nm d = w ∧ n_me (Gf d) = d ∧ 8 ≤ n_kd (Gf d) ∧ n_kd (Gf d) ≤ 10
theorem FCo.mono {Gf : Nat → Nod} {nm : Nat → List Nat} {D D' : List Nat → Option Nat} (h : FCo Gf nm D') (hd : ∀ w i, D w = some i → D' w = some i) : FCo Gf nm D := fun w d e => h w d (hd w d e)
def okPl (T : Nat → Int32) (L : Nat) (Sd In Nx Am K F : Nat → Int32) (N : Nat → Int64) (S I X Lt : Nat → Int32) (l : Nat) (n : Nat) (f : Nat → Bool → LSt → LRs) : Prop := ∀ (p : Nat) (br : Bool) (st st' : LSt) (c q : Nat), VV T L Sd In Nx Am K F N S I X Lt l c p q → WFs st → f p br st = .inr st' → ∀ (Gf : Nat → Nod) (nm : Nat → List Nat), SCo (Gf st.1) (st'.2.2.2.2.2.2 st.1) → AGf Gf (st.1 + 1) st'.1 st'.2.2.2.2.2.2 → FCo Gf nm st'.2.2.2.2.1 → ∃ bs, wS Gf nm n st.1 (tol st.2.2.2.2.1) = some (bs, tol st'.2.2.2.2.1) ∧ st'.2.2.2.1 = st.2.2.2.1 ++ bs
theorem lun_w {f : Nat → Bool → LSt → LRs} {n : Nat} (hf : okSp T L Sd In Nx Am K F N S I X Lt l f) (hg : okPl T L Sd In Nx Am K F N S I X Lt l n f) {s : Nat} : ∀ (ks : List (Nat × Nat)) (i lo hi : Nat) (st st' : LSt) (hc hr : Int32), s < st.1 → WFs st → LCH T L Sd In Nx Am K F N S I X Lt l ks lo hi hc hr → lun f s ks i st = .inr st' → ∀ (Gf : Nat → Nod) (nm : Nat → List Nat), AGf Gf st.1 st'.1 st'.2.2.2.2.2.2 → FCo Gf nm st'.2.2.2.2.1 → ∃ cs bs, n_ch (st'.2.2.2.2.2.2 s) = n_ch (st.2.2.2.2.2.2 s) ++ cs ∧ (cs = [] ↔ ks = []) ∧ gS (wS Gf nm n) (fun _ => []) [] cs (tol st.2.2.2.2.1) = some (bs, tol st'.2.2.2.2.1) ∧ st'.2.2.2.1 = st.2.2.2.1 ++ ((if ks = [] then [] else [if i = 0 then 91 else 44]) ++ (bs ++ [93])) := by
  intro ks
  induction ks with
  | nil =>
    intro i lo hi st st' hc hr hs hw hl h Gf nm hA hF
    simp only [lun] at h
    have e := Sum.inr.inj h
    subst e
    obtain ⟨sc, sh, kc, pl, D, fi, G⟩ := st
    exact ⟨[], [], (List.append_nil _).symm, ⟨fun _ => rfl, fun _ => rfl⟩, rfl, rfl⟩
  | cons k t ih =>
    intro i lo hi st st' hc hr hs hw hl h Gf nm hA hF
    obtain ⟨c, b, c1, c2, c3, c4, c5, c6⟩ := hl
    simp only [lun] at h
    have hw1 := ((FQ.refl (s := s) hw).wrt [if i = 0 then 91 else 44]).wf hw
    cases hv : f k.2 true (wrt [if i = 0 then 91 else 44] st) with
    | inl e => rw [hv] at h; cases h
    | inr st1 =>
      rw [hv] at h
      simp only at h
      obtain ⟨g1, g2⟩ := hf _ _ _ _ _ _ c4 hw1 hv
      by_cases ha : hlk s st.1 st1 = true
      · rw [if_pos ha] at h; cases h
      · rw [if_neg ha] at h
        have hs1 : s < (wrt [if i = 0 then 91 else 44] st).1 := by
          obtain ⟨sc, sh, kc, pl, D, fi, G⟩ := st
          exact hs
        have q1 : FQ s st st1 := ((FQ.refl hw).wrt _).trans (g1.q hs1)
        have q2 := (q1.kid).jon (c := st.1) hs (Nat.le_refl _)
        have hs3 : s < (jon s st.1 (kid s st1)).1 := by
          obtain ⟨sc, sh, kc, pl, D, fi, G⟩ := st
          obtain ⟨sc', sh', kc', pl', D', fi', G'⟩ := st1
          have := q2.1
          show s < sc'
          have hs : s < sc := hs
          omega
        have r1 := (lun_p hf t (i + 1) _ _ _ _ _ _ hs3 (q2.wf hw) c6 h).1
        have hgc := hg _ _ _ _ _ _ c4 hw1 hv Gf nm
        have ih2 := ih (i + 1) _ _ _ _ _ _ hs3 (q2.wf hw) c6 h Gf nm
        obtain ⟨sc, sh, kc, pl, D, fi, G⟩ := st
        obtain ⟨sc1, sh1, kc1, pl1, D1, fi1, G1⟩ := st1
        obtain ⟨sc', sh', kc', pl', D', fi', G'⟩ := st'
        obtain ⟨f1, f2, f3, f4, f5, f6, f7, f8, f9, f10, f11⟩ := g1
        obtain ⟨p1, p2, p3, p4, p5, p6, p7⟩ := r1
        have hs : s < sc := hs
        have f1 : sc < sc1 := f1
        have p1 : sc1 ≤ sc' := p1
        have hA : AGf Gf sc sc' G' := hA
        have hj : ∀ j, sc ≤ j → j < sc1 → SCo (Gf j) (G1 j) ∧ n_fn (Gf j) = n_fn (G1 j) := by
          intro j h1 h2
          have a := hA j h1 (by omega)
          have e : G' j = upG (upG (upG G1 s (klN (G1 s) kc1)) s (chN (upG G1 s (klN (G1 s) kc1) s) sc)) sc (paN (upG G1 s (klN (G1 s) kc1) sc) s) j := p5 j h2 (by omega)
          rw [e] at a
          by_cases q : j = sc
          · subst q
            rw [upG_s, upG_n (show j ≠ s by omega)] at a
            exact a
          · rw [upG_n q, upG_n (show j ≠ s by omega), upG_n (show j ≠ s by omega)] at a
            exact a
        obtain ⟨b1, w1, e1⟩ := hgc (hj sc (Nat.le_refl _) f1).1 (fun j h1 h2 => hj j (Nat.le_of_lt h1) h2) (hF.mono p6)
        obtain ⟨cs, bs, x1, x2, x3, x4⟩ := ih2 (fun j h1 h2 => hA j (Nat.le_trans (Nat.le_of_lt f1) h1) h2) hF
        refine ⟨sc :: cs, b1 ++ ((if cs = [] then [] else [44]) ++ bs), ?_, ?_, ?_, ?_⟩
        · have x1 : n_ch (G' s) = n_ch (upG (upG (upG G1 s (klN (G1 s) kc1)) s (chN (upG G1 s (klN (G1 s) kc1) s) sc)) sc (paN (upG G1 s (klN (G1 s) kc1) sc) s) s) ++ cs := x1
          rw [upG_n (show s ≠ sc by omega), upG_s, upG_s] at x1
          have x1 : n_ch (G' s) = n_ch (G1 s) ++ [sc] ++ cs := x1
          have f5 : G1 s = G s := f5 s hs
          show n_ch (G' s) = n_ch (G s) ++ (sc :: cs)
          rw [x1, f5, List.append_assoc]
          rfl
        · exact ⟨fun z => (nomatch z), fun z => (nomatch z)⟩
        · have w1 : wS Gf nm n sc (tol D) = some (b1, tol D1) := w1
          have x3 : gS (wS Gf nm n) (fun _ => []) [] cs (tol D1) = some (bs, tol D') := x3
          show gS (wS Gf nm n) (fun _ => []) [] (sc :: cs) (tol D) = some (_, tol D')
          unfold gS
          rw [w1]
          dsimp only
          rw [x3]
          rfl
        · have x4 : pl' = pl1 ++ ((if t = [] then [] else [if i + 1 = 0 then 91 else 44]) ++ (bs ++ [93])) := x4
          have e1 : pl1 = (pl ++ [if i = 0 then 91 else 44]) ++ b1 := e1
          show pl' = pl ++ ((if k :: t = [] then [] else [if i = 0 then 91 else 44]) ++ ((b1 ++ ((if cs = [] then [] else [44]) ++ bs)) ++ [93]))
          rw [x4, e1, if_neg (List.cons_ne_nil k t), if_neg (show ¬ i + 1 = 0 by omega)]
          by_cases z : t = []
          · rw [if_pos z, if_pos (x2.mpr z)]
            simp only [List.append_assoc]
          · rw [if_neg z, if_neg (fun y => z (x2.mp y))]
            simp only [List.append_assoc]
theorem lsy_w {s : Nat} : ∀ (ks : List (Nat × Nat)) (sc sh kc : Nat) (pl : List Nat) (D : List Nat → Option Nat) (fi : List (Nat × Nat × Option Nat)) (G : Nat → Nod) (st' : LSt), lsy T L s ks (sc, sh, kc, pl, D, fi, G) = .inr st' → ∃ sy, n_sy (st'.2.2.2.2.2.2 s) = n_sy (G s) ++ sy ∧ st'.2.2.2.1 = pl ++ ((if n_sy (G s) = [] ∨ sy = [] then [] else [44]) ++ jnS sy) ∧ st'.2.2.2.2.1 = D ∧ n_wd (st'.2.2.2.2.2.2 s) = n_wd (G s) := by
  intro ks
  induction ks with
  | nil =>
    intro sc sh kc pl D fi G st' h
    simp only [lsy] at h
    have e := Sum.inr.inj h
    subst e
    refine ⟨[], (List.append_nil _).symm, ?_, rfl, rfl⟩
    rw [if_pos (Or.inr rfl)]
    exact (List.append_nil _).symm
  | cons v t ih =>
    intro sc sh kc pl D fi G st' h
    simp only [lsy] at h
    by_cases hd : cb T L v.2 = 34 ∧ isNm (ts T L v.2) ∧ ts T L v.2 ∉ n_sy (G s)
    rotate_left
    · rw [dec_f hd, if_neg (by decide)] at h; cases h
    rw [dec_t hd, if_pos rfl] at h
    obtain ⟨sy, x1, x2, x3, x4⟩ := ih _ _ _ _ _ _ _ _ h
    rw [upG_s] at x1 x2 x4
    have x1 : n_sy (st'.2.2.2.2.2.2 s) = (n_sy (G s) ++ [ts T L v.2]) ++ sy := x1
    have e0 : n_sy (syN (G s) (ts T L v.2) kc) = n_sy (G s) ++ [ts T L v.2] := rfl
    rw [e0] at x2
    refine ⟨ts T L v.2 :: sy, by rw [x1, List.append_assoc]; rfl, ?_, x3, x4⟩
    rw [x2]
    have hj : jnS (ts T L v.2 :: sy) = qt (ts T L v.2) ++ ((if sy = [] then [] else [44]) ++ jnS sy) := rfl
    rw [hj]
    have c1 : (n_sy (G s) ++ [ts T L v.2] = [] ∨ sy = []) ↔ sy = [] := ⟨fun z => z.elim (fun y => absurd y (by simp)) id, Or.inr⟩
    have c2 : (n_sy (G s) = [] ∨ ts T L v.2 :: sy = []) ↔ n_sy (G s) = [] := ⟨fun z => z.elim id (fun y => (nomatch y)), Or.inl⟩
    simp only [c1, c2, List.append_assoc]
theorem lfs_w (hL : L ≤ 4096) (hl : l ≤ 4200) {f : Nat → Bool → LSt → LRs} {n : Nat} (hf : okSp T L Sd In Nx Am K F N S I X Lt l f) (hg : okPl T L Sd In Nx Am K F N S I X Lt l n f) {s : Nat} : ∀ (ks : List (Nat × Nat)) (i lo hi : Nat) (st st' : LSt) (hc hr : Int32), s < st.1 → WFs st → LCH T L Sd In Nx Am K F N S I X Lt l ks lo hi hc hr → lfs T L f s ks i st = .inr st' → ∀ (Gf : Nat → Nod) (nm : Nat → List Nat), AGf Gf st.1 st'.1 st'.2.2.2.2.2.2 → FCo Gf nm st'.2.2.2.2.1 → ∃ cs bs, n_ch (st'.2.2.2.2.2.2 s) = n_ch (st.2.2.2.2.2.2 s) ++ cs ∧ (cs = [] ↔ ks = []) ∧ gS (wS Gf nm n) (fpre Gf) [125] cs (tol st.2.2.2.2.1) = some (bs, tol st'.2.2.2.2.1) ∧ st'.2.2.2.1 = st.2.2.2.1 ++ ((if i = 0 ∨ ks = [] then [] else [44]) ++ (bs ++ litN 27)) := by
  intro ks
  induction ks with
  | nil =>
    intro i lo hi st st' hc hr hs hw hlc h Gf nm hA hF
    simp only [lfs] at h
    have e := Sum.inr.inj h
    subst e
    obtain ⟨sc, sh, kc, pl, D, fi, G⟩ := st
    refine ⟨[], [], (List.append_nil _).symm, ⟨fun _ => rfl, fun _ => rfl⟩, rfl, ?_⟩
    rw [if_pos (Or.inr rfl)]
    rfl
  | cons k t ih =>
    intro i lo hi st st' hc hr hs hw hlc h Gf nm hA hF
    obtain ⟨c, b, c1, c2, c3, c4, c5, c6⟩ := hlc
    simp only [lfs] at h
    cases hv : lfd T L f s k.2 i st with
    | inl e => rw [hv] at h; cases h
    | inr st1 =>
      rw [hv] at h
      simp only at h
      obtain ⟨sc, sh, kc, pl, D, fi, G⟩ := st
      have hs : s < sc := hs
      have g1 := (lfd_p hL hl hf hs hw c4 hv).1
      have hs1 : s < st1.1 := by
        obtain ⟨sc', sh', kc', pl', D', fi', G'⟩ := st1
        have := g1.1
        show s < sc'
        omega
      have r1 := (lfs_p hL hl hf t (i + 1) _ _ _ _ _ _ hs1 (g1.wf hw) c6 h).1
      have ih2 := ih (i + 1) _ _ _ _ _ _ hs1 (g1.wf hw) c6 h Gf nm
      simp only [lfd] at hv
      by_cases h123 : cb T L k.2 = 123
      rotate_left
      · rw [if_neg h123] at hv; cases hv
      rw [if_pos h123] at hv
      rcases mbc hL hl c4 h123 (w := 20) (by decide) with ⟨e, _⟩ | ⟨v, kp, c', b', e, _, z1, z2, z3, z4, z5, z6⟩
      · rw [e] at hv; cases hv
      rw [e] at hv
      simp only at hv
      by_cases c34 : cb T L v = 34
      rotate_left
      · rw [if_neg c34] at hv; cases hv
      rw [if_pos c34] at hv
      by_cases hd : isNm (ts T L v) ∧ ∀ c, c ∈ n_ch (G s) → n_fn (G c) ≠ ts T L v
      rotate_left
      · rw [dec_f hd, if_neg (by decide)] at hv; cases hv
      rw [dec_t hd, if_pos rfl] at hv
      rcases mbc hL hl c4 h123 (w := 15) (by decide) with ⟨e5, _⟩ | ⟨v5, kp5, c5', b5, e5, _, y1, y2, y3, y4, y5, y6⟩
      · rw [e5] at hv; cases hv
      rw [e5] at hv
      simp only at hv
      have hw2 : WFs (sc, sh, kc + 1, pl ++ ((if i = 0 then [] else [44]) ++ (litN 21 ++ (qt (ts T L v) ++ litN 31))), D, fi, upG G s (klN (G s) kc)) := ⟨hw.1.up rfl rfl, hw.2⟩
      cases hr2 : f v5 false (sc, sh, kc + 1, pl ++ ((if i = 0 then [] else [44]) ++ (litN 21 ++ (qt (ts T L v) ++ litN 31))), D, fi, upG G s (klN (G s) kc)) with
      | inl e => rw [hr2] at hv; cases hv
      | inr st2 =>
        rw [hr2] at hv
        obtain ⟨f1, f2, f3, f4, f5, f6, f7, f8, f9, f10, f11⟩ := (hf _ _ _ _ _ _ y1 hw2 hr2).1
        have hgc := hg _ _ _ _ _ _ y1 hw2 hr2 Gf nm
        obtain ⟨sc2, sh2, kc2, pl2, D2, fi2, G2⟩ := st2
        simp only at hv
        have ev := Sum.inr.inj hv
        subst ev
        obtain ⟨sc', sh', kc', pl', D', fi', G'⟩ := st'
        obtain ⟨p1, p2, p3, p4, p5, p6, p7⟩ := r1
        have f1 : sc < sc2 := f1
        have p1 : sc2 ≤ sc' := p1
        have hA : AGf Gf sc sc' G' := hA
        have hj : ∀ j, sc ≤ j → j < sc2 → SCo (Gf j) (G2 j) ∧ (j ≠ sc → n_fn (Gf j) = n_fn (G2 j)) ∧ (j = sc → n_fn (Gf j) = ts T L v) := by
          intro j h1 h2
          have a := hA j h1 (by omega)
          have e : G' j = upG (upG (upG G2 sc (fnN (G2 sc) (ts T L v))) s (chN (upG G2 sc (fnN (G2 sc) (ts T L v)) s) sc)) sc (paN (upG G2 sc (fnN (G2 sc) (ts T L v)) sc) s) j := p5 j h2 (by omega)
          rw [e] at a
          by_cases q : j = sc
          · subst q
            rw [upG_s, upG_s] at a
            exact ⟨a.1, fun z => absurd rfl z, fun _ => a.2⟩
          · rw [upG_n q, upG_n (show j ≠ s by omega), upG_n q] at a
            exact ⟨a.1, fun _ => a.2, fun z => absurd z q⟩
        obtain ⟨b1, w1, e1⟩ := hgc (hj sc (Nat.le_refl _) f1).1 (fun j h1 h2 => ⟨(hj j (Nat.le_of_lt h1) h2).1, (hj j (Nat.le_of_lt h1) h2).2.1 (by have h1 : sc + 1 ≤ j := h1; omega)⟩) (hF.mono p6)
        obtain ⟨cs, bs, x1, x2, x3, x4⟩ := ih2 (fun j h1 h2 => hA j (Nat.le_trans (Nat.le_of_lt f1) h1) h2) hF
        have hfn := (hj sc (Nat.le_refl _) f1).2.2 rfl
        refine ⟨sc :: cs, fpre Gf sc ++ (b1 ++ ([125] ++ ((if cs = [] then [] else [44]) ++ bs))), ?_, ?_, ?_, ?_⟩
        · have x1 : n_ch (G' s) = n_ch (upG (upG (upG G2 sc (fnN (G2 sc) (ts T L v))) s (chN (upG G2 sc (fnN (G2 sc) (ts T L v)) s) sc)) sc (paN (upG G2 sc (fnN (G2 sc) (ts T L v)) sc) s) s) ++ cs := x1
          rw [upG_n (show s ≠ sc by omega), upG_s, upG_n (show s ≠ sc by omega)] at x1
          have x1 : n_ch (G' s) = n_ch (G2 s) ++ [sc] ++ cs := x1
          have f5 : G2 s = upG G s (klN (G s) kc) s := f5 s hs
          rw [upG_s] at f5
          show n_ch (G' s) = n_ch (G s) ++ (sc :: cs)
          rw [x1, f5, List.append_assoc]
          rfl
        · exact ⟨fun z => (nomatch z), fun z => (nomatch z)⟩
        · have w1 : wS Gf nm n sc (tol D) = some (b1, tol D2) := w1
          have x3 : gS (wS Gf nm n) (fpre Gf) [125] cs (tol D2) = some (bs, tol D') := x3
          show gS (wS Gf nm n) (fpre Gf) [125] (sc :: cs) (tol D) = some (_, tol D')
          unfold gS
          rw [w1]
          dsimp only
          rw [x3]
        · have x4 : pl' = (pl2 ++ [125]) ++ ((if i + 1 = 0 ∨ t = [] then [] else [44]) ++ (bs ++ litN 27)) := x4
          have e1 : pl2 = (pl ++ ((if i = 0 then [] else [44]) ++ (litN 21 ++ (qt (ts T L v) ++ litN 31)))) ++ b1 := e1
          show pl' = pl ++ ((if i = 0 ∨ k :: t = [] then [] else [44]) ++ ((fpre Gf sc ++ (b1 ++ ([125] ++ ((if cs = [] then [] else [44]) ++ bs)))) ++ litN 27))
          unfold fpre
          rw [x4, e1, hfn]
          have d1 : (i = 0 ∨ k :: t = []) ↔ i = 0 := ⟨fun z => z.elim id (fun y => (nomatch y)), Or.inl⟩
          have d2 : (i + 1 = 0 ∨ t = []) ↔ cs = [] := ⟨fun z => z.elim (fun y => absurd y (by omega)) x2.mpr, fun z => Or.inr (x2.mp z)⟩
          simp only [d1, d2, List.append_assoc]
theorem ldf_w (hL : L ≤ 4096) (hl : l ≤ 4200) {f : Nat → Bool → LSt → LRs} {n : Nat} (hf : okSp T L Sd In Nx Am K F N S I X Lt l f) (hg : okPl T L Sd In Nx Am K F N S I X Lt l n f) {k c p q : Nat} (hk : k = 8 ∨ k = 9 ∨ k = 10) {sc sh kc : Nat} {pl : List Nat} {D : List Nat → Option Nat} {fi : List (Nat × Nat × Option Nat)} {G : Nat → Nod} {x : Nod} {st' : LSt} (hw : WFs (sc, sh, kc, pl, D, fi, G)) (hv : VV T L Sd In Nx Am K F N S I X Lt l c p q) (hc : cb T L p = 123) (h : ldf T L f sc p k (sc + 1, sh, kc, pl, D, fi, upG G sc x) = .inr st') (Gf : Nat → Nod) (nm : Nat → List Nat) (hS : SCo (Gf sc) (st'.2.2.2.2.2.2 sc)) (hA : AGf Gf (sc + 1) st'.1 st'.2.2.2.2.2.2) (hF : FCo Gf nm st'.2.2.2.2.1) : ∃ bs, wS Gf nm (n + 1) sc (tol D) = some (bs, tol st'.2.2.2.2.1) ∧ st'.2.2.2.1 = pl ++ bs := by
  simp only [ldf] at h
  rcases mbc hL hl hv hc (w := 20) (by decide) with ⟨e, _⟩ | ⟨v, kp, c1, b, e, _, z1, z2, z3, z4, z5, z6⟩
  · rw [e] at h; cases h
  rw [e] at h
  simp only at h
  by_cases c34 : cb T L v = 34
  rotate_left
  · rw [if_neg c34] at h; cases h
  rw [if_pos c34] at h
  by_cases hd : isNm (ts T L v) ∧ kw (ts T L v) = -1 ∧ D (ts T L v) = none
  rotate_left
  · rw [dec_f hd, if_neg (by decide)] at h; cases h
  rw [dec_t hd, if_pos rfl] at h
  have e2 : ∀ y, upG (upG G sc x) sc y = upG G sc y := fun y => funext (fun i => by
    by_cases q : i = sc
    · rw [q, upG_s, upG_s]
    · rw [upG_n q, upG_n q, upG_n q])
  rw [e2] at h
  have hw1 : ∀ pl', WFs (sc + 1, sh + 1, kc, pl', (fun u => if u = ts T L v then some sc else D u), fi, upG G sc (mkN k sc sh 0 [] [])) := by
    intro pl'
    refine ⟨fun w d hdd => ?_, by have := hw.2; omega⟩
    by_cases ew : w = ts T L v
    · simp only [if_pos ew] at hdd
      have e := Option.some.inj hdd
      subst e
      rw [upG_s]
      exact ⟨by omega, rfl, show 8 ≤ k by omega, show k ≤ 10 by omega⟩
    · simp only [if_neg ew] at hdd
      obtain ⟨a, b⟩ := hw.1 w d hdd
      rw [upG_n (by omega)]
      exact ⟨by omega, b⟩
  have hDs : ∀ u d, D u = some d → d ≠ sc := fun u d hu => Nat.ne_of_lt (hw.1 u d hu).1
  have ht0 : tol D sc = false := tol_f (fun u hu => hDs u sc hu rfl)
  have htu := tol_up (w := ts T L v) hd.2.2 hDs
  have n5 : ¬ k ≤ 5 := by omega
  have n6 : ¬ (k = 6 ∨ k = 7) := by omega
  have n11 : ¬ k = 11 := by omega
  obtain ⟨hS1, hS2, hS3, hS4, hS5⟩ := hS
  -- what is known of the slot once the rest has been read
  have key : FQ sc (sc + 1, sh + 1, kc, pl ++ (litN 21 ++ (qt (ts T L v) ++ (litN 22 ++ (litN (3 + k) ++ [34])))), (fun u => if u = ts T L v then some sc else D u), fi, upG G sc (mkN k sc sh 0 [] [])) st' → n_kd (Gf sc) = k ∧ n_me (Gf sc) = sc ∧ nm sc = ts T L v := by
    intro hq
    obtain ⟨sc', sh', kc', pl', D', fi', G'⟩ := st'
    obtain ⟨p1, p2, p3, p4, p5, p6, p7, p8, p9, p10, p11, p12, p13⟩ := hq
    have p10 : n_kd (G' sc) = n_kd (upG G sc (mkN k sc sh 0 [] []) sc) := p10
    have p11 : n_me (G' sc) = n_me (upG G sc (mkN k sc sh 0 [] []) sc) := p11
    rw [upG_s] at p10 p11
    exact ⟨hS1.trans p10, hS2.trans p11, (hF (ts T L v) sc (p6 _ _ (if_pos rfl))).1⟩
  rcases hk with rfl | rfl | rfl
  · rw [if_pos rfl] at h
    obtain ⟨k1, k2, k3⟩ := key (lfx_p hL hl (show sc < sc + 1 by omega) ⟨by rw [upG_s]; rfl, by rw [upG_s]; rfl, by rw [upG_s]; rfl⟩ (hw1 _) hv hc h).1
    simp only [lfx] at h
    cases hm : mbr T L p (litN 23) with
    | none => rw [hm] at h; cases h
    | some v3 =>
      rw [hm] at h
      dsimp only at h
      generalize (if cb T L v3 = 45 ∨ (48 ≤ cb T L v3 ∧ cb T L v3 ≤ 57) then lsz (snv T L v3) else none) = ow at h
      cases ow with
      | none => cases h
      | some w =>
        have e := Sum.inr.inj h
        subst e
        have hS3 : n_wd (Gf sc) = n_wd (upG (upG G sc (mkN 8 sc sh 0 [] [])) sc (mkN 8 sc (n_sg (upG G sc (mkN 8 sc sh 0 [] []) sc)) w [] []) sc) := hS3
        rw [upG_s] at hS3
        have hS3 : n_wd (Gf sc) = w := hS3
        refine ⟨litN 21 ++ (qt (ts T L v) ++ (litN 70 ++ (dgs w ++ [125]))), ?_, ?_⟩
        · unfold wS
          rw [k2, k1, if_neg (by decide), if_neg (by decide), if_neg (by decide), ht0, if_neg (by decide), if_pos rfl, k3, hS3, ← htu]
        · show (pl ++ (litN 21 ++ (qt (ts T L v) ++ (litN 22 ++ (litN (3 + 8) ++ [34]))))) ++ (litN 24 ++ (dgs w ++ [125])) = _
          rw [lit_w2.1]
          simp only [List.append_assoc, List.cons_append, List.nil_append]
  · rw [if_neg (by decide), if_pos rfl] at h
    obtain ⟨k1, k2, k3⟩ := key (len_p hL hl (show sc < sc + 1 by omega) (by rw [upG_s]; rfl) (hw1 _) hv hc h).1
    simp only [len] at h
    cases hm : mbr T L p (litN 25) with
    | none => rw [hm] at h; cases h
    | some v3 =>
      rw [hm] at h
      dsimp only at h
      by_cases cn : cb T L v3 = 91 ∧ 1 ≤ (prt T L v3).length ∧ (prt T L v3).length ≤ 32
      rotate_left
      · rw [if_neg cn] at h; cases h
      rw [if_pos cn] at h
      cases hr : lsy T L sc (prt T L v3) (wrt (litN 26) (sc + 1, sh + 1, kc, pl ++ (litN 21 ++ (qt (ts T L v) ++ (litN 22 ++ (litN (3 + 9) ++ [34])))), (fun u => if u = ts T L v then some sc else D u), fi, upG G sc (mkN 9 sc sh 0 [] []))) with
      | inl e => rw [hr] at h; cases h
      | inr st1 =>
        rw [hr] at h
        obtain ⟨sy, x1, x2, x3, x4⟩ := lsy_w _ _ _ _ _ _ _ _ _ hr
        obtain ⟨sc1, sh1, kc1, pl1, D1, fi1, G1⟩ := st1
        have x1 : n_sy (G1 sc) = n_sy (upG G sc (mkN 9 sc sh 0 [] []) sc) ++ sy := x1
        rw [upG_s] at x1 x2
        have x1 : n_sy (G1 sc) = sy := x1
        rw [if_pos (Or.inl (show n_sy (mkN 9 sc sh 0 [] []) = [] from rfl))] at x2
        have x2 : pl1 = ((pl ++ (litN 21 ++ (qt (ts T L v) ++ (litN 22 ++ (litN (3 + 9) ++ [34]))))) ++ litN 26) ++ jnS sy := x2
        have x3 : D1 = (fun u => if u = ts T L v then some sc else D u) := x3
        have fin : (Sum.inr (sc1, sh1, kc1, pl1 ++ litN 27, D1, fi1, G1) : LRs) = .inr st' → ∃ bs, wS Gf nm (n + 1) sc (tol D) = some (bs, tol st'.2.2.2.2.1) ∧ st'.2.2.2.1 = pl ++ bs := by
          intro e
          have e := Sum.inr.inj e
          subst e
          have hS4 : n_sy (Gf sc) = n_sy (G1 sc) := hS4
          refine ⟨litN 21 ++ (qt (ts T L v) ++ (litN 71 ++ (jnS sy ++ litN 27))), ?_, ?_⟩
          · unfold wS
            rw [k2, k1, if_neg (by decide), if_neg (by decide), if_neg (by decide), ht0, if_neg (by decide), if_neg (by decide), if_pos rfl, k3, hS4, x1]
            show some (_, upB (tol D) sc) = some (_, tol D1)
            rw [x3, htu]
          · show pl1 ++ litN 27 = _
            rw [x2, lit_w2.2.1]
            simp only [List.append_assoc, List.cons_append, List.nil_append]
        dsimp only at h
        cases hm2 : mbr T L p (litN 28) with
        | none => rw [hm2] at h; exact fin h
        | some d =>
          rw [hm2] at h
          dsimp only at h
          by_cases hd2 : cb T L d = 34 ∧ ts T L d ∈ n_sy (G1 sc)
          · rw [dec_t hd2, if_pos rfl] at h; exact fin h
          · rw [dec_f hd2, if_neg (by decide)] at h; cases h
  · rw [if_neg (by decide), if_neg (by decide)] at h
    obtain ⟨k1, k2, k3⟩ := key (lrc_p hL hl hf (show sc < sc + 1 by omega) (hw1 _) hv hc h).1
    simp only [lrc] at h
    rcases mbc hL hl hv hc (w := 29) (by decide) with ⟨em, _⟩ | ⟨v3, kp3, c3, b3, em, _, y1, y2, y3, y4, y5, y6⟩
    · rw [em] at h; cases h
    rw [em] at h
    simp only at h
    by_cases cn : cb T L v3 = 91 ∧ (prt T L v3).length ≤ 32
    rotate_left
    · rw [if_neg cn] at h; cases h
    rw [if_pos cn] at h
    obtain ⟨a1, a2, a3, a4⟩ := y1.lst cn.1
    have hww := hw1 ((pl ++ (litN 21 ++ (qt (ts T L v) ++ (litN 22 ++ (litN (3 + 10) ++ [34]))))) ++ litN 30)
    obtain ⟨cs, bs, x1, x2, x3, x4⟩ := lfs_w hL hl hf hg (s := sc) (prt T L v3) 0 _ _ (sc + 1, sh + 1, kc, (pl ++ (litN 21 ++ (qt (ts T L v) ++ (litN 22 ++ (litN (3 + 10) ++ [34]))))) ++ litN 30, (fun u => if u = ts T L v then some sc else D u), fi, upG G sc (mkN 10 sc sh 0 [] [])) st' _ _ (show sc < sc + 1 by omega) hww a4 h Gf nm hA hF
    have x1 : n_ch (st'.2.2.2.2.2.2 sc) = n_ch (upG G sc (mkN 10 sc sh 0 [] []) sc) ++ cs := x1
    rw [upG_s] at x1
    have x1 : n_ch (st'.2.2.2.2.2.2 sc) = cs := x1
    have x3 : gS (wS Gf nm n) (fpre Gf) [125] cs (tol (fun u => if u = ts T L v then some sc else D u)) = some (bs, tol st'.2.2.2.2.1) := x3
    rw [htu] at x3
    refine ⟨litN 21 ++ (qt (ts T L v) ++ (litN 72 ++ (bs ++ litN 27))), ?_, ?_⟩
    · unfold wS
      rw [k2, k1, if_neg (by decide), if_neg (by decide), if_neg (by decide), ht0, if_neg (by decide), if_neg (by decide), if_neg (by decide), hS5, x1, x3, k3]
    · rw [x4, if_pos (Or.inl rfl)]
      show ((pl ++ (litN 21 ++ (qt (ts T L v) ++ (litN 22 ++ (litN (3 + 10) ++ [34]))))) ++ litN 30) ++ _ = _
      rw [lit_w2.2.2]
      simp only [List.append_assoc, List.cons_append, List.nil_append]
theorem lwd_w {n : Nat} {sc sh kc : Nat} {pl : List Nat} {D : List Nat → Option Nat} {fi : List (Nat × Nat × Option Nat)} {G : Nat → Nod} {x : Nod} {st' : LSt} {p : Nat} (h : lwd T L sc p (sc + 1, sh, kc, pl, D, fi, upG G sc x) = .inr st') (Gf : Nat → Nod) (nm : Nat → List Nat) (hS : SCo (Gf sc) (st'.2.2.2.2.2.2 sc)) (hF : FCo Gf nm st'.2.2.2.2.1) : ∃ bs, wS Gf nm (n + 1) sc (tol D) = some (bs, tol st'.2.2.2.2.1) ∧ st'.2.2.2.1 = pl ++ bs := by
  simp only [lwd] at h
  obtain ⟨hS1, hS2, hS3, hS4, hS5⟩ := hS
  by_cases c : kw6 (ts T L p) = -1
  · rw [if_pos c] at h
    cases hd : D (ts T L p) with
    | none => rw [hd] at h; cases h
    | some d =>
      rw [hd] at h
      have e := Sum.inr.inj h
      subst e
      have hS2 : n_me (Gf sc) = n_me (upG (upG G sc x) sc (mkN 12 d (n_sg (upG G sc x d)) 0 [] []) sc) := hS2
      rw [upG_s] at hS2
      have hS2 : n_me (Gf sc) = d := hS2
      obtain ⟨f1, f2, f3, f4⟩ := hF _ _ hd
      refine ⟨qt (ts T L p), ?_, rfl⟩
      unfold wS
      rw [hS2, if_neg (by omega), if_neg (by omega), if_neg (by omega), tol_t hd, if_pos rfl, f1]
  · rw [if_neg c] at h
    have e := Sum.inr.inj h
    subst e
    rcases kw6_of (ts T L p) with ⟨k, hk, h1, h2⟩ | ⟨h1, _⟩
    · have hw := kw_6 _ (show k ≤ 10 by omega) h1
      have hS1 : n_kd (Gf sc) = n_kd (upG (upG G sc x) sc (mkN (kw6 (ts T L p)).toNatClampNeg sc (kw6 (ts T L p)).toNatClampNeg 0 [] []) sc) := hS1
      have hS2 : n_me (Gf sc) = n_me (upG (upG G sc x) sc (mkN (kw6 (ts T L p)).toNatClampNeg sc (kw6 (ts T L p)).toNatClampNeg 0 [] []) sc) := hS2
      rw [upG_s] at hS1 hS2
      have hS1 : n_kd (Gf sc) = (kw6 (ts T L p)).toNatClampNeg := hS1
      have hS2 : n_me (Gf sc) = sc := hS2
      rw [h2, nI_clamp (by omega)] at hS1
      refine ⟨qt (ts T L p), ?_, rfl⟩
      unfold wS
      rw [hS2, hS1, if_pos hk, ← hw]
    · exact absurd h1 c
theorem lob_w (hL : L ≤ 4096) (hl : l ≤ 4200) {f : Nat → Bool → LSt → LRs} {n : Nat} (hf : okSp T L Sd In Nx Am K F N S I X Lt l f) (hg : okPl T L Sd In Nx Am K F N S I X Lt l n f) {c p q : Nat} {sc sh kc : Nat} {pl : List Nat} {D : List Nat → Option Nat} {fi : List (Nat × Nat × Option Nat)} {G : Nat → Nod} {st' : LSt} (hw : WFs (sc, sh, kc, pl, D, fi, G)) (hv : VV T L Sd In Nx Am K F N S I X Lt l c p q) (hc : cb T L p = 123) (h : lob T L f sc p (sc + 1, sh, kc, pl, D, fi, upG G sc (mkN 12 sc 0 0 [] [])) = .inr st') (Gf : Nat → Nod) (nm : Nat → List Nat) (hS : SCo (Gf sc) (st'.2.2.2.2.2.2 sc)) (hA : AGf Gf (sc + 1) st'.1 st'.2.2.2.2.2.2) (hF : FCo Gf nm st'.2.2.2.2.1) : ∃ bs, wS Gf nm (n + 1) sc (tol D) = some (bs, tol st'.2.2.2.2.1) ∧ st'.2.2.2.1 = pl ++ bs := by
  rcases mbc hL hl hv hc (w := 15) (by decide) with ⟨e, _⟩ | ⟨v, kp, c1, b, e, _, z1, z2, z3, z4, z5, z6⟩
  · unfold lob at h; rw [e] at h; cases h
  unfold lob at h
  rw [e] at h
  simp only at h
  by_cases c34 : cb T L v = 34
  rotate_left
  · rw [if_neg c34] at h; cases h
  rw [if_pos c34] at h
  have grp : ∀ k, k = 6 ∨ k = 7 → lit T L f sc p k (sc + 1, sh, kc, pl, D, fi, upG G sc (mkN 12 sc 0 0 [] [])) = .inr st' → ∃ bs, wS Gf nm (n + 1) sc (tol D) = some (bs, tol st'.2.2.2.2.1) ∧ st'.2.2.2.1 = pl ++ bs := by
    intro k hk h
    simp only [lit] at h
    rcases mbc hL hl hv hc (w := if k = 6 then 16 else 19) (by split <;> decide) with ⟨e, _⟩ | ⟨v, kp, c2, b, e, _, y1, y2, y3, y4, y5, y6⟩
    · rw [e] at h; cases h
    rw [e] at h
    simp only at h
    have hw1 : WFs (sc + 1, sh + 1, kc + 1, pl ++ litN (if k = 6 then 17 else 18), D, fi, upG (upG G sc (mkN 12 sc 0 0 [] [])) sc (mkN k sc sh 0 [] [kc])) := by
      refine ⟨fun w d hd => ?_, by have := hw.2; omega⟩
      obtain ⟨a, b⟩ := hw.1 w d hd
      rw [upG_n (by omega), upG_n (by omega)]
      exact ⟨by omega, b⟩
    cases hr : f v false (sc + 1, sh + 1, kc + 1, pl ++ litN (if k = 6 then 17 else 18), D, fi, upG (upG G sc (mkN 12 sc 0 0 [] [])) sc (mkN k sc sh 0 [] [kc])) with
    | inl e => rw [hr] at h; cases h
    | inr st1 =>
      rw [hr] at h
      have ev := Sum.inr.inj h
      subst ev
      have hgc := hg _ _ _ _ _ _ y1 hw1 hr Gf nm
      obtain ⟨f1, f2, f3, f4, f5, f6, f7⟩ := (hf _ _ _ _ _ _ y1 hw1 hr).1
      obtain ⟨sc1, sh1, kc1, pl1, D1, fi1, G1⟩ := st1
      have f1 : sc + 1 < sc1 := f1
      have f5 : G1 sc = upG (upG G sc (mkN 12 sc 0 0 [] [])) sc (mkN k sc sh 0 [] [kc]) sc := f5 sc (show sc < sc + 1 by omega)
      rw [upG_s] at f5
      have hj : ∀ j, sc + 1 ≤ j → j < sc1 → SCo (Gf j) (G1 j) ∧ n_fn (Gf j) = n_fn (G1 j) := by
        intro j h1 h2
        have a : SCo (Gf j) (upG (upG G1 sc (chN (G1 sc) (sc + 1))) (sc + 1) (paN (G1 (sc + 1)) sc) j) ∧ n_fn (Gf j) = n_fn (upG (upG G1 sc (chN (G1 sc) (sc + 1))) (sc + 1) (paN (G1 (sc + 1)) sc) j) := hA j h1 h2
        by_cases q : j = sc + 1
        · subst q
          rw [upG_s] at a
          exact a
        · rw [upG_n q, upG_n (show j ≠ sc by omega)] at a
          exact a
      obtain ⟨b1, w1, e1⟩ := hgc (hj (sc + 1) (Nat.le_refl _) f1).1 (fun j h1 h2 => hj j (by have h1 : sc + 1 + 1 ≤ j := h1; omega) h2) hF
      obtain ⟨hS1, hS2, hS3, hS4, hS5⟩ := hS
      have hS1 : n_kd (Gf sc) = n_kd (upG (upG G1 sc (chN (G1 sc) (sc + 1))) (sc + 1) (paN (G1 (sc + 1)) sc) sc) := hS1
      have hS2 : n_me (Gf sc) = n_me (upG (upG G1 sc (chN (G1 sc) (sc + 1))) (sc + 1) (paN (G1 (sc + 1)) sc) sc) := hS2
      have hS5 : n_ch (Gf sc) = n_ch (upG (upG G1 sc (chN (G1 sc) (sc + 1))) (sc + 1) (paN (G1 (sc + 1)) sc) sc) := hS5
      rw [upG_n (show sc ≠ sc + 1 by omega), upG_s, f5] at hS1 hS2 hS5
      have hS1 : n_kd (Gf sc) = k := hS1
      have hS2 : n_me (Gf sc) = sc := hS2
      have hS5 : n_ch (Gf sc) = [sc + 1] := hS5
      have w1 : wS Gf nm n (sc + 1) (tol D) = some (b1, tol D1) := w1
      refine ⟨litN (if k = 6 then 17 else 18) ++ (b1 ++ [125]), ?_, ?_⟩
      · unfold wS
        rw [hS2, hS1, if_neg (show ¬ k ≤ 5 by omega), if_pos hk, hS5]
        dsimp only
        rw [w1]
        rfl
      · show pl1 ++ [125] = _
        have e1 : pl1 = (pl ++ litN (if k = 6 then 17 else 18)) ++ b1 := e1
        rw [e1]
        simp only [List.append_assoc]
  by_cases c67 : kw (ts T L v) = 6 ∨ kw (ts T L v) = 7
  · rw [if_pos c67] at h
    rcases c67 with c6 | c7
    · rw [c6] at h
      exact grp 6 (Or.inl rfl) h
    · rw [c7] at h
      exact grp 7 (Or.inr rfl) h
  rw [if_neg c67] at h
  by_cases c8 : kw (ts T L v) = 8 ∨ kw (ts T L v) = 9 ∨ kw (ts T L v) = 10
  · rw [if_pos c8] at h
    rcases c8 with c | c | c
    · rw [c] at h
      exact ldf_w hL hl hf hg (k := 8) (Or.inl rfl) hw hv hc h Gf nm hS hA hF
    · rw [c] at h
      exact ldf_w hL hl hf hg (k := 9) (Or.inr (Or.inl rfl)) hw hv hc h Gf nm hS hA hF
    · rw [c] at h
      exact ldf_w hL hl hf hg (k := 10) (Or.inr (Or.inr rfl)) hw hv hc h Gf nm hS hA hF
  rw [if_neg c8] at h
  exact lwd_w h Gf nm hS hF
theorem look_w (hL : L ≤ 4096) (hl : l ≤ 4200) : ∀ k n, k ≤ n → okPl T L Sd In Nx Am K F N S I X Lt l n (look T L k) := by
  intro k
  induction k with
  | zero =>
    intro n _ p br st st' c q hv hw h
    obtain ⟨sc, sh, kc, pl, D, fi, G⟩ := st
    simp only [look] at h
    by_cases c : 128 ≤ sc
    · rw [if_pos c] at h; cases h
    · rw [if_neg c] at h; cases h
  | succ k ih =>
    intro n hn p br st st' c0 q hv hw h Gf nm hS hA hF
    obtain ⟨n, rfl⟩ : ∃ m, n = m + 1 := ⟨n - 1, by omega⟩
    have hg := ih n (by omega)
    have hf := look_p (T := T) (Sd := Sd) (In := In) (Nx := Nx) (Am := Am) (K := K) (F := F) (N := N) (S := S) (I := I) (X := X) (Lt := Lt) hL hl k
    obtain ⟨sc, sh, kc, pl, D, fi, G⟩ := st
    simp only [look] at h
    by_cases c : 128 ≤ sc
    · rw [if_pos c] at h; cases h
    rw [if_neg c] at h
    by_cases c1 : cb T L p = 34
    · rw [if_pos c1] at h
      exact lwd_w h Gf nm hS hF
    rw [if_neg c1] at h
    by_cases c2 : cb T L p = 91
    · rw [if_pos c2] at h
      by_cases c3 : br = true
      · rw [if_pos c3] at h; cases h
      rw [if_neg c3] at h
      by_cases c4 : 1 ≤ (prt T L p).length ∧ (prt T L p).length ≤ 16
      · rw [if_pos c4] at h
        obtain ⟨a1, a2, a3, a4⟩ := hv.lst c2
        have hw1 : WFs (sc + 1, sh + 1, kc, pl, D, fi, upG G sc (mkN 11 sc sh 0 [] [])) := by
          refine ⟨fun w d hd => ?_, by have := hw.2; omega⟩
          obtain ⟨a, b⟩ := hw.1 w d hd
          rw [upG_n (by omega)]
          exact ⟨by omega, b⟩
        have r1 := (lun_p hf (s := sc) (prt T L p) _ _ _ _ _ _ _ (show sc < sc + 1 by omega) hw1 a4 h).1
        obtain ⟨cs, bs, x1, x2, x3, x4⟩ := lun_w hf hg (s := sc) (prt T L p) 0 _ _ _ _ _ _ (show sc < sc + 1 by omega) hw1 a4 h Gf nm hA hF
        obtain ⟨sc', sh', kc', pl', D', fi', G'⟩ := st'
        obtain ⟨p1, p2, p3, p4, p5, p6, p7, p8, p9, p10, p11, p12, p13⟩ := r1
        obtain ⟨hS1, hS2, hS3, hS4, hS5⟩ := hS
        have hS1 : n_kd (Gf sc) = n_kd (G' sc) := hS1
        have hS2 : n_me (Gf sc) = n_me (G' sc) := hS2
        have hS5 : n_ch (Gf sc) = n_ch (G' sc) := hS5
        have p10 : n_kd (G' sc) = n_kd (upG G sc (mkN 11 sc sh 0 [] []) sc) := p10
        have p11 : n_me (G' sc) = n_me (upG G sc (mkN 11 sc sh 0 [] []) sc) := p11
        have x1 : n_ch (G' sc) = n_ch (upG G sc (mkN 11 sc sh 0 [] []) sc) ++ cs := x1
        rw [upG_s] at p10 p11 x1
        have p10 : n_kd (G' sc) = 11 := p10
        have p11 : n_me (G' sc) = sc := p11
        have x1 : n_ch (G' sc) = cs := x1
        have x3 : gS (wS Gf nm n) (fun _ => []) [] cs (tol D) = some (bs, tol D') := x3
        refine ⟨[91] ++ (bs ++ [93]), ?_, ?_⟩
        · show wS Gf nm (n + 1) sc (tol D) = some (_, tol D')
          unfold wS
          rw [hS2, p11, hS1, p10, if_neg (by decide), if_neg (by decide), if_pos rfl, hS5, x1, x3]
        · rw [x4, if_neg (fun z => by rw [z] at c4; exact absurd c4.1 (by decide)), if_pos rfl]
      · rw [if_neg c4] at h; cases h
    rw [if_neg c2] at h
    by_cases c3 : cb T L p = 123
    · rw [if_pos c3] at h
      exact lob_w hL hl hf hg hw hv c3 h Gf nm hS hA hF
    · rw [if_neg c3] at h; cases h
end PLW
