-- the class's rows and the told nodes
def PLI (Pl : Nat → Int32) (pl : List Nat) : Prop := ∀ i, i < pl.length → bv (Pl i) = pl.getD i 0
def PNL (pl : List Nat) (x : Nat) (s : List Nat) : Prop := x + s.length < pl.length ∧ isNm s ∧ (∀ j, j < s.length → pl.getD (x + j) 0 = s.getD j 0) ∧ pl.getD (x + s.length) 0 = 34
theorem getD_l {a b : List Nat} {j : Nat} (h : j < a.length) : (a ++ b).getD j 0 = a.getD j 0 := by
  rw [ls_get (show j < (a ++ b).length by rw [List.length_append]; omega), ls_get h, List.getElem_append_left h]
theorem getD_r {a b : List Nat} {j : Nat} (h : j < b.length) : (a ++ b).getD (a.length + j) 0 = b.getD j 0 := by
  rw [ls_get (show a.length + j < (a ++ b).length by rw [List.length_append]; omega), ls_get h, List.getElem_append_right (by omega)]
  simp
theorem PNL.app {pl t : List Nat} {x : Nat} {s : List Nat} (h : PNL pl x s) : PNL (pl ++ t) x s := by
  obtain ⟨a1, a2, a3, a4⟩ := h
  refine ⟨by rw [List.length_append]; omega, a2, fun j hj => ?_, ?_⟩
  · rw [getD_l (by omega)]; exact a3 j hj
  · rw [getD_l a1]; exact a4
theorem PNL.new {pl a b w : List Nat} (h : isNm w) : PNL (pl ++ (a ++ (qt w ++ b))) (pl.length + a.length + 1) w := by
  have hq : (qt w).length = w.length + 2 := by simp [qt]
  have hlen : (pl ++ (a ++ (qt w ++ b))).length = pl.length + (a.length + (w.length + 2 + b.length)) := by
    rw [List.length_append, List.length_append, List.length_append, hq]
  have gt : ∀ j, j < (qt w).length → (pl ++ (a ++ (qt w ++ b))).getD (pl.length + a.length + j) 0 = (qt w).getD j 0 := by
    intro j hj
    rw [show pl.length + a.length + j = pl.length + (a.length + j) by omega, getD_r (by rw [List.length_append, List.length_append]; omega), getD_r (by rw [List.length_append]; omega), getD_l hj]
  refine ⟨by omega, h, fun j hj => ?_, ?_⟩
  · rw [show pl.length + a.length + 1 + j = pl.length + a.length + (j + 1) by omega, gt _ (by omega)]
    show (w ++ [34]).getD j 0 = _
    exact getD_l hj
  · rw [show pl.length + a.length + 1 + w.length = pl.length + a.length + (w.length + 1) by omega, gt _ (by omega)]
    show (w ++ [34]).getD w.length 0 = 34
    have := getD_r (a := w) (b := [34]) (j := 0) (by decide)
    rw [Nat.add_zero] at this
    rw [this]
    rfl
theorem PLI.wr {Pl : Nat → Int32} {pl b : List Nat} (h : PLI Pl pl) (hb : ∀ v, v ∈ b → v ≤ 255) : PLI (wrS Pl pl.length b) (pl ++ b) := by
  obtain ⟨w1, w2, w3⟩ := wrS_all b Pl pl.length hb
  intro i hi
  rw [List.length_append] at hi
  by_cases c : i < pl.length
  · rw [w1 i c, getD_l c]
    exact h i c
  · have e : i = pl.length + (i - pl.length) := by omega
    rw [e, w3 _ (by omega), getD_r (by omega)]
theorem PNL.pn {Pl : Nat → Int32} {pl : List Nat} {x : Nat} {s : List Nat} (h : PNL pl x s) (hp : PLI Pl pl) (hl : pl.length ≤ 4096) : PN Pl pl.length x s := by
  obtain ⟨a1, a2, a3, a4⟩ := h
  refine ⟨a1, hl, a2, fun j hj => ?_, ?_⟩
  · rw [hp _ (by omega)]; exact a3 j hj
  · rw [hp _ a1]; exact a4
def SYML (pl : List Nat) (k : Nat) (x : Nat → Nat) (sy : Nat → List Nat) : Prop := (∀ i, i < k → PNL pl (x i) (sy i)) ∧ ∀ i, i + 1 < k → x (i + 1) = x i + (sy i).length + 3
theorem ICH.keep2 {X X' : Nat → Int32} {h : Int32} {k hi hi' : Nat} {c : Nat → Nat} (hc : ICH X h k c hi) (hh : ∀ i, i < k → c i < hi') (ha : ∀ i, i < k → X' (c i) = X (c i)) : ICH X' h k c hi' := by
  obtain ⟨a1, a2, a3⟩ := hc
  refine ⟨fun i hi => ?_, a2, a3⟩
  obtain ⟨b1, b2⟩ := a1 i hi
  exact ⟨hh i hi, by rw [ha i hi]; exact b2⟩
theorem ch_mem {l : List Nat} {j : Nat} (h : j < l.length) : l.getD j 0 ∈ l := by
  rw [ls_get h]
  exact List.getElem_mem h
theorem mem_ch {l : List Nat} {c : Nat} (h : c ∈ l) : ∃ j, j < l.length ∧ l.getD j 0 = c := by
  obtain ⟨j, hj, e⟩ := List.getElem_of_mem h
  exact ⟨j, hj, by rw [ls_get hj]; exact e⟩
theorem snc_app {l : List Nat} {n : Nat} : snc (fun j => l.getD j 0) l.length n = fun j => (l ++ [n]).getD j 0 := by
  funext j
  by_cases e : j = l.length
  · rw [e, snc_s]
    have := getD_r (a := l) (b := [n]) (j := 0) (by simp)
    rw [Nat.add_zero] at this
    rw [this]
    rfl
  · rw [snc_n e]
    by_cases c : j < l.length
    · rw [getD_l c]
    · rw [show l.getD j 0 = 0 by simp [List.getD, List.getElem?_eq_none (show l.length ≤ j by omega)], show (l ++ [n]).getD j 0 = 0 by simp [List.getD, List.getElem?_eq_none (show (l ++ [n]).length ≤ j by simp; omega)]]
/-- the last symbol ends the plain form -/
def SE (Fi : Nat → Int32) (pl : List Nat) (s : Nat) (sy : List (List Nat)) : Prop := ∀ x, sy.length ≠ 0 → SYML pl sy.length x (fun j => sy.getD j []) → (0 < sy.length → Fi s = nI (x 0)) → x (sy.length - 1) + (sy.getD (sy.length - 1) []).length + 1 = pl.length
theorem SE.step {Fi : Nat → Int32} {pl t w : List Nat} {s : Nat} {sy : List (List Nat)} {x : Nat → Nat} (h : SE Fi pl s sy) (hx : SYML pl sy.length x (fun j => sy.getD j [])) (h0 : 0 < sy.length → Fi s = nI (x 0)) (ht : t = (if sy = [] then [] else [44]) ++ qt w) (hl : (pl ++ t).length ≤ 4096) : SE (if sy.length = 0 then upd Fi s (nI (pl.length + 1)) else Fi) (pl ++ t) s (sy ++ [w]) := by
  intro x' _ h1 h2
  have hgl : ∀ j, j < sy.length → (sy ++ [w]).getD j [] = sy.getD j [] := fun j hj => by
    simp [List.getD, List.getElem?_append_left hj]
  have hgr : (sy ++ [w]).getD sy.length [] = w := by
    simp [List.getD]
  have hq : (qt w).length = w.length + 2 := by simp [qt]
  rw [List.length_append, List.length_singleton] at h1 h2 ⊢
  have hb := (h1.1 0 (by omega)).1
  have h2 := h2 (by omega)
  rw [Nat.add_sub_cancel, hgr]
  by_cases c0 : sy.length = 0
  · have e0 : sy = [] := List.eq_nil_of_length_eq_zero c0
    rw [if_pos c0, pk_us] at h2
    have hll := hl
    rw [List.length_append] at hll
    have := (nI_eq (a := pl.length + 1) (b := x' 0) (by omega) (by omega)).mp h2
    rw [c0, ← this, ht, if_pos e0, List.nil_append, List.length_append, hq]
    omega
  · have e0 : sy ≠ [] := fun q => c0 (by rw [q]; rfl)
    have hpp := h x c0 hx h0
    rw [if_neg c0, h0 (by omega)] at h2
    have hb2 := (hx.1 0 (by omega)).1
    have hll := hl
    rw [List.length_append] at hll
    have e1 := (nI_eq (a := x 0) (b := x' 0) (by omega) (by omega)).mp h2
    have go : ∀ j, j < sy.length → x' j = x j := by
      intro j
      induction j with
      | zero => intro _; exact e1.symm
      | succ j ih =>
        intro hj
        have a := h1.2 j (by omega)
        have b := hx.2 j hj
        have c := ih (by omega)
        simp only at a b
        rw [hgl j (by omega)] at a
        omega
    have a := h1.2 (sy.length - 1) (by omega)
    simp only at a
    rw [hgl (sy.length - 1) (by omega), go (sy.length - 1) (by omega), show sy.length - 1 + 1 = sy.length by omega] at a
    rw [ht, if_neg e0, List.length_append, List.length_append, hq, List.length_singleton]
    omega
def LOC (Ki Me Fi Ne Fn Ac : Nat → Int32) (pl : List Nat) (sc : Nat) (G : Nat → Nod) (i : Nat) : Prop :=
  Me i = nI (n_me (G i)) ∧ n_me (G i) < sc ∧ (n_pa (G i) = 999 → Ne i = -1) ∧ (n_me (G i) = i → (n_kd (G i) ≤ 11 → Ki i = nI (n_kd (G i))) ∧ (n_kd (G i) ≠ 8 → n_kd (G i) ≠ 9 → ICH Ne (Fi i) (n_ch (G i)).length (fun j => (n_ch (G i)).getD j 0) sc ∧ Ac i = nI (n_ch (G i)).length ∧ (n_ch (G i)).length ≤ 32 ∧ ∀ c, c ∈ n_ch (G i) → i < c ∧ n_pa (G c) = i ∧ (n_kd (G i) = 10 → ∃ a, Fn c = nI a ∧ PNL pl a (n_fn (G c)))) ∧ (n_kd (G i) = 8 → Ac i = nI (n_wd (G i)) ∧ n_wd (G i) ≤ 64) ∧ (n_kd (G i) = 9 → Ac i = nI (n_sy (G i)).length ∧ (n_sy (G i)).length ≤ 32 ∧ ∃ x, (0 < (n_sy (G i)).length → Fi i = nI (x 0)) ∧ SYML pl (n_sy (G i)).length x (fun j => (n_sy (G i)).getD j [])))
section LOCS
variable {Ki Me Fi Ne Fn Ac Ki' Me' Fi' Ne' Fn' Ac' : Nat → Int32} {pl pl' : List Nat} {sc sc' i : Nat} {G G' : Nat → Nod}
theorem LOC.cg (h : LOC Ki Me Fi Ne Fn Ac pl sc G i) (hMe : Me' i = Me i) (hKi : Ki' i = Ki i) (hFi : Fi' i = Fi i) (hAc : Ac' i = Ac i) (hkd : n_kd (G' i) = n_kd (G i)) (hme : n_me (G' i) = n_me (G i)) (hch : n_ch (G' i) = n_ch (G i)) (hwd : n_wd (G' i) = n_wd (G i)) (hsy : n_sy (G' i) = n_sy (G i)) (hc : ∀ c, c ∈ n_ch (G i) → n_pa (G c) = i → i < c → c < sc → Ne' c = Ne c ∧ Fn' c = Fn c ∧ n_pa (G' c) = n_pa (G c) ∧ n_fn (G' c) = n_fn (G c)) (hpa : n_pa (G' i) = 999 → n_pa (G i) = 999 ∧ Ne' i = Ne i) (hsc : sc ≤ sc') (hpl : ∃ t, pl' = pl ++ t) : LOC Ki' Me' Fi' Ne' Fn' Ac' pl' sc' G' i := by
  obtain ⟨a1, a2, a3, a4⟩ := h
  obtain ⟨t, hpl⟩ := hpl
  refine ⟨by rw [hMe, hme]; exact a1, by rw [hme]; omega, fun z => by rw [(hpa z).2]; exact a3 (hpa z).1, fun z => ?_⟩
  rw [hme] at z
  obtain ⟨b1, b2, b3, b4⟩ := a4 z
  refine ⟨fun q => ?_, fun q1 q2 => ?_, fun q => ?_, fun q => ?_⟩
  · rw [hkd] at q ⊢; rw [hKi]; exact b1 q
  · rw [hkd] at q1 q2
    obtain ⟨c1, c2, c3, c4⟩ := b2 q1 q2
    have hlt : ∀ c, c ∈ n_ch (G i) → c < sc := fun c hc' => by
      obtain ⟨j, hj, e⟩ := mem_ch hc'
      rw [← e]
      exact (c1.1 j hj).1
    rw [hch, hFi, hAc]
    refine ⟨c1.keep2 (fun j hj => ?_) (fun j hj => ?_), c2, c3, fun c hcc => ?_⟩
    · have : (n_ch (G i)).getD j 0 < sc := (c1.1 j hj).1
      omega
    · have hm := ch_mem hj
      exact (hc _ hm (c4 _ hm).2.1 (c4 _ hm).1 (hlt _ hm)).1
    · obtain ⟨d1, d2, d3⟩ := c4 c hcc
      obtain ⟨e1, e2, e3, e4⟩ := hc c hcc d2 d1 (hlt c hcc)
      refine ⟨d1, by rw [e3]; exact d2, fun q => ?_⟩
      rw [hkd] at q
      obtain ⟨a, x1, x2⟩ := d3 q
      rw [hpl, e4]
      exact ⟨a, by rw [e2]; exact x1, x2.app⟩
  · rw [hkd] at q
    rw [hAc, hwd]; exact b3 q
  · rw [hkd] at q
    obtain ⟨c1, c2, x, c3, c4⟩ := b4 q
    rw [hsy, hAc, hFi]
    exact ⟨c1, c2, x, c3, fun j hj => by rw [hpl]; exact (c4.1 j hj).app, c4.2⟩
def LCs (Ki Me Fi Ne Fn Ac : Nat → Int32) (pl : List Nat) (sc : Nat) (G : Nat → Nod) : Prop := ∀ i, i < sc → LOC Ki Me Fi Ne Fn Ac pl sc G i
theorem LCs.wr (h : LCs Ki Me Fi Ne Fn Ac pl sc G) (t : List Nat) : LCs Ki Me Fi Ne Fn Ac (pl ++ t) sc G := fun i hi => (h i hi).cg rfl rfl rfl rfl rfl rfl rfl rfl rfl (fun _ _ _ _ _ => ⟨rfl, rfl, rfl, rfl⟩) (fun z => ⟨z, rfl⟩) (Nat.le_refl _) ⟨t, rfl⟩
/-- only shapes and kids changed -/
theorem LCs.kl (h : LCs Ki Me Fi Ne Fn Ac pl sc G) {s : Nat} {x : Nod} (h1 : n_kd x = n_kd (G s)) (h2 : n_me x = n_me (G s)) (h3 : n_ch x = n_ch (G s)) (h4 : n_wd x = n_wd (G s)) (h5 : n_sy x = n_sy (G s)) (h6 : n_pa x = n_pa (G s)) (h7 : n_fn x = n_fn (G s)) : LCs Ki Me Fi Ne Fn Ac pl sc (upG G s x) := by
  have e : ∀ {β : Type} (g : Nod → β), g x = g (G s) → ∀ i, g (upG G s x i) = g (G i) := fun g hg i => by
    by_cases q : i = s
    · rw [q, upG_s]; exact hg
    · rw [upG_n q]
  exact fun i hi => (h i hi).cg rfl rfl rfl rfl (e _ h1 i) (e _ h2 i) (e _ h3 i) (e _ h4 i) (e _ h5 i) (fun c _ _ _ _ => ⟨rfl, rfl, e _ h6 c, e _ h7 c⟩) (fun z => ⟨(e _ h6 i).symm.trans z, rfl⟩) (Nat.le_refl _) ⟨[], (List.append_nil _).symm⟩
theorem LCs.opn (h : LCs Ki Me Fi Ne Fn Ac pl sc G) : LCs (upd Ki sc (-1)) (upd Me sc (nI sc)) (upd Fi sc (-1)) (upd Ne sc (-1)) (upd Fn sc (-1)) (upd Ac sc 0) pl (sc + 1) (upG G sc (mkN 12 sc 0 0 [] [])) := by
  intro i hi
  by_cases e : i = sc
  · subst e
    refine ⟨by rw [pk_us, upG_s]; rfl, by rw [upG_s]; show i < i + 1; omega, fun _ => pk_us, fun _ => ?_⟩
    rw [upG_s]
    refine ⟨fun z => absurd z (show ¬ 12 ≤ 11 by decide), fun _ _ => ⟨?_, ?_, by show 0 ≤ 32; omega, fun c hc => absurd hc List.not_mem_nil⟩, fun z => absurd z (show ¬ 12 = 8 by decide), fun z => absurd z (show ¬ 12 = 9 by decide)⟩
    · rw [pk_us]
      exact ICH.nil
    · exact pk_us
  · refine (h i (by omega)).cg (pk_un e) (pk_un e) (pk_un e) (pk_un e) (by rw [upG_n e]) (by rw [upG_n e]) (by rw [upG_n e]) (by rw [upG_n e]) (by rw [upG_n e]) (fun c _ _ _ hc => ?_) (fun z => ?_) (by omega) ⟨[], (List.append_nil _).symm⟩
    · rw [pk_un (show c ≠ sc by omega), pk_un (show c ≠ sc by omega), upG_n (show c ≠ sc by omega)]
      exact ⟨rfl, rfl, rfl, rfl⟩
    · rw [upG_n e] at z
      exact ⟨z, pk_un e⟩
/-- a kind for a new slot -/
theorem LCs.set (h : LCs Ki Me Fi Ne Fn Ac pl sc G) {s k sg : Nat} {kl : List Nat} (hs : s < sc) (hG : G s = mkN 12 s 0 0 [] []) : LCs (upd Ki s (nI k)) Me Fi Ne Fn Ac pl sc (upG G s (mkN k s sg 0 [] kl)) := by
  intro i hi
  have hp : ∀ c, n_pa (upG G s (mkN k s sg 0 [] kl) c) = n_pa (G c) ∧ n_fn (upG G s (mkN k s sg 0 [] kl) c) = n_fn (G c) := fun c => by
    by_cases q : c = s
    · rw [q, upG_s, hG]; exact ⟨rfl, rfl⟩
    · rw [upG_n q]; exact ⟨rfl, rfl⟩
  by_cases e : i = s
  · subst e
    have hl := h i hs
    unfold LOC at hl
    rw [hG] at hl
    obtain ⟨a1, a2, a3, a4⟩ := hl
    obtain ⟨b1, b2, b3, b4⟩ := a4 rfl
    obtain ⟨c1, c2, c3, c4⟩ := b2 (show 12 ≠ 8 by decide) (show 12 ≠ 9 by decide)
    refine ⟨by rw [upG_s]; exact a1, by rw [upG_s]; exact hs, fun _ => a3 rfl, fun _ => ?_⟩
    rw [upG_s]
    refine ⟨fun _ => pk_us, fun _ _ => ⟨c1, c2, c3, fun c hc => absurd hc List.not_mem_nil⟩, fun _ => ⟨c2, by show 0 ≤ 64; omega⟩, fun _ => ⟨c2, by show 0 ≤ 32; omega, fun _ => 0, fun z => absurd z (show ¬ 0 < 0 by decide), fun j hj => absurd hj (Nat.not_lt_zero _), fun j hj => absurd hj (by show ¬ j + 1 < 0; omega)⟩⟩
  · exact (h i hi).cg rfl (pk_un e) rfl rfl (by rw [upG_n e]) (by rw [upG_n e]) (by rw [upG_n e]) (by rw [upG_n e]) (by rw [upG_n e]) (fun c _ _ _ _ => ⟨rfl, rfl, (hp c).1, (hp c).2⟩) (fun z => ⟨(hp i).1.symm.trans z, rfl⟩) (Nat.le_refl _) ⟨[], (List.append_nil _).symm⟩
/-- a name told before -/
theorem LCs.mea (h : LCs Ki Me Fi Ne Fn Ac pl sc G) {s d sg : Nat} (hs : s < sc) (hd : d < s) (hG : G s = mkN 12 s 0 0 [] []) : LCs Ki (upd Me s (nI d)) Fi Ne Fn Ac pl sc (upG G s (mkN 12 d sg 0 [] [])) := by
  intro i hi
  have hp : ∀ c, n_pa (upG G s (mkN 12 d sg 0 [] []) c) = n_pa (G c) ∧ n_fn (upG G s (mkN 12 d sg 0 [] []) c) = n_fn (G c) := fun c => by
    by_cases q : c = s
    · rw [q, upG_s, hG]; exact ⟨rfl, rfl⟩
    · rw [upG_n q]; exact ⟨rfl, rfl⟩
  by_cases e : i = s
  · subst e
    have hl := h i hs
    unfold LOC at hl
    rw [hG] at hl
    refine ⟨by rw [upG_s]; exact pk_us, by rw [upG_s]; show d < sc; omega, fun _ => hl.2.2.1 rfl, fun z => ?_⟩
    rw [upG_s] at z
    have z : d = i := z
    omega
  · exact (h i hi).cg (pk_un e) rfl rfl rfl (by rw [upG_n e]) (by rw [upG_n e]) (by rw [upG_n e]) (by rw [upG_n e]) (by rw [upG_n e]) (fun c _ _ _ _ => ⟨rfl, rfl, (hp c).1, (hp c).2⟩) (fun z => ⟨(hp i).1.symm.trans z, rfl⟩) (Nat.le_refl _) ⟨[], (List.append_nil _).symm⟩
/-- the size of a fixed -/
theorem LCs.amt (h : LCs Ki Me Fi Ne Fn Ac pl sc G) {s w sg : Nat} {x : Nod} (hs : s < sc) (hG : G s = x) (h1 : n_kd x = 8) (h2 : n_me x = s) (h3 : n_pa x = 999) (h4 : n_fn x = []) (h64 : w ≤ 64) : LCs Ki Me Fi Ne Fn (upd Ac s (nI w)) pl sc (upG G s (mkN 8 s sg w [] [])) := by
  intro i hi
  have hp : ∀ c, n_pa (upG G s (mkN 8 s sg w [] []) c) = n_pa (G c) ∧ n_fn (upG G s (mkN 8 s sg w [] []) c) = n_fn (G c) := fun c => by
    by_cases q : c = s
    · rw [q, upG_s, hG, h3, h4]; exact ⟨rfl, rfl⟩
    · rw [upG_n q]; exact ⟨rfl, rfl⟩
  by_cases e : i = s
  · subst e
    have hl := h i hs
    unfold LOC at hl
    rw [hG, h1, h2, h3] at hl
    obtain ⟨a1, a2, a3, a4⟩ := hl
    obtain ⟨b1, b2, b3, b4⟩ := a4 rfl
    refine ⟨by rw [upG_s]; exact a1, by rw [upG_s]; exact hs, fun _ => a3 rfl, fun _ => ?_⟩
    rw [upG_s]
    exact ⟨fun _ => b1 (by decide), fun q => absurd rfl q, fun _ => ⟨pk_us, h64⟩, fun q => absurd q (show ¬ 8 = 9 by decide)⟩
  · exact (h i hi).cg rfl rfl rfl (pk_un e) (by rw [upG_n e]) (by rw [upG_n e]) (by rw [upG_n e]) (by rw [upG_n e]) (by rw [upG_n e]) (fun c _ _ _ _ => ⟨rfl, rfl, (hp c).1, (hp c).2⟩) (fun z => ⟨(hp i).1.symm.trans z, rfl⟩) (Nat.le_refl _) ⟨[], (List.append_nil _).symm⟩
/-- a field's name -/
theorem LCs.fld (h : LCs Ki Me Fi Ne Fn Ac pl sc G) {c : Nat} {v : Int32} {w : List Nat} (hc : c < sc) (h9 : n_pa (G c) = 999) (hsc : sc ≤ 128) : LCs Ki Me Fi Ne (upd Fn c v) Ac pl sc (upG G c (fnN (G c) w)) := by
  have e : ∀ {β : Type} (g : Nod → β), g (fnN (G c) w) = g (G c) → ∀ i, g (upG G c (fnN (G c) w) i) = g (G i) := fun g hg i => by
    by_cases q : i = c
    · rw [q, upG_s]; exact hg
    · rw [upG_n q]
  refine fun i hi => (h i hi).cg rfl rfl rfl rfl (e _ rfl i) (e _ rfl i) (e _ rfl i) (e _ rfl i) (e _ rfl i) (fun c' _ hp h1 h2 => ?_) (fun z => ⟨(e n_pa rfl i).symm.trans z, rfl⟩) (Nat.le_refl _) ⟨[], (List.append_nil _).symm⟩
  have hne : c' ≠ c := fun q => by rw [q, h9] at hp; omega
  rw [pk_un hne, upG_n hne]
  exact ⟨rfl, rfl, rfl, rfl⟩
/-- a slot behind the others of its outer one -/
theorem LCs.jon (h : LCs Ki Me Fi Ne Fn Ac pl sc G) {s c : Nat} (hsc : sc ≤ 128) (hs : s < c) (hc : c < sc) (hm : n_me (G s) = s) (h8 : n_kd (G s) ≠ 8) (h9 : n_kd (G s) ≠ 9) (hp : n_pa (G c) = 999) (hlt : ∀ x, x ∈ n_ch (G s) → x < c) (hl : (n_ch (G s)).length < 32) (hf : n_kd (G s) = 10 → ∃ a, Fn c = nI a ∧ PNL pl a (n_fn (G c))) :
    LCs Ki Me (if (n_ch (G s)).length = 0 then upd Fi s (nI c) else Fi) (if (n_ch (G s)).length = 0 then Ne else upd Ne ((n_ch (G s)).getD ((n_ch (G s)).length - 1) 0) (nI c)) Fn (upd Ac s (Ac s + 1)) pl sc (upG (upG G s (chN (G s) c)) c (paN (G c) s)) := by
  obtain ⟨s1, s2, s3, s4⟩ := h s (by omega)
  obtain ⟨t1, t2, t3, t4⟩ := s4 hm
  obtain ⟨u1, u2, u3, u4⟩ := t2 h8 h9
  have e : ∀ {β : Type} (g : Nod → β), (∀ x, g (chN x c) = g x) → (∀ x, g (paN x s) = g x) → ∀ i, g (upG (upG G s (chN (G s) c)) c (paN (G c) s) i) = g (G i) := fun g h1 h2 i => by
    by_cases q : i = c
    · rw [q, upG_s]; exact h2 _
    · rw [upG_n q]
      by_cases q2 : i = s
      · rw [q2, upG_s]; exact h1 _
      · rw [upG_n q2]
  have epa : ∀ i, i ≠ c → n_pa (upG (upG G s (chN (G s) c)) c (paN (G c) s) i) = n_pa (G i) := fun i q => by
    rw [upG_n q]
    by_cases q2 : i = s
    · rw [q2, upG_s]; rfl
    · rw [upG_n q2]
  have epc : n_pa (upG (upG G s (chN (G s) c)) c (paN (G c) s) c) = s := by rw [upG_s]; rfl
  have ech : ∀ i, i ≠ s → n_ch (upG (upG G s (chN (G s) c)) c (paN (G c) s) i) = n_ch (G i) := fun i q => by
    by_cases q2 : i = c
    · rw [q2, upG_s]; rfl
    · rw [upG_n q2, upG_n q]
  have ecs : n_ch (upG (upG G s (chN (G s) c)) c (paN (G c) s) s) = n_ch (G s) ++ [c] := by rw [upG_n (by omega), upG_s]; rfl
  have hne : ∀ j, ¬ ((n_ch (G s)).length ≠ 0 ∧ j = (n_ch (G s)).getD ((n_ch (G s)).length - 1) 0) → (if (n_ch (G s)).length = 0 then Ne else upd Ne ((n_ch (G s)).getD ((n_ch (G s)).length - 1) 0) (nI c)) j = Ne j := fun j hj => by
    by_cases q : (n_ch (G s)).length = 0
    · rw [if_pos q]
    · rw [if_neg q]
      exact pk_un (fun z => hj ⟨q, z⟩)
  have hlast : (n_ch (G s)).length ≠ 0 → (n_ch (G s)).getD ((n_ch (G s)).length - 1) 0 ∈ n_ch (G s) := fun q => ch_mem (by omega)
  intro i hi
  by_cases ei : i = s
  · subst ei
    refine ⟨by rw [e n_me (fun _ => rfl) (fun _ => rfl)]; exact s1, by rw [e n_me (fun _ => rfl) (fun _ => rfl)]; exact s2, fun z => ?_, fun _ => ?_⟩
    · rw [epa i (by omega)] at z
      rw [hne i (fun q => by
        have := (u4 _ (hlast q.1)).1
        omega)]
      exact s3 z
    · rw [e n_kd (fun _ => rfl) (fun _ => rfl), e n_wd (fun _ => rfl) (fun _ => rfl), e n_sy (fun _ => rfl) (fun _ => rfl), ecs]
      refine ⟨t1, fun _ _ => ⟨?_, ?_, by rw [List.length_append, List.length_singleton]; omega, fun c' hc' => ?_⟩, fun q => absurd q h8, fun q => absurd q h9⟩
      · rw [List.length_append, List.length_singleton, ← snc_app]
        refine ICH.push (X := Ne) (h := Fi i) (hi := c) (n := c) (u1.keep2 (fun j hj => hlt _ (ch_mem hj)) (fun _ _ => rfl)) (Nat.le_refl _) hc (fun j _ => rfl) ?_ ?_
        · rw [hne c (fun q => by
            have := hlt _ (hlast q.1)
            omega)]
          exact (h c hc).2.2.1 hp
        · by_cases q : (n_ch (G i)).length = 0
          · rw [if_pos q, if_pos q, pk_us]
          · rw [if_neg q, if_neg q]
      · rw [pk_us, u2, nI_1, List.length_append, List.length_singleton]
      · rcases List.mem_append.mp hc' with q | q
        · obtain ⟨v1, v2, v3⟩ := u4 c' q
          have := hlt c' q
          rw [epa c' (by omega), e n_fn (fun _ => rfl) (fun _ => rfl)]
          exact ⟨v1, v2, v3⟩
        · have q := List.mem_singleton.mp q
          subst q
          rw [epc, e n_fn (fun _ => rfl) (fun _ => rfl)]
          exact ⟨hs, rfl, hf⟩
  · refine (h i hi).cg rfl rfl ?_ (pk_un ei) (e _ (fun _ => rfl) (fun _ => rfl) i) (e _ (fun _ => rfl) (fun _ => rfl) i) (ech i ei) (e _ (fun _ => rfl) (fun _ => rfl) i) (e _ (fun _ => rfl) (fun _ => rfl) i) (fun c' hc' hp' h1 h2 => ?_) (fun z => ?_) (Nat.le_refl _) ⟨[], (List.append_nil _).symm⟩
    · by_cases q : (n_ch (G s)).length = 0
      · rw [if_pos q]; exact pk_un ei
      · rw [if_neg q]
    · have hcc : c' ≠ c := fun q => by rw [q, hp] at hp'; omega
      refine ⟨hne c' (fun q => ?_), rfl, epa c' hcc, e _ (fun _ => rfl) (fun _ => rfl) c'⟩
      have := (u4 _ (hlast q.1)).2.1
      rw [← q.2] at this
      omega
    · by_cases q : i = c
      · rw [q, epc] at z
        omega
      · rw [epa i q] at z
        refine ⟨z, hne i (fun w => ?_)⟩
        have := (u4 _ (hlast w.1)).2.1
        rw [← w.2, z] at this
        omega
/-- a symbol behind the others -/
theorem LCs.sym (h : LCs Ki Me Fi Ne Fn Ac pl sc G) {s k0 : Nat} {w t : List Nat} (hs : s < sc) (hm : n_me (G s) = s) (h9 : n_kd (G s) = 9) (hw : isNm w) (hl : (n_sy (G s)).length < 32) (hp : SE Fi pl s (n_sy (G s))) (ht : t = (if n_sy (G s) = [] then [] else [44]) ++ qt w) :
    LCs Ki Me (if (n_sy (G s)).length = 0 then upd Fi s (nI (pl.length + 1)) else Fi) Ne Fn (upd Ac s (Ac s + 1)) (pl ++ t) sc (upG G s (syN (G s) w k0)) := by
  have e : ∀ {β : Type} (g : Nod → β), (∀ x, g (syN x w k0) = g x) → ∀ i, g (upG G s (syN (G s) w k0) i) = g (G i) := fun g hg i => by
    by_cases q : i = s
    · rw [q, upG_s]; exact hg _
    · rw [upG_n q]
  intro i hi
  by_cases ei : i = s
  · subst ei
    obtain ⟨s1, s2, s3, s4⟩ := h i hi
    obtain ⟨t1, t2, t3, t4⟩ := s4 hm
    obtain ⟨u1, u2, x, u3, u4⟩ := t4 h9
    refine ⟨by rw [upG_s]; exact s1, by rw [upG_s]; exact s2, fun z => s3 (by rw [upG_s] at z; exact z), fun _ => ?_⟩
    rw [upG_s]
    refine ⟨fun q => t1 q, fun _ q => absurd h9 q, fun q => absurd (h9.symm.trans q) (by decide), fun _ => ?_⟩
    show upd Ac i (Ac i + 1) i = nI (n_sy (G i) ++ [w]).length ∧ (n_sy (G i) ++ [w]).length ≤ 32 ∧ ∃ x, (0 < (n_sy (G i) ++ [w]).length → (if (n_sy (G i)).length = 0 then upd Fi i (nI (pl.length + 1)) else Fi) i = nI (x 0)) ∧ SYML (pl ++ t) (n_sy (G i) ++ [w]).length x (fun j => (n_sy (G i) ++ [w]).getD j [])
    have hgl : ∀ j, j < (n_sy (G i)).length → (n_sy (G i) ++ [w]).getD j [] = (n_sy (G i)).getD j [] := fun j hj => by
      simp [List.getD, List.getElem?_append_left hj]
    have hgr : (n_sy (G i) ++ [w]).getD (n_sy (G i)).length [] = w := by
      simp [List.getD]
    rw [List.length_append, List.length_singleton]
    refine ⟨by rw [pk_us, u1, nI_1], by omega, ?_⟩
    by_cases c0 : (n_sy (G i)).length = 0
    · have e0 : n_sy (G i) = [] := List.eq_nil_of_length_eq_zero c0
      refine ⟨fun _ => pl.length + 1, fun _ => ?_, fun j hj => ?_, fun j hj => by omega⟩
      · rw [if_pos c0, pk_us]
      · have ej : j = (n_sy (G i)).length := by omega
        show PNL (pl ++ t) (pl.length + 1) ((n_sy (G i) ++ [w]).getD j [])
        rw [ej, hgr, ht, if_pos e0]
        have := PNL.new (pl := pl) (a := []) (b := []) hw
        rw [List.append_nil] at this
        exact this
    · have e0 : n_sy (G i) ≠ [] := fun q => c0 (by rw [q]; rfl)
      have hpp := hp x c0 u4 u3
      refine ⟨fun j => if j = (n_sy (G i)).length then pl.length + 2 else x j, fun _ => ?_, fun j hj => ?_, fun j hj => ?_⟩
      · show (if (n_sy (G i)).length = 0 then upd Fi i (nI (pl.length + 1)) else Fi) i = nI (if 0 = (n_sy (G i)).length then pl.length + 2 else x 0)
        rw [if_neg c0, if_neg (show ¬ 0 = (n_sy (G i)).length by omega)]
        exact u3 (by omega)
      · show PNL (pl ++ t) (if j = (n_sy (G i)).length then pl.length + 2 else x j) ((n_sy (G i) ++ [w]).getD j [])
        by_cases ej : j = (n_sy (G i)).length
        · rw [if_pos ej, ej, hgr, ht, if_neg e0]
          have := PNL.new (pl := pl) (a := [44]) (b := []) hw
          rw [List.append_nil] at this
          exact this
        · rw [if_neg ej, hgl j (by omega)]
          exact (u4.1 j (by omega)).app
      · show (if j + 1 = (n_sy (G i)).length then pl.length + 2 else x (j + 1)) = (if j = (n_sy (G i)).length then pl.length + 2 else x j) + ((n_sy (G i) ++ [w]).getD j []).length + 3
        rw [if_neg (show ¬ j = (n_sy (G i)).length by omega), hgl j (by omega)]
        by_cases ej : j + 1 = (n_sy (G i)).length
        · rw [if_pos ej]
          rw [show (n_sy (G i)).length - 1 = j by omega] at hpp
          omega
        · rw [if_neg ej]
          exact u4.2 j (by omega)
  · refine (h i hi).cg rfl rfl ?_ (pk_un ei) (e _ (fun _ => rfl) i) (e _ (fun _ => rfl) i) (e _ (fun _ => rfl) i) (e _ (fun _ => rfl) i) (by rw [upG_n ei]) (fun c' hc' hp' h1 h2 => ⟨rfl, rfl, e _ (fun _ => rfl) c', e _ (fun _ => rfl) c'⟩) (fun z => ⟨(e n_pa (fun _ => rfl) i).symm.trans z, rfl⟩) (Nat.le_refl _) ⟨t, rfl⟩
    by_cases q : (n_sy (G s)).length = 0
    · rw [if_pos q]; exact pk_un ei
    · rw [if_neg q]
end LOCS
