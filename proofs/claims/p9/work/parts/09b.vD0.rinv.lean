-- the reference's rows and the told nodes
def srt (k : Nat) : Nat := if k = 11 then 8 else if k = 8 then 9 else if k = 9 then 10 else if k = 10 then 11 else k
theorem srt_i : ∀ k, k ≤ 11 → ∀ j, j ≤ 11 → srt k = srt j → k = j := by decide
theorem srt_6 : ∀ k, k ≤ 11 → (srt k = 6 ↔ k = 6) ∧ (srt k = 7 ↔ k = 7) ∧ (6 ≤ srt k ↔ 6 ≤ k) ∧ srt k ≤ 11 := by decide
def LOR (N : Nat → Int64) (S Lt : Nat → Int32) (l : Nat) (So Wi Kd kS kN kX : Nat → Int32) (sh kc k : Nat) (G : Nat → Nod) (i : Nat) : Prop :=
  n_me (G i) < k ∧ (∀ a, a ∈ n_kl (G i) → a < kc) ∧ (n_me (G i) ≠ i → n_sg (G i) = n_sg (G (n_me (G i)))) ∧ (n_me (G i) = i → (n_kd (G i) ≤ 5 → n_sg (G i) = n_kd (G i)) ∧ (∀ c, c ∈ n_ch (G i) → c < k ∧ n_pa (G c) = i) ∧ (6 ≤ n_kd (G i) → n_kd (G i) ≤ 11 → 6 ≤ n_sg (G i) ∧ n_sg (G i) < sh ∧ So (n_sg (G i)) = nI (srt (n_kd (G i))) ∧ ICH kX (Kd (n_sg (G i))) (n_kl (G i)).length (fun j => (n_kl (G i)).getD j 0) kc ∧ (n_ch (G i)).length ≤ (n_kl (G i)).length ∧ (∀ j, j < (n_ch (G i)).length → kS ((n_kl (G i)).getD j 0) = nI (n_sg (G ((n_ch (G i)).getD j 0))) ∧ (n_kd (G i) = 10 → RNm N S Lt l (kN ((n_kl (G i)).getD j 0)) (n_fn (G ((n_ch (G i)).getD j 0))))) ∧ (n_kd (G i) = 8 → Wi (n_sg (G i)) = nI (n_wd (G i))) ∧ (n_kd (G i) = 9 → (n_sy (G i)).length = (n_kl (G i)).length ∧ ∀ j, j < (n_kl (G i)).length → RNm N S Lt l (kN ((n_kl (G i)).getD j 0)) ((n_sy (G i)).getD j []))))
def RLs (N : Nat → Int64) (S Lt : Nat → Int32) (l : Nat) (So Wi Kd kS kN kX : Nat → Int32) (sh kc k : Nat) (G : Nat → Nod) : Prop := ∀ i, i < k → LOR N S Lt l So Wi Kd kS kN kX sh kc k G i
/-- two slots have two shapes, and kids of their own -/
def SGI (G : Nat → Nod) (k : Nat) : Prop := (∀ i j, i < k → j < k → n_me (G i) = i → n_me (G j) = j → 6 ≤ n_kd (G i) → n_kd (G i) ≤ 11 → 6 ≤ n_kd (G j) → n_kd (G j) ≤ 11 → n_sg (G i) = n_sg (G j) → i = j) ∧ (∀ i j a, i < k → j < k → a ∈ n_kl (G i) → a ∈ n_kl (G j) → i = j)
section LORS
variable {N : Nat → Int64} {S Lt : Nat → Int32} {l : Nat} {So Wi Kd kS kN kX So' Wi' Kd' kS' kN' kX' : Nat → Int32} {sh kc k sh' kc' k' i : Nat} {G G' : Nat → Nod}
theorem LOR.cg (h : LOR N S Lt l So Wi Kd kS kN kX sh kc k G i) (hkd : n_kd (G' i) = n_kd (G i)) (hme : n_me (G' i) = n_me (G i)) (hsg : n_sg (G' i) = n_sg (G i)) (hch : n_ch (G' i) = n_ch (G i)) (hwd : n_wd (G' i) = n_wd (G i)) (hsy : n_sy (G' i) = n_sy (G i)) (hkl : n_kl (G' i) = n_kl (G i)) (hmm : n_me (G i) ≠ i → n_sg (G' (n_me (G i))) = n_sg (G (n_me (G i)))) (hr : n_me (G i) = i → 6 ≤ n_kd (G i) → n_kd (G i) ≤ 11 → n_sg (G i) < sh → So' (n_sg (G i)) = So (n_sg (G i)) ∧ Wi' (n_sg (G i)) = Wi (n_sg (G i)) ∧ Kd' (n_sg (G i)) = Kd (n_sg (G i))) (hk : ∀ a, a ∈ n_kl (G i) → a < kc → kX' a = kX a ∧ kS' a = kS a ∧ kN' a = kN a) (hc : ∀ c, c ∈ n_ch (G i) → n_pa (G c) = i → c < k → n_sg (G' c) = n_sg (G c) ∧ n_fn (G' c) = n_fn (G c) ∧ n_pa (G' c) = n_pa (G c)) (h1 : sh ≤ sh') (h2 : kc ≤ kc') (h3 : k ≤ k') : LOR N S Lt l So' Wi' Kd' kS' kN' kX' sh' kc' k' G' i := by
  obtain ⟨a0, a1, a2, a3⟩ := h
  refine ⟨by rw [hme]; omega, fun a ha => by rw [hkl] at ha; have := a1 a ha; omega, fun z => ?_, fun z => ?_⟩
  · rw [hme] at z
    rw [hsg, hme, hmm z]
    exact a2 z
  · rw [hme] at z
    obtain ⟨b1, b2, b3⟩ := a3 z
    refine ⟨fun q => by rw [hkd] at q ⊢; rw [hsg]; exact b1 q, fun c hc' => ?_, fun q1 q2 => ?_⟩
    · rw [hch] at hc'
      obtain ⟨x1, x2⟩ := b2 c hc'
      exact ⟨by omega, by rw [(hc c hc' x2 x1).2.2]; exact x2⟩
    · rw [hkd] at q1 q2
      obtain ⟨c1, c2, c3, c4, c5, c6, c7, c8⟩ := b3 q1 q2
      obtain ⟨r1, r2, r3⟩ := hr z q1 q2 c2
      have hm : ∀ j, j < (n_kl (G i)).length → (n_kl (G i)).getD j 0 < kc ∧ kX' ((n_kl (G i)).getD j 0) = kX ((n_kl (G i)).getD j 0) ∧ kS' ((n_kl (G i)).getD j 0) = kS ((n_kl (G i)).getD j 0) ∧ kN' ((n_kl (G i)).getD j 0) = kN ((n_kl (G i)).getD j 0) := fun j hj => ⟨a1 _ (ch_mem hj), hk _ (ch_mem hj) (a1 _ (ch_mem hj))⟩
      rw [hkd, hsg, hkl, hch, hwd, hsy, r1, r2, r3]
      refine ⟨c1, by omega, c3, c4.keep2 (fun j hj => by have := (hm j hj).1; omega) (fun j hj => (hm j hj).2.1), c5, fun j hj => ?_, c7, fun q => ⟨(c8 q).1, fun j hj => by rw [(hm j hj).2.2.2]; exact (c8 q).2 j hj⟩⟩
      obtain ⟨d1, d2⟩ := c6 j hj
      have hcm := ch_mem hj
      obtain ⟨x1, x2⟩ := b2 _ hcm
      obtain ⟨y1, y2, y3⟩ := hc _ hcm x2 x1
      rw [(hm j (by omega)).2.2.1, (hm j (by omega)).2.2.2, y1, y2]
      exact ⟨d1, d2⟩
/-- nodes alike in what the reference's rows say -/
theorem RLs.nd (h : RLs N S Lt l So Wi Kd kS kN kX sh kc k G) (hg : ∀ i, i < k → n_kd (G' i) = n_kd (G i) ∧ n_me (G' i) = n_me (G i) ∧ n_sg (G' i) = n_sg (G i) ∧ n_ch (G' i) = n_ch (G i) ∧ n_wd (G' i) = n_wd (G i) ∧ n_sy (G' i) = n_sy (G i) ∧ n_kl (G' i) = n_kl (G i) ∧ n_pa (G' i) = n_pa (G i) ∧ n_fn (G' i) = n_fn (G i)) : RLs N S Lt l So Wi Kd kS kN kX sh kc k G' := fun i hi => by
  obtain ⟨e1, e2, e3, e4, e5, e6, e7, e8, e9⟩ := hg i hi
  exact (h i hi).cg e1 e2 e3 e4 e5 e6 e7 (fun _ => (hg _ (h i hi).1).2.2.1) (fun _ _ _ _ => ⟨rfl, rfl, rfl⟩) (fun _ _ _ => ⟨rfl, rfl, rfl⟩) (fun c _ _ hc => ⟨(hg c hc).2.2.1, (hg c hc).2.2.2.2.2.2.2.2, (hg c hc).2.2.2.2.2.2.2.1⟩) (Nat.le_refl _) (Nat.le_refl _) (Nat.le_refl _)
theorem RLs.opn (h : RLs N S Lt l So Wi Kd kS kN kX sh kc k G) : RLs N S Lt l So Wi Kd kS kN kX sh kc (k + 1) (upG G k (mkN 12 k 0 0 [] [])) := by
  intro i hi
  by_cases e : i = k
  · subst e
    refine ⟨by rw [upG_s]; show i < i + 1; omega, fun a ha => by rw [upG_s] at ha; exact absurd ha List.not_mem_nil, fun z => by rw [upG_s] at z; exact absurd rfl z, fun _ => ?_⟩
    rw [upG_s]
    exact ⟨fun q => absurd q (show ¬ 12 ≤ 5 by decide), fun c hc => absurd hc List.not_mem_nil, fun _ q => absurd q (show ¬ 12 ≤ 11 by decide)⟩
  · have hm := (h i (by omega)).1
    exact (h i (by omega)).cg (by rw [upG_n e]) (by rw [upG_n e]) (by rw [upG_n e]) (by rw [upG_n e]) (by rw [upG_n e]) (by rw [upG_n e]) (by rw [upG_n e]) (fun _ => by rw [upG_n (by omega)]) (fun _ _ _ _ => ⟨rfl, rfl, rfl⟩) (fun _ _ _ => ⟨rfl, rfl, rfl⟩) (fun c _ _ hc => by rw [upG_n (by omega)]; exact ⟨rfl, rfl, rfl⟩) (Nat.le_refl _) (Nat.le_refl _) (by omega)
/-- another node for an open slot that nothing speaks of -/
theorem LOR.oth {s : Nat} {x : Nod} (h : LOR N S Lt l So Wi Kd kS kN kX sh kc k G i) (ei : i ≠ s) (hpa : n_pa x = n_pa (G s)) (hfn : n_fn x = n_fn (G s)) (hsg : n_sg x = n_sg (G s) ∨ (n_pa (G s) = 999 ∧ i < 999 ∧ n_me (G i) ≠ s)) (hr : n_me (G i) = i → 6 ≤ n_kd (G i) → n_kd (G i) ≤ 11 → n_sg (G i) < sh → So' (n_sg (G i)) = So (n_sg (G i)) ∧ Wi' (n_sg (G i)) = Wi (n_sg (G i)) ∧ Kd' (n_sg (G i)) = Kd (n_sg (G i))) (hk : ∀ a, a ∈ n_kl (G i) → a < kc → kX' a = kX a ∧ kS' a = kS a ∧ kN' a = kN a) (h1 : sh ≤ sh') (h2 : kc ≤ kc') : LOR N S Lt l So' Wi' Kd' kS' kN' kX' sh' kc' k (upG G s x) i := by
  refine h.cg (by rw [upG_n ei]) (by rw [upG_n ei]) (by rw [upG_n ei]) (by rw [upG_n ei]) (by rw [upG_n ei]) (by rw [upG_n ei]) (by rw [upG_n ei]) (fun z => ?_) hr hk (fun c _ hp hc => ?_) h1 h2 (Nat.le_refl _)
  · by_cases q : n_me (G i) = s
    · rw [q, upG_s]
      rcases hsg with w | ⟨_, _, w⟩
      · exact w
      · exact absurd q w
    · rw [upG_n q]
  · by_cases q : c = s
    · rw [q] at hp
      rw [q, upG_s]
      rcases hsg with w | ⟨w1, w2, _⟩
      · exact ⟨w, hfn, hpa⟩
      · omega
    · rw [upG_n q]
      exact ⟨rfl, rfl, rfl⟩
theorem RLs.six (h : RLs N S Lt l So Wi Kd kS kN kX sh kc k G) {s x : Nat} (hk : k ≤ 128) (hs : s < k) (hG : G s = mkN 12 s 0 0 [] []) (hx : x ≤ 5) (hm : ∀ i, i < k → n_me (G i) = s → i = s) : RLs N S Lt l So Wi Kd kS kN kX sh kc k (upG G s (mkN x s x 0 [] [])) := by
  intro i hi
  by_cases e : i = s
  · subst e
    refine ⟨by rw [upG_s]; exact hi, fun a ha => by rw [upG_s] at ha; exact absurd ha List.not_mem_nil, fun z => by rw [upG_s] at z; exact absurd rfl z, fun _ => ?_⟩
    rw [upG_s]
    exact ⟨fun _ => rfl, fun c hc => absurd hc List.not_mem_nil, fun q _ => absurd q (show ¬ 6 ≤ x by omega)⟩
  · exact (h i hi).oth e (by rw [hG]; rfl) (by rw [hG]; rfl) (Or.inr ⟨by rw [hG]; rfl, by omega, fun z => e (hm i hi z)⟩) (fun _ _ _ _ => ⟨rfl, rfl, rfl⟩) (fun _ _ _ => ⟨rfl, rfl, rfl⟩) (Nat.le_refl _) (Nat.le_refl _)
theorem RLs.mea (h : RLs N S Lt l So Wi Kd kS kN kX sh kc k G) {s d : Nat} (hk : k ≤ 128) (hs : s < k) (hd : d < s) (hG : G s = mkN 12 s 0 0 [] []) (hm : ∀ i, i < k → n_me (G i) = s → i = s) : RLs N S Lt l So Wi Kd kS kN kX sh kc k (upG G s (mkN 12 d (n_sg (G d)) 0 [] [])) := by
  intro i hi
  by_cases e : i = s
  · subst e
    refine ⟨by rw [upG_s]; show d < k; omega, fun a ha => by rw [upG_s] at ha; exact absurd ha List.not_mem_nil, fun z => ?_, fun z => ?_⟩
    · rw [upG_s]
      show n_sg (G d) = n_sg (upG G i _ d)
      rw [upG_n (by omega)]
    · rw [upG_s] at z
      have z : d = i := z
      omega
  · exact (h i hi).oth e (by rw [hG]; rfl) (by rw [hG]; rfl) (Or.inr ⟨by rw [hG]; rfl, by omega, fun z => e (hm i hi z)⟩) (fun _ _ _ _ => ⟨rfl, rfl, rfl⟩) (fun _ _ _ => ⟨rfl, rfl, rfl⟩) (Nat.le_refl _) (Nat.le_refl _)
/-- a new shape for a new slot -/
theorem RLs.shp (h : RLs N S Lt l So Wi Kd kS kN kX sh kc k G) {s x : Nat} (hk : k ≤ 128) (hs : s < k) (h6 : 6 ≤ sh) (hG : G s = mkN 12 s 0 0 [] []) (hx6 : 6 ≤ x) (hx : x ≤ 11) (hm : ∀ i, i < k → n_me (G i) = s → i = s) : RLs N S Lt l (upd So sh (nI (srt x))) (upd Wi sh 0) (upd Kd sh (-1)) kS kN kX (sh + 1) kc k (upG G s (mkN x s sh 0 [] [])) := by
  intro i hi
  by_cases e : i = s
  · subst e
    refine ⟨by rw [upG_s]; exact hi, fun a ha => by rw [upG_s] at ha; exact absurd ha List.not_mem_nil, fun z => by rw [upG_s] at z; exact absurd rfl z, fun _ => ?_⟩
    rw [upG_s]
    refine ⟨fun q => absurd q (show ¬ x ≤ 5 by omega), fun c hc => absurd hc List.not_mem_nil, fun _ _ => ⟨h6, show sh < sh + 1 by omega, pk_us, ?_, Nat.le_refl _, fun j hj => absurd hj (Nat.not_lt_zero _), fun _ => pk_us, fun _ => ⟨rfl, fun j hj => absurd hj (Nat.not_lt_zero _)⟩⟩⟩
    show ICH kX (upd Kd sh (-1) sh) 0 _ kc
    rw [pk_us]
    exact ICH.nil
  · refine (h i hi).oth e (by rw [hG]; rfl) (by rw [hG]; rfl) (Or.inr ⟨by rw [hG]; rfl, by omega, fun z => e (hm i hi z)⟩) (fun _ _ _ q => ?_) (fun _ _ _ => ⟨rfl, rfl, rfl⟩) (by omega) (Nat.le_refl _)
    rw [pk_un (by omega), pk_un (by omega), pk_un (by omega)]
    exact ⟨rfl, rfl, rfl⟩
/-- a kid behind the others -/
theorem RLs.kid (h : RLs N S Lt l So Wi Kd kS kN kX sh kc k G) (hu : SGI G k) {s : Nat} {vS vN : Int32} {x : Nod} (hs : s < k) (hm : n_me (G s) = s) (h6 : 6 ≤ n_kd (G s)) (h11 : n_kd (G s) ≤ 11) (x1 : n_kd x = n_kd (G s)) (x2 : n_me x = n_me (G s)) (x3 : n_sg x = n_sg (G s)) (x4 : n_ch x = n_ch (G s)) (x5 : n_wd x = n_wd (G s)) (x6 : n_kl x = n_kl (G s) ++ [kc]) (x7 : n_pa x = n_pa (G s)) (x8 : n_fn x = n_fn (G s)) (hsy : n_kd (G s) = 9 → ∃ w, n_sy x = n_sy (G s) ++ [w] ∧ RNm N S Lt l vN w) (h9 : n_kd (G s) ≠ 9 → n_sy x = n_sy (G s)) :
    RLs N S Lt l So Wi (if (n_kl (G s)).length = 0 then upd Kd (n_sg (G s)) (nI kc) else Kd) (upd kS kc vS) (upd kN kc vN) (if (n_kl (G s)).length = 0 then upd kX kc (-1) else upd (upd kX kc (-1)) ((n_kl (G s)).getD ((n_kl (G s)).length - 1) 0) (nI kc)) sh (kc + 1) k (upG G s x) := by
  obtain ⟨s0, s1, s2, s3⟩ := h s hs
  obtain ⟨t1, t2, t3⟩ := s3 hm
  obtain ⟨c1, c2, c3, c4, c5, c6, c7, c8⟩ := t3 h6 h11
  have hlast : (n_kl (G s)).length ≠ 0 → (n_kl (G s)).getD ((n_kl (G s)).length - 1) 0 ∈ n_kl (G s) := fun q => ch_mem (by omega)
  have hX : ∀ j, j ≠ kc → ¬ ((n_kl (G s)).length ≠ 0 ∧ j = (n_kl (G s)).getD ((n_kl (G s)).length - 1) 0) → (if (n_kl (G s)).length = 0 then upd kX kc (-1) else upd (upd kX kc (-1)) ((n_kl (G s)).getD ((n_kl (G s)).length - 1) 0) (nI kc)) j = kX j := fun j h1 h2 => by
    by_cases q : (n_kl (G s)).length = 0
    · rw [if_pos q]; exact pk_un h1
    · rw [if_neg q, pk_un (fun z => h2 ⟨q, z⟩)]; exact pk_un h1
  intro i hi
  by_cases ei : i = s
  · subst ei
    refine ⟨by rw [upG_s, x2]; exact s0, fun a ha => ?_, fun z => by rw [upG_s, x2] at z; exact absurd hm z, fun _ => ?_⟩
    · rw [upG_s, x6] at ha
      rcases List.mem_append.mp ha with q | q
      · have := s1 a q; omega
      · rw [List.mem_singleton.mp q]; omega
    · rw [upG_s, x1, x3, x4, x5, x6]
      have ep : ∀ c, n_pa (upG G i x c) = n_pa (G c) := fun c => by
        by_cases q : c = i
        · rw [q, upG_s]; exact x7
        · rw [upG_n q]
      have es : ∀ c, n_sg (upG G i x c) = n_sg (G c) := fun c => by
        by_cases q : c = i
        · rw [q, upG_s]; exact x3
        · rw [upG_n q]
      have ef : ∀ c, n_fn (upG G i x c) = n_fn (G c) := fun c => by
        by_cases q : c = i
        · rw [q, upG_s]; exact x8
        · rw [upG_n q]
      refine ⟨t1, fun c hc => by rw [ep]; exact t2 c hc, fun _ _ => ⟨c1, c2, c3, ?_, by rw [List.length_append]; omega, fun j hj => ?_, c7, fun q => ?_⟩⟩
      · rw [List.length_append, List.length_singleton, ← snc_app]
        refine ICH.push (X := kX) (h := Kd (n_sg (G i))) (hi := kc) (n := kc) c4 (Nat.le_refl _) (by omega) (fun j hj => ?_) ?_ ?_
        · by_cases q : (n_kl (G i)).length = 0
          · rw [if_pos q, if_pos q]; exact pk_un (by omega)
          · rw [if_neg q, if_neg q]
            by_cases q2 : j = (n_kl (G i)).getD ((n_kl (G i)).length - 1) 0
            · rw [q2, pk_us]; exact pk_us.symm
            · rw [pk_un q2, pk_un (by omega)]; exact (pk_un q2).symm
        · by_cases q : (n_kl (G i)).length = 0
          · rw [if_pos q, pk_us]
          · have := s1 _ (hlast q)
            rw [if_neg q, pk_un (by omega), pk_us]
        · by_cases q : (n_kl (G i)).length = 0
          · rw [if_pos q, if_pos q, pk_us]
          · rw [if_neg q, if_neg q]
      · obtain ⟨d1, d2⟩ := c6 j hj
        have hjl : j < (n_kl (G i)).length := by omega
        have := s1 _ (ch_mem hjl)
        rw [getD_l hjl, pk_un (by omega), pk_un (by omega), es, ef]
        exact ⟨d1, d2⟩
      · obtain ⟨w, w1, w2⟩ := hsy q
        obtain ⟨d1, d2⟩ := c8 q
        rw [w1, List.length_append, List.length_append, d1]
        refine ⟨rfl, fun j hj => ?_⟩
        rw [List.length_singleton] at hj
        by_cases ej : j = (n_kl (G i)).length
        · have e1 : (n_kl (G i) ++ [kc]).getD j 0 = kc := by rw [ej]; exact (congrFun snc_app.symm _).trans snc_s
          have e2 : (n_sy (G i) ++ [w]).getD j [] = w := by rw [ej, ← d1]; simp [List.getD]
          rw [e1, e2, pk_us]
          exact w2
        · have hjl : j < (n_kl (G i)).length := by omega
          have := s1 _ (ch_mem hjl)
          have e2 : (n_sy (G i) ++ [w]).getD j [] = (n_sy (G i)).getD j [] := by simp [List.getD, List.getElem?_append_left (show j < (n_sy (G i)).length by omega)]
          rw [getD_l hjl, e2, pk_un (by omega)]
          exact d2 j hjl
  · refine (h i hi).oth ei x7 x8 (Or.inl x3) (fun q1 q2 q3 q4 => ⟨rfl, rfl, ?_⟩) (fun a ha hac => ?_) (Nat.le_refl _) (by omega)
    · by_cases q : (n_kl (G s)).length = 0
      · rw [if_pos q]
        exact pk_un (fun z => ei (hu.1 i s hi hs q1 hm q2 q3 h6 h11 z))
      · rw [if_neg q]
    · refine ⟨hX a (by omega) (fun q => ei (hu.2 i s a hi hs ha (by rw [q.2]; exact hlast q.1))), pk_un (by omega), pk_un (by omega)⟩
theorem RLs.jon (h : RLs N S Lt l So Wi Kd kS kN kX sh kc k G) (hu : SGI G k) {s c : Nat} (hk : k ≤ 128) (hs : s < k) (hc : c < k) (hsc : s ≠ c) (hm : n_me (G s) = s) (h6 : 6 ≤ n_kd (G s)) (h11 : n_kd (G s) ≤ 11) (hp : n_pa (G c) = 999) (hl : (n_ch (G s)).length < (n_kl (G s)).length) (hf : n_kd (G s) = 10 → RNm N S Lt l (kN ((n_kl (G s)).getD (n_ch (G s)).length 0)) (n_fn (G c))) :
    RLs N S Lt l So Wi Kd (upd kS ((n_kl (G s)).getD (n_ch (G s)).length 0) (nI (n_sg (G c)))) kN kX sh kc k (upG (upG G s (chN (G s) c)) c (paN (G c) s)) := by
  obtain ⟨s0, s1, s2, s3⟩ := h s hs
  obtain ⟨t1, t2, t3⟩ := s3 hm
  obtain ⟨c1, c2, c3, c4, c5, c6, c7, c8⟩ := t3 h6 h11
  have e : ∀ {β : Type} (g : Nod → β), (∀ x, g (chN x c) = g x) → (∀ x, g (paN x s) = g x) → ∀ i, g (upG (upG G s (chN (G s) c)) c (paN (G c) s) i) = g (G i) := fun g h1 h2 i => by
    by_cases q : i = c
    · rw [q, upG_s]; exact h2 _
    · rw [upG_n q]
      by_cases q2 : i = s
      · rw [q2, upG_s]; exact h1 _
      · rw [upG_n q2]
  have epa : ∀ i, i ≠ c → n_pa (upG (upG G s (chN (G s) c)) c (paN (G c) s) i) = n_pa (G i) := fun i q => by
    rw [upG_n q]
    by_cases q2 : i = s
    · rw [q2, upG_s]; rfl
    · rw [upG_n q2]
  have epc : n_pa (upG (upG G s (chN (G s) c)) c (paN (G c) s) c) = s := by rw [upG_s]; rfl
  have ech : ∀ i, i ≠ s → n_ch (upG (upG G s (chN (G s) c)) c (paN (G c) s) i) = n_ch (G i) := fun i q => by
    by_cases q2 : i = c
    · rw [q2, upG_s]; rfl
    · rw [upG_n q2, upG_n q]
  have ecs : n_ch (upG (upG G s (chN (G s) c)) c (paN (G c) s) s) = n_ch (G s) ++ [c] := by rw [upG_n hsc, upG_s]; rfl
  have es := e n_sg (fun _ => rfl) (fun _ => rfl)
  have ef := e n_fn (fun _ => rfl) (fun _ => rfl)
  intro i hi
  by_cases ei : i = s
  · subst ei
    refine ⟨by rw [e n_me (fun _ => rfl) (fun _ => rfl)]; exact s0, fun a ha => by rw [e n_kl (fun _ => rfl) (fun _ => rfl)] at ha; exact s1 a ha, fun z => by rw [e n_me (fun _ => rfl) (fun _ => rfl)] at z; exact absurd hm z, fun _ => ?_⟩
    rw [e n_kd (fun _ => rfl) (fun _ => rfl), e n_wd (fun _ => rfl) (fun _ => rfl), e n_sy (fun _ => rfl) (fun _ => rfl), e n_kl (fun _ => rfl) (fun _ => rfl), es, ecs]
    refine ⟨t1, fun c' hc' => ?_, fun _ _ => ⟨c1, c2, c3, c4, by rw [List.length_append, List.length_singleton]; omega, fun j hj => ?_, c7, c8⟩⟩
    · rcases List.mem_append.mp hc' with q | q
      · obtain ⟨v1, v2⟩ := t2 c' q
        rw [epa c' (fun z => by rw [z, hp] at v2; omega)]
        exact ⟨v1, v2⟩
      · have q := List.mem_singleton.mp q
        subst q
        exact ⟨hc, epc⟩
    · rw [List.length_append, List.length_singleton] at hj
      by_cases ej : j = (n_ch (G i)).length
      · have e1 : (n_ch (G i) ++ [c]).getD j 0 = c := by rw [ej]; exact (congrFun snc_app.symm _).trans snc_s
        rw [e1, es, ef, ej, pk_us]
        exact ⟨rfl, hf⟩
      · have hj2 : j < (n_ch (G i)).length := by omega
        obtain ⟨d1, d2⟩ := c6 j hj2
        have hne : (n_kl (G i)).getD j 0 ≠ (n_kl (G i)).getD (n_ch (G i)).length 0 := by
          have := c4.2.1 j (n_ch (G i)).length hj2 hl
          simp only at this
          omega
        rw [getD_l hj2, es, ef, pk_un hne]
        exact ⟨d1, d2⟩
  · refine (h i hi).cg (e _ (fun _ => rfl) (fun _ => rfl) i) (e _ (fun _ => rfl) (fun _ => rfl) i) (es i) (ech i ei) (e _ (fun _ => rfl) (fun _ => rfl) i) (e _ (fun _ => rfl) (fun _ => rfl) i) (e _ (fun _ => rfl) (fun _ => rfl) i) (fun _ => es _) (fun _ _ _ _ => ⟨rfl, rfl, rfl⟩) (fun a ha _ => ⟨rfl, pk_un (fun z => ?_), rfl⟩) (fun c' hc' hp' h1 => ⟨es c', ef c', epa c' (fun q => by rw [q, hp] at hp'; omega)⟩) (Nat.le_refl _) (Nat.le_refl _) (Nat.le_refl _)
    exact ei (hu.2 i s a hi hs ha (by rw [z]; exact ch_mem hl))
theorem RLs.fld (h : RLs N S Lt l So Wi Kd kS kN kX sh kc k G) {c : Nat} {w : List Nat} (hk : k ≤ 128) (h9 : n_pa (G c) = 999) : RLs N S Lt l So Wi Kd kS kN kX sh kc k (upG G c (fnN (G c) w)) := by
  have e : ∀ {β : Type} (g : Nod → β), g (fnN (G c) w) = g (G c) → ∀ i, g (upG G c (fnN (G c) w) i) = g (G i) := fun g hg i => by
    by_cases q : i = c
    · rw [q, upG_s]; exact hg
    · rw [upG_n q]
  refine fun i hi => (h i hi).cg (e _ rfl i) (e _ rfl i) (e _ rfl i) (e _ rfl i) (e _ rfl i) (e _ rfl i) (e _ rfl i) (fun _ => e _ rfl _) (fun _ _ _ _ => ⟨rfl, rfl, rfl⟩) (fun _ _ _ => ⟨rfl, rfl, rfl⟩) (fun c' _ hp h1 => ?_) (Nat.le_refl _) (Nat.le_refl _) (Nat.le_refl _)
  have hne : c' ≠ c := fun q => by rw [q, h9] at hp; omega
  rw [upG_n hne]
  exact ⟨rfl, rfl, rfl⟩
theorem RLs.wid (h : RLs N S Lt l So Wi Kd kS kN kX sh kc k G) (hu : SGI G k) {s w : Nat} (hs : s < k) (hm : n_me (G s) = s) (h8 : n_kd (G s) = 8) (hc : n_ch (G s) = []) (hl : n_kl (G s) = []) (hpa : n_pa (G s) = 999) (hfn : n_fn (G s) = []) : RLs N S Lt l So (upd Wi (n_sg (G s)) (nI w)) Kd kS kN kX sh kc k (upG G s (mkN 8 s (n_sg (G s)) w [] [])) := by
  obtain ⟨s0, s1, s2, s3⟩ := h s hs
  obtain ⟨t1, t2, t3⟩ := s3 hm
  obtain ⟨c1, c2, c3, c4, c5, c6, c7, c8⟩ := t3 (by omega) (by omega)
  intro i hi
  by_cases e : i = s
  · subst e
    refine ⟨by rw [upG_s]; exact hi, fun a ha => by rw [upG_s] at ha; exact absurd ha List.not_mem_nil, fun z => by rw [upG_s] at z; exact absurd rfl z, fun _ => ?_⟩
    rw [upG_s]
    rw [h8] at c3
    rw [hl] at c4
    exact ⟨fun q => absurd q (show ¬ 8 ≤ 5 by decide), fun c hc => absurd hc List.not_mem_nil, fun _ _ => ⟨c1, c2, c3, c4, Nat.le_refl _, fun j hj => absurd hj (Nat.not_lt_zero _), fun _ => pk_us, fun q => absurd q (show ¬ 8 = 9 by decide)⟩⟩
  · refine (h i hi).oth e hpa.symm hfn.symm (Or.inl rfl) (fun q1 q2 q3 q4 => ⟨rfl, ?_, rfl⟩) (fun _ _ _ => ⟨rfl, rfl, rfl⟩) (Nat.le_refl _) (Nat.le_refl _)
    exact pk_un (fun z => e (hu.1 i s hi hs q1 hm q2 q3 (by omega) (by omega) z))
end LORS
