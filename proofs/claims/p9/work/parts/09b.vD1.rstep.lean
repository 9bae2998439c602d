-- the reference's single steps
theorem trN {U V W' U' : Type} {k : V → U → Option (Except U' W')} {g : U → U'} : mr_try (none : Option (Except U (V × U))) k g = none := rfl
theorem trE {U V W' U' : Type} {k : V → U → Option (Except U' W')} {g : U → U'} {u : U} : mr_try (some (.error u) : Option (Except U (V × U))) k g = some (.error (g u)) := rfl
theorem trO {U V W' U' : Type} {k : V → U → Option (Except U' W')} {g : U → U'} {v : V} {u : U} : mr_try (some (.ok (v, u)) : Option (Except U (V × U))) k g = k v u := rfl
theorem nd0 {f p c w : Int32} : m_X9_need f p 0 c w = some (.error (c, w)) := rfl
theorem nd1 {f p c w : Int32} : m_X9_need f p 1 c w = some (.ok ((), (f, p))) := rfl
theorem SGI.cg {G G' : Nat → Nod} {k : Nat} (h : SGI G k) (hg : ∀ i, i < k → n_kd (G' i) = n_kd (G i) ∧ n_me (G' i) = n_me (G i) ∧ n_sg (G' i) = n_sg (G i) ∧ n_kl (G' i) = n_kl (G i)) : SGI G' k := by
  refine ⟨fun i j hi hj => ?_, fun i j a hi hj => ?_⟩
  · obtain ⟨a1, a2, a3, _⟩ := hg i hi
    obtain ⟨b1, b2, b3, _⟩ := hg j hj
    rw [a1, a2, a3, b1, b2, b3]
    exact h.1 i j hi hj
  · rw [(hg i hi).2.2.2, (hg j hj).2.2.2]
    exact h.2 i j a hi hj
/-- one node anew -/
theorem SGI.one {G : Nat → Nod} {k s : Nat} {x : Nod} (h : SGI G k) (hk : ∀ i a, i < k → i ≠ s → a ∈ n_kl x → a ∉ n_kl (G i)) (hs : 6 ≤ n_kd x → n_kd x ≤ 11 → ∀ i, i < k → i ≠ s → n_me (G i) = i → 6 ≤ n_kd (G i) → n_kd (G i) ≤ 11 → n_sg (G i) ≠ n_sg x) : SGI (upG G s x) k := by
  refine ⟨fun i j hi hj => ?_, fun i j a hi hj => ?_⟩
  · by_cases ei : i = s
    · by_cases ej : j = s
      · intros; omega
      · rw [ei, upG_s, upG_n ej]
        intro _ q2 q3 q4 q5 q6 q7
        exact absurd q7.symm (hs q3 q4 j hj ej q2 q5 q6)
    · by_cases ej : j = s
      · rw [ej, upG_s, upG_n ei]
        intro q1 _ q3 q4 q5 q6 q7
        exact absurd q7 (hs q5 q6 i hi ei q1 q3 q4)
      · rw [upG_n ei, upG_n ej]
        exact h.1 i j hi hj
  · by_cases ei : i = s
    · by_cases ej : j = s
      · intros; omega
      · rw [ei, upG_s, upG_n ej]
        intro q1 q2
        exact absurd q2 (hk j a hj ej q1)
    · by_cases ej : j = s
      · rw [ej, upG_s, upG_n ei]
        intro q1 q2
        exact absurd q1 (hk i a hi ei q2)
      · rw [upG_n ei, upG_n ej]
        exact h.2 i j a hi hj
theorem SGI.opn {G : Nat → Nod} {k : Nat} (h : SGI G k) : SGI (upG G k (mkN 12 k 0 0 [] [])) (k + 1) := by
  refine ⟨fun i j hi hj => ?_, fun i j a hi hj => ?_⟩
  · by_cases ei : i = k
    · rw [ei, upG_s]
      intro _ _ _ q
      exact absurd q (show ¬ 12 ≤ 11 by decide)
    · by_cases ej : j = k
      · rw [ej, upG_s]
        intro _ _ _ _ _ q
        exact absurd q (show ¬ 12 ≤ 11 by decide)
      · rw [upG_n ei, upG_n ej]
        exact h.1 i j (by omega) (by omega)
  · by_cases ei : i = k
    · rw [ei, upG_s]
      intro q
      exact absurd q List.not_mem_nil
    · by_cases ej : j = k
      · rw [ej, upG_s]
        intro _ q
        exact absurd q List.not_mem_nil
      · rw [upG_n ei, upG_n ej]
        exact h.2 i j a (by omega) (by omega)
section RSTEP
variable {N : Nat → Int64} {S Lt : Nat → Int32} {l : Nat}
theorem rnm_one (hl : l ≤ 4200) {x : Int32} {s t : List Nat} (h1 : RNm N S Lt l x s) (h2 : RNm N S Lt l x t) : s = t := by
  obtain ⟨m, m1, m2, m3, m4⟩ := h1
  obtain ⟨n, n1, n2, n3, n4⟩ := h2
  have e2 : m = n := (nI_eq (by omega) (by omega)).mp (m1.symm.trans n1)
  subst e2
  have a := same_r m2 m2 hl hl n3 n3 n4 n4
  have b := same_r m2 m2 hl hl m3 n3 m4 n4
  rw [if_pos rfl] at a
  rw [a] at b
  by_cases e3 : s = t
  · exact e3
  · rw [if_neg e3] at b
    exact absurd (Option.some.inj b) (by decide)
def RN1 (N : Nat → Int64) (S Lt : Nat → Int32) (l : Nat) (Nm : Nat → Int32) (sh : Nat) (D : List Nat → Option Nat) (G : Nat → Nod) : Prop := (∀ t, 6 ≤ t → t < sh → Nm t = -1 ∨ ∃ w i, D w = some i ∧ n_sg (G i) = t ∧ RNm N S Lt l (Nm t) w) ∧ (∀ w i, D w = some i → 6 ≤ n_sg (G i) ∧ n_sg (G i) < sh ∧ RNm N S Lt l (Nm (n_sg (G i))) w)
theorem RN1.cg {Nm : Nat → Int32} {sh : Nat} {D : List Nat → Option Nat} {G G' : Nat → Nod} (h : RN1 N S Lt l Nm sh D G) (hg : ∀ w i, D w = some i → n_sg (G' i) = n_sg (G i)) : RN1 N S Lt l Nm sh D G' := by
  refine ⟨fun t t1 t2 => (h.1 t t1 t2).imp id ?_, fun w i q => by rw [hg w i q]; exact h.2 w i q⟩
  rintro ⟨w, i, q1, q2, q3⟩
  exact ⟨w, i, q1, by rw [hg w i q1]; exact q2, q3⟩
theorem RN1.shp {Nm : Nat → Int32} {sh : Nat} {D : List Nat → Option Nat} {G : Nat → Nod} (h : RN1 N S Lt l Nm sh D G) : RN1 N S Lt l (upd Nm sh (-1)) (sh + 1) D G := by
  refine ⟨fun t t1 t2 => ?_, fun w i q => ?_⟩
  · by_cases e : t = sh
    · exact Or.inl (by rw [e, pk_us])
    · rw [pk_un e]
      exact h.1 t t1 (by omega)
  · obtain ⟨a, b, c⟩ := h.2 w i q
    exact ⟨a, by omega, by rw [pk_un (by omega)]; exact c⟩
/-- a new name at the newest shape -/
theorem RN1.nam {Nm : Nat → Int32} {sh s : Nat} {D : List Nat → Option Nat} {G G' : Nat → Nod} {v : Int32} {w : List Nat} (h : RN1 N S Lt l Nm sh D G) (h6 : 6 ≤ sh) (hD : D w = none) (hg : ∀ u i, D u = some i → G' i = G i) (hs : n_sg (G' s) = sh) (hv : RNm N S Lt l v w) : RN1 N S Lt l (upd (upd Nm sh (-1)) sh v) (sh + 1) (fun u => if u = w then some s else D u) G' := by
  refine ⟨fun t t1 t2 => ?_, fun u i q => ?_⟩
  · by_cases e : t = sh
    · exact Or.inr ⟨w, s, if_pos rfl, by rw [hs, e], by rw [e, pk_us]; exact hv⟩
    · rw [pk_un e, pk_un e]
      refine (h.1 t t1 (by omega)).imp id ?_
      rintro ⟨u, i, q1, q2, q3⟩
      have hne : u ≠ w := fun z => by rw [z, hD] at q1; cases q1
      exact ⟨u, i, by show (if u = w then some s else D u) = some i; rw [if_neg hne]; exact q1, by rw [hg u i q1]; exact q2, q3⟩
  · have q : (if u = w then some s else D u) = some i := q
    by_cases e : u = w
    · rw [if_pos e] at q
      have e1 := Option.some.inj q
      rw [← e1, hs, e, pk_us]
      exact ⟨h6, by omega, hv⟩
    · rw [if_neg e] at q
      obtain ⟨a, b, c⟩ := h.2 u i q
      rw [hg u i q, pk_un (by omega), pk_un (by omega)]
      exact ⟨a, by omega, c⟩
theorem dfn_r (hl : l ≤ 4200) {Nm : Nat → Int32} {sh n : Nat} {D : List Nat → Option Nat} {G : Nat → Nod} {u : List Nat} (h : RN1 N S Lt l Nm sh D G) (h6 : 6 ≤ sh) (hsh : sh ≤ 140) (hn : n < 4200) (hu : RSt N S Lt l n u) (hb : ∀ v, v ∈ u → v ≤ 255) : m_X9_defined N S Lt (nI sh) Nm (nI n) = some (match D u with | none => -1 | some d => nI (n_sg (G d))) := by
  have hu' : RNm N S Lt l (nI n) u := ⟨n, rfl, hn, hu, hb⟩
  rcases dfr_eq hl h6 hsh (fun t t1 t2 => (h.1 t t1 t2).imp id (fun ⟨w, i, _, _, q⟩ => ⟨w, q⟩)) hu' hn with ⟨t, t1, t2, t3, t4⟩ | ⟨t1, t2⟩
  · rw [t4]
    rcases h.1 t t1 t2 with e | ⟨w, i, q1, q2, q3⟩
    · obtain ⟨m, m1, m2, _⟩ := t3
      rw [e] at m1
      exact absurd m1.symm (nI_m1 (by omega))
    · have := rnm_one hl q3 t3
      subst this
      rw [q1, ← q2]
  · rw [t2]
    cases hD : D u with
    | none => rfl
    | some d =>
      obtain ⟨a, b, c⟩ := h.2 u d hD
      exact absurd c (t1 _ a b)
theorem shp_eq {sh : Nat} {So Nm Wi Kd Ma Fa : Nat → Int32} {x : Int32} (h : sh < 140) : m_X9_shape (nI sh) So Nm Wi Kd Ma Fa x = some (nI sh, (nI (sh + 1), upd So sh x, upd Nm sh (-1), upd Wi sh 0, upd Kd sh (-1), upd Ma sh 0, upd Fa sh (-1))) := by
  unfold m_X9_shape
  simp only [bd_go h (by decide), bd_gc h (by decide), nI_clamp (show sh < 2 ^ 31 by omega), nI_1]
  rw [show nI (sh + 1) - 1 = nI sh by rw [show (1 : Int32) = nI 1 from rfl, pk_sub (by omega)]; rfl]
theorem adk_eq {kc x : Nat} {Kd Ma kS kN kD kX : Nat → Int32} {kl : List Nat} (h : kc < 2200) (hx : x < 140) (hl : ∀ a, a ∈ kl → a < 2200) : ∃ Ma', m_X9_addKid Kd Ma (nI kc) kS kN kD kX (nI x) (if kl.length = 0 then -1 else nI (kl.getD (kl.length - 1) 0)) = some (nI kc, ((if kl.length = 0 then upd Kd x (nI kc) else Kd), Ma', nI (kc + 1), upd kS kc (-1), upd kN kc (-1), upd kD kc (-1), (if kl.length = 0 then upd kX kc (-1) else upd (upd kX kc (-1)) (kl.getD (kl.length - 1) 0) (nI kc)))) := by
  unfold m_X9_addKid
  simp only [bd_go h (by decide), bd_gc h (by decide), nI_clamp (show kc < 2 ^ 31 by omega), nI_1, bd_go hx (by decide), bd_gc hx (by decide), nI_clamp (show x < 2 ^ 31 by omega)]
  by_cases q : kl.length = 0
  · simp only [if_pos q, if_neg (show ¬ (0 : Int32) ≤ -1 by decide)]
    exact ⟨_, rfl⟩
  · have hlt := hl _ (ch_mem (l := kl) (j := kl.length - 1) (by omega))
    simp only [if_neg q, if_pos (nI_pos' (show kl.getD (kl.length - 1) 0 < 2 ^ 31 by omega)), bd_go hlt (by decide), bd_gc hlt (by decide), nI_clamp (show kl.getD (kl.length - 1) 0 < 2 ^ 31 by omega)]
    exact ⟨_, rfl⟩
theorem adk_no {kc : Nat} {Kd Ma kS kN kD kX : Nat → Int32} {a b : Int32} (h : ¬ kc < 2200) (hk : kc < 2 ^ 31) : m_X9_addKid Kd Ma (nI kc) kS kN kD kX a b = none := by
  unfold m_X9_addKid
  rw [if_pos (Or.inr (by rw [nI_clamp hk]; omega))]
theorem alk_r {So Wi Kd kS kN kX : Nat → Int32} {sh kc k : Nat} {G : Nat → Nod} (h : RLs N S Lt l So Wi Kd kS kN kX sh kc k G) (hu : SGI G k) (h6 : ∀ t, t < 6 → So t = nI t) (hsh : sh ≤ 140) (h66 : 6 ≤ sh) {b c : Nat} (hb : b < k) (hc : c < k) (kb : KD1 G b) (kc' : KD1 G c) (kb10 : n_kd (G (n_me (G b))) ≤ 10) : m_X9_alike So (nI (n_sg (G b))) (nI (n_sg (G c))) = some (if alk G b c = true then 1 else 0) := by
  have nrm : ∀ x, x < k → KD1 G x → n_sg (G x) = n_sg (G (n_me (G x))) ∧ n_me (G x) < k ∧ n_sg (G x) < sh ∧ So (n_sg (G x)) = nI (srt (n_kd (G (n_me (G x))))) ∧ (n_kd (G (n_me (G x))) ≤ 5 → n_sg (G x) = n_kd (G (n_me (G x)))) ∧ (6 ≤ n_kd (G (n_me (G x))) → 6 ≤ n_sg (G x)) := by
    intro x hx kx
    have e1 : n_sg (G x) = n_sg (G (n_me (G x))) := by
      by_cases q : n_me (G x) = x
      · rw [q]
      · exact (h x hx).2.2.1 q
    have hm := (h x hx).1
    obtain ⟨t1, t2, t3⟩ := (h _ hm).2.2.2 kx.2
    by_cases q : n_kd (G (n_me (G x))) ≤ 5
    · have e2 := t1 q
      have hs : srt (n_kd (G (n_me (G x)))) = n_kd (G (n_me (G x))) := by unfold srt; rw [if_neg (by omega), if_neg (by omega), if_neg (by omega), if_neg (by omega)]
      rw [e1, e2]
      refine ⟨rfl, hm, by omega, ?_, fun _ => rfl, fun z => by omega⟩
      rw [hs, h6 _ (by omega)]
    · obtain ⟨c1, c2, c3, _⟩ := t3 (by omega) kx.1
      rw [e1]
      exact ⟨rfl, hm, c2, c3, fun z => absurd z q, fun _ => c1⟩
  obtain ⟨b1, b2, b3, b4, b5, b6⟩ := nrm b hb kb
  obtain ⟨c1, c2, c3, c4, c5, c6⟩ := nrm c hc kc'
  have kb1 := kb.1
  have kc1 := kc'.1
  have hsb := srt_6 _ kb1
  have hsc := srt_6 _ kc1
  unfold m_X9_alike
  simp only [bd_go (show n_sg (G b) < 140 by omega) (by decide), bd_gc (show n_sg (G b) < 140 by omega) (by decide), bd_go (show n_sg (G c) < 140 by omega) (by decide), bd_gc (show n_sg (G c) < 140 by omega) (by decide), nI_clamp (show n_sg (G b) < 2 ^ 31 by omega), nI_clamp (show n_sg (G c) < 2 ^ 31 by omega), b4, c4]
  by_cases e : n_sg (G b) = n_sg (G c)
  · rw [if_pos (by rw [e]), if_pos (alk_i.mpr ?_)]
    by_cases q : n_kd (G (n_me (G b))) ≤ 5
    · have := b5 q
      have q2 : n_kd (G (n_me (G c))) ≤ 5 := by
        by_cases z : n_kd (G (n_me (G c))) ≤ 5
        · exact z
        · have := c6 (by omega); omega
      have := c5 q2
      exact ⟨by omega, Or.inl (by omega)⟩
    · have q2 : ¬ n_kd (G (n_me (G c))) ≤ 5 := fun z => by
        have := c5 z
        have := b6 (by omega)
        omega
      have e2 := hu.1 (n_me (G b)) (n_me (G c)) b2 c2 kb.2 kc'.2 (by omega) kb1 (by omega) kc1 (by rw [← b1, ← c1]; exact e)
      rw [e2]
      exact ⟨rfl, Or.inr rfl⟩
  · rw [if_neg (fun z => e ((nI_eq (by omega) (by omega)).mp z))]
    by_cases e2 : srt (n_kd (G (n_me (G b)))) = srt (n_kd (G (n_me (G c))))
    · have e3 := srt_i _ kb1 _ kc1 e2
      rw [if_pos (by rw [e2])]
      by_cases q6 : n_kd (G (n_me (G b))) = 6
      · rw [if_pos (show nI (srt (n_kd (G (n_me (G b))))) = 6 by rw [hsb.1.mpr q6]; rfl), if_pos (alk_i.mpr ⟨e3, Or.inl (by omega)⟩)]
      · rw [if_neg (show ¬ nI (srt (n_kd (G (n_me (G b))))) = 6 from fun z => q6 (hsb.1.mp ((nI_eq (b := 6) (by omega) (by decide)).mp z)))]
        by_cases q7 : n_kd (G (n_me (G b))) = 7
        · rw [if_pos (show nI (srt (n_kd (G (n_me (G b))))) = 7 by rw [hsb.2.1.mpr q7]; rfl), if_pos (alk_i.mpr ⟨e3, Or.inl (by omega)⟩)]
        · rw [if_neg (show ¬ nI (srt (n_kd (G (n_me (G b))))) = 7 from fun z => q7 (hsb.2.1.mp ((nI_eq (b := 7) (by omega) (by decide)).mp z))), if_neg (fun z => ?_)]
          obtain ⟨_, z2⟩ := alk_i.mp z
          rcases z2 with z2 | z2
          · by_cases q5 : n_kd (G (n_me (G b))) ≤ 5
            · have := b5 q5
              have := c5 (by omega)
              omega
            · omega
          · exact e (by rw [b1, c1, z2])
    · rw [if_neg (fun z => e2 ((nI_eq (by omega) (by omega)).mp z)), if_neg (fun z => e2 (by rw [(alk_i.mp z).1]))]
end RSTEP
