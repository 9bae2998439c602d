-- what a run that ends tells (no bounds asked for)
def PX {U V : Type} (x : Option (Except U (V × U))) (E : U → Prop) (P : V → U → Prop) : Prop := ∀ r, x = some r → (∀ u, r = .error u → E u) ∧ (∀ v u, r = .ok (v, u) → P v u)
section PXs
variable {U V U' V' A : Type} {E E2 : U → Prop} {P P2 : V → U → Prop} {E' : U' → Prop} {P' : V' → U' → Prop}
theorem PX.ok {v : V} {u : U} (h : P v u) : PX (some (.ok (v, u))) E P := fun r hr => by
  cases hr
  exact ⟨fun _ q => (nomatch q), fun v u q => by cases q; exact h⟩
theorem PX.er {u : U} (h : E u) : PX (some (.error u)) E P := fun r hr => by
  cases hr
  exact ⟨fun _ q => by cases q; exact h, fun _ _ q => (nomatch q)⟩
theorem PX.none : PX (none : Option (Except U (V × U))) E P := fun r hr => nomatch hr
theorem PX.ite {c : Prop} {i : Decidable c} {x y : Option (Except U (V × U))} (ht : c → PX x E P) (hf : ¬ c → PX y E P) : PX (@ite _ c i x y) E P := by
  by_cases h : c
  · rw [if_pos h]; exact ht h
  · rw [if_neg h]; exact hf h
theorem PX.bind {x : Option A} {k : A → Option (Except U (V × U))} (h : ∀ a, x = some a → PX (k a) E P) : PX (x.bind k) E P := by
  cases x with
  | none => exact PX.none
  | some a => exact h a rfl
theorem PX.try {x : Option (Except U' (V' × U'))} {k : V' → U' → Option (Except U (V × U))} {e : U' → U} (h : PX x E' P') (he : ∀ u, E' u → E (e u)) (hk : ∀ v u, P' v u → PX (k v u) E P) : PX (mr_try x k e) E P := by
  intro r hr
  rcases mr_tried hr with ⟨v, u, h1, h2⟩ | ⟨u, h1, h2⟩
  · exact hk v u ((h _ h1).2 v u rfl) r h2
  · subst h2
    exact PX.er (he u ((h _ h1).1 u rfl)) _ rfl
theorem PX.mono {x : Option (Except U (V × U))} (h : PX x E P) (he : ∀ u, E u → E2 u) (hk : ∀ v u, P v u → P2 v u) : PX x E2 P2 := fun r hr => ⟨fun u q => he u ((h r hr).1 u q), fun v u q => hk v u ((h r hr).2 v u q)⟩
theorem REX.px {x : Gs → Option (Except U (V × U))} {fp : U → Int32 × Int32} {F : Int32 × Int32 → Prop} {Q : V → (Gs → U) → Prop} (h : REX x fp F Q) (g : Gs) : PX (x g) (fun u => F (fp u)) (fun v u => ∃ uu, Q v uu ∧ u = uu g) := by
  intro r hr
  rcases h with ⟨v, u, h1, h2⟩ | ⟨c, h1, h2⟩
  · rw [h2 g] at hr
    cases hr
    exact ⟨fun _ q => (nomatch q), fun v' u' q => by cases q; exact ⟨u, h1, rfl⟩⟩
  · obtain ⟨u, h3, h4⟩ := h2 g
    rw [h3] at hr
    cases hr
    exact ⟨fun u' q => by cases q; rw [h4]; exact h1, fun _ _ q => (nomatch q)⟩
end PXs
theorem ov_same {α : Type} {n : Nat} {f : Nat → α} : ov n f f = f := funext (fun i => by unfold ov; split <;> rfl)
theorem ov_up1 {n : Nat} {f : Nat → Int32} {v : Int32} : ov (n + 1) (upd f n v) f = upd f n v := by
  rw [← ov_push, ov_same]
theorem ov_up1L {n : Nat} {f : Nat → Int64} {v : Int64} : ov (n + 1) (vp_updL f n v) f = vp_updL f n v := by
  rw [← ov_pushL, ov_same]
def g7 (a b c d e f g : Nat → Int32) : Nat → Nat → Int32 := fun j => match j with
  | 0 => a
  | 1 => b
  | 2 => c
  | 3 => d
  | 4 => e
  | 5 => f
  | _ => g
section RAW
variable {B : Nat → Int32} {L : Nat}
theorem look_r (hB : BY B L) (hL : L ≤ 4096) {a : Nat} (ha : a ≤ L) : m_X9_look B (nI L) (nI a) = some (sbI (cb B L a)) := by
  have := look_eq (B := B) (g := B) hL ha
  rw [ov_same, rk_sb hB] at this
  exact this
theorem blk_r (hB : BY B L) (hL : L ≤ 4096) {a : Nat} (ha : a ≤ L) : m_X9_blanks B (nI L) (nI a) = some (nI (sbl B L a)) := by
  have := rbl_eq hB hL B ha
  rw [ov_same] at this
  exact this
theorem take_r (hB : BY B L) (hL : L ≤ 4096) {a : Nat} (ha : a ≤ L) {f p x : Int32} : m_X9_take B (nI L) (nI a) f p x = if sbI (cb B L a) = x then some (.ok ((), (nI (a + 1), f, p))) else some (.error (nI a, 1, nI a)) := by
  have := take_eq (B := B) (g := B) (f := f) (p := p) (x := x) hL ha
  rw [ov_same, rk_sb hB] at this
  exact this
theorem node_r {a n : Nat} {K F S I X : Nat → Int32} {N : Nat → Int64} {k : Int32} (hn : n < 4200) : m_X9_node (nI a) (nI n) K F N S I X k = some (nI n, (nI (n + 1), upd K n k, upd F n (nI a), vp_updL N n 0, upd S n 0, upd I n (-1), upd X n (-1))) := by
  have := node_eq (a := a) (K := K) (F := F) (N := N) (S := S) (I := I) (X := X) (gK := K) (gF := F) (gN := N) (gS := S) (gI := I) (gX := X) (k := k) hn
  simp only [ov_same, ov_up1, ov_up1L] at this
  exact this
theorem str_r (hB : BY B L) (hL : L ≤ 4096) {K F S I X Lt : Nat → Int32} {N : Nat → Int64} {fl pl : Int32} {a n l : Nat} (ha : a < L) (hn : n ≤ a) (hl : l ≤ a) :
    PX (m_X9_string B (nI L) (nI a) fl pl (nI n) K F N S I X Lt (nI l)) (fun u => EW (sstr B L (a + 1)) (fpS u))
      (fun v u => ∃ b s Lt', sstr B L (a + 1) = .inr (s, b) ∧ v = nI n ∧ u = (nI b, fl, pl, nI (n + 1), upd K n 2, upd F n (nI a), vp_updL N n (lN l), upd S n (nI s.length), upd I n (-1), upd X n (-1), Lt', nI (l + s.length)) ∧ ag l Lt Lt' ∧ ∀ j, j < s.length → Lt' (l + j) = sbI (s.getD j 0)) := by
  have h := (stx hB hL (K := K) (F := F) (S := S) (I := I) (X := X) (Lt := Lt) (N := N) (fl := fl) (pl := pl) ha hn hl).px (g7 K F S I X Lt B, N)
  simp only [g7, ov_same] at h
  refine h.mono (fun u hu => hu) ?_
  rintro v u ⟨_, ⟨b, s, Lt', q1, q2, rfl, q3, q4⟩, rfl⟩
  refine ⟨b, s, ov (l + s.length) Lt' Lt, q1, q2, ?_, fun i hi => ?_, fun j hj => ?_⟩
  · simp only [g7, ov_up1, ov_up1L]
  · rw [ov_lt (by omega)]; exact q3 i hi
  · rw [ov_lt (by omega)]; exact q4 j hj
theorem num_r (hB : BY B L) (hL : L ≤ 4096) {K F S I X : Nat → Int32} {N : Nat → Int64} {fl pl : Int32} {a n : Nat} (ha : a < L) (hn : n ≤ a) :
    PX (m_X9_number B (nI L) (nI a) fl pl (nI n) K F N S I X) (fun u => EW (snum B L a) (fpN u))
      (fun v u => ∃ b sz, snum B L a = .inr b ∧ v = nI n ∧ u = (nI b, fl, pl, nI (n + 1), upd K n 3, upd F n (nI a), vp_updL N n (snv B L a), upd S n (nI sz), upd I n (-1), upd X n (-1))) := by
  have h := (numx hB hL (K := K) (F := F) (S := S) (I := I) (X := X) (N := N) (fl := fl) (pl := pl) ha hn).px (g7 K F S I X K B, N)
  simp only [g7, ov_same] at h
  refine h.mono (fun u hu => hu) ?_
  rintro v u ⟨_, ⟨b, sz, q1, q2, rfl⟩, rfl⟩
  refine ⟨b, sz, q1, q2, ?_⟩
  simp only [g7, ov_up1, ov_up1L]
end RAW
-- the reference's rows for a value, as told
def RSt (N : Nat → Int64) (S Lt : Nat → Int32) (l n : Nat) (s : List Nat) : Prop := S n = nI s.length ∧ ∃ st, N n = lN st ∧ st + s.length ≤ l ∧ ∀ j, j < s.length → Lt (st + j) = sbI (s.getD j 0)
def RKey (B : Nat → Int32) (L : Nat) (K F : Nat → Int32) (N : Nat → Int64) (S Lt : Nat → Int32) (l c part : Nat) : Prop := K c = 2 ∧ F c = nI part ∧ ∃ s b, sstr B L (part + 1) = .inr (s, b) ∧ RSt N S Lt l c s
def RTL (P : Nat → Nat → Nat → Prop) (X : Nat → Int32) (hi : Nat) : List (Nat × Nat) → Nat → Int32 → Prop
  | [], _, h => h = -1
  | k :: t, lo, h => ∃ c e, h = nI c ∧ lo ≤ c ∧ c < e ∧ e ≤ hi ∧ P c e k.2 ∧ RTL P X hi t e (X c)
def RTO (P : Nat → Nat → Nat → Prop) (Q : Nat → Nat → Prop) (X : Nat → Int32) (hi : Nat) : List (Nat × Nat) → Nat → Int32 → Prop
  | [], _, h => h = -1
  | k :: t, lo, h => ∃ c e, h = nI c ∧ lo ≤ c ∧ c + 1 < e ∧ e ≤ hi ∧ Q c k.1 ∧ P (c + 1) e k.2 ∧ X c = nI (c + 1) ∧ RTO P Q X hi t e (X (c + 1))
def RT (B : Nat → Int32) (L : Nat) (K F : Nat → Int32) (N : Nat → Int64) (S I X Lt : Nat → Int32) (l : Nat) : Nat → Nat → Nat → Nat → Prop
  | 0, _, _, _ => False
  | d + 1, n, m, p => n < m ∧ F n = nI p ∧ ((cb B L p = 34 ∧ K n = 2 ∧ ∃ s q, sstr B L (p + 1) = .inr (s, q) ∧ RSt N S Lt l n s) ∨ (cb B L p = 91 ∧ K n = 1 ∧ ∃ ks, GK B L d p ks ∧ S n = nI ks.length ∧ RTL (RT B L K F N S I X Lt l d) X m ks (n + 1) (I n)) ∨ (cb B L p = 123 ∧ K n = 0 ∧ ∃ ks, GK B L d p ks ∧ RTO (RT B L K F N S I X Lt l d) (RKey B L K F N S Lt l) X m ks (n + 1) (I n)) ∨ ((cb B L p = 45 ∨ (48 ≤ cb B L p ∧ cb B L p ≤ 57)) ∧ K n = 3 ∧ N n = snv B L p) ∨ (cb B L p = 116 ∧ K n = 4) ∨ (cb B L p = 102 ∧ K n = 5) ∨ (cb B L p = 110 ∧ K n = 6))
theorem RTL.keep {P P' : Nat → Nat → Nat → Prop} {X X' : Nat → Int32} {hi hi' : Nat} (hh : hi ≤ hi') : ∀ (ks : List (Nat × Nat)) (lo : Nat) (h : Int32), RTL P X hi ks lo h → (∀ c e p, lo ≤ c → c < e → e ≤ hi → P c e p → P' c e p) → (∀ i, lo ≤ i → i < hi → X' i = X i) → RTL P' X' hi' ks lo h := by
  intro ks
  induction ks with
  | nil => intro lo h hc _ _; exact hc
  | cons k t ih =>
    intro lo h hc hp hx
    obtain ⟨c, e, h1, h2, h3, h4, h5, h6⟩ := hc
    refine ⟨c, e, h1, h2, h3, by omega, hp c e _ h2 h3 h4 h5, ?_⟩
    rw [hx c h2 (by omega)]
    exact ih e _ h6 (fun c' e' p' q1 q2 q3 => hp c' e' p' (by omega) q2 q3) (fun i i1 i2 => hx i (by omega) i2)
theorem RTO.keep {P P' : Nat → Nat → Nat → Prop} {Q Q' : Nat → Nat → Prop} {X X' : Nat → Int32} {hi hi' : Nat} (hh : hi ≤ hi') : ∀ (ks : List (Nat × Nat)) (lo : Nat) (h : Int32), RTO P Q X hi ks lo h → (∀ c e p, lo < c → c < e → e ≤ hi → P c e p → P' c e p) → (∀ c p, lo ≤ c → c < hi → Q c p → Q' c p) → (∀ i, lo ≤ i → i < hi → X' i = X i) → RTO P' Q' X' hi' ks lo h := by
  intro ks
  induction ks with
  | nil => intro lo h hc _ _ _; exact hc
  | cons k t ih =>
    intro lo h hc hp hq hx
    obtain ⟨c, e, h1, h2, h3, h4, h5, h6, h7, h8⟩ := hc
    refine ⟨c, e, h1, h2, h3, by omega, hq c _ h2 (by omega) h5, hp (c + 1) e _ (by omega) h3 h4 h6, ?_, ?_⟩
    · rw [hx c h2 (by omega)]; exact h7
    · rw [hx (c + 1) (by omega) (by omega)]
      exact ih e _ h8 (fun c' e' p' q1 q2 q3 => hp c' e' p' (by omega) q2 q3) (fun c' p' q1 q2 => hq c' p' (by omega) q2) (fun i i1 i2 => hx i (by omega) i2)
section RTK
variable {B : Nat → Int32} {L : Nat} {K F S I X Lt K' F' S' I' X' Lt' : Nat → Int32} {N N' : Nat → Int64} {l l' : Nat}
theorem RSt.keep {n : Nat} {s : List Nat} (h : RSt N S Lt l n s) (hN : N' n = N n) (hS : S' n = S n) (hl : l ≤ l') (hLt : ag l Lt Lt') : RSt N' S' Lt' l' n s := by
  obtain ⟨h1, st, h2, h3, h4⟩ := h
  refine ⟨by rw [hS]; exact h1, st, by rw [hN]; exact h2, by omega, fun j hj => ?_⟩
  rw [← hLt (st + j) (by omega)]
  exact h4 j hj
theorem RKey.keep {c p : Nat} (h : RKey B L K F N S Lt l c p) (hK : K' c = K c) (hF : F' c = F c) (hN : N' c = N c) (hS : S' c = S c) (hl : l ≤ l') (hLt : ag l Lt Lt') : RKey B L K' F' N' S' Lt' l' c p := by
  obtain ⟨h1, h2, s, b, h3, h4⟩ := h
  exact ⟨by rw [hK]; exact h1, by rw [hF]; exact h2, s, b, h3, h4.keep hN hS hl hLt⟩
theorem RT.keep (hl : l ≤ l') (hLt : ag l Lt Lt') : ∀ (d n m p : Nat), RT B L K F N S I X Lt l d n m p → (∀ i, n ≤ i → i < m → K' i = K i ∧ F' i = F i ∧ N' i = N i ∧ S' i = S i ∧ I' i = I i) → (∀ i, n < i → i < m → X' i = X i) → RT B L K' F' N' S' I' X' Lt' l' d n m p := by
  intro d
  induction d with
  | zero => intro n m p h _ _; exact h
  | succ d ih =>
    intro n m p h he hx
    obtain ⟨h1, h2, h3⟩ := h
    obtain ⟨e1, e2, e3, e4, e5⟩ := he n (Nat.le_refl _) h1
    refine ⟨h1, by rw [e2]; exact h2, ?_⟩
    rw [e1, e3, e4, e5]
    rcases h3 with ⟨c1, c2, s, q, c3, c4⟩ | ⟨c1, c2, ks, c3, c4, c5⟩ | ⟨c1, c2, ks, c3, c4⟩ | h3
    · exact Or.inl ⟨c1, c2, s, q, c3, c4.keep e3 e4 hl hLt⟩
    · exact Or.inr (Or.inl ⟨c1, c2, ks, c3, c4, c5.keep (Nat.le_refl _) _ _ _ (fun c e p q1 q2 q3 hp => ih c e p hp (fun i i1 i2 => he i (by omega) (by omega)) (fun i i1 i2 => hx i (by omega) (by omega))) (fun i i1 i2 => hx i (by omega) i2)⟩)
    · exact Or.inr (Or.inr (Or.inl ⟨c1, c2, ks, c3, c4.keep (Nat.le_refl _) _ _ _ (fun c e p q1 q2 q3 hp => ih c e p hp (fun i i1 i2 => he i (by omega) (by omega)) (fun i i1 i2 => hx i (by omega) (by omega))) (fun c p q1 q2 hq => by
        obtain ⟨f1, f2, f3, f4, _⟩ := he c (by omega) q2
        exact hq.keep f1 f2 f3 f4 hl hLt) (fun i i1 i2 => hx i (by omega) i2)⟩))
    · exact Or.inr (Or.inr (Or.inr h3))
end RTK
