-- PURE ROWS ABOUT THE MIRRORS (no machine): what a run of the reference's Text answers hangs on what stands below its counters alone, and it is never none
/-- a row: known below n, whatever lay there from n on -/
def ov {α : Type} (n : Nat) (f g : Nat → α) : Nat → α := fun i => if i < n then f i else g i
theorem ov_lt {α : Type} {n i : Nat} {f g : Nat → α} (h : i < n) : ov n f g i = f i := if_pos h
theorem ov_up {n k : Nat} {f g : Nat → Int32} {v : Int32} (h : k < n) : upd (ov n f g) k v = ov n (upd f k v) g := by
  funext i
  by_cases hk : i = k
  · subst hk; rw [pk_us, ov_lt h, pk_us]
  · rw [pk_un hk]
    show (if i < n then f i else g i) = (if i < n then upd f k v i else g i)
    rw [pk_un hk]
theorem ov_push {n : Nat} {f g : Nat → Int32} {v : Int32} : upd (ov n f g) n v = ov (n + 1) (upd f n v) g := by
  funext i
  by_cases hk : i = n
  · subst hk; rw [pk_us, ov_lt (Nat.lt_succ_self _), pk_us]
  · rw [pk_un hk]
    show (if i < n then f i else g i) = (if i < n + 1 then upd f n v i else g i)
    rw [pk_un hk]
    by_cases h : i < n
    · rw [if_pos h, if_pos (Nat.lt_succ_of_lt h)]
    · rw [if_neg h, if_neg (by omega)]
theorem ov_upL {n k : Nat} {f g : Nat → Int64} {v : Int64} (h : k < n) : vp_updL (ov n f g) k v = ov n (vp_updL f k v) g := by
  funext i
  by_cases hk : i = k
  · subst hk; rw [pk_uLs, ov_lt h, pk_uLs]
  · rw [pk_uLn hk]
    show (if i < n then f i else g i) = (if i < n then vp_updL f k v i else g i)
    rw [pk_uLn hk]
theorem ov_pushL {n : Nat} {f g : Nat → Int64} {v : Int64} : vp_updL (ov n f g) n v = ov (n + 1) (vp_updL f n v) g := by
  funext i
  by_cases hk : i = n
  · subst hk; rw [pk_uLs, ov_lt (Nat.lt_succ_self _), pk_uLs]
  · rw [pk_uLn hk]
    show (if i < n then f i else g i) = (if i < n + 1 then vp_updL f n v i else g i)
    rw [pk_uLn hk]
    by_cases h : i < n
    · rw [if_pos h, if_pos (Nat.lt_succ_of_lt h)]
    · rw [if_neg h, if_neg (by omega)]
/-- a row: known from 6 on, below n -/
def ow {α : Type} (n : Nat) (f g : Nat → α) : Nat → α := fun i => if 6 ≤ i ∧ i < n then f i else g i
theorem ow_lt {α : Type} {n i : Nat} {f g : Nat → α} (h6 : 6 ≤ i) (h : i < n) : ow n f g i = f i := if_pos ⟨h6, h⟩
theorem ow_up {n k : Nat} {f g : Nat → Int32} {v : Int32} (h6 : 6 ≤ k) (h : k < n) : upd (ow n f g) k v = ow n (upd f k v) g := by
  funext i
  by_cases hk : i = k
  · subst hk; rw [pk_us, ow_lt h6 h, pk_us]
  · rw [pk_un hk]
    show (if 6 ≤ i ∧ i < n then f i else g i) = (if 6 ≤ i ∧ i < n then upd f k v i else g i)
    rw [pk_un hk]
theorem ow_push {n : Nat} {f g : Nat → Int32} {v : Int32} (h6 : 6 ≤ n) : upd (ow n f g) n v = ow (n + 1) (upd f n v) g := by
  funext i
  by_cases hk : i = n
  · subst hk; rw [pk_us, ow_lt h6 (Nat.lt_succ_self _), pk_us]
  · rw [pk_un hk]
    show (if 6 ≤ i ∧ i < n then f i else g i) = (if 6 ≤ i ∧ i < n + 1 then upd f n v i else g i)
    rw [pk_un hk]
    by_cases h : 6 ≤ i ∧ i < n
    · rw [if_pos h, if_pos ⟨h.1, by omega⟩]
    · rw [if_neg h, if_neg (by omega)]
def ag {α : Type} (n : Nat) (f g : Nat → α) : Prop := ∀ i, i < n → f i = g i
theorem ag.rfl' {α : Type} {n : Nat} {f : Nat → α} : ag n f f := fun _ _ => rfl
theorem ag.trans {α : Type} {n m : Nat} {f g h : Nat → α} (a : ag n f g) (b : ag m g h) (hm : n ≤ m) : ag n f h := fun i hi => (a i hi).trans (b i (by omega))
theorem ag.upd {n k : Nat} {f g : Nat → Int32} {v : Int32} (a : ag n f g) (h : n ≤ k) : ag n f (upd g k v) := fun i hi => by
  rw [pk_un (by omega)]; exact a i hi
theorem ag.updL {n k : Nat} {f g : Nat → Int64} {v : Int64} (a : ag n f g) (h : n ≤ k) : ag n f (vp_updL g k v) := fun i hi => by
  rw [pk_uLn (by omega)]; exact a i hi
/-- the tape's stale rows, all in one: .1 j are rows of ints, .2 the row of longs -/
abbrev Gs : Type := (Nat → Nat → Int32) × (Nat → Int64)
/-- whatever lay in the stale rows: it returns, with one value and cells that P tells, or it throws, with one fault and place -/
def RES {U V : Type} (x : Gs → Option (Except U (V × U))) (fp : U → Int32 × Int32) (P : V → (Gs → U) → Prop) : Prop :=
  (∃ v u, P v u ∧ ∀ g, x g = some (.ok (v, u g))) ∨ (∃ c : Int32 × Int32, c.1 ≠ 0 ∧ ∀ g, ∃ u, x g = some (.error u) ∧ fp u = c)
section RESs
variable {U V U' V' : Type} {fp : U → Int32 × Int32} {fp' : U' → Int32 × Int32} {P Q : V → (Gs → U) → Prop} {P' : V' → (Gs → U') → Prop}
theorem RES.ok {v : V} {u : Gs → U} (h : P v u) : RES (fun g => some (.ok (v, u g))) fp P := Or.inl ⟨v, u, h, fun _ => rfl⟩
theorem RES.er {u : Gs → U} {c w : Int32} (h : ∀ g, fp (u g) = (c, w)) (hc : c ≠ 0 := by decide) : RES (fun g => some (.error (u g))) fp P := Or.inr ⟨(c, w), hc, fun g => ⟨u g, rfl, h g⟩⟩
theorem RES.try {x : Gs → Option (Except U (V × U))} {k : Gs → V → U → Option (Except U' (V' × U'))} {e : Gs → U → U'} (h : RES x fp P) (hk : ∀ v u, P v u → RES (fun g => k g v (u g)) fp' P') (he : ∀ g u, fp' (e g u) = fp u) : RES (fun g => mr_try (x g) (k g) (e g)) fp' P' := by
  rcases h with ⟨v, u, h1, h2⟩ | ⟨c, hc0, h⟩
  · rcases hk v u h1 with ⟨v', u', h3, h4⟩ | ⟨c, hc0, h3⟩
    · exact Or.inl ⟨v', u', h3, fun g => by
      show mr_try (x g) (k g) (e g) = _
      rw [h2 g]; exact h4 g⟩
    · refine Or.inr ⟨c, hc0, fun g => ?_⟩
      show ∃ u, mr_try (x g) (k g) (e g) = _ ∧ _
      rw [h2 g]; exact h3 g
  · refine Or.inr ⟨c, hc0, fun g => ?_⟩
    obtain ⟨u, h1, h2⟩ := h g
    exact ⟨e g u, by
      show mr_try (x g) (k g) (e g) = _
      rw [h1]; rfl, by rw [he, h2]⟩
theorem RES.mono {x : Gs → Option (Except U (V × U))} (h : RES x fp P) (hk : ∀ v u, P v u → Q v u) : RES x fp Q := by
  rcases h with ⟨v, u, h1, h2⟩ | h
  · exact Or.inl ⟨v, u, hk v u h1, h2⟩
  · exact Or.inr h
theorem RES.eq {x y : Gs → Option (Except U (V × U))} (h : RES x fp P) (e : ∀ g, y g = x g) : RES y fp P := by
  have : y = x := funext e
  rw [this]; exact h
theorem RES.ite {c : Prop} {i : Decidable c} {x y : Gs → Option (Except U (V × U))} (ht : c → RES x fp P) (hf : ¬ c → RES y fp P) : RES (fun g => @ite _ c i (x g) (y g)) fp P := by
  by_cases h : c
  · simp only [if_pos h]; exact ht h
  · simp only [if_neg h]; exact hf h
end RESs
/-- an index in bounds -/
theorem bd_go {α : Type} {k n : Nat} {a : Option α} (hk : k < n) (hn : n < 2 ^ 31) : (if nI k < (0 : Int32) ∨ n ≤ (nI k).toNatClampNeg then none else a) = a := if_neg (nI_in hk hn)
theorem bd_gc {α : Type} {k n : Nat} {a : Option α} (hk : k < n) (hn : n < 2 ^ 31) : (if nI k < (0 : Int32) ∨ n ≤ k then none else a) = a := if_neg (fun h => h.elim (nI_pos (by omega)) (by omega))
theorem try_e {U V W' U' : Type} {u : U} {k : V → U → Option (Except U' W')} {g : U → U'} : mr_try (some (.error u)) k g = some (.error (g u)) := rfl
theorem try_o {U V W' U' : Type} {v : V} {u : U} {k : V → U → Option (Except U' W')} {g : U → U'} : mr_try (some (.ok (v, u))) k g = k v u := rfl
theorem need_0 {f p c w : Int32} : m_X9_need f p 0 c w = some (.error (c, w)) := rfl
theorem need_1 {f p c w : Int32} : m_X9_need f p 1 c w = some (.ok ((), (f, p))) := rfl
-- the leaves
def rk (B : Nat → Int32) (L a : Nat) : Int32 := if L ≤ a then -1 else B a
theorem rk_end {B : Nat → Int32} {L a : Nat} (h : L ≤ a) : rk B L a = -1 := if_pos h
theorem rk_lt {B : Nat → Int32} {L a : Nat} {c : Int32} (h : rk B L a = c) (hc : ¬ c = -1) : a < L := by
  apply Nat.lt_of_not_le
  intro h1
  rw [rk_end h1] at h
  exact hc h.symm
theorem look_eq {B g : Nat → Int32} {L a : Nat} (hL : L ≤ 4096) (ha : a ≤ L) : m_X9_look (ov L B g) (nI L) (nI a) = some (rk B L a) := by
  unfold m_X9_look rk
  by_cases h : L ≤ a
  · rw [if_pos ((nI_leI (by omega) (by omega)).mpr h), if_pos h]
  · rw [if_neg (fun q => h ((nI_leI (by omega) (by omega)).mp q)), if_neg h, bd_go (by omega) (by decide), nI_clamp (by omega), ov_lt (by omega)]
theorem blanks_step {B g : Nat → Int32} {L a n : Nat} (hL : L ≤ 4096) (ha : a ≤ L) : m_X9_blanks_0 (ov L B g) (nI L) (n + 1) (nI a) = if rk B L a = 32 ∨ rk B L a = 9 ∨ rk B L a = 10 ∨ rk B L a = 13 then m_X9_blanks_0 (ov L B g) (nI L) n (nI (a + 1)) else some (nI a) := by
  rw [m_X9_blanks_0]
  simp only [look_eq hL ha, Option.bind_some, m_X9_blanks_36, nI_1]
  by_cases h1 : rk B L a = 32
  · simp [h1]
  · by_cases h2 : rk B L a = 9
    · simp [h2]
    · by_cases h3 : rk B L a = 10
      · simp [h3]
      · by_cases h4 : rk B L a = 13
        · simp [h4]
        · simp [h1, h2, h3, h4]
theorem blanks_go {B : Nat → Int32} {L : Nat} (hL : L ≤ 4096) : ∀ (n a : Nat), a ≤ L → L - a < n → ∃ b, a ≤ b ∧ b ≤ L ∧ ∀ g, m_X9_blanks_0 (ov L B g) (nI L) n (nI a) = some (nI b) := by
  intro n
  induction n with
  | zero => intro a _ h; exact absurd h (Nat.not_lt_zero _)
  | succ n ih =>
    intro a ha hn
    by_cases hc : rk B L a = 32 ∨ rk B L a = 9 ∨ rk B L a = 10 ∨ rk B L a = 13
    · have hlt : a < L := by
        rcases hc with h | h | h | h <;> exact rk_lt h (by decide)
      obtain ⟨b, h1, h2, h3⟩ := ih (a + 1) (by omega) (by omega)
      exact ⟨b, by omega, h2, fun g => by rw [blanks_step hL ha, if_pos hc]; exact h3 g⟩
    · exact ⟨a, Nat.le_refl _, ha, fun g => by rw [blanks_step hL ha, if_neg hc]⟩
theorem blanks_ok (B : Nat → Int32) {L a : Nat} (hL : L ≤ 4096) (ha : a ≤ L) : ∃ b, a ≤ b ∧ b ≤ L ∧ ∀ g, m_X9_blanks (ov L B g) (nI L) (nI a) = some (nI b) :=
  blanks_go hL sr_fuel a ha (by unfold sr_fuel; omega)
theorem take_eq {B g : Nat → Int32} {L a : Nat} {f p x : Int32} (hL : L ≤ 4096) (ha : a ≤ L) : m_X9_take (ov L B g) (nI L) (nI a) f p x = if rk B L a = x then some (.ok ((), (nI (a + 1), f, p))) else some (.error (nI a, 1, nI a)) := by
  unfold m_X9_take
  simp only [look_eq hL ha, Option.bind_some, m_X9_take_14, need_0, need_1, try_e, try_o, nI_1]
theorem node_eq {a n : Nat} {K F S I X gK gF gS gI gX : Nat → Int32} {N gN : Nat → Int64} {k : Int32} (hn : n < 4200) : m_X9_node (nI a) (nI n) (ov n K gK) (ov n F gF) (ov n N gN) (ov n S gS) (ov n I gI) (ov n X gX) k =
    some (nI n, (nI (n + 1), ov (n + 1) (upd K n k) gK, ov (n + 1) (upd F n (nI a)) gF, ov (n + 1) (vp_updL N n 0) gN, ov (n + 1) (upd S n 0) gS, ov (n + 1) (upd I n (-1)) gI, ov (n + 1) (upd X n (-1)) gX)) := by
  unfold m_X9_node
  simp only [bd_go hn (by decide), bd_gc hn (by decide), nI_clamp (show n < 2 ^ 31 by omega), ov_push, ov_pushL, nI_1, nI_pred]
theorem hex_ok (c : Int32) : ∃ r, m_X9_hex c = some r := by
  unfold m_X9_hex m_X9_hex_19 m_X9_hex_41
  repeat' split
  all_goals exact ⟨_, rfl⟩
-- the literals
theorem len_eq : ∀ i, i < 75 → m_X20_length i = some (nI (lenS.getD i 0)) := by decide +kernel
theorem chr_eq : ∀ i, i < 75 → ∀ j, j < lenS.getD i 0 → m_X20_charAt i (nI j) = some ((bytS.getD i []).getD j 0) := by decide +kernel
theorem ixc_go (i len : Nat) (c : Int32) (hi : i < 75) (hlen : lenS.getD i 0 = len) (hl : len < 100) : ∀ (n k : Nat), k ≤ len → len - k < n → ∃ r, m_X21_indexOfChar_7 n i (nI len) c (nI k) = some r ∧ (r = -1 ∨ ∃ q, q < len ∧ r = nI q) := by
  intro n
  induction n with
  | zero => intro k _ h; exact absurd h (Nat.not_lt_zero _)
  | succ n ih =>
    intro k hk hn
    rw [m_X21_indexOfChar_7]
    by_cases h : len ≤ k
    · rw [if_pos (nI_le h (by omega))]
      exact ⟨_, rfl, Or.inl rfl⟩
    · rw [if_neg (nI_ge (by omega) (by omega)), if_neg (by unfold nS; omega), hlen, bd_go (by omega) (by omega)]
      by_cases hc : ((bytS.getD i []).getD (nI k).toNatClampNeg 0) = c
      · rw [if_pos hc]
        exact ⟨_, rfl, Or.inr ⟨k, by omega, rfl⟩⟩
      · rw [if_neg hc, nI_1]
        exact ih (k + 1) (by omega) (by omega)
theorem ix39 (c : Int32) : ∃ r, m_X20_indexOf 39 c = some r ∧ (r = -1 ∨ ∃ q, q < 8 ∧ r = nI q) := by
  have e : ∃ r, m_X21_indexOf 39 c 0 8 = some r ∧ (r = -1 ∨ ∃ q, q < 8 ∧ r = nI q) := by
    unfold m_X21_indexOf m_X21_canEncode
    have h8 : (Int32.ofNat (lenS.getD 39 0)) = 8 := by decide +kernel
    simp only [h8]
    by_cases h1 : c < 0
    · rw [if_pos h1]; exact ⟨-1, rfl, Or.inl rfl⟩
    · rw [if_neg h1]
      by_cases h2 : 255 < c
      · rw [if_pos h2]; exact ⟨-1, rfl, Or.inl rfl⟩
      · rw [if_neg h2]
        obtain ⟨r, h3, h4⟩ := ixc_go 39 8 (c.toInt8.toInt32) (by decide) (by decide +kernel) (by decide) sr_fuel 0 (by omega) (by unfold sr_fuel; omega)
        refine ⟨r, ?_, h4⟩
        have h5 : m_X21_indexOfChar 39 c 0 8 = some r := h3
        simp [h5]
        decide
  obtain ⟨r, h1, h2⟩ := e
  refine ⟨r, ?_, h2⟩
  have h3 : m_X20_length 39 = some 8 := by decide +kernel
  have h4 : m_X20_isLatin1 39 = some 1 := by decide +kernel
  unfold m_X20_indexOf m_X20_indexOf2
  simp [h3, h4, h1]
  decide
