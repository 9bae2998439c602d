-- WHAT A TEXT SAYS: groups and values, and where they lie
theorem elen_2 (B : Nat → Int32) (L q : Nat) : 2 ≤ elen B L q ∧ elen B L q ≤ 6 := by
  unfold elen
  split <;> omega
theorem sstrf_p {B : Nat → Int32} {L : Nat} : ∀ (n q : Nat) (l : List Nat) (q' : Nat), sstrf B L n q = .inr (l, q') → q + l.length < q' ∧ q' ≤ L := by
  intro n
  induction n with
  | zero => intro q l q' h; cases h
  | succ n ih =>
    intro q l q' h
    simp only [sstrf] at h
    by_cases c0 : L ≤ q
    · rw [if_pos c0] at h; cases h
    rw [if_neg c0] at h
    by_cases c1 : cb B L q = 34
    · rw [if_pos c1] at h; cases h; exact ⟨by simp, by omega⟩
    rw [if_neg c1] at h
    by_cases c2 : cb B L q < 32 ∨ 126 < cb B L q
    · rw [if_pos c2] at h; cases h
    rw [if_neg c2] at h
    by_cases c3 : cb B L q = 92
    · rw [if_pos c3] at h
      cases he : sesc B L q with
      | inl w => rw [he] at h; cases h
      | inr x =>
        rw [he] at h
        cases hr : sstrf B L n (q + elen B L q) with
        | inl w =>
          simp only [sE, hr, sC] at h
          cases h
        | inr lq =>
          obtain ⟨l2, q2⟩ := lq
          simp only [sE, hr, sC] at h
          cases h
          have := ih _ _ _ hr
          have := elen_2 B L q
          rw [List.length_cons]
          omega
    · rw [if_neg c3] at h
      cases hr : sstrf B L n (q + 1) with
      | inl w =>
        simp only [hr, sC] at h
        cases h
      | inr lq =>
        obtain ⟨l2, q2⟩ := lq
        simp only [hr, sC] at h
        cases h
        have := ih _ _ _ hr
        rw [List.length_cons]
        omega
theorem swd_p {B : Nat → Int32} {L : Nat} : ∀ (l : List Nat) (p q : Nat), (∀ c, c ∈ l → c < 256) → p ≤ L → swd B L l p = .inr q → q = p + l.length ∧ q ≤ L := by
  intro l
  induction l with
  | nil => intro p q _ hp h; cases h; exact ⟨rfl, hp⟩
  | cons c t ih =>
    intro p q hc hp h
    simp only [swd] at h
    by_cases e : cb B L p = c
    · rw [if_pos e] at h
      have h1 : p < L := cb_lt (B := B) (by have := hc c List.mem_cons_self; omega)
      have := ih _ _ (fun x hx => hc x (List.mem_cons_of_mem _ hx)) (by omega) h
      rw [List.length_cons]
      omega
    · rw [if_neg e] at h; cases h
theorem wdl_b : ∀ w, w < 3 → ∀ c, c ∈ wdl w → c < 256 := by decide +kernel
theorem sdg_p {B : Nat → Int32} {L a : Nat} (h : a ≤ L) : a ≤ sdg B L a ∧ sdg B L a ≤ L := by
  have := sdgf_le (B := B) (L := L) (L - a) a
  unfold sdg
  omega
theorem snum_p {B : Nat → Int32} {L a q : Nat} (h : snum B L a = .inr q) : a < q ∧ q ≤ L := by
  unfold snum at h
  simp only at h
  by_cases c1 : cb B L a = 45
  · simp only [if_pos c1] at h
    by_cases c2 : 48 ≤ cb B L (a + 1) ∧ cb B L (a + 1) ≤ 57
    · rw [if_pos c2] at h
      have hL : a + 1 < L := cb_lt (B := B) (by omega)
      have := sdg_p (B := B) (L := L) (a := a + 1 + 1) (by omega)
      by_cases c3 : cb B L (a + 1) = 48
      · simp only [if_pos c3] at h
        split at h
        · cases h; omega
        · cases h
      · simp only [if_neg c3] at h
        split at h
        · cases h; omega
        · cases h
    · rw [if_neg c2] at h; cases h
  · simp only [if_neg c1] at h
    by_cases c2 : 48 ≤ cb B L a ∧ cb B L a ≤ 57
    · rw [if_pos c2] at h
      have hL : a < L := cb_lt (B := B) (by omega)
      have := sdg_p (B := B) (L := L) (a := a + 1) (by omega)
      by_cases c3 : cb B L a = 48
      · simp only [if_pos c3] at h
        split at h
        · cases h; omega
        · cases h
      · simp only [if_neg c3] at h
        split at h
        · cases h; omega
        · cases h
    · rw [if_neg c2] at h; cases h
def skey (B : Nat → Int32) (L part : Nat) (seen : List (List Nat)) : Nat ⊕ (Nat × List Nat) :=
  if cb B L part = 34 then
    match sstr B L (part + 1) with
    | .inl w => .inl w
    | .inr (s, b) => if s ∈ seen then .inl part else if cb B L (sbl B L b) = 58 then .inr (sbl B L (sbl B L b + 1), s) else .inl (sbl B L b)
  else .inl part
theorem skey_p {B : Nat → Int32} {L part v : Nat} {seen : List (List Nat)} {s : List Nat} (h : skey B L part seen = .inr (v, s)) : ∃ b, cb B L part = 34 ∧ sstr B L (part + 1) = .inr (s, b) ∧ s ∉ seen ∧ cb B L (sbl B L b) = 58 ∧ v = sbl B L (sbl B L b + 1) ∧ part + 1 + s.length < b ∧ b < v ∧ v ≤ L := by
  unfold skey at h
  by_cases c1 : cb B L part = 34
  · rw [if_pos c1] at h
    cases hs : sstr B L (part + 1) with
    | inl w => rw [hs] at h; cases h
    | inr x =>
      obtain ⟨s2, b⟩ := x
      rw [hs] at h
      simp only at h
      by_cases c2 : s2 ∈ seen
      · rw [if_pos c2] at h; cases h
      · rw [if_neg c2] at h
        by_cases c3 : cb B L (sbl B L b) = 58
        · rw [if_pos c3] at h
          cases h
          have h1 := sstrf_p _ _ _ _ hs
          have h2 := sbl_le (B := B) (L := L) (a := b)
          have h3 : sbl B L b < L := cb_lt (B := B) (by omega)
          have h4 := sbl_le (B := B) (L := L) (a := sbl B L b + 1)
          have h5 := sbl_le2 (B := B) (L := L) (a := sbl B L b + 1) (by omega)
          exact ⟨b, c1, rfl, c2, c3, rfl, by omega, by omega, by omega⟩
        · rw [if_neg c3] at h; cases h
  · rw [if_neg c1] at h; cases h
def sgrp (fv : Nat → Nat ⊕ Nat) (B : Nat → Int32) (L : Nat) (obj : Bool) (cl : Nat) : Nat → Nat → List (List Nat) → Nat ⊕ (List (Nat × Nat) × Nat)
  | 0, part, _ => .inl part
  | n + 1, part, seen =>
    match (if obj = true then skey B L part seen else .inr (part, [])) with
    | .inl w => .inl w
    | .inr (v, s) =>
      match fv v with
      | .inl w => .inl w
      | .inr b => if cb B L (sbl B L b) = cl then .inr ([(part, v)], sbl B L b + 1) else if cb B L (sbl B L b) = 44 then
          (match sgrp fv B L obj cl n (sbl B L (sbl B L b + 1)) (s :: seen) with
          | .inl w => .inl w
          | .inr (l, q) => .inr ((part, v) :: l, q)) else .inl (sbl B L b)
/-- what a group's parts are, as told -/
def gpart (fv : Nat → Nat ⊕ Nat) (B : Nat → Int32) (L : Nat) (obj : Bool) (lo hi : Nat) (k : Nat × Nat) : Prop :=
  lo ≤ k.1 ∧ k.1 ≤ k.2 ∧ (∃ b, fv k.2 = .inr b ∧ k.2 < b ∧ b < hi) ∧ (obj = false → k.2 = k.1) ∧ (obj = true → ∃ s b, cb B L k.1 = 34 ∧ sstr B L (k.1 + 1) = .inr (s, b) ∧ k.1 + 1 + s.length < b ∧ b < k.2)
theorem sgrp_p {fv : Nat → Nat ⊕ Nat} {B : Nat → Int32} {L : Nat} {obj : Bool} {cl : Nat} (hcl : cl < 256) (hfv : ∀ v b, fv v = .inr b → v < b ∧ b ≤ L) : ∀ (n part : Nat) (seen : List (List Nat)) (l : List (Nat × Nat)) (q : Nat), sgrp fv B L obj cl n part seen = .inr (l, q) → part < q ∧ q ≤ L ∧ 0 < l.length ∧ part + l.length ≤ q ∧ ∀ k, k ∈ l → gpart fv B L obj part q k := by
  intro n
  induction n with
  | zero => intro part seen l q h; cases h
  | succ n ih =>
    intro part seen l q h
    simp only [sgrp] at h
    cases hk : (if obj = true then skey B L part seen else .inr (part, []) : Nat ⊕ (Nat × List Nat)) with
    | inl w => rw [hk] at h; cases h
    | inr x =>
      obtain ⟨v, s⟩ := x
      rw [hk] at h
      simp only at h
      cases hv : fv v with
      | inl w => rw [hv] at h; cases h
      | inr b =>
        rw [hv] at h
        simp only at h
        obtain ⟨h1, h2⟩ := hfv v b hv
        have hb := sbl_le (B := B) (L := L) (a := b)
        have hpv : part ≤ v ∧ (obj = false → v = part) ∧ (obj = true → ∃ s b, cb B L part = 34 ∧ sstr B L (part + 1) = .inr (s, b) ∧ part + 1 + s.length < b ∧ b < v) := by
          cases obj with
          | false =>
            cases hk
            exact ⟨Nat.le_refl _, fun _ => rfl, fun z => absurd z (by decide)⟩
          | true =>
            obtain ⟨b', k1, k2, _, _, _, k3, k4, _⟩ := skey_p hk
            exact ⟨by omega, fun z => absurd z (by decide), fun _ => ⟨s, b', k1, k2, k3, k4⟩⟩
        by_cases c1 : cb B L (sbl B L b) = cl
        · rw [if_pos c1] at h
          cases h
          have h3 : sbl B L b < L := cb_lt (B := B) (by omega)
          refine ⟨by omega, by omega, by simp, by simp; omega, fun k hk2 => ?_⟩
          rw [List.mem_singleton.mp hk2]
          exact ⟨Nat.le_refl _, hpv.1, ⟨b, hv, h1, by omega⟩, hpv.2.1, hpv.2.2⟩
        · rw [if_neg c1] at h
          by_cases c2 : cb B L (sbl B L b) = 44
          · rw [if_pos c2] at h
            have h3 : sbl B L b < L := cb_lt (B := B) (by omega)
            have h4 := sbl_le (B := B) (L := L) (a := sbl B L b + 1)
            cases hr : sgrp fv B L obj cl n (sbl B L (sbl B L b + 1)) (s :: seen) with
            | inl w => rw [hr] at h; cases h
            | inr y =>
              obtain ⟨l2, q2⟩ := y
              rw [hr] at h
              cases h
              obtain ⟨g1, g2, g3, g4, g5⟩ := ih _ _ _ _ hr
              refine ⟨by omega, g2, by simp, by simp only [List.length_cons]; omega, fun k hk2 => ?_⟩
              rcases List.mem_cons.mp hk2 with e | e
              · rw [e]
                exact ⟨Nat.le_refl _, hpv.1, ⟨b, hv, h1, by omega⟩, hpv.2.1, hpv.2.2⟩
              · obtain ⟨z1, z2, z3, z4, z5⟩ := g5 k e
                exact ⟨by omega, z2, z3, z4, z5⟩
          · rw [if_neg c2] at h; cases h
def sM {α : Type} : Nat ⊕ (α × Nat) → Nat ⊕ Nat
  | .inl w => .inl w
  | .inr (_, q) => .inr q
/-- the value at p, d more brackets allowed -/
def sval (B : Nat → Int32) (L : Nat) : Nat → Nat → Nat ⊕ Nat
  | 0, p => .inl p
  | d + 1, p =>
    if cb B L p = 34 then sM (sstr B L (p + 1))
    else if cb B L p = 91 ∨ cb B L p = 123 then
      if d = 0 then .inl p
      else if cb B L (sbl B L (p + 1)) = (if cb B L p = 123 then 125 else 93) then .inr (sbl B L (p + 1) + 1)
      else sM (sgrp (sval B L d) B L (decide (cb B L p = 123)) (if cb B L p = 123 then 125 else 93) (L + 1) (sbl B L (p + 1)) [])
    else if cb B L p = 102 then swd B L (wdl 1) p
    else if cb B L p = 110 then swd B L (wdl 2) p
    else if cb B L p = 116 then swd B L (wdl 0) p
    else if cb B L p = 45 ∨ (48 ≤ cb B L p ∧ cb B L p ≤ 57) then snum B L p
    else .inl p
theorem sval_p {B : Nat → Int32} {L : Nat} : ∀ (d p q : Nat), sval B L d p = .inr q → p < q ∧ q ≤ L := by
  intro d
  induction d with
  | zero => intro p q h; cases h
  | succ d ih =>
    intro p q h
    simp only [sval] at h
    by_cases c1 : cb B L p = 34
    · rw [if_pos c1] at h
      cases hs : sstr B L (p + 1) with
      | inl w => rw [hs] at h; cases h
      | inr x =>
        obtain ⟨s, b⟩ := x
        rw [hs] at h
        cases h
        have := sstrf_p _ _ _ _ hs
        omega
    rw [if_neg c1] at h
    by_cases c2 : cb B L p = 91 ∨ cb B L p = 123
    · rw [if_pos c2] at h
      have hp : p < L := cb_lt (B := B) (by omega)
      by_cases c3 : d = 0
      · rw [if_pos c3] at h; cases h
      rw [if_neg c3] at h
      have hb := sbl_le (B := B) (L := L) (a := p + 1)
      have hcl : (if cb B L p = 123 then 125 else 93) < 256 := by split <;> omega
      by_cases c4 : cb B L (sbl B L (p + 1)) = (if cb B L p = 123 then 125 else 93)
      · rw [if_pos c4] at h
        cases h
        have : sbl B L (p + 1) < L := cb_lt (B := B) (by omega)
        omega
      · rw [if_neg c4] at h
        cases hs : sgrp (sval B L d) B L (decide (cb B L p = 123)) (if cb B L p = 123 then 125 else 93) (L + 1) (sbl B L (p + 1)) [] with
        | inl w => rw [hs] at h; cases h
        | inr x =>
          obtain ⟨l, b⟩ := x
          rw [hs] at h
          cases h
          have := sgrp_p hcl ih _ _ _ _ _ hs
          omega
    rw [if_neg c2] at h
    by_cases c5 : cb B L p = 102
    · rw [if_pos c5] at h
      have hp : p < L := cb_lt (B := B) (by omega)
      have := swd_p _ _ _ (wdl_b 1 (by decide)) (by omega) h
      have e : (wdl 1).length = 5 := rfl
      omega
    rw [if_neg c5] at h
    by_cases c6 : cb B L p = 110
    · rw [if_pos c6] at h
      have hp : p < L := cb_lt (B := B) (by omega)
      have := swd_p _ _ _ (wdl_b 2 (by decide)) (by omega) h
      have e : (wdl 2).length = 4 := rfl
      omega
    rw [if_neg c6] at h
    by_cases c7 : cb B L p = 116
    · rw [if_pos c7] at h
      have hp : p < L := cb_lt (B := B) (by omega)
      have := swd_p _ _ _ (wdl_b 0 (by decide)) (by omega) h
      have e : (wdl 0).length = 4 := rfl
      omega
    rw [if_neg c7] at h
    by_cases c8 : cb B L p = 45 ∨ (48 ≤ cb B L p ∧ cb B L p ≤ 57)
    · rw [if_pos c8] at h
      exact snum_p h
    · rw [if_neg c8] at h; cases h
