-- two lists with the same members, as sums
def sr_tot {α : Type} (f : α → Nat) : List α → Nat
  | [] => 0
  | a :: t => f a + sr_tot f t
theorem sr_tot_app {α : Type} (f : α → Nat) (a b : List α) : sr_tot f (a ++ b) = sr_tot f a + sr_tot f b := by
  induction a with
  | nil => simp only [List.nil_append, sr_tot, Nat.zero_add]
  | cons x t ih => simp only [List.cons_append, sr_tot, ih, Nat.add_assoc]
theorem sr_tot_pos {α : Type} {f : α → Nat} {w : List α} (h : 0 < sr_tot f w) : ∃ x, x ∈ w ∧ 0 < f x := by
  induction w with
  | nil => simp only [sr_tot] at h; omega
  | cons a t ih =>
    simp only [sr_tot] at h
    by_cases q : 0 < f a
    · exact ⟨a, List.mem_cons_self, q⟩
    · obtain ⟨x, h1, h2⟩ := ih (by omega)
      exact ⟨x, List.mem_cons_of_mem _ h1, h2⟩
theorem sr_perm {α : Type} {w w' : List α} (h : ∀ f : α → Nat, sr_tot f w = sr_tot f w') : w.Perm w' := by
  induction w generalizing w' with
  | nil =>
    have h1 := h (fun _ => 1)
    cases w' with
    | nil => exact List.Perm.refl _
    | cons a t =>
      simp only [sr_tot] at h1
      omega
  | cons a t ih =>
    classical
    have h1 := h (fun x => if x = a then 1 else 0)
    have h2 : 0 < sr_tot (fun x => if x = a then 1 else 0) w' := by
      rw [← h1]
      show 0 < (if a = a then 1 else 0) + _
      rw [if_pos rfl]
      omega
    obtain ⟨x, hx, hx1⟩ := sr_tot_pos h2
    have e : x = a := by
      by_cases q : x = a
      · exact q
      · have hx2 : 0 < (if x = a then 1 else 0) := hx1
        rw [if_neg q] at hx2
        omega
    rw [e] at hx
    obtain ⟨l1, l2, e2⟩ := List.append_of_mem hx
    rw [e2]
    refine (List.Perm.cons a (ih (fun f => ?_))).trans List.perm_middle.symm
    have h3 := h f
    rw [e2] at h3
    simp only [sr_tot_app, sr_tot] at h3 ⊢
    omega
abbrev lw_A (s : State) : Nat → Prop := fun q => s.heap.size ≤ q
/-- a world that holds, apart from what was there -/
def lw_w (dC : Nat → ClassId) (dI : Nat → Nat → Nat) (s : State) (H : Heap) (locs : List Loc) (w : va_W) : Prop := va_P (dC, dI) srCl w H ∧ va_D (lw_A s) w ∧ va_S (lw_A s) s.heap H locs
theorem lw_w.p {dC : Nat → ClassId} {dI : Nat → Nat → Nat} {s : State} {H : Heap} {locs : List Loc} {w w' : va_W} (h : lw_w dC dI s H locs w) (hp : ∀ f : Nat × va_E → Nat, sr_tot f w = sr_tot f w') : lw_w dC dI s H locs w' := ⟨sr_Pp (sr_perm hp) h.1, sr_Dp (sr_perm hp) h.2.1, h.2.2⟩
def lw_fl : List (Nat × Nat × va_W) → va_W
  | [] => []
  | k :: t => k.2.2 ++ lw_fl t
theorem lw_fl_tot (f : Nat × va_E → Nat) (a b : List (Nat × Nat × va_W)) : sr_tot f (lw_fl (a ++ b)) = sr_tot f (lw_fl a) + sr_tot f (lw_fl b) := by
  induction a with
  | nil => simp only [List.nil_append, lw_fl, sr_tot, Nat.zero_add]
  | cons x t ih => simp only [List.cons_append, lw_fl, sr_tot_app, ih, Nat.add_assoc]
theorem lw_one {ks : List (Nat × Nat × va_W)} {a : Nat × Nat × va_W} (h : a ∈ ks) : ∃ ks', (∀ f : Nat × va_E → Nat, sr_tot f (lw_fl ks) = sr_tot f a.2.2 + sr_tot f (lw_fl ks')) ∧ (∀ k, k ∈ ks → k = a ∨ k ∈ ks') ∧ (∀ k, k ∈ ks' → k ∈ ks) := by
  obtain ⟨l1, l2, rfl⟩ := List.append_of_mem h
  refine ⟨l1 ++ l2, fun f => ?_, fun k hk => ?_, fun k hk => ?_⟩
  · rw [lw_fl_tot, lw_fl_tot]
    simp only [lw_fl, sr_tot_app]
    omega
  · rcases List.mem_append.mp hk with q | q
    · exact Or.inr (List.mem_append_left _ q)
    · rcases List.mem_cons.mp q with q | q
      · exact Or.inl q
      · exact Or.inr (List.mem_append_right _ q)
  · rcases List.mem_append.mp hk with q | q
    · exact List.mem_append_left _ q
    · exact List.mem_append_right _ (List.mem_cons_of_mem _ q)
