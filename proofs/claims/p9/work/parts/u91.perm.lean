-- worlds in another order; a call whose cells stand ahead of a tail
theorem sr_Pp {D : va_G} {cl : List vw_C} {w w' : va_W} {H : Heap} (hp : w.Perm w') (h : va_P D cl w H) : va_P D cl w' H := fun k q hk => by
  obtain ⟨j, hj⟩ := List.getElem?_of_mem (hp.mem_iff.mpr (List.mem_of_getElem? hk))
  exact h j q hj
theorem sr_Dpw {A : Nat → Prop} {w : va_W} (h : va_D A w) : w.Pairwise (fun p q => p.1 ≠ q.1) := by
  rw [List.pairwise_iff_getElem]
  intro i j hi hj hij e
  have := h.1 i j w[i] w[j] (List.getElem?_eq_getElem hi) (List.getElem?_eq_getElem hj) e
  omega
theorem sr_Dp {A : Nat → Prop} {w w' : va_W} (hp : w.Perm w') (h : va_D A w) : va_D A w' := by
  have hw := (sr_Dpw h).perm hp (fun {x y} (q : x.1 ≠ y.1) => q.symm)
  rw [List.pairwise_iff_getElem] at hw
  refine ⟨fun i j p q hi hj hpq => ?_, fun k q hk => ?_⟩
  · obtain ⟨hi', ei⟩ := List.getElem?_eq_some_iff.mp hi
    obtain ⟨hj', ej⟩ := List.getElem?_eq_some_iff.mp hj
    rcases Nat.lt_trichotomy i j with h1 | h1 | h1
    · exact absurd hpq (by have := hw i j hi' hj' h1; rw [ei, ej] at this; exact this)
    · exact h1
    · exact absurd hpq.symm (by have := hw j i hj' hi' h1; rw [ei, ej] at this; exact this)
  · obtain ⟨j, hj⟩ := List.getElem?_of_mem (hp.mem_iff.mpr (List.mem_of_getElem? hk))
    exact h.2 j q hj
theorem sr_Dm {A A' : Nat → Prop} {w : va_W} (hA : ∀ q, A q → A' q) (h : va_D A w) : va_D A' w := ⟨h.1, fun k q hk => hA _ (h.2 k q hk)⟩
theorem sr_free {A : Nat → Prop} {H0 H : Heap} {locs : List Loc} {wc T : va_W} (hD : va_D A (wc ++ T)) (hS : va_S A H0 H locs) (hA : ∀ q, H0.size ≤ q → A q) : ∀ q, va_A wc H.size q → A q := by
  intro q h
  rcases h with ⟨k, e, hk⟩ | h
  · exact (sr_Dl hD).2 k (q, e) hk
  · exact hA q (Nat.le_trans hS.1 h)
theorem sr_ahead {D : va_G} {cl : List vw_C} {A : Nat → Prop} {H H1 : Heap} {wc w1 T : va_W} (hF : ∀ q, va_A wc H.size q → A q) (hP : va_P D cl (wc ++ T) H) (hD : va_D A (wc ++ T)) (hk1 : ∀ q : Nat, q < H.size → ¬ va_A wc H.size q → H1[q]? = H[q]?) (hP1 : va_P D cl w1 H1) (hD1 : va_D (va_A wc H.size) w1) : va_P D cl (w1 ++ T) H1 ∧ va_D A (w1 ++ T) := by
  refine sr_tail hP hD (fun k q hk => ⟨k, q, hk, rfl⟩) hk1 hP1 (sr_Dm hF hD1) (fun k q hk => ?_)
  rcases hD1.2 k q hk with ⟨j, e, hj⟩ | h
  · exact Or.inl ⟨j, (q.1, e), hj, rfl⟩
  · exact Or.inr h
section SRC
variable {D : va_G} {cl : List vw_C} {tys : List (ClassId × FieldType)}
variable {p : Program} {l : Launch} {e : Env} {R : Room} {s : State} {m : MethodId} {args : Array Value} {below : List Frame} {meth : Method} {c : Code} {H : Heap} {locs : List Loc} {cells slots : Nat} {Q : State → Prop}
variable {pc mc ms : Nat} {ls : Array Slot} {rest st0 : List Value} {A : Nat → Prop} {wc T : va_W} {U : Type} {wf : U → va_W} {a : Array Value}
theorem mr_cI {post : Int32 → U → Prop} (hr : va_Run p l e R s m args below meth c H locs cells slots mc ms (F0 m pc ls st0) rest (va_Qi post (pcB D cl tys wf (va_A wc H.size)) (va_A wc H.size) a) (va_A wc H.size))
    (hS : va_S A s.heap H locs) (hA : ∀ q, s.heap.size ≤ q → A q) (hP : va_P D cl (wc ++ T) H) (hD : va_D A (wc ++ T))
    (kk : ∀ (r : Int32) (u : U) (H1 : Heap) (locs1 : List Loc), post r u → va_P D cl (wf u ++ T) H1 → va_D A (wf u ++ T) → va_S A s.heap H1 locs1 → W p l e R s m args below meth c H1 locs1 (cells + mc) (slots + ms) Q (F0 m (pc + 3) ls (.int r :: rest))) : W p l e R s m args below meth c H locs cells slots Q (F0 m pc ls st0) := by
  have hFc := sr_free hD hS hA
  refine va_calli hr hS (fun q _ h => hFc q h) hFc (fun r u t H1 locs1 ht hvm hw hB hz1 hk1 hS1 => ?_)
  obtain ⟨hP1, hK1, hD1⟩ := hB
  rw [ht] at hP1
  obtain ⟨hP2, hD2⟩ := sr_ahead hFc hP hD hk1 hP1 hD1
  exact kk r u H1 locs1 hw hP2 hD2 hS1
theorem mr_cV {post : U → Prop} (hr : va_Run p l e R s m args below meth c H locs cells slots mc ms (F0 m pc ls st0) rest (va_Qv post (pcB D cl tys wf (va_A wc H.size)) (va_A wc H.size) a) (va_A wc H.size))
    (hS : va_S A s.heap H locs) (hA : ∀ q, s.heap.size ≤ q → A q) (hP : va_P D cl (wc ++ T) H) (hD : va_D A (wc ++ T))
    (kk : ∀ (u : U) (H1 : Heap) (locs1 : List Loc), post u → va_P D cl (wf u ++ T) H1 → va_D A (wf u ++ T) → va_S A s.heap H1 locs1 → W p l e R s m args below meth c H1 locs1 (cells + mc) (slots + ms) Q (F0 m (pc + 3) ls rest)) : W p l e R s m args below meth c H locs cells slots Q (F0 m pc ls st0) := by
  have hFc := sr_free hD hS hA
  refine va_callv hr hS (fun q _ h => hFc q h) hFc (fun u t H1 locs1 ht hvm hw hB hz1 hk1 hS1 => ?_)
  obtain ⟨hP1, hK1, hD1⟩ := hB
  rw [ht] at hP1
  obtain ⟨hP2, hD2⟩ := sr_ahead hFc hP hD hk1 hP1 hD1
  exact kk u H1 locs1 hw hP2 hD2 hS1
theorem mr_cL {post : Int64 → U → Prop} (hr : va_Run p l e R s m args below meth c H locs cells slots mc ms (F0 m pc ls st0) rest (va_Ql post (pcB D cl tys wf (va_A wc H.size)) (va_A wc H.size) a) (va_A wc H.size))
    (hS : va_S A s.heap H locs) (hA : ∀ q, s.heap.size ≤ q → A q) (hP : va_P D cl (wc ++ T) H) (hD : va_D A (wc ++ T))
    (kk : ∀ (r : Int64) (u : U) (H1 : Heap) (locs1 : List Loc), post r u → va_P D cl (wf u ++ T) H1 → va_D A (wf u ++ T) → va_S A s.heap H1 locs1 → W p l e R s m args below meth c H1 locs1 (cells + mc) (slots + ms) Q (F0 m (pc + 3) ls (.long r :: rest))) : W p l e R s m args below meth c H locs cells slots Q (F0 m pc ls st0) := by
  have hFc := sr_free hD hS hA
  refine va_calll hr hS (fun q _ h => hFc q h) hFc (fun r u t H1 locs1 ht hvm hw hB hz1 hk1 hS1 => ?_)
  obtain ⟨hP1, hK1, hD1⟩ := hB
  rw [ht] at hP1
  obtain ⟨hP2, hD2⟩ := sr_ahead hFc hP hD hk1 hP1 hD1
  exact kk r u H1 locs1 hw hP2 hD2 hS1
end SRC
