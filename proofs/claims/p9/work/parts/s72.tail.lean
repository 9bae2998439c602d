-- A WORLD WITH A TAIL that a call doesn't touch
theorem sr_Pl {D : va_G} {cl : List vw_C} {w T : va_W} {H : Heap} (h : va_P D cl (w ++ T) H) : va_P D cl w H := fun k q hk => h k q (by
  rw [List.getElem?_append_left (List.getElem?_eq_some_iff.mp hk).1]; exact hk)
theorem sr_Pr {D : va_G} {cl : List vw_C} {w T : va_W} {H : Heap} (h : va_P D cl (w ++ T) H) : va_P D cl T H := fun k q hk => h (w.length + k) q (by
  rw [List.getElem?_append_right (by omega), Nat.add_sub_cancel_left]; exact hk)
theorem sr_Dl {A : Nat → Prop} {w T : va_W} (h : va_D A (w ++ T)) : va_D A w := by
  have e : ∀ (k : Nat) (q : Nat × va_E), w[k]? = some q → (w ++ T)[k]? = some q := fun k q hk => by
    rw [List.getElem?_append_left (List.getElem?_eq_some_iff.mp hk).1]; exact hk
  exact ⟨fun i j p q hi hj hpq => h.1 i j p q (e i p hi) (e j q hj) hpq, fun k q hk => h.2 k q (e k q hk)⟩
theorem sr_Dr {A : Nat → Prop} {w T : va_W} (h : va_D A (w ++ T)) : va_D A T := by
  have e : ∀ (k : Nat) (q : Nat × va_E), T[k]? = some q → (w ++ T)[w.length + k]? = some q := fun k q hk => by
    rw [List.getElem?_append_right (by omega), Nat.add_sub_cancel_left]; exact hk
  exact ⟨fun i j p q hi hj hpq => by have := h.1 _ _ p q (e i p hi) (e j q hj) hpq; omega, fun k q hk => h.2 _ q (e k q hk)⟩
theorem sr_Dx {A : Nat → Prop} {w T : va_W} (h : va_D A (w ++ T)) {i j : Nat} {p q : Nat × va_E} (hi : w[i]? = some p) (hj : T[j]? = some q) : p.1 ≠ q.1 := by
  intro hpq
  have hl := (List.getElem?_eq_some_iff.mp hi).1
  have := h.1 i (w.length + j) p q (by rw [List.getElem?_append_left hl]; exact hi) (by rw [List.getElem?_append_right (by omega), Nat.add_sub_cancel_left]; exact hj) hpq
  omega
/-- worlds side by side: what holds of both in either order -/
theorem sr_Pc {D : va_G} {cl : List vw_C} {w T : va_W} {H : Heap} (h : va_P D cl (w ++ T) H) : va_P D cl (T ++ w) H := (sr_Pr h).app (sr_Pl h)
theorem sr_Dc {A : Nat → Prop} {w T : va_W} (h : va_D A (w ++ T)) : va_D A (T ++ w) := (sr_Dr h).app (sr_Dl h) (fun i j p q hi hj hpq => sr_Dx h hj hi hpq.symm)
/-- the tail behind a call -/
theorem sr_tail {D : va_G} {cl : List vw_C} {A : Nat → Prop} {H H1 : Heap} {wc w0 w1 T : va_W} (hP : va_P D cl (w0 ++ T) H) (hD : va_D A (w0 ++ T)) (hc : ∀ (k : Nat) (q : Nat × va_E), wc[k]? = some q → ∃ (j : Nat) (p : Nat × va_E), w0[j]? = some p ∧ p.1 = q.1)
    (hk1 : ∀ q : Nat, q < H.size → ¬ va_A wc H.size q → H1[q]? = H[q]?) (hP1 : va_P D cl w1 H1) (hD1 : va_D A w1) (hn : ∀ (k : Nat) (q : Nat × va_E), w1[k]? = some q → (∃ (j : Nat) (p : Nat × va_E), w0[j]? = some p ∧ p.1 = q.1) ∨ H.size ≤ q.1) : va_P D cl (w1 ++ T) H1 ∧ va_D A (w1 ++ T) := by
  have hT := sr_Pr hP
  refine ⟨hP1.app (hT.kept (fun k q hq => hk1 q.1 (hT k q hq).lt ?_)), hD1.app (sr_Dr hD) (fun i j p q hi hj hpq => ?_)⟩
  · rintro (⟨j, e, hj⟩ | h)
    · obtain ⟨j', p, hj', hp⟩ := hc j (q.1, e) hj
      exact sr_Dx hD hj' hq hp
    · have := (hT k q hq).lt
      omega
  · rcases hn i p hi with ⟨j', p', hj', hp'⟩ | h
    · exact sr_Dx hD hj' hj (hp'.trans hpq)
    · have := (hT j q hj).lt
      omega
/-- which cells of a world are meant -/
theorem sr_of {is : List Nat} {w0 wc : va_W} (h : is.map (fun i => w0[i]?) = wc.map some) {k : Nat} {q : Nat × va_E} (hk : wc[k]? = some q) : ∃ j : Nat, w0[j]? = some q := by
  have h1 : (is.map (fun i => w0[i]?))[k]? = some (some q) := by rw [h, List.getElem?_map, hk]; rfl
  rw [List.getElem?_map] at h1
  cases hi : is[k]? with
  | none => rw [hi] at h1; cases h1
  | some j => rw [hi] at h1; exact ⟨j, Option.some.inj h1⟩
theorem sr_after {D : va_G} {cl : List vw_C} {A : Nat → Prop} {H H1 : Heap} {locs : List Loc} {s : State} {wc w0 wr wu w1 T : va_W} (hS : va_S A s.heap H locs) (hA : ∀ q, s.heap.size ≤ q → A q) (hP : va_P D cl (w0 ++ T) H) (hD : va_D A (w0 ++ T))
    (isC isR isP : List Nat) (hC : isC.map (fun i => w0[i]?) = wc.map some) (hR : isR.map (fun i => w0[i]?) = wr.map some) (hnR : va_nd isR = true) (hdis : ∀ i ∈ isR, i ∉ isC)
    (hPm : isP.map (fun i => (wr ++ wu)[i]?) = w1.map some) (hPm1 : isP.filterMap (fun i => (wr ++ wu)[i]?) = w1) (hnP : va_nd isP = true)
    (hk1 : ∀ q : Nat, q < H.size → ¬ va_A wc H.size q → H1[q]? = H[q]?) (hP1 : va_P D cl wu H1) (hD1 : va_D (va_A wc H.size) wu) : va_P D cl (w1 ++ T) H1 ∧ va_D A (w1 ++ T) := by
  have hFc := va_free (sr_Dl hD) hS hA isC hC
  obtain ⟨hP2, hD2⟩ := va_join (sr_Pl hP) (sr_Dl hD) isC isR hC hR hnR hdis hk1 hFc hP1 hD1
  refine sr_tail hP hD (fun k q hk => ?_) hk1 (hP2.sub isP hPm1) (hD2.sub isP hnP hPm) (fun k q hk => ?_)
  · obtain ⟨j, hj⟩ := sr_of hC hk
    exact ⟨j, q, hj, rfl⟩
  · obtain ⟨j, hj⟩ := sr_of hPm hk
    by_cases hl : j < wr.length
    · rw [List.getElem?_append_left hl] at hj
      obtain ⟨j', hj'⟩ := sr_of hR hj
      exact Or.inl ⟨j', q, hj', rfl⟩
    · rw [List.getElem?_append_right (by omega)] at hj
      rcases hD1.2 _ _ hj with ⟨i, e, hi⟩ | h
      · obtain ⟨j', hj'⟩ := sr_of hC hi
        exact Or.inl ⟨j', (q.1, e), hj', rfl⟩
      · exact Or.inr h
section SRT
variable {D : va_G} {cl : List vw_C} {tys : List (ClassId × FieldType)}
variable {p : Program} {l : Launch} {e : Env} {R : Room} {s : State} {m : MethodId} {args : Array Value} {below : List Frame} {meth : Method} {c : Code} {H : Heap} {locs : List Loc} {cells slots : Nat} {Q : State → Prop}
variable {pc mc ms c1 s1 : Nat} {ls : Array Slot} {rest st0 : List Value} {A : Nat → Prop} {wc w0 wr T : va_W} {U : Type} {wf w1 : U → va_W} {a : Array Value}
theorem mr_tI {post : Int32 → U → Prop} (hr : va_Run p l e R s m args below meth c H locs cells slots mc ms (F0 m pc ls st0) rest (va_Qi post (pcB D cl tys wf (va_A wc H.size)) (va_A wc H.size) a) (va_A wc H.size))
    (hS : va_S A s.heap H locs) (hA : ∀ q, s.heap.size ≤ q → A q) (hP : va_P D cl (w0 ++ T) H) (hD : va_D A (w0 ++ T))
    (isC isR isP : List Nat) (hC : isC.map (fun i => w0[i]?) = wc.map some) (hR : isR.map (fun i => w0[i]?) = wr.map some) (hnR : va_nd isR = true) (hdis : ∀ i ∈ isR, i ∉ isC)
    (hPm : ∀ u, isP.map (fun i => (wr ++ wf u)[i]?) = (w1 u).map some) (hPm1 : ∀ u, isP.filterMap (fun i => (wr ++ wf u)[i]?) = w1 u) (hnP : va_nd isP = true) (hc1 : cells + mc = c1) (hs1 : slots + ms = s1)
    (kk : ∀ (r : Int32) (u : U) (H1 : Heap) (locs1 : List Loc), post r u → va_P D cl (w1 u ++ T) H1 → va_D A (w1 u ++ T) → va_S A s.heap H1 locs1 → W p l e R s m args below meth c H1 locs1 c1 s1 Q (F0 m (pc + 3) ls (.int r :: rest))) : W p l e R s m args below meth c H locs cells slots Q (F0 m pc ls st0) := by
  subst hc1; subst hs1
  have hFc := va_free (sr_Dl hD) hS hA isC hC
  refine va_calli hr hS (fun q _ h => hFc q h) hFc (fun r u t H1 locs1 ht hvm hw hB hz1 hk1 hS1 => ?_)
  obtain ⟨hP1, hK1, hD1⟩ := hB
  rw [ht] at hP1
  obtain ⟨hP2, hD2⟩ := sr_after hS hA hP hD isC isR isP hC hR hnR hdis (hPm u) (hPm1 u) hnP hk1 hP1 hD1
  exact kk r u H1 locs1 hw hP2 hD2 hS1
theorem mr_tV {post : U → Prop} (hr : va_Run p l e R s m args below meth c H locs cells slots mc ms (F0 m pc ls st0) rest (va_Qv post (pcB D cl tys wf (va_A wc H.size)) (va_A wc H.size) a) (va_A wc H.size))
    (hS : va_S A s.heap H locs) (hA : ∀ q, s.heap.size ≤ q → A q) (hP : va_P D cl (w0 ++ T) H) (hD : va_D A (w0 ++ T))
    (isC isR isP : List Nat) (hC : isC.map (fun i => w0[i]?) = wc.map some) (hR : isR.map (fun i => w0[i]?) = wr.map some) (hnR : va_nd isR = true) (hdis : ∀ i ∈ isR, i ∉ isC)
    (hPm : ∀ u, isP.map (fun i => (wr ++ wf u)[i]?) = (w1 u).map some) (hPm1 : ∀ u, isP.filterMap (fun i => (wr ++ wf u)[i]?) = w1 u) (hnP : va_nd isP = true) (hc1 : cells + mc = c1) (hs1 : slots + ms = s1)
    (kk : ∀ (u : U) (H1 : Heap) (locs1 : List Loc), post u → va_P D cl (w1 u ++ T) H1 → va_D A (w1 u ++ T) → va_S A s.heap H1 locs1 → W p l e R s m args below meth c H1 locs1 c1 s1 Q (F0 m (pc + 3) ls rest)) : W p l e R s m args below meth c H locs cells slots Q (F0 m pc ls st0) := by
  subst hc1; subst hs1
  have hFc := va_free (sr_Dl hD) hS hA isC hC
  refine va_callv hr hS (fun q _ h => hFc q h) hFc (fun u t H1 locs1 ht hvm hw hB hz1 hk1 hS1 => ?_)
  obtain ⟨hP1, hK1, hD1⟩ := hB
  rw [ht] at hP1
  obtain ⟨hP2, hD2⟩ := sr_after hS hA hP hD isC isR isP hC hR hnR hdis (hPm u) (hPm1 u) hnP hk1 hP1 hD1
  exact kk u H1 locs1 hw hP2 hD2 hS1
theorem mr_tL {post : Int64 → U → Prop} (hr : va_Run p l e R s m args below meth c H locs cells slots mc ms (F0 m pc ls st0) rest (va_Ql post (pcB D cl tys wf (va_A wc H.size)) (va_A wc H.size) a) (va_A wc H.size))
    (hS : va_S A s.heap H locs) (hA : ∀ q, s.heap.size ≤ q → A q) (hP : va_P D cl (w0 ++ T) H) (hD : va_D A (w0 ++ T))
    (isC isR isP : List Nat) (hC : isC.map (fun i => w0[i]?) = wc.map some) (hR : isR.map (fun i => w0[i]?) = wr.map some) (hnR : va_nd isR = true) (hdis : ∀ i ∈ isR, i ∉ isC)
    (hPm : ∀ u, isP.map (fun i => (wr ++ wf u)[i]?) = (w1 u).map some) (hPm1 : ∀ u, isP.filterMap (fun i => (wr ++ wf u)[i]?) = w1 u) (hnP : va_nd isP = true) (hc1 : cells + mc = c1) (hs1 : slots + ms = s1)
    (kk : ∀ (r : Int64) (u : U) (H1 : Heap) (locs1 : List Loc), post r u → va_P D cl (w1 u ++ T) H1 → va_D A (w1 u ++ T) → va_S A s.heap H1 locs1 → W p l e R s m args below meth c H1 locs1 c1 s1 Q (F0 m (pc + 3) ls (.long r :: rest))) : W p l e R s m args below meth c H locs cells slots Q (F0 m pc ls st0) := by
  subst hc1; subst hs1
  have hFc := va_free (sr_Dl hD) hS hA isC hC
  refine va_calll hr hS (fun q _ h => hFc q h) hFc (fun r u t H1 locs1 ht hvm hw hB hz1 hk1 hS1 => ?_)
  obtain ⟨hP1, hK1, hD1⟩ := hB
  rw [ht] at hP1
  obtain ⟨hP2, hD2⟩ := sr_after hS hA hP hD isC isR isP hC hR hnR hdis (hPm u) (hPm1 u) hnP hk1 hP1 hD1
  exact kk r u H1 locs1 hw hP2 hD2 hS1
end SRT
