-- A REFERENCE COMES BACK; THE SECOND ROW OF A TABLE TAKES WHAT IS THROWN
section SRR
variable {D : va_G} {cl : List vw_C} {tys : List (ClassId × FieldType)}
variable {p : Program} {l : Launch} {e : Env} {R : Room} {s : State} {m : MethodId} {args : Array Value} {below : List Frame} {meth : Method} {c : Code} {H : Heap} {locs : List Loc} {cells slots : Nat} {Q : State → Prop}
variable {pc mc ms c1 s1 : Nat} {ls : Array Slot} {rest st0 : List Value} {A : Nat → Prop} {wc w0 wr : va_W} {wf : Nat → va_W} {a : Array Value}
theorem mr_kr (hr : va_Run p l e R s m args below meth c H locs cells slots mc ms (F0 m pc ls st0) rest (va_Qr (fun _ : Unit => True) (fun _ ra t => va_P D cl (wf ra) t.heap ∧ va_K D cl tys t ∧ va_D (va_A wc H.size) (wf ra)) (va_A wc H.size) a) (va_A wc H.size))
    (hS : va_S A s.heap H locs) (hA : ∀ q, s.heap.size ≤ q → A q) (hP : va_P D cl w0 H) (hD : va_D A w0)
    (isC isR : List Nat) (hC : isC.map (fun i => w0[i]?) = wc.map some) (hR : isR.map (fun i => w0[i]?) = wr.map some) (hnR : va_nd isR = true) (hdis : ∀ i ∈ isR, i ∉ isC) (hc1 : cells + mc = c1) (hs1 : slots + ms = s1)
    (kk : ∀ (ra : Nat) (H1 : Heap) (locs1 : List Loc), va_P D cl (wr ++ wf ra) H1 → va_D A (wr ++ wf ra) → va_S A s.heap H1 locs1 → W p l e R s m args below meth c H1 locs1 c1 s1 Q (F0 m (pc + 3) ls (.ref ra :: rest))) : W p l e R s m args below meth c H locs cells slots Q (F0 m pc ls st0) := by
  subst hc1; subst hs1
  have hFc := va_free hD hS hA isC hC
  refine va_callr hr hS (fun q _ h => hFc q h) hFc (fun u ra t H1 locs1 ht hvm hw hB hz1 hk1 hS1 => ?_)
  obtain ⟨hP1, hK1, hD1⟩ := hB
  rw [ht] at hP1
  obtain ⟨hP2, hD2⟩ := va_join hP hD isC isR hC hR hnR hdis hk1 hFc hP1 hD1
  exact kk ra H1 locs1 hP2 hD2 hS1
end SRR
section SRC2
variable {Z : (Nat → Prop) → State → Heap → Prop} {D : va_G} {cl : List vw_C} {tys : List (ClassId × FieldType)}
variable {p : Program} {l : Launch} {e : Env} {R : Room} {s : State} {m : MethodId} {args : Array Value} {below : List Frame} {meth : Method} {c : Code} {H : Heap} {locs : List Loc} {cells slots : Nat} {Q : State → Prop}
variable {cc : ByteArray} {pc : Nat} {ls : Array Slot} {rest st0 : List Value}
variable {y : MethodName} {bytes : ByteArray} {maxL nL n index : Nat} {ret : Option FieldType} {ws : List Cond} {rm : Room} {Ts : List Cond} {own C : String} {b : Addr} {As : List Value} {wc w0 : va_W}
theorem mr_c2 (hZ : okZ Z) (S : CallFix p m c cc nL s args Ts own) {U V : Type} {rv : V → Option Value} {wf : U → va_W} {X X' : String} {u : U}
    (hM : t2_Met l y ws rm (pcW Z D cl tys (.ref b :: As) wc H.size) (t2_Q rv (pcB D cl tys wf (va_A wc H.size)) (va_A wc H.size) X (.error u)) 1 6 (va_A wc H.size))
    (cw : CallW R s args own C index y bytes maxL ret ws rm 1 6 n) {A : Nat → Prop} (hS : va_S A s.heap H locs) (hA : ∀ q, s.heap.size ≤ q → A q) (hP : va_P D cl w0 H) (hD : va_D A w0) (hK : va_K D cl tys s) (hz : Z A s s.heap)
    {wr w1 : va_W} (isC isR isP : List Nat) (hC : isC.map (fun i => w0[i]?) = wc.map some) (hC1 : isC.filterMap (fun i => w0[i]?) = wc) (hnC : va_nd isC = true) (hR : isR.map (fun i => w0[i]?) = wr.map some) (hnR : va_nd isR = true) (hdis : ∀ i ∈ isR, i ∉ isC)
    (hPm : isP.map (fun i => (wr ++ wf u)[i]?) = w1.map some) (hPm1 : isP.filterMap (fun i => (wr ++ wf u)[i]?) = w1) (hnP : va_nd isP = true)
    (hrec : ∃ cellB : Cell, H[b]? = some cellB ∧ cellB.vm.isStatics = false ∧ s.vm.findClass C = some cellB.cls)
    (hst : st0 = As.reverse ++ .ref b :: rest) (hn : As.length = n) (hsize : ls.size = nL) (hW : (rest.map fun v => v.category).sum ≤ 8) (hdg : decode cc pc = .ok (.invokevirtual index, 3)) (hf : cells + 1 ≤ R.cells ∧ slots + 6 ≤ R.slots)
    {a0 b0 h0 t0 a1 b1 h1 t1 : Nat} {hs : List (Nat × Nat × Nat × Nat)} (htab : c.exceptionTable.toList.map (fun h => (h.startPc, h.endPc, h.handlerPc, h.catchType)) = (a0, b0, h0, t0) :: (a1, b1, h1, t1) :: hs) (ha : a0 ≤ pc) (hb : pc < b0) (ht : t0 ≠ 0) (ha1 : a1 ≤ pc) (hb1 : pc < b1) (ht1 : t1 ≠ 0)
    (hlink0 : (Cond.classLink own t0 X').before args s = true) (hno : ∀ k k', s.vm.findClass X = some k → s.vm.findClass X' = some k' → s.vm.assignable k k' = false)
    (hlink : (Cond.classLink own t1 X).before args s = true) (hself : (Cond.castable X X).before args s = true) {c1 s1 : Nat} (hc1 : cells + 1 = c1) (hs1 : slots + 6 = s1)
    (kk : ∀ (x : Addr) (H1 : Heap) (locs1 : List Loc), va_P D cl w1 H1 → va_D A w1 → va_S A s.heap H1 locs1 → W p l e R s m args below meth c H1 locs1 c1 s1 Q (F0 m h1 ls [.ref x])) : W p l e R s m args below meth c H locs cells slots Q (F0 m pc ls st0) := by
  subst hst; subst hc1; subst hs1
  have hFc := va_free hD hS hA isC hC
  obtain ⟨e0, en, post, hsp, he0, hen⟩ : ∃ e0 en post, c.exceptionTable.toList = e0 :: en :: post ∧ (e0.startPc, e0.endPc, e0.handlerPc, e0.catchType) = (a0, b0, h0, t0) ∧ (en.startPc, en.endPc, en.handlerPc, en.catchType) = (a1, b1, h1, t1) := by
    cases hl : c.exceptionTable.toList with
    | nil => rw [hl] at htab; cases htab
    | cons e0 r0 =>
      rw [hl, List.map_cons] at htab
      cases r0 with
      | nil => cases (List.cons.inj htab).2
      | cons en post =>
        rw [List.map_cons] at htab
        exact ⟨e0, en, post, rfl, (List.cons.inj htab).1, (List.cons.inj (List.cons.inj htab).2).1⟩
  have hcv0 := sr_cov he0 ha hb
  have hcv := sr_cov hen ha1 hb1
  simp only [Prod.mk.injEq] at hen he0
  obtain ⟨-, -, -, f4⟩ := he0
  obtain ⟨-, -, e3, e4⟩ := hen
  refine t2_catchV S hM cw ⟨pcW_blind hZ, hrec, pcW_at hZ hS hA hP hD hK hz isC hC hC1 hnC⟩ hn hsize hW hdg hf [e0] en post hsp hcv (by rw [e4]; exact ht1) (by rw [e4]; exact hlink) hself (fun y hy => ?_) hS (fun q _ h => hFc q h) hFc (fun x t H1 locs1 ht1 hvm hB hz1 hk1 hS1 => ?_)
  · obtain rfl := List.mem_singleton.mp hy
    exact Or.inr ⟨hcv0, by rw [f4]; exact ht, X', by rw [f4]; exact hlink0, hno⟩
  · obtain ⟨hP1, hK1, hD1⟩ := hB
    rw [ht1] at hP1
    obtain ⟨hP2, hD2⟩ := va_join hP hD isC isR hC hR hnR hdis hk1 hFc hP1 hD1
    rw [e3]
    exact kk x H1 locs1 (hP2.sub isP hPm1) (hD2.sub isP hnP hPm) hS1
end SRC2
section SRE
variable {D : va_G} {cl : List vw_C} {tys : List (ClassId × FieldType)}
variable {p : Program} {l : Launch} {e : Env} {R : Room} {s : State} {m : MethodId} {args : Array Value} {below : List Frame} {meth : Method} {c : Code} {H : Heap} {locs : List Loc} {cells slots : Nat} {Q : State → Prop}
variable {pc mc ms c1 s1 : Nat} {ls : Array Slot} {rest st0 : List Value} {A : Nat → Prop} {wc w0 wr : va_W} {U : Type} {wf : U → va_W} {a : Array Value}
/-- an int comes back that is known, with cells whose addresses may be new -/
theorem mr_kie {r : Int32} (hr : va_Run p l e R s m args below meth c H locs cells slots mc ms (F0 m pc ls st0) rest (va_Qi (fun r' _ => r' = r) (pcB D cl tys wf (va_A wc H.size)) (va_A wc H.size) a) (va_A wc H.size))
    (hS : va_S A s.heap H locs) (hA : ∀ q, s.heap.size ≤ q → A q) (hP : va_P D cl w0 H) (hD : va_D A w0)
    (isC isR : List Nat) (hC : isC.map (fun i => w0[i]?) = wc.map some) (hR : isR.map (fun i => w0[i]?) = wr.map some) (hnR : va_nd isR = true) (hdis : ∀ i ∈ isR, i ∉ isC) (hc1 : cells + mc = c1) (hs1 : slots + ms = s1)
    (kk : ∀ (u : U) (H1 : Heap) (locs1 : List Loc), va_P D cl (wr ++ wf u) H1 → va_D A (wr ++ wf u) → va_S A s.heap H1 locs1 → W p l e R s m args below meth c H1 locs1 c1 s1 Q (F0 m (pc + 3) ls (.int r :: rest))) : W p l e R s m args below meth c H locs cells slots Q (F0 m pc ls st0) := by
  subst hc1; subst hs1
  have hFc := va_free hD hS hA isC hC
  refine va_calli hr hS (fun q _ h => hFc q h) hFc (fun r' u t H1 locs1 ht hvm hw hB hz1 hk1 hS1 => ?_)
  subst hw
  obtain ⟨hP1, hK1, hD1⟩ := hB
  rw [ht] at hP1
  obtain ⟨hP2, hD2⟩ := va_join hP hD isC isR hC hR hnR hdis hk1 hFc hP1 hD1
  exact kk u H1 locs1 hP2 hD2 hS1
end SRE
def sr_no (U : State) : Prop := ∀ k k', U.vm.findClass "java/lang/IllegalStateException" = some k → U.vm.findClass "java/lang/IndexOutOfBoundsException" = some k' → U.vm.assignable k k' = false
theorem sr_no.moved {u U : State} (h : u.vm.Alike U.vm) (hz : sr_no u) : sr_no U := fun k k' h1 h2 => by
  rw [h.findClass] at h1 h2
  rw [h.assignable]
  exact hz k k' h1 h2
def sr_Z2 (adK adV : Nat → Nat) (A : Nat → Prop) (U : State) (H : Heap) : Prop := sr_Z adK adV A U H ∧ sr_no U
theorem sr_okZ2 (adK adV : Nat → Nat) : okZ (sr_Z2 adK adV) :=
  ⟨fun A s U H hW h => ⟨(sr_okZ adK adV).1 A s U H hW h.1, h.2.moved hW.alike⟩, fun A s H H1 hq h => ⟨(sr_okZ adK adV).2.1 A s H H1 hq h.1, h.2⟩, fun A B s H hAB h => ⟨(sr_okZ adK adV).2.2.1 A B s H hAB h.1, h.2⟩, fun A u U H hv h => ⟨(sr_okZ adK adV).2.2.2 A u U H hv h.1, h.2.moved (by rw [hv]; exact Vm.Alike.refl u.vm)⟩⟩
