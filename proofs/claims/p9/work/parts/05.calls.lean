-- CALLS IN ONE ROW: contracts over a list of cells, the world joined behind the call
/-- a method's start: its cells, apart; the classes; the literals and statics, which it doesn't change -/
def pcW (Z : (Nat → Prop) → State → Heap → Prop) (D : va_G) (cl : List vw_C) (tys : List (ClassId × FieldType)) (av : List Value) (ws : va_W) (sz : Nat) : Array Value → State → Prop :=
  va_Pc av (fun U => U.heap.size = sz ∧ va_P D cl ws U.heap ∧ va_K D cl tys U ∧ va_D (fun _ => True) ws ∧ Z (va_A ws sz) U U.heap)
/-- a reading method's start -/
def pcR (Z : (Nat → Prop) → State → Heap → Prop) (D : va_G) (cl : List vw_C) (tys : List (ClassId × FieldType)) (av : List Value) (ws : va_W) : Array Value → State → Prop :=
  va_Pc av (fun U => va_P D cl ws U.heap ∧ va_K D cl tys U ∧ Z (fun _ => False) U U.heap)
/-- the world behind a method -/
def pcB (D : va_G) (cl : List vw_C) (tys : List (ClassId × FieldType)) {U : Type} (wf : U → va_W) (A : Nat → Prop) : U → State → Prop := fun u t => va_P D cl (wf u) t.heap ∧ va_K D cl tys t ∧ va_D A (wf u)
/-- what literals and statics must bear: warmer tables, writes elsewhere, fewer cells to change, a frame more -/
def okZ (Z : (Nat → Prop) → State → Heap → Prop) : Prop :=
  (∀ (A : Nat → Prop) (s U : State) (H : Heap), s.WarmedH U.vm → Z A s H → Z A U H) ∧ (∀ (A : Nat → Prop) (s : State) (H H1 : Heap), (∀ a : Nat, a < H.size → ¬ A a → H1[a]? = H[a]?) → Z A s H → Z A s H1) ∧
  (∀ (A B : Nat → Prop) (s : State) (H : Heap), (∀ q, B q → A q) → Z A s H → Z B s H) ∧ ∀ (A : Nat → Prop) (u U : State) (H : Heap), U.vm = u.vm → Z A u H → Z A U H
section PC
variable {Z : (Nat → Prop) → State → Heap → Prop} {D : va_G} {cl : List vw_C} {tys : List (ClassId × FieldType)}
theorem pcW_blind (hZ : okZ Z) {av : List Value} {ws : va_W} {sz : Nat} : FrameBlind (pcW Z D cl tys av ws sz) := fun a U g mk q => by
  obtain ⟨q0, q1, qP, qK, qD, qZ⟩ := q
  exact ⟨q0, q1, qP, va_K.moved (u := U) (U := U.calling g mk a) (Vm.Alike.refl U.vm) qK, qD, hZ.2.2.2 _ U (U.calling g mk a) _ rfl qZ⟩
theorem pcR_blind (hZ : okZ Z) {av : List Value} {ws : va_W} : FrameBlind (pcR Z D cl tys av ws) := fun a U g mk q => by
  obtain ⟨q0, qP, qK, qZ⟩ := q
  exact ⟨q0, qP, va_K.moved (u := U) (U := U.calling g mk a) (Vm.Alike.refl U.vm) qK, hZ.2.2.2 _ U (U.calling g mk a) _ rfl qZ⟩
variable {p : Program} {l : Launch} {e : Env} {R : Room} {s : State} {m : MethodId} {args : Array Value} {below : List Frame} {meth : Method} {c : Code} {H : Heap} {locs : List Loc} {cells slots : Nat} {Q : State → Prop}
variable {cc : ByteArray} {pc : Nat} {ls : Array Slot} {rest st0 : List Value}
variable {y : MethodName} {bytes : ByteArray} {maxL nL n index : Nat} {ret : Option FieldType} {ws : List Cond} {rm : Room} {Ts : List Cond} {own C : String} {b : Addr} {As : List Value} {wc w0 : va_W}
theorem pcW_at (hZ : okZ Z) {A : Nat → Prop} (hS : va_S A s.heap H locs) (hA : ∀ q, s.heap.size ≤ q → A q) (hP : va_P D cl w0 H) (hD : va_D A w0) (hK : va_K D cl tys s) (hz : Z A s s.heap) (isC : List Nat) (hC : isC.map (fun i => w0[i]?) = wc.map some) (hC1 : isC.filterMap (fun i => w0[i]?) = wc) (hn : va_nd isC = true) {av : List Value} :
    ∀ U : State, U.heap = H → s.WarmedH U.vm → pcW Z D cl tys av wc H.size av.toArray U := fun U hU hW =>
  ⟨rfl, by rw [hU], by rw [hU]; exact hP.sub isC hC1, va_K.moved hW.alike hK, (hD.sub isC hn hC).weaken (fun _ _ _ _ => trivial), by
    rw [hU]
    exact hZ.1 _ s U _ hW (hZ.2.2.1 A _ s H (va_free hD hS hA isC hC) (hZ.2.1 A s s.heap H hS.2.1 hz))⟩
theorem pcR_at (hZ : okZ Z) {A : Nat → Prop} (hS : va_S A s.heap H locs) (hP : va_P D cl w0 H) (hK : va_K D cl tys s) (hz : Z A s s.heap) (isC : List Nat) (hC1 : isC.filterMap (fun i => w0[i]?) = wc) {av : List Value} :
    ∀ U : State, U.heap = H → s.WarmedH U.vm → pcR Z D cl tys av wc av.toArray U := fun U hU hW =>
  ⟨rfl, by rw [hU]; exact hP.sub isC hC1, va_K.moved hW.alike hK, by
    rw [hU]
    exact hZ.1 _ s U _ hW (hZ.2.2.1 A _ s H (fun _ h => h.elim) (hZ.2.1 A s s.heap H hS.2.1 hz))⟩
/-- a reading method by invokevirtual -/
theorem mr_pV (hZ : okZ Z) (S : CallFix p m c cc nL s args Ts own) {r : Value} (hM : Met l y ws rm (pcR Z D cl tys (.ref b :: As) wc) (k2_QcV r) 0 0 (fun _ => False)) (cw : CallW R s args own C index y bytes maxL ret ws rm 0 0 n)
    {A : Nat → Prop} (hS : va_S A s.heap H locs) (hP : va_P D cl w0 H) (hK : va_K D cl tys s) (hz : Z A s s.heap) (isC : List Nat) (hC1 : isC.filterMap (fun i => w0[i]?) = wc)
    (hrec : ∃ cellB : Cell, H[b]? = some cellB ∧ cellB.vm.isStatics = false ∧ s.vm.findClass C = some cellB.cls)
    (hst : st0 = As.reverse ++ .ref b :: rest) (hn : As.length = n) (hsize : ls.size = nL) (hW : (rest.map fun v => v.category).sum ≤ 8) (hdg : decode cc pc = .ok (.invokevirtual index, 3)) (hf : cells ≤ R.cells ∧ slots ≤ R.slots)
    (kk : W p l e R s m args below meth c H locs cells slots Q (F0 m (pc + 3) ls (r :: rest))) : W p l e R s m args below meth c H locs cells slots Q (F0 m pc ls st0) := by
  subst hst
  exact W.callV (W.runV (g := F0 m pc ls (As.reverse ++ .ref b :: rest)) (rest := rest) S hM cw ⟨pcR_blind hZ, hrec, pcR_at hZ hS hP hK hz isC hC1⟩ rfl hn hsize rfl (lv_room hW) hdg hf) kk
/-- a reading method by invokestatic -/
theorem mr_pS (hZ : okZ Z) (S : CallFix p m c cc nL s args Ts own) {r : Value} (hM : Met l y ws rm (pcR Z D cl tys As wc) (k2_QcV r) 0 0 (fun _ => False)) (cw : CallB R s args own index y bytes maxL ret ws rm 0 0 n ∧ (Cond.static y).before args s = true)
    {A : Nat → Prop} (hS : va_S A s.heap H locs) (hP : va_P D cl w0 H) (hK : va_K D cl tys s) (hz : Z A s s.heap) (isC : List Nat) (hC1 : isC.filterMap (fun i => w0[i]?) = wc)
    (hst : st0 = As.reverse ++ rest) (hn : As.length = n) (hsize : ls.size = nL) (hW : (rest.map fun v => v.category).sum ≤ 8) (hdg : decode cc pc = .ok (.invokestatic index, 3)) (hf : cells ≤ R.cells ∧ slots ≤ R.slots)
    (kk : W p l e R s m args below meth c H locs cells slots Q (F0 m (pc + 3) ls (r :: rest))) : W p l e R s m args below meth c H locs cells slots Q (F0 m pc ls st0) := by
  subst hst
  exact W.callV (W.runS (g := F0 m pc ls (As.reverse ++ rest)) (rest := rest) S hM cw ⟨pcR_blind hZ, pcR_at hZ hS hP hK hz isC hC1⟩ rfl hn hsize rfl (lv_room hW) hdg hf) kk
/-- a writing method by invokevirtual, an int comes back -/
theorem mr_wVi (hZ : okZ Z) (S : CallFix p m c cc nL s args Ts own) {U : Type} {wf : U → va_W} {r : Int32} {u : U} (hM : Met l y ws rm (pcW Z D cl tys (.ref b :: As) wc H.size) (va_Qi (fun r' u' => r' = r ∧ u' = u) (pcB D cl tys wf (va_A wc H.size)) (va_A wc H.size)) 0 0 (va_A wc H.size))
    (cw : CallW R s args own C index y bytes maxL ret ws rm 0 0 n) {A : Nat → Prop} (hS : va_S A s.heap H locs) (hA : ∀ q, s.heap.size ≤ q → A q) (hP : va_P D cl w0 H) (hD : va_D A w0) (hK : va_K D cl tys s) (hz : Z A s s.heap)
    {wr w1 : va_W} (isC isR isP : List Nat) (hC : isC.map (fun i => w0[i]?) = wc.map some) (hC1 : isC.filterMap (fun i => w0[i]?) = wc) (hnC : va_nd isC = true) (hR : isR.map (fun i => w0[i]?) = wr.map some) (hnR : va_nd isR = true) (hdis : ∀ i ∈ isR, i ∉ isC)
    (hPm : isP.map (fun i => (wr ++ wf u)[i]?) = w1.map some) (hPm1 : isP.filterMap (fun i => (wr ++ wf u)[i]?) = w1) (hnP : va_nd isP = true)
    (hrec : ∃ cellB : Cell, H[b]? = some cellB ∧ cellB.vm.isStatics = false ∧ s.vm.findClass C = some cellB.cls)
    (hst : st0 = As.reverse ++ .ref b :: rest) (hn : As.length = n) (hsize : ls.size = nL) (hW : (rest.map fun v => v.category).sum ≤ 8) (hdg : decode cc pc = .ok (.invokevirtual index, 3)) (hf : cells ≤ R.cells ∧ slots ≤ R.slots)
    (kk : ∀ (H1 : Heap) (locs1 : List Loc), va_P D cl w1 H1 → va_D A w1 → va_S A s.heap H1 locs1 → W p l e R s m args below meth c H1 locs1 cells slots Q (F0 m (pc + 3) ls (.int r :: rest))) : W p l e R s m args below meth c H locs cells slots Q (F0 m pc ls st0) := by
  subst hst
  have hFc := va_free hD hS hA isC hC
  refine va_calli (va_runV (g := F0 m pc ls (As.reverse ++ .ref b :: rest)) (rest := rest) S hM cw ⟨pcW_blind hZ, hrec, pcW_at hZ hS hA hP hD hK hz isC hC hC1 hnC⟩ rfl hn hsize rfl (lv_room hW) hdg hf) hS (fun q _ h => hFc q h) hFc (fun r' u' t H1 locs1 ht hvm hw hB hz1 hk1 hS1 => ?_)
  obtain ⟨rfl, rfl⟩ := hw
  obtain ⟨hP1, hK1, hD1⟩ := hB
  rw [ht] at hP1
  obtain ⟨hP2, hD2⟩ := va_join hP hD isC isR hC hR hnR hdis hk1 hFc hP1 hD1
  exact kk H1 locs1 (hP2.sub isP hPm1) (hD2.sub isP hnP hPm) hS1
/-- a writing method by invokevirtual, nothing comes back -/
theorem mr_wVv (hZ : okZ Z) (S : CallFix p m c cc nL s args Ts own) {U : Type} {wf : U → va_W} {u : U} (hM : Met l y ws rm (pcW Z D cl tys (.ref b :: As) wc H.size) (va_Qv (fun u' => u' = u) (pcB D cl tys wf (va_A wc H.size)) (va_A wc H.size)) 0 0 (va_A wc H.size))
    (cw : CallW R s args own C index y bytes maxL ret ws rm 0 0 n) {A : Nat → Prop} (hS : va_S A s.heap H locs) (hA : ∀ q, s.heap.size ≤ q → A q) (hP : va_P D cl w0 H) (hD : va_D A w0) (hK : va_K D cl tys s) (hz : Z A s s.heap)
    {wr w1 : va_W} (isC isR isP : List Nat) (hC : isC.map (fun i => w0[i]?) = wc.map some) (hC1 : isC.filterMap (fun i => w0[i]?) = wc) (hnC : va_nd isC = true) (hR : isR.map (fun i => w0[i]?) = wr.map some) (hnR : va_nd isR = true) (hdis : ∀ i ∈ isR, i ∉ isC)
    (hPm : isP.map (fun i => (wr ++ wf u)[i]?) = w1.map some) (hPm1 : isP.filterMap (fun i => (wr ++ wf u)[i]?) = w1) (hnP : va_nd isP = true)
    (hrec : ∃ cellB : Cell, H[b]? = some cellB ∧ cellB.vm.isStatics = false ∧ s.vm.findClass C = some cellB.cls)
    (hst : st0 = As.reverse ++ .ref b :: rest) (hn : As.length = n) (hsize : ls.size = nL) (hW : (rest.map fun v => v.category).sum ≤ 8) (hdg : decode cc pc = .ok (.invokevirtual index, 3)) (hf : cells ≤ R.cells ∧ slots ≤ R.slots)
    (kk : ∀ (H1 : Heap) (locs1 : List Loc), va_P D cl w1 H1 → va_D A w1 → va_S A s.heap H1 locs1 → W p l e R s m args below meth c H1 locs1 cells slots Q (F0 m (pc + 3) ls rest)) : W p l e R s m args below meth c H locs cells slots Q (F0 m pc ls st0) := by
  subst hst
  have hFc := va_free hD hS hA isC hC
  refine va_callv (va_runV (g := F0 m pc ls (As.reverse ++ .ref b :: rest)) (rest := rest) S hM cw ⟨pcW_blind hZ, hrec, pcW_at hZ hS hA hP hD hK hz isC hC hC1 hnC⟩ rfl hn hsize rfl (lv_room hW) hdg hf) hS (fun q _ h => hFc q h) hFc (fun u' t H1 locs1 ht hvm hw hB hz1 hk1 hS1 => ?_)
  obtain rfl := hw
  obtain ⟨hP1, hK1, hD1⟩ := hB
  rw [ht] at hP1
  obtain ⟨hP2, hD2⟩ := va_join hP hD isC isR hC hR hnR hdis hk1 hFc hP1 hD1
  exact kk H1 locs1 (hP2.sub isP hPm1) (hD2.sub isP hnP hPm) hS1
/-- a method by invokevirtual that throws here; the caller passes it on -/
theorem mr_xV (hZ : okZ Z) (S : CallFix p m c cc nL s args Ts own) {U U' V V' : Type} {rv : V → Option Value} {rv' : V' → Option Value} {wf : U → va_W} {wf' : U' → va_W} {X : String} {u : U} {u' : U'}
    (hM : t2_Met l y ws rm (pcW Z D cl tys (.ref b :: As) wc H.size) (t2_Q rv (pcB D cl tys wf (va_A wc H.size)) (va_A wc H.size) X (.error u)) 1 6 (va_A wc H.size))
    (cw : CallW R s args own C index y bytes maxL ret ws rm 1 6 n) {A : Nat → Prop} (hS : va_S A s.heap H locs) (hA : ∀ q, s.heap.size ≤ q → A q) (hP : va_P D cl w0 H) (hD : va_D A w0) (hK : va_K D cl tys s) (hz : Z A s s.heap)
    {wr : va_W} (isC isR isP : List Nat) (hC : isC.map (fun i => w0[i]?) = wc.map some) (hC1 : isC.filterMap (fun i => w0[i]?) = wc) (hnC : va_nd isC = true) (hR : isR.map (fun i => w0[i]?) = wr.map some) (hnR : va_nd isR = true) (hdis : ∀ i ∈ isR, i ∉ isC)
    (hPm : isP.map (fun i => (wr ++ wf u)[i]?) = (wf' u').map some) (hPm1 : isP.filterMap (fun i => (wr ++ wf u)[i]?) = wf' u') (hnP : va_nd isP = true)
    (hrec : ∃ cellB : Cell, H[b]? = some cellB ∧ cellB.vm.isStatics = false ∧ s.vm.findClass C = some cellB.cls)
    (hst : st0 = As.reverse ++ .ref b :: rest) (hn : As.length = n) (hsize : ls.size = nL) (hW : (rest.map fun v => v.category).sum ≤ 8) (hdg : decode cc pc = .ok (.invokevirtual index, 3)) {mc ms : Nat} (hmc : cells + 1 = mc) (hms : slots + 6 = ms) (hf : mc ≤ R.cells ∧ ms ≤ R.slots)
    (hex : c.exceptionTable.isEmpty = true) (hlocks : meth.locks = false) :
    W p l e R s m args below meth c H locs cells slots (t2_MQ below (t2_Q rv' (pcB D cl tys wf' A) A X (.error u')) args s mc ms A) (F0 m pc ls st0) := by
  subst hst
  subst hmc
  subst hms
  have hFc := va_free hD hS hA isC hC
  refine t2_outV S hM cw ⟨pcW_blind hZ, hrec, pcW_at hZ hS hA hP hD hK hz isC hC hC1 hnC⟩ hn hsize hW hdg hf hex hlocks hS (fun q _ h => hFc q h) hFc (fun t hvm hB hz1 hk1 t' ht' hW' => ?_)
  obtain ⟨hP1, hK1, hD1⟩ := hB
  obtain ⟨hP2, hD2⟩ := va_join hP hD isC isR hC hR hnR hdis hk1 hFc hP1 hD1
  refine ⟨?_, va_K.moved hW'.alike hK, hD2.sub isP hnP hPm⟩
  rw [ht']
  exact hP2.sub isP hPm1
end PC
-- reading the mirror's answer
theorem mr_bd {α : Type} {i : Int32} {n : Nat} {a : Option α} {r : α} (h : (if i < 0 ∨ n ≤ i.toNatClampNeg then none else a) = some r) : vp_in i n ∧ a = some r := by
  by_cases hc : i < 0 ∨ n ≤ i.toNatClampNeg
  · rw [if_pos hc] at h; cases h
  · rw [if_neg hc] at h; exact ⟨hc, h⟩
theorem mr_bz {α : Type} {v : Int32} {a : Option α} {r : α} (h : (if v = 0 ∨ v = 1 then a else none) = some r) : narrow .boolean (.int v) = .int v ∧ a = some r := by
  by_cases hc : v = 0 ∨ v = 1
  · rw [if_pos hc] at h
    exact ⟨by rcases hc with rfl | rfl <;> decide +kernel, h⟩
  · rw [if_neg hc] at h; cases h
theorem mr_if {α : Type} {p : Prop} {i : Decidable p} {a b r : α} (hc : p) (h : (@ite _ p i a b) = r) : a = r := (if_pos hc).symm.trans h
theorem mr_un {α : Type} {p : Prop} {i : Decidable p} {a b r : α} (hc : ¬ p) (h : (@ite _ p i a b) = r) : b = r := (if_neg hc).symm.trans h
theorem mr_bind {α β : Type} {a : Option α} {k : α → Option β} {r : β} (h : a.bind k = some r) : ∃ z, a = some z ∧ k z = some r := by
  cases a with
  | none => cases h
  | some z => exact ⟨z, rfl, h⟩
def mr_try {U V W' U' : Type} (a : Option (Except U (V × U))) (k : V → U → Option (Except U' W')) (g : U → U') : Option (Except U' W') := match a with
  | none => none
  | some (.ok w) => k w.1 w.2
  | some (.error u) => some (.error (g u))
theorem mr_tried {U V W' U' : Type} {a : Option (Except U (V × U))} {k : V → U → Option (Except U' W')} {g : U → U'} {r : Except U' W'} (h : mr_try a k g = some r) : (∃ v u, a = some (.ok (v, u)) ∧ k v u = some r) ∨ (∃ u, a = some (.error u) ∧ .error (g u) = r) := by
  match a, h with
  | some (.ok w), h => exact Or.inl ⟨w.1, w.2, rfl, h⟩
  | some (.error u), h => exact Or.inr ⟨u, rfl, Option.some.inj h⟩
def sr_fuel : Nat := 100000
theorem mr_ne {x k : Int32} {K : Int} (h : ¬ x = k) (hk : k.toInt = K) : x.toInt ≠ K := fun e => h (Int32.toInt_inj.mp (e.trans hk.symm))
def t2_ms {U V : Type} (z : Except U V) : Nat := match z with
  | .ok _ => 0
  | .error _ => 6
/-- nothing comes back, nothing is written -/
def k0_Q : Array Value → State → Outcome → State → Prop := fun _ st o t => o = .returned none ∧ t.heap = st.heap
section PC0
variable {Z : (Nat → Prop) → State → Heap → Prop} {D : va_G} {cl : List vw_C} {tys : List (ClassId × FieldType)}
variable {p : Program} {l : Launch} {e : Env} {R : Room} {s : State} {m : MethodId} {args : Array Value} {below : List Frame} {meth : Method} {c : Code} {H : Heap} {locs : List Loc} {cells slots : Nat} {Q : State → Prop}
variable {cc : ByteArray} {pc : Nat} {ls : Array Slot} {rest st0 : List Value}
variable {y : MethodName} {bytes : ByteArray} {maxL nL n index : Nat} {ret : Option FieldType} {ws : List Cond} {rm : Room} {Ts : List Cond} {own C : String} {b : Addr} {As : List Value} {wc w0 : va_W} {g : JFrame} {a : Array Value}
theorem k0_call (hr : CallRun p l e R s m args below meth c H locs cells slots 0 0 g rest (k0_Q a) (fun _ => False)) (kk : W p l e R s m args below meth c H locs cells slots Q { g with pc := g.pc + 3, stack := rest }) : W p l e R s m args below meth c H locs cells slots Q g := by
  intro T hT X
  obtain ⟨v, st₀, t, T', L, h0, X', hL, e1, ⟨hv, hh⟩, st⟩ := hr T hT X
  cases hv
  obtain ⟨t2, a1, b1⟩ := kk T' (by rw [e1, hh, h0]) (Stand.forget X' (fun q h => (hL q h).elim))
  exact ⟨t2, st t2 a1, b1⟩
theorem mr_pSv (hZ : okZ Z) (S : CallFix p m c cc nL s args Ts own) (hM : Met l y ws rm (pcR Z D cl tys As wc) k0_Q 0 0 (fun _ => False)) (cw : CallB R s args own index y bytes maxL ret ws rm 0 0 n ∧ (Cond.static y).before args s = true)
    {A : Nat → Prop} (hS : va_S A s.heap H locs) (hP : va_P D cl w0 H) (hK : va_K D cl tys s) (hz : Z A s s.heap) (isC : List Nat) (hC1 : isC.filterMap (fun i => w0[i]?) = wc)
    (hst : st0 = As.reverse ++ rest) (hn : As.length = n) (hsize : ls.size = nL) (hW : (rest.map fun v => v.category).sum ≤ 8) (hdg : decode cc pc = .ok (.invokestatic index, 3)) (hf : cells ≤ R.cells ∧ slots ≤ R.slots)
    (kk : W p l e R s m args below meth c H locs cells slots Q (F0 m (pc + 3) ls rest)) : W p l e R s m args below meth c H locs cells slots Q (F0 m pc ls st0) := by
  subst hst
  exact k0_call (W.runS (g := F0 m pc ls (As.reverse ++ rest)) (rest := rest) S hM cw ⟨pcR_blind hZ, pcR_at hZ hS hP hK hz isC hC1⟩ rfl hn hsize rfl (lv_room hW) hdg hf) kk
end PC0
