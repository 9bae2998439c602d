-- MORE CALLS: private members of nest mates; a static method that writes
theorem sr_cn {R : Room} {s : State} {args : Array Value} {own host : String} {index maxL : Nat} {y : MethodName} {bytes : ByteArray} {ret : Option FieldType} {ws : List Cond} {c0 : Cond} {rm : Room} {mc ms : Nat} (n : Nat) (hts : ∀ w ∈ c0 :: sr_G, w.before args s = true) (hw : ws = Cond.code y bytes maxL ret :: sr_G)
    (hc : Cond.code y bytes maxL ret ∈ sr_G) (hi : Cond.initialized y.cls ∈ sr_G) (hl : va_Nw (.methodLinkNest own index y host) s) (hrc : rm.cells = mc) (hrs : rm.slots = ms)
    (hd : y.cls ≠ "java/lang/invoke/MethodHandle" ∧ y.cls ≠ "java/lang/invoke/VarHandle" ∧ (parseMethodDescriptor y.desc).map (fun d => d.parameters.length) = some n) (hR : rm.frames + 1 ≤ R.frames ∧ 8 + (maxL + 11) + rm.locals ≤ R.locals) : va_CN R s args own index y host bytes maxL ret ws rm mc ms n := by
  refine va_cnB n hts ?_ hw hrc hrs hl (hts _ (List.mem_cons_of_mem _ hi)) hd hR
  intro w h
  have hm : w ∈ sr_G := by
    rw [hw] at h
    rcases List.mem_cons.mp h with h | h
    · rw [h]; exact hc
    · exact h
  exact ⟨List.mem_cons_of_mem _ hm, good_of_word (List.mem_filter.mp hm).2⟩
theorem sr_cnS {R : Room} {s : State} {args : Array Value} {own host : String} {index maxL : Nat} {y : MethodName} {bytes : ByteArray} {ret : Option FieldType} {ws : List Cond} {c0 : Cond} {rm : Room} {mc ms : Nat} (n : Nat) (hts : ∀ w ∈ c0 :: sr_G, w.before args s = true) (hw : ws = Cond.code y bytes maxL ret :: sr_G)
    (hg : ∀ w ∈ ([.static y, .initialized y.cls, .code y bytes maxL ret] : List Cond), w ∈ sr_G) (hl : va_Nw (.methodLinkNest own index y host) s) (hrc : rm.cells = mc) (hrs : rm.slots = ms)
    (hd : y.cls ≠ "java/lang/invoke/MethodHandle" ∧ y.cls ≠ "java/lang/invoke/VarHandle" ∧ (parseMethodDescriptor y.desc).map (fun d => d.parameters.length) = some n) (hR : rm.frames + 1 ≤ R.frames ∧ 8 + (maxL + 11) + rm.locals ≤ R.locals) : va_CN R s args own index y host bytes maxL ret ws rm mc ms n ∧ (Cond.static y).before args s = true ∧ True :=
  ⟨sr_cn n hts hw (hg _ (List.mem_cons_of_mem _ (List.mem_cons_of_mem _ List.mem_cons_self))) (hg _ (List.mem_cons_of_mem _ List.mem_cons_self)) hl hrc hrs hd hR, hts _ (List.mem_cons_of_mem _ (hg _ List.mem_cons_self)), trivial⟩
theorem sr_cnV {R : Room} {s : State} {args : Array Value} {own host C : String} {index maxL : Nat} {y : MethodName} {bytes : ByteArray} {ret : Option FieldType} {ws : List Cond} {c0 : Cond} {rm : Room} {mc ms : Nat} (n : Nat) (hts : ∀ w ∈ c0 :: sr_G, w.before args s = true) (hw : ws = Cond.code y bytes maxL ret :: sr_G)
    (hg : ∀ w ∈ ([.instanceMethod y, .selects C y y, .initialized y.cls, .code y bytes maxL ret] : List Cond), w ∈ sr_G) (hl : va_Nw (.methodLinkNest own index y host) s) (hrc : rm.cells = mc) (hrs : rm.slots = ms)
    (hd : y.cls ≠ "java/lang/invoke/MethodHandle" ∧ y.cls ≠ "java/lang/invoke/VarHandle" ∧ (parseMethodDescriptor y.desc).map (fun d => d.parameters.length) = some n) (hR : rm.frames + 1 ≤ R.frames ∧ 8 + (maxL + 11) + rm.locals ≤ R.locals) : va_CN R s args own index y host bytes maxL ret ws rm mc ms n ∧ (Cond.instanceMethod y).before args s = true ∧ (Cond.selects C y y).before args s = true :=
  ⟨sr_cn n hts hw (hg _ (List.mem_cons_of_mem _ (List.mem_cons_of_mem _ (List.mem_cons_of_mem _ List.mem_cons_self)))) (hg _ (List.mem_cons_of_mem _ (List.mem_cons_of_mem _ List.mem_cons_self))) hl hrc hrs hd hR, hts _ (List.mem_cons_of_mem _ (hg _ List.mem_cons_self)), hts _ (List.mem_cons_of_mem _ (hg _ (List.mem_cons_of_mem _ List.mem_cons_self)))⟩
section PCN
variable {Z : (Nat → Prop) → State → Heap → Prop} {D : va_G} {cl : List vw_C} {tys : List (ClassId × FieldType)}
variable {p : Program} {l : Launch} {e : Env} {R : Room} {s : State} {m : MethodId} {args : Array Value} {below : List Frame} {meth : Method} {c : Code} {H : Heap} {locs : List Loc} {cells slots : Nat} {Q : State → Prop}
variable {cc : ByteArray} {pc : Nat} {ls : Array Slot} {rest st0 : List Value}
variable {y : MethodName} {bytes : ByteArray} {maxL nL n index : Nat} {ret : Option FieldType} {ws : List Cond} {rm : Room} {Ts : List Cond} {own C host : String} {b : Addr} {As : List Value} {wc w0 : va_W}
/-- a reading private method of a nest mate -/
theorem mr_pVN (hZ : okZ Z) (S : CallFix p m c cc nL s args Ts own) {r : Value} (hM : Met l y ws rm (pcR Z D cl tys (.ref b :: As) wc) (k2_QcV r) 0 0 (fun _ => False)) (cw : va_CN R s args own index y host bytes maxL ret ws rm 0 0 n ∧ (Cond.instanceMethod y).before args s = true ∧ (Cond.selects C y y).before args s = true)
    {A : Nat → Prop} (hS : va_S A s.heap H locs) (hP : va_P D cl w0 H) (hK : va_K D cl tys s) (hz : Z A s s.heap) (isC : List Nat) (hC1 : isC.filterMap (fun i => w0[i]?) = wc)
    (hrec : ∃ cellB : Cell, H[b]? = some cellB ∧ cellB.vm.isStatics = false ∧ s.vm.findClass C = some cellB.cls)
    (hst : st0 = As.reverse ++ .ref b :: rest) (hn : As.length = n) (hsize : ls.size = nL) (hW : (rest.map fun v => v.category).sum ≤ 8) (hdg : decode cc pc = .ok (.invokevirtual index, 3)) (hf : cells ≤ R.cells ∧ slots ≤ R.slots)
    (kk : W p l e R s m args below meth c H locs cells slots Q (F0 m (pc + 3) ls (r :: rest))) : W p l e R s m args below meth c H locs cells slots Q (F0 m pc ls st0) := by
  subst hst
  exact W.callV (va_Run.run (va_runVN (g := F0 m pc ls (As.reverse ++ .ref b :: rest)) (rest := rest) S hM cw ⟨pcR_blind hZ, hrec, pcR_at hZ hS hP hK hz isC hC1⟩ rfl hn hsize rfl (lv_room hW) hdg hf)) kk
/-- a reading private static method of a nest mate -/
theorem mr_pSN (hZ : okZ Z) (S : CallFix p m c cc nL s args Ts own) {r : Value} (hM : Met l y ws rm (pcR Z D cl tys As wc) (k2_QcV r) 0 0 (fun _ => False)) (cw : va_CN R s args own index y host bytes maxL ret ws rm 0 0 n ∧ (Cond.static y).before args s = true ∧ True)
    {A : Nat → Prop} (hS : va_S A s.heap H locs) (hP : va_P D cl w0 H) (hK : va_K D cl tys s) (hz : Z A s s.heap) (isC : List Nat) (hC1 : isC.filterMap (fun i => w0[i]?) = wc)
    (hst : st0 = As.reverse ++ rest) (hn : As.length = n) (hsize : ls.size = nL) (hW : (rest.map fun v => v.category).sum ≤ 8) (hdg : decode cc pc = .ok (.invokestatic index, 3)) (hf : cells ≤ R.cells ∧ slots ≤ R.slots)
    (kk : W p l e R s m args below meth c H locs cells slots Q (F0 m (pc + 3) ls (r :: rest))) : W p l e R s m args below meth c H locs cells slots Q (F0 m pc ls st0) := by
  subst hst
  exact W.callV (va_Run.run (va_runSN (g := F0 m pc ls (As.reverse ++ rest)) (rest := rest) S hM cw ⟨pcR_blind hZ, pcR_at hZ hS hP hK hz isC hC1⟩ rfl hn hsize rfl (lv_room hW) hdg hf)) kk
/-- a static method that writes, nothing comes back; the run is given -/
theorem mr_gv {A : Nat → Prop} {U : Type} {wf : U → va_W} {u : U} {a : Array Value} (hr : va_Run p l e R s m args below meth c H locs cells slots 0 0 (F0 m pc ls st0) rest (va_Qv (fun u' => u' = u) (pcB D cl tys wf (va_A wc H.size)) (va_A wc H.size) a) (va_A wc H.size))
    (hS : va_S A s.heap H locs) (hA : ∀ q, s.heap.size ≤ q → A q) (hP : va_P D cl w0 H) (hD : va_D A w0)
    {wr w1 : va_W} (isC isR isP : List Nat) (hC : isC.map (fun i => w0[i]?) = wc.map some) (hR : isR.map (fun i => w0[i]?) = wr.map some) (hnR : va_nd isR = true) (hdis : ∀ i ∈ isR, i ∉ isC)
    (hPm : isP.map (fun i => (wr ++ wf u)[i]?) = w1.map some) (hPm1 : isP.filterMap (fun i => (wr ++ wf u)[i]?) = w1) (hnP : va_nd isP = true)
    (kk : ∀ (H1 : Heap) (locs1 : List Loc), va_P D cl w1 H1 → va_D A w1 → va_S A s.heap H1 locs1 → W p l e R s m args below meth c H1 locs1 cells slots Q (F0 m (pc + 3) ls rest)) : W p l e R s m args below meth c H locs cells slots Q (F0 m pc ls st0) := by
  have hFc := va_free hD hS hA isC hC
  refine va_callv hr hS (fun q _ h => hFc q h) hFc (fun u' t H1 locs1 ht hvm hw hB hz1 hk1 hS1 => ?_)
  obtain rfl := hw
  obtain ⟨hP1, hK1, hD1⟩ := hB
  rw [ht] at hP1
  obtain ⟨hP2, hD2⟩ := va_join hP hD isC isR hC hR hnR hdis hk1 hFc hP1 hD1
  exact kk H1 locs1 (hP2.sub isP hPm1) (hD2.sub isP hnP hPm) hS1
theorem mr_wSv (hZ : okZ Z) (S : CallFix p m c cc nL s args Ts own) {U : Type} {wf : U → va_W} {u : U} (hM : Met l y ws rm (pcW Z D cl tys As wc H.size) (va_Qv (fun u' => u' = u) (pcB D cl tys wf (va_A wc H.size)) (va_A wc H.size)) 0 0 (va_A wc H.size))
    (cw : CallB R s args own index y bytes maxL ret ws rm 0 0 n ∧ (Cond.static y).before args s = true) {A : Nat → Prop} (hS : va_S A s.heap H locs) (hA : ∀ q, s.heap.size ≤ q → A q) (hP : va_P D cl w0 H) (hD : va_D A w0) (hK : va_K D cl tys s) (hz : Z A s s.heap)
    {wr w1 : va_W} (isC isR isP : List Nat) (hC : isC.map (fun i => w0[i]?) = wc.map some) (hC1 : isC.filterMap (fun i => w0[i]?) = wc) (hnC : va_nd isC = true) (hR : isR.map (fun i => w0[i]?) = wr.map some) (hnR : va_nd isR = true) (hdis : ∀ i ∈ isR, i ∉ isC)
    (hPm : isP.map (fun i => (wr ++ wf u)[i]?) = w1.map some) (hPm1 : isP.filterMap (fun i => (wr ++ wf u)[i]?) = w1) (hnP : va_nd isP = true)
    (hst : st0 = As.reverse ++ rest) (hn : As.length = n) (hsize : ls.size = nL) (hW : (rest.map fun v => v.category).sum ≤ 8) (hdg : decode cc pc = .ok (.invokestatic index, 3)) (hf : cells ≤ R.cells ∧ slots ≤ R.slots)
    (kk : ∀ (H1 : Heap) (locs1 : List Loc), va_P D cl w1 H1 → va_D A w1 → va_S A s.heap H1 locs1 → W p l e R s m args below meth c H1 locs1 cells slots Q (F0 m (pc + 3) ls rest)) : W p l e R s m args below meth c H locs cells slots Q (F0 m pc ls st0) := by
  subst hst
  exact mr_gv (va_runS (g := F0 m pc ls (As.reverse ++ rest)) (rest := rest) S hM cw ⟨pcW_blind hZ, pcW_at hZ hS hA hP hD hK hz isC hC hC1 hnC⟩ rfl hn hsize rfl (lv_room hW) hdg hf) hS hA hP hD isC isR isP hC hR hnR hdis hPm hPm1 hnP kk
theorem mr_wSNv (hZ : okZ Z) (S : CallFix p m c cc nL s args Ts own) {U : Type} {wf : U → va_W} {u : U} (hM : Met l y ws rm (pcW Z D cl tys As wc H.size) (va_Qv (fun u' => u' = u) (pcB D cl tys wf (va_A wc H.size)) (va_A wc H.size)) 0 0 (va_A wc H.size))
    (cw : va_CN R s args own index y host bytes maxL ret ws rm 0 0 n ∧ (Cond.static y).before args s = true ∧ True) {A : Nat → Prop} (hS : va_S A s.heap H locs) (hA : ∀ q, s.heap.size ≤ q → A q) (hP : va_P D cl w0 H) (hD : va_D A w0) (hK : va_K D cl tys s) (hz : Z A s s.heap)
    {wr w1 : va_W} (isC isR isP : List Nat) (hC : isC.map (fun i => w0[i]?) = wc.map some) (hC1 : isC.filterMap (fun i => w0[i]?) = wc) (hnC : va_nd isC = true) (hR : isR.map (fun i => w0[i]?) = wr.map some) (hnR : va_nd isR = true) (hdis : ∀ i ∈ isR, i ∉ isC)
    (hPm : isP.map (fun i => (wr ++ wf u)[i]?) = w1.map some) (hPm1 : isP.filterMap (fun i => (wr ++ wf u)[i]?) = w1) (hnP : va_nd isP = true)
    (hst : st0 = As.reverse ++ rest) (hn : As.length = n) (hsize : ls.size = nL) (hW : (rest.map fun v => v.category).sum ≤ 8) (hdg : decode cc pc = .ok (.invokestatic index, 3)) (hf : cells ≤ R.cells ∧ slots ≤ R.slots)
    (kk : ∀ (H1 : Heap) (locs1 : List Loc), va_P D cl w1 H1 → va_D A w1 → va_S A s.heap H1 locs1 → W p l e R s m args below meth c H1 locs1 cells slots Q (F0 m (pc + 3) ls rest)) : W p l e R s m args below meth c H locs cells slots Q (F0 m pc ls st0) := by
  subst hst
  exact mr_gv (va_runSN (g := F0 m pc ls (As.reverse ++ rest)) (rest := rest) S hM cw ⟨pcW_blind hZ, pcW_at hZ hS hA hP hD hK hz isC hC hC1 hnC⟩ rfl hn hsize rfl (lv_room hW) hdg hf) hS hA hP hD isC isR isP hC hR hnR hdis hPm hPm1 hnP kk
end PCN
