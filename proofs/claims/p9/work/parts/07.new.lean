-- NEW CELLS: an array whose class is known, a constructor's call
theorem sr_RA {U : State} {cA cB : ClassId} {ty : FieldType} (hp : ∀ C, ty ≠ .object C) (h1 : va_RA U cA ty) (h2 : va_RA U cB ty) : cA = cB := by
  cases ty with
  | object C => exact absurd rfl (hp C)
  | _ => exact Option.some.inj (Eq.trans (Eq.symm (show U.vm.findClass _ = some cA from h1)) (show U.vm.findClass _ = some cB from h2))
section SRN
variable {D : va_G} {cl : List vw_C} {tys : List (ClassId × FieldType)}
variable {p : Program} {l : Launch} {e : Env} {R : Room} {s : State} {m : MethodId} {args : Array Value} {below : List Frame} {meth : Method} {c : Code} {H H0 : Heap} {locs : List Loc} {cells slots : Nat} {Q : State → Prop}
variable {cc : ByteArray} {pc : Nat} {ls : Array Slot} {rest st0 : List Value} {A : Nat → Prop} {ws : va_W}
theorem mr_newa (hexec : p.tables.exec = Jvm.exec) (hb : c.code = cc) {atype : ArrayType} (harr : (Cond.arrayClass (newarray.typeOf atype)).before args s = true) {ty : FieldType} (hty : newarray.typeOf atype = ty) (hprim : ∀ C, ty ≠ .object C) (hK : va_K D cl tys s) (hP : va_P D cl ws H) (hD : va_D A ws) (hS : va_S A H0 H locs) (hA : ∀ q, H0.size ≤ q → A q)
    {n : Int32} {N' : Nat} {a0 : vp_A} (ha : ∀ cA : ClassId, vp_cell cA a0 = arrV cA N' (fun _ => defaultValue ty)) (hn : ¬ n < 0) (hN : n.toNatClampNeg = N') (hbytes : N' * componentBytes ty ≤ 536870912) (hcells : cells + 1 ≤ R.cells) (hslots : slots + N' ≤ R.slots) (hdg : decode cc pc = .ok (.newarray atype, 2)) (t0 : Nat) {cA : ClassId} (ht : tys[t0]? = some (cA, ty))
    (kk : ∀ (q : Nat) (H1 : Heap), va_P D cl (ws ++ [(q, .inl (cA, a0))]) H1 → va_D A (ws ++ [(q, .inl (cA, a0))]) → va_S A H0 H1 locs → W p l e R s m args below meth c H1 locs (cells + 1) (slots + N') Q (F0 m (pc + 2) ls (.ref q :: rest))) : W p l e R s m args below meth c H locs cells slots Q (F0 m pc ls (.int n :: rest)) := by
  refine va_newa hexec hb harr hty hK hP hD hS hA ha hn hN hbytes hcells hslots hdg (fun q cA' H1 hK' hP' hD' hS' => ?_)
  have e : cA' = cA := sr_RA hprim (hK'.2 tys.length (cA', ty) (by simp)).2 (hK.2 t0 _ ht).2
  subst e
  exact kk q H1 hP' hD' hS'
variable {mc ms c1 s1 : Nat} {wc w0 wr : va_W} {U : Type} {wf : U → va_W} {a : Array Value}
/-- behind a constructor: its new cells, whatever their addresses -/
theorem mr_iv (hr : va_Run p l e R s m args below meth c H locs cells slots mc ms (F0 m pc ls st0) rest (va_Qv (fun _ => True) (pcB D cl tys wf (va_A wc H.size)) (va_A wc H.size) a) (va_A wc H.size))
    (hS : va_S A s.heap H locs) (hA : ∀ q, s.heap.size ≤ q → A q) (hP : va_P D cl w0 H) (hD : va_D A w0)
    (isC isR : List Nat) (hC : isC.map (fun i => w0[i]?) = wc.map some) (hR : isR.map (fun i => w0[i]?) = wr.map some) (hnR : va_nd isR = true) (hdis : ∀ i ∈ isR, i ∉ isC) (hc1 : cells + mc = c1) (hs1 : slots + ms = s1)
    (kk : ∀ (u : U) (H1 : Heap) (locs1 : List Loc), va_P D cl (wr ++ wf u) H1 → va_D A (wr ++ wf u) → va_S A s.heap H1 locs1 → W p l e R s m args below meth c H1 locs1 c1 s1 Q (F0 m (pc + 3) ls rest)) : W p l e R s m args below meth c H locs cells slots Q (F0 m pc ls st0) := by
  subst hc1; subst hs1
  have hFc := va_free hD hS hA isC hC
  refine va_callv hr hS (fun q _ h => hFc q h) hFc (fun u t H1 locs1 ht hvm hw hB hz1 hk1 hS1 => ?_)
  obtain ⟨hP1, hK1, hD1⟩ := hB
  rw [ht] at hP1
  obtain ⟨hP2, hD2⟩ := va_join hP hD isC isR hC hR hnR hdis hk1 hFc hP1 hD1
  exact kk u H1 locs1 hP2 hD2 hS1
end SRN
theorem sr_cwI {R : Room} {s : State} {args : Array Value} {own : String} {index maxL : Nat} {y : MethodName} {bytes : ByteArray} {ws : List Cond} {c0 : Cond} {rm : Room} {mc ms : Nat} (n : Nat) (hts : ∀ w ∈ c0 :: sr_G, w.before args s = true) (hw : ws = Cond.code y bytes maxL none :: sr_G)
    (hg : ∀ w ∈ ([.instanceMethod y, .initialized y.cls, .code y bytes maxL none, .methodLink own index y] : List Cond), w ∈ sr_G) (hrc : rm.cells = mc) (hrs : rm.slots = ms) (hy1 : y.name = "<init>")
    (hd : y.cls ≠ "java/lang/invoke/MethodHandle" ∧ y.cls ≠ "java/lang/invoke/VarHandle" ∧ (parseMethodDescriptor y.desc).map (fun d => d.parameters.length) = some n) (hR : rm.frames + 1 ≤ R.frames ∧ 8 + (maxL + 11) + rm.locals ≤ R.locals) : CallB R s args own index y bytes maxL none ws rm mc ms n ∧ y.name = "<init>" ∧ (Cond.instanceMethod y).before args s = true := by
  have hG : GoodIn (c0 :: sr_G) ws := by
    intro w h
    have hm : w ∈ sr_G := by
      rw [hw] at h
      rcases List.mem_cons.mp h with h | h
      · rw [h]; exact hg _ (List.mem_cons_of_mem _ (List.mem_cons_of_mem _ List.mem_cons_self))
      · exact h
    exact ⟨List.mem_cons_of_mem _ hm, good_of_word (List.mem_filter.mp hm).2⟩
  exact cwI n hts hG hw hrc hrs (hts _ (List.mem_cons_of_mem _ (hg _ (List.mem_cons_of_mem _ List.mem_cons_self)))) (hts _ (List.mem_cons_of_mem _ (hg _ (List.mem_cons_of_mem _ (List.mem_cons_of_mem _ (List.mem_cons_of_mem _ List.mem_cons_self)))))) (hts _ (List.mem_cons_of_mem _ (hg _ List.mem_cons_self))) hy1 hd hR
theorem sr_cnI {R : Room} {s : State} {args : Array Value} {own host : String} {index maxL : Nat} {y : MethodName} {bytes : ByteArray} {ws : List Cond} {c0 : Cond} {rm : Room} {mc ms : Nat} (n : Nat) (hts : ∀ w ∈ c0 :: sr_G, w.before args s = true) (hw : ws = Cond.code y bytes maxL none :: sr_G)
    (hg : ∀ w ∈ ([.instanceMethod y, .initialized y.cls, .code y bytes maxL none] : List Cond), w ∈ sr_G) (hl : va_Nw (.methodLinkNest own index y host) s) (hrc : rm.cells = mc) (hrs : rm.slots = ms) (hy1 : y.name = "<init>")
    (hd : y.cls ≠ "java/lang/invoke/MethodHandle" ∧ y.cls ≠ "java/lang/invoke/VarHandle" ∧ (parseMethodDescriptor y.desc).map (fun d => d.parameters.length) = some n) (hR : rm.frames + 1 ≤ R.frames ∧ 8 + (maxL + 11) + rm.locals ≤ R.locals) : va_CN R s args own index y host bytes maxL none ws rm mc ms n ∧ y.name = "<init>" ∧ (Cond.instanceMethod y).before args s = true :=
  ⟨sr_cn n hts hw (hg _ (List.mem_cons_of_mem _ (List.mem_cons_of_mem _ List.mem_cons_self))) (hg _ (List.mem_cons_of_mem _ List.mem_cons_self)) hl hrc hrs hd hR, hy1, hts _ (List.mem_cons_of_mem _ (hg _ List.mem_cons_self))⟩
section SRQ
variable {D : va_G} {cl : List vw_C} {tys : List (ClassId × FieldType)}
variable {p : Program} {l : Launch} {e : Env} {R : Room} {s : State} {m : MethodId} {args : Array Value} {below : List Frame} {meth : Method} {c : Code} {H H0 : Heap} {locs : List Loc} {cells slots : Nat} {Q : State → Prop}
variable {cc : ByteArray} {pc : Nat} {ls : Array Slot} {rest : List Value} {A : Nat → Prop} {ws : va_W}
theorem mr_newq (hexec : p.tables.exec = Jvm.exec) (hb : c.code = cc) {own C : String} {index : Nat} (hown : s.vm.findClass own = some m.cls) (hclink : (Cond.classLink own index C).before args s = true) (hover : va_AO C s) (hK : va_K D cl tys s) (hP : va_P D cl ws H) (hD : va_D A ws) (hS : va_S A H0 H locs) (hA : ∀ q, H0.size ≤ q → A q)
    {n : Int32} {N' : Nat} (hn : ¬ n < 0) (hN : n.toNatClampNeg = N') (hbytes : N' * 4 ≤ 536870912) (hcells : cells + 1 ≤ R.cells) (hslots : slots + N' ≤ R.slots) (hdg : decode cc pc = .ok (.anewarray index, 3)) {t0 : Nat} {cQ : ClassId} (ht : tys[t0]? = some (cQ, .object C))
    (kk : ∀ (q : Nat) (H1 : Heap), va_P D cl (ws ++ [(q, .inl (cQ, N', .inr (.inr (.inr (.inr (fun _ => none))))))]) H1 → va_D A (ws ++ [(q, .inl (cQ, N', .inr (.inr (.inr (.inr (fun _ => none))))))]) → va_S A H0 H1 locs → W p l e R s m args below meth c H1 locs (cells + 1) (slots + N') Q (F0 m (pc + 3) ls (.ref q :: rest))) : W p l e R s m args below meth c H locs cells slots Q (F0 m pc ls (.int n :: rest)) := by
  refine va_newq hexec hb hown hclink hover hK hP hD hS hA hn hN hbytes hcells hslots hdg (fun q cA' H1 hK' hP' hD' hS' => ?_)
  have e : cA' = cQ := by
    obtain ⟨_, _, _, _, _, h1⟩ := (hK'.2 tys.length (cA', .object C) (by simp)).2
    obtain ⟨_, _, _, _, _, h2⟩ := (hK.2 t0 _ ht).2
    exact Option.some.inj (h1.symm.trans h2)
  subst e
  exact kk q H1 hP' hD' hS'
end SRQ
