-- CATCHING where the tables may be cold: the search through a method's own table, the step to the handler, the call that throws into it
/-- a row of the table that lets an exception of the class k pass -/
def t2_pass (pl : Platform) (s : State) (d : ClassId) (pc : Nat) (k : ClassId) (y : ExceptionTableEntry) : Prop :=
  covers y pc = false ∨ (covers y pc = true ∧ y.catchType ≠ 0 ∧ ∃ c, s.vm.ClassLinks pl d y.catchType c ∧ s.vm.assignable k c = false)
/-- a row that covers the place and names a class: its entry of the pool is looked up, and noted; then it takes the exception, or the search goes on -/
theorem t2_row {e : Env} {S : State} {f : JFrame} {a : Addr} {x : ExceptionTableEntry} {tl : List ExceptionTableEntry} {k : ClassId} {cell : Cell} {QQ : Handler → Pre} {E : CtlPost} {d : Bool} {acts : List Action}
    (hx : covers x f.pc = true) (h0 : x.catchType ≠ 0) (hl : S.vm.ClassLinks e.platform f.method.cls x.catchType k) (hcell : S.heap[a]? = some cell) (hobj : ∀ k, cell.vm ≠ .statics k) (hk : ∃ q, S.vm.classes[cell.cls]? = some q) (hc : ∃ q, S.vm.classes[k]? = some q) :
    wp (findHandler.go f a (x :: tl)) QQ E e d acts S ↔
      (if S.vm.assignable cell.cls k = true then QQ (.found x.handlerPc) d acts (S.setVm (S.vm.noted f.method.cls x.catchType (.cls k))) else wp (findHandler.go f a tl) QQ E e d acts (S.setVm (S.vm.noted f.method.cls x.catchType (.cls k)))) := by
  have hx' : (decide (x.startPc ≤ f.pc) && decide (f.pc < x.endPc)) = true := hx
  have hal : S.vm.Alike (S.vm.noted f.method.cls x.catchType (.cls k)) := (Vm.Alike.refl S.vm).noted _ _ _
  have hop := (resolveClass_links e.toSetting hl).op (op := VmOp.resolveClass f.method.cls x.catchType) rfl
  obtain ⟨q1, e1⟩ := hk
  obtain ⟨q2, e2⟩ := hc
  obtain ⟨q1', e1', -⟩ := hal.2.2 _ _ e1
  obtain ⟨q2', e2', -⟩ := hal.2.2 _ _ e2
  have hf : (S.vm.noted f.method.cls x.catchType (.cls k)).assignable cell.cls k = S.vm.assignable cell.cls k := by rw [hal.assignable]
  by_cases hfit : S.vm.assignable cell.cls k = true
  · rw [if_pos hfit]
    rw [hfit] at hf
    simp [findHandler.go, hx', h0, hop.1, hop.2, hcell, hobj, e1', e2', hf, VmOp.dirties, VmOp.acts]
  · rw [if_neg hfit]
    rw [Bool.not_eq_true] at hfit
    rw [hfit] at hf
    simp [findHandler.go, hx', h0, hop.1, hop.2, hcell, hobj, e1', e2', hf, VmOp.dirties, VmOp.acts]
theorem t2_find {e : Env} {s0 : State} {f : JFrame} {a : Addr} {cell : Cell} (hobj : ∀ k, cell.vm ≠ .statics k) (hk : ∃ q, s0.vm.classes[cell.cls]? = some q) (en : ExceptionTableEntry) (post : List ExceptionTableEntry)
    (hx : covers en f.pc = true) (h0 : en.catchType ≠ 0) {k : ClassId} (hl : s0.vm.ClassLinks e.platform f.method.cls en.catchType k) (hfit : s0.vm.assignable cell.cls k = true) :
    ∀ (pre : List ExceptionTableEntry) (S : State), s0.WarmedH S.vm → S.heap[a]? = some cell → (∀ y ∈ pre, t2_pass e.platform s0 f.method.cls f.pc cell.cls y) →
      ∃ vm', s0.WarmedH vm' ∧ ∀ (QQ : Handler → Pre) (E : CtlPost) (d : Bool) (acts : List Action), wp (findHandler.go f a (pre ++ en :: post)) QQ E e d acts S ↔ QQ (.found en.handlerPc) d acts (S.setVm vm') := by
  have warm : ∀ (S : State) (x : ExceptionTableEntry) (k : ClassId), s0.WarmedH S.vm → s0.vm.ClassLinks e.platform f.method.cls x.catchType k → s0.WarmedH (S.vm.noted f.method.cls x.catchType (.cls k)) ∧ (∃ q, S.vm.classes[k]? = some q) ∧ ∃ q, S.vm.classes[cell.cls]? = some q := by
    intro S x k hW hl
    obtain ⟨dk, _, _, kt, hd, _, _, _, _, hkt, _, hopen⟩ := hl.here
    obtain ⟨q, hq⟩ := hk
    obtain ⟨q', hq', -⟩ := hW.alike.2.2 _ _ hq
    obtain ⟨kt', hkt', -⟩ := hW.alike.2.2 _ _ hkt
    exact ⟨hW.noted hd hopen (State.rightAt_cls hl), ⟨kt', hkt'⟩, q', hq'⟩
  intro pre
  induction pre with
  | nil =>
    intro S hW hcell _
    obtain ⟨w1, w2, w3⟩ := warm S en k hW hl
    refine ⟨_, w1, fun QQ E d acts => ?_⟩
    rw [List.nil_append, t2_row hx h0 (hW.classLinks hl) hcell hobj w3 w2, if_pos (by rw [hW.alike.assignable]; exact hfit)]
  | cons y ys ih =>
    intro S hW hcell hp
    have hys : ∀ z ∈ ys, t2_pass e.platform s0 f.method.cls f.pc cell.cls z := fun z hz => hp z (List.mem_cons_of_mem _ hz)
    rcases hp y List.mem_cons_self with hno | ⟨hcov, h0', k', hl', hno⟩
    · obtain ⟨vm', g1, g2⟩ := ih S hW hcell hys
      refine ⟨vm', g1, fun QQ E d acts => ?_⟩
      rw [List.cons_append, Jvm.W.findHandler_go_skip hno]
      exact g2 QQ E d acts
    · obtain ⟨w1, w2, w3⟩ := warm S y k' hW hl'
      obtain ⟨vm', g1, g2⟩ := ih (S.setVm (S.vm.noted f.method.cls y.catchType (.cls k'))) w1 hcell hys
      refine ⟨vm', g1, fun QQ E d acts => ?_⟩
      rw [List.cons_append, t2_row hcov h0' (hW.classLinks hl') hcell hobj w3 w2, if_neg (by rw [hW.alike.assignable, hno]; exact Bool.false_ne_true)]
      exact g2 QQ E d acts
/-- the step into a handler, the tables noted on the way -/
theorem t2_stepCatch {e : Env} {s : State} {a : Addr} {f : JFrame} {r : List Frame} {pc : Nat} {vm' : Vm} (hfind : ∀ (QQ : Handler → Pre) (E : CtlPost) (d : Bool) (acts : List Action), wp (findHandler f a) QQ E e d acts s ↔ QQ (.found pc) d acts (s.setVm vm')) :
    (stepThrowing e s a (.java f :: r)).Is ((s.setVm vm').setFrames (.java { f with pc := pc, stack := [.ref a] } :: r)) [] := by
  simp only [stepThrowing, searchFrame, vmDo]
  generalize hr : Sem.go _ e false [] s = res
  obtain ⟨as, rfl, ha⟩ := Sem.eq_ok_of hr (a := Handler.found pc) (s' := s.setVm vm') (acts' := []) (by simp [hfind])
  exact ⟨rfl, ha⟩
theorem t2_caught {tb : Tables} {e : Env} {s target : State} {g : JFrame} {c : Code} {below : List Frame} {a : Addr} (h : At s g.method c below) {pc : Nat} {vm' : Vm}
    (hfind : ∀ (QQ : Handler → Pre) (E : CtlPost) (d : Bool) (acts : List Action), wp (findHandler g a) QQ E e d acts ((s.setTop g).pushFrame (.throwing a)) ↔ QQ (.found pc) d acts (((s.setTop g).pushFrame (.throwing a)).setVm vm'))
    (hrest : Steps tb e below ((s.setVm vm').setTop { g with pc := pc, stack := [.ref a] }) target) : Steps tb e below ((s.setTop g).pushFrame (.throwing a)) target := by
  obtain ⟨hgo, hw⟩ := h.throwing a
  refine Steps.head hgo hw ?_
  rw [stepThread_throwing (frames_entered h.top _), (t2_stepCatch (s := (s.setTop g).pushFrame (.throwing a)) hfind).1]
  obtain ⟨g₀, hg⟩ := Option.isSome_iff_exists.mp h.top
  obtain ⟨r, hr⟩ := State.topJava?_eq_some.mp hg
  have hr' : (s.setVm vm').frames = .java g₀ :: r := hr
  rw [State.setTop_of_frames _ hr'] at hrest
  have key : ∀ (F G : List Frame), ((s.setFrames F).setVm vm').setFrames G = (s.setVm vm').setFrames G := fun F G => by
    show ((s.setVm vm').setFrames F).setFrames G = _
    rw [State.setFrames_setFrames]
  rw [State.pushFrame, State.setTop_of_frames _ hr, State.setFrames_setFrames, key, hr]
  exact hrest
section T2C
variable {p : Program} {l : Launch} {e : Env} {R : Room} {s : State} {m : MethodId} {args : Array Value} {below : List Frame} {meth : Method} {c : Code} {H : Heap} {locs : List Loc} {cells slots : Nat} {Q : State → Prop}
variable {cc : ByteArray} {pc : Nat} {ls : Array Slot} {rest : List Value}
variable {y : MethodName} {bytes : ByteArray} {maxL nL mc ms n index : Nat} {ret : Option FieldType} {ws : List Cond} {rm : Room} {Pc : Array Value → State → Prop} {free : Addr → Prop} {Ts : List Cond} {own C : String} {b : Addr} {As : List Value}
/-- a callee throws X, the caller's own table takes it -/
theorem t2_catchV (S : CallFix p m c cc nL s args Ts own) {U V : Type} {rv : V → Option Value} {B : U → State → Prop} {A0 A1 : Nat → Prop} {X : String} {u : U}
    (hM : t2_Met l y ws rm Pc (t2_Q rv B A1 X (.error u)) mc ms free) (cw : CallW R s args own C index y bytes maxL ret ws rm mc ms n) (hp : PreV s H C b Pc As)
    (hn : As.length = n) (hsize : ls.size = nL) (hW : (rest.map fun v => v.category).sum ≤ 8) (hdg : decode cc pc = .ok (.invokevirtual index, 3)) (hf : cells + mc ≤ R.cells ∧ slots + ms ≤ R.slots)
    (pre : List ExceptionTableEntry) (en : ExceptionTableEntry) (post : List ExceptionTableEntry) (hsplit : c.exceptionTable.toList = pre ++ en :: post) (hcov : covers en pc = true) (h0 : en.catchType ≠ 0)
    (hlink : (Cond.classLink own en.catchType X).before args s = true) (hself : (Cond.castable X X).before args s = true)
    (hpass : ∀ y ∈ pre, covers y pc = false ∨ (covers y pc = true ∧ y.catchType ≠ 0 ∧ ∃ X', (Cond.classLink own y.catchType X').before args s = true ∧ ∀ k k', s.vm.findClass X = some k → s.vm.findClass X' = some k' → s.vm.assignable k k' = false))
    (hS : va_S A0 s.heap H locs) (hA : ∀ q, q < H.size → A1 q → A0 q) (hfr : ∀ q, free q → A0 q)
    (kk : ∀ (x : Addr) (t : State) (H1 : Heap) (locs1 : List Loc), t.heap = H1 → s.vm.Alike t.vm → B u t → H.size ≤ H1.size → (∀ q : Nat, q < H.size → ¬ A1 q → H1[q]? = H[q]?) → va_S A0 s.heap H1 locs1 →
      W p l e R s m args below meth c H1 locs1 (cells + mc) (slots + ms) Q (F0 m en.handlerPc ls [.ref x])) :
    W p l e R s m args below meth c H locs cells slots Q (F0 m pc ls (As.reverse ++ .ref b :: rest)) := by
  intro T hT X0
  obtain ⟨x, st₀, t, T', L, h0', hW0, X', hL, e1, e2, hq, hgo⟩ := tt_runV (g := F0 m pc ls (As.reverse ++ .ref b :: rest)) (rest := rest) S (t2_err hM) cw hp rfl hn hsize rfl (by simpa [JFrame.monitorRoom] using hW) hdg hf hT X0
  obtain ⟨⟨⟨x', ce, hxe, hxs, hce, hfc, hvm⟩, hB⟩, hz, hk⟩ := hq
  cases hxe
  rw [h0'] at hz hk hxs
  obtain ⟨hx, hb, hml, ho, -⟩ := S
  have hpl : e.platform.magicAccessors = ({} : Platform).magicAccessors := by rw [X'.admits.platform]
  have hcl : s.vm.findClass X = some ce.cls := (hW0.alike.findClass X _).symm.trans hfc
  obtain ⟨k1, k2, q1, q2, q3⟩ := Cond.castable_spec hself
  cases hcl.symm.trans q1
  cases q1.symm.trans q2
  obtain ⟨kl, w1, w2⟩ := Cond.classLink_spec ho hlink e.platform hpl
  cases w1.symm.trans hcl
  have hkc : ∃ q, s.vm.classes[ce.cls]? = some q := by
    obtain ⟨dk, _, _, kt, hd, _, _, _, _, hkt, _⟩ := w2.here
    exact ⟨kt, hkt⟩
  have hobj : ∀ k, ce.vm ≠ .statics k := fun k h => by rw [hvm] at h; cases h
  have hpass' : ∀ y ∈ pre, t2_pass e.platform s (F0 m pc ls rest).method.cls (F0 m pc ls rest).pc ce.cls y := by
    intro y hy
    rcases hpass y hy with h | ⟨h1, h2, X', h3, h4⟩
    · exact Or.inl h
    · obtain ⟨k', z1, z2⟩ := Cond.classLink_spec ho h3 e.platform hpl
      exact Or.inr ⟨h1, h2, k', z2, h4 _ _ hcl z1⟩
  obtain ⟨vm', hWv, hfind⟩ := t2_find (e := e) (s0 := s) (f := F0 m pc ls rest) (a := x) (cell := ce) hobj hkc en post hcov h0 (k := ce.cls) w2 q3 pre ((T'.setTop (F0 m pc ls rest)).pushFrame (.throwing x))
    (by rw [Stand.throwing_vm]; exact X'.warmed) (by rw [Stand.throwing_heap, e1]; exact hce) hpass'
  obtain ⟨t2, a1, b1⟩ := kk x t T'.heap (locs ++ L) e1.symm (by rw [← e2]; exact X'.warmed.alike) hB (by rw [e1]; exact hz) (fun q h1 h2 => by rw [e1]; exact hk q h1 h2)
    ⟨Nat.le_trans hS.1 (by rw [e1]; exact hz), fun q h1 h2 => by rw [e1, hk q (Nat.lt_of_lt_of_le h1 hS.1) (fun z => h2 (hA q (Nat.lt_of_lt_of_le h1 hS.1) z))]; exact hS.2.1 q h1 h2, fun q hq => by
      rcases List.mem_append.mp hq with h | h
      · exact hS.2.2 q h
      · exact hfr _ (hL q h)⟩ (T'.setVm vm') rfl (X'.noted hWv)
  refine ⟨t2, hgo _ (t2_caught (g := F0 m pc ls rest) (pc := en.handlerPc) (vm' := vm') X'.here (fun QQ E d acts => ?_) a1), b1⟩
  rw [Jvm.W.findHandler_eq (meth := meth) (code := c) (by rw [Stand.throwing_vm]; exact X'.method') X'.code, hsplit]
  exact hfind QQ E d acts
end T2C
