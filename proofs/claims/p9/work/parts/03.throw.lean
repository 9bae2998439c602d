-- THROWING METHODS: a contract for a method that throws (tt_Met), the end of a walk by a throw, a call that throws
def tt_FE (first : State) (o : Outcome) (t : State) (L : List Loc) (k n : Nat) : Prop :=
  (∃ x, o = .threw x) ∧ first.WarmedH t.vm ∧ first.sameButNew ({ t with vm := first.vm } : State) L k n
def tt_Met (l : Launch) (y : MethodName) (ws : List Cond) (rm : Room) (Pc : Array Value → State → Prop) (Qc : Array Value → State → Outcome → State → Prop) (mc ms : Nat) (free : Addr → Prop) : Prop :=
  MetFree l y (headSpec ws rm) Pc (fun _ _ _ _ _ => True) (fun a st o t => Qc a st o t ∧ ∃ L, tt_FE st o t L mc ms ∧ ∀ q ∈ L, free q.base)
def tt_MQ (below : List Frame) (Qc : Array Value → State → Outcome → State → Prop) (a : Array Value) (s : State) (mc ms : Nat) (free : Addr → Prop) : State → Prop := fun t =>
  ∃ o, t.status = .running ∧ Ended t below o ∧ Qc a s o t ∧ ∃ L, tt_FE s o t L mc ms ∧ ∀ q ∈ L, free q.base
theorem tt_ofW {l : Launch} {y : MethodName} {ws ws' : List Cond} {rm : Room} {Pc : Array Value → State → Prop} {Qc : Array Value → State → Outcome → State → Prop} {mc ms : Nat} {free : Addr → Prop} {cc : ByteArray} {maxL : Nat} {ret : Option FieldType}
    (hy : plainName y.cls = true) (hw : ws = Cond.code y cc maxL ret :: ws')
    (body : ∀ p e s m args below meth c s₁, BodyLoose p l y (headSpec ws rm) cc maxL ret e s m args below meth c s₁ → c.maxLocals = maxL → c.exceptionTable.isEmpty = true → l.admits e → Pc args s →
      W p l e (headSpec ws rm).room s m args below meth c s.heap [] 0 0 (tt_MQ below Qc args s mc ms free) (entryFrame m args maxL)) : tt_Met l y ws rm Pc Qc mc ms free := by
  refine MetFree.of_bodyS (code := cc) (maxLocals := maxL) (ret := ret) hy ?_ ?_
  · intro args s m h hn
    obtain ⟨meth, c, h1, h2, h3, h4, h5, h6, -, -⟩ := Cond.code_spec hn (atoms_spec (ws := ws) h _ (by rw [hw]; exact List.mem_cons_self))
    exact ⟨meth, c, h1, h2, h3, h4, h5, h6⟩
  · intro p e s m args below meth c s₁ B hml hP _
    have hh0 : s₁.heap = s.heap := by rw [B.state]; rfl
    have hX := Stand.of_body B
    have hex : c.exceptionTable.isEmpty = true := B.noHandlers (atoms_spec (ws := ws) B.pre _ (by rw [hw]; exact List.mem_cons_self))
    obtain ⟨t, a1, o, b1, b2, b3⟩ := body p e s m args below meth c s₁ B hml hex hX.admits hP s₁ hh0 hX
    exact ⟨t, o, a1, b1, b2, ⟨b3.1, b3.2⟩⟩
theorem tt_same {s t : State} {k n : Nat} (h : s.sameButNew t [] k n) : ∀ q : Nat, q < s.heap.size → t.heap[q]? = s.heap[q]? := by
  intro q hq
  obtain ⟨-, -, -, -, -, h6⟩ := h
  have hc : s.heap[q]? = some s.heap[q] := Array.getElem?_eq_getElem hq
  obtain ⟨c', e1, e2, e3, e4⟩ := h6 q _ hc
  rw [e1, hc]
  have hs : c'.slots = (s.heap[q]).slots := Array.ext_getElem? (fun i => e4 i (by simp))
  rw [e2, hs]
/-- what a throw leaves: a new object of the class X, thrown; nothing old has changed -/
def tt_Q (X : String) : Array Value → State → Outcome → State → Prop := fun _ st o t =>
  ∃ (x : Nat) (ce : Cell), o = .threw x ∧ st.heap.size ≤ x ∧ t.heap[x]? = some ce ∧ st.vm.findClass X = some ce.cls ∧ ce.vm = .none ∧ st.heap.size ≤ t.heap.size ∧ ∀ q : Nat, q < st.heap.size → t.heap[q]? = st.heap[q]?
section TTW
variable {p : Program} {l : Launch} {e : Env} {R : Room} {s : State} {m : MethodId} {args : Array Value} {below : List Frame} {meth : Method} {c : Code} {H : Heap} {locs : List Loc} {cells slots : Nat} {Q : State → Prop}
variable {cc : ByteArray} {pc : Nat} {ls : Array Slot} {rest : List Value}
/-- 'throw new X(text)': new, dup, ldc, invokespecial, athrow; nothing old has been written before -/
theorem tt_throw (hx : p.tables.exec = Jvm.exec) (hb : c.code = cc) (htr : l.stackTraces = false) {own X tx : String} {up : List String} {ia ib ic q : Nat}
    (hown : s.vm.findClass own = some m.cls) (hcl : (Cond.classLink own ia X).before args s = true) (hins : (Cond.instantiable X 6).before args s = true) (hini : (Cond.initialized X).before args s = true)
    (hat : ∀ a ∈ Bundle.ownAtoms own ic X up, a.before args s = true) (hfX : Bundle.fit X = true) (hfu : ∀ n ∈ up, Bundle.fit n = true) (hZ : vk_R own ib tx q s)
    (hex : c.exceptionTable.isEmpty = true) (hlocks : meth.locks = false) (hml : c.maxLocals = ls.size) (hsz : s.heap.size ≤ H.size)
    (hd0 : decode cc pc = .ok (.new ia, 3)) (hd3 : decode cc (pc + 3) = .ok (.dup, 1)) (hd4 : decode cc (pc + 4) = .ok (.ldc ib, 2)) (hd6 : decode cc (pc + 6) = .ok (.invokespecial ic, 3)) (hd9 : decode cc (pc + 9) = .ok (.athrow, 1))
    (hc1 : cells + 1 ≤ R.cells) (hs1 : slots + 6 ≤ R.slots) (hf : up.length + 3 < R.frames) (hlo : 1 + (rest.map fun v => v.category).sum + (13 * (up.length + 1) + 42) ≤ R.locals) {free : Addr → Prop} :
    W p l e R s m args below meth c H [] cells slots (tt_MQ below (tt_Q X) args s (cells + 1) (slots + 6) free) (F0 m pc ls rest) := by
  refine W.newc hx hb hown hcl hins hini (g := F0 m pc ls rest) rfl hd0 hc1 hs1 (fun cC kC hfc hkC hord hn => ?_)
  refine lv_dup (va := .ref H.size) hx hb hd3 rfl ?_
  refine va_ldcS hx hb hown hZ hd4 ?_
  intro T hT X1
  have htr' : e.platform.stackTraces = false := by rw [X1.admits.platform]; exact htr
  obtain ⟨U, hsteps, hrun, hend, hW, hsame, ce, hce, K⟩ := X1.ctorThrowS hx htr' (own := own) (cls := X) (names := up) (ic := ic) hown hfX hfu hat (fun y hy => by cases hy) (a := H.size) hfc hkC (by rw [hT]; simp [freshCell]) hsz (msg := .ref q) rfl
    (g := F0 m (pc + 3 + 1 + 2) ls (.ref q :: .ref H.size :: .ref H.size :: rest)) rfl hml.symm rfl rfl (rest := rest) rfl (by rw [hb]; exact hd6) (by rw [hb]; exact hd9) (covers_of_empty hex _) hf (by simpa [JFrame.monitorRoom, Value.category] using hlo) hlocks
  refine ⟨U, hsteps, .threw H.size, hrun, hend, ?_, [], ⟨⟨_, rfl⟩, hW, hsame⟩, fun q h => by cases h⟩
  have hk : ∀ q : Nat, q < s.heap.size → U.heap[q]? = s.heap[q]? := tt_same (t := { U with vm := s.vm }) hsame
  exact ⟨H.size, ce, rfl, hsz, hce, K.cls, K.vm, hsame.2.1, hk⟩
/-- a call of a throwing method, from a frame whose arguments are popped -/
theorem tt_run {T : State} (X : Stand p l e R s m args below meth c T locs cells slots) {y : MethodName} {ws : List Cond} {rm : Room} {Pc : Array Value → State → Prop} {Qc : Array Value → State → Outcome → State → Prop} {mc ms : Nat} {free : Addr → Prop}
    (hM : tt_Met l y ws rm Pc Qc mc ms free) {bytes : ByteArray} {maxL : Nat} {ret : Option FieldType} (hframes : rm.frames + 1 ≤ R.frames) (hlocals : 8 + (maxL + 11) + rm.locals ≤ R.locals) (hrc : rm.cells = mc) (hrs : rm.slots = ms)
    {a : Array Value} (hws : ∀ w ∈ ws, w.before a T = true) (hcode : (Cond.code y bytes maxL ret).before a T = true) (hini : (Cond.initialized y.cls).before a T = true) (hc : cells + mc ≤ R.cells) (hs : slots + ms ≤ R.slots)
    {g : JFrame} (hg : g.method = m) (hsize : g.locals.size = c.maxLocals) {ig : Instr} {len : Nat} (hdg : decode c.code g.pc = .ok (ig, len)) (hW : 2 * g.monitorRoom + (g.stack.map fun v => v.category).sum ≤ 8) {mk : MethodId} (hn : T.methodNamed? y = some mk) (hP : Pc a (T.calling g mk a)) :
    ∃ (x : Addr) (t T' : State) (L : List Loc), Stand p l e R s m args below meth c T' (locs ++ L) (cells + mc) (slots + ms) ∧ (∀ q ∈ L, free q.base) ∧ T'.heap = t.heap ∧ T'.vm = t.vm ∧ Qc a (T.calling g mk a) (.threw x) t ∧
      Steps p.tables e below (doInvoke e (T.setTop g) [] mk a).1 ((T'.setTop g).pushFrame (.throwing x)) := by
  subst hg
  obtain ⟨methY, cY, hmY, hcY, -, hlY, -⟩ := Cond.code_spec hn hcode
  obtain ⟨kY, hkY, -⟩ := className_of_methodNamed hn
  have hinitY : kY.init = .initialized := Cond.initialized_spec (findClass_of_methodNamed hn) hkY hini
  have h : At T g.method c below := X.here
  have happ : (headSpec ws rm).appliesLoose y e.platform (T.calling g mk a) = true :=
    Spec.appliesLoose_calling (g := g) h hdg hn hkY hinitY
      (X.room_calling (g := g) (R' := (headSpec ws rm).room) hsize hmY hcY hframes (by rw [hlY]; show _ + rm.locals ≤ _; omega) (by show _ + rm.cells ≤ _; rw [hrc]; exact hc) (by show _ + rm.slots ≤ _; rw [hrs]; exact hs)) (atoms_intro hws)
  obtain ⟨mid, hmid⟩ := h.above
  have hfr : (T.setTop g).frames = (.java g :: mid) ++ below := by rw [State.frames_setTop' g h.top, hmid]; rfl
  obtain ⟨o, s₂, hsteps, -, hend, hq, L, hF, hL⟩ := Steps.callFree hM p X.admits X.cas X.clock (acts := []) hfr happ hP trivial
  rw [State.frames_setTop' g h.top, X.tail] at hend
  obtain ⟨⟨x, rfl⟩, hW₂, hsame⟩ := hF
  obtain ⟨T', X', -, -, ht⟩ := X.outOfThrown (g := g) rfl (mk := mk) (a := a) hend hW₂ hsame
  refine ⟨x, s₂, T', L, X', hL, ?_, ?_, hq, ?_⟩
  · rw [ht, Stand.throwing_heap]
  · rw [ht, Stand.throwing_vm]
  · rw [← ht]; exact hsteps
variable {y : MethodName} {bytes : ByteArray} {maxL nL mc ms n index : Nat} {ret : Option FieldType} {ws : List Cond} {rm : Room} {Pc : Array Value → State → Prop} {Qc : Array Value → State → Outcome → State → Prop} {free : Addr → Prop} {Ts : List Cond} {own C : String} {b : Addr} {As : List Value} {g : JFrame}
/-- invokevirtual of a method that throws: the note '.throwing' lies over the caller's frame -/
theorem tt_runV (S : CallFix p m c cc nL s args Ts own) (hM : tt_Met l y ws rm Pc Qc mc ms free) (cw : CallW R s args own C index y bytes maxL ret ws rm mc ms n) (hp : PreV s H C b Pc As)
    (hg : g.method = m) (hn : As.length = n) (hsize : g.locals.size = nL) (hstack : g.stack = As.reverse ++ .ref b :: rest) (hW : 2 * g.monitorRoom + (rest.map fun v => v.category).sum ≤ 8) (hdg : decode cc g.pc = .ok (.invokevirtual index, 3)) (hf : cells + mc ≤ R.cells ∧ slots + ms ≤ R.slots)
    {T : State} (hT : T.heap = H) (X : Stand p l e R s m args below meth c T locs cells slots) :
    ∃ (x : Addr) (st₀ t T' : State) (L : List Loc), st₀.heap = H ∧ s.WarmedH st₀.vm ∧ Stand p l e R s m args below meth c T' (locs ++ L) (cells + mc) (slots + ms) ∧ (∀ q ∈ L, free q.base) ∧ T'.heap = t.heap ∧ T'.vm = t.vm ∧ Qc (Value.ref b :: As).toArray st₀ (.threw x) t ∧
      ∀ target, Steps p.tables e below ((T'.setTop { g with stack := rest }).pushFrame (.throwing x)) target → Steps p.tables e below (T.setTop g) target := by
  obtain ⟨⟨hrc, hrs, hfr, hlo, hws, -, hcode, hini, hy, hlen, hl⟩, hinst, hsel⟩ := cw
  obtain ⟨hx, hb, hml, ho, -⟩ := S
  obtain ⟨hbl, ⟨cellB, hcB, hoB, hclB⟩, hPc⟩ := hp
  obtain ⟨mk, methM, hnamed, hmethM, hstM, habM⟩ := Cond.instanceMethod_spec hinst
  obtain ⟨methM', cM, hmethM', -, -, -, -, -, -, hsigM⟩ := Cond.code_spec hnamed hcode
  cases hmethM.symm.trans hmethM'
  obtain ⟨c2, r2, m2, q1, q2, q3, q4, kP, hkP, hkPi⟩ := Cond.selects_spec hsel
  cases hclB.symm.trans q1
  cases (State.methodFound?_of_named hnamed hy).symm.trans q2
  cases hnamed.symm.trans q3
  have hselP : selectMethod e.platform s.vm cellB.cls mk = .method mk := by rw [Launch.admits_selectMethod X.admits]; exact q4
  obtain ⟨vm₁, X₁, hstep₁⟩ := X.invokevirtual hx ho hl hnamed hmethM hstM hkP hkPi hy (a := b) (cell := cellB) (by rw [hT]; exact hcB)
    (fun z h => by rw [h] at hoB; cases hoB) hselP hmethM habM hkP hkPi (g := g) hg (argsL := As) (rest := rest) (hn.trans (hlen _ hsigM)) hstack (by rw [hb]; exact hdg)
  have hww : ∀ w ∈ ws, w.before (Value.ref b :: As).toArray (T.setVm vm₁) = true := fun w hw => hws w hw _ _ X₁.warmed
  have hc1 : (Cond.code y bytes maxL ret).before (Value.ref b :: As).toArray (T.setVm vm₁) = true := word_at X₁.warmed (Or.inl (by first | rfl | simp [Cond.onTables, Cond.keeps, Cond.steady])) hcode
  have hi1 : (Cond.initialized y.cls).before (Value.ref b :: As).toArray (T.setVm vm₁) = true := word_at X₁.warmed (Or.inl (by first | rfl | simp [Cond.onTables, Cond.keeps, Cond.steady])) hini
  obtain ⟨x, t, T', L, X', hL, e1, e2, hq, hst⟩ := tt_run (g := { g with stack := rest }) X₁ hM (bytes := bytes) (maxL := maxL) (ret := ret) hfr hlo hrc hrs hww hc1 hi1 hf.1 hf.2 hg (hsize.trans hml.symm) (by rw [hb]; exact hdg) hW (X₁.named hnamed) (hbl _ _ _ _ (hPc (T.setVm vm₁) hT X₁.warmed))
  refine ⟨x, (T.setVm vm₁).calling { g with stack := rest } mk (Value.ref b :: As).toArray, t, T', L, hT, X₁.warmed, X', hL, e1, e2, hq, fun target h => hstep₁ _ fun acts => ?_⟩
  rw [doInvoke_state]
  exact hst.trans h
/-- the caller has no handler: it throws what the callee threw (nothing written before) -/
theorem tt_outV (S : CallFix p m c cc nL s args Ts own) {X : String} (hM : tt_Met l y ws rm Pc (tt_Q X) mc ms (fun _ => False)) (cw : CallW R s args own C index y bytes maxL ret ws rm mc ms n) (hp : PreV s H C b Pc As)
    (hn : As.length = n) (hsize : ls.size = nL) (hW : (rest.map fun v => v.category).sum ≤ 8) (hdg : decode cc pc = .ok (.invokevirtual index, 3)) (hf : cells + mc ≤ R.cells ∧ slots + ms ≤ R.slots)
    (hex : c.exceptionTable.isEmpty = true) (hlocks : meth.locks = false) (hH : H = s.heap) {free' : Addr → Prop} :
    W p l e R s m args below meth c H [] cells slots (tt_MQ below (tt_Q X) args s (cells + mc) (slots + ms) free') (F0 m pc ls (As.reverse ++ .ref b :: rest)) := by
  intro T hT X0
  obtain ⟨x, st₀, t, T', L, h0, hW0, X', hL, e1, e2, hq, hgo⟩ := tt_runV (g := F0 m pc ls (As.reverse ++ .ref b :: rest)) (rest := rest) S hM cw hp rfl hn hsize rfl (by simpa [JFrame.monitorRoom] using hW) hdg hf hT X0
  have hLe : L = [] := by
    cases L with
    | nil => rfl
    | cons q r => exact absurd (hL q List.mem_cons_self) id
  subst hLe
  obtain ⟨hst, hrun, hend, hWm, hsame⟩ := X'.leaveThrown x (g := F0 m pc ls rest) rfl rfl rfl (covers_of_empty hex _) hlocks
  obtain ⟨x', ce, hxe, hxs, hce, hfc, hvm, hz, hk⟩ := hq
  cases hxe
  refine ⟨T'.setFrames (.throwing x :: below), hgo _ hst, .threw x, hrun, hend, ?_, [], ⟨⟨_, rfl⟩, hWm, hsame⟩, fun q h => by cases h⟩
  have hheap : (T'.setFrames (.throwing x :: below)).heap = t.heap := by rw [← e1]; rfl
  have hcl : s.vm.findClass X = some ce.cls := (hW0.alike.findClass X _).symm.trans hfc
  refine ⟨x, ce, rfl, by rw [← hH, ← h0]; exact hxs, by rw [hheap]; exact hce, hcl, hvm, by rw [hheap, ← hH, ← h0]; exact hz, fun q hq => ?_⟩
  rw [hheap, hk q (by rw [h0, hH]; exact hq), h0, hH]
/-- the caller's handler takes it -/
theorem tt_catchV (S : CallFix p m c cc nL s args Ts own) {X : String} (hM : tt_Met l y ws rm Pc (tt_Q X) mc ms (fun _ => False)) (cw : CallW R s args own C index y bytes maxL ret ws rm mc ms n) (hp : PreV s H C b Pc As)
    (hn : As.length = n) (hsize : ls.size = nL) (hW : (rest.map fun v => v.category).sum ≤ 8) (hdg : decode cc pc = .ok (.invokevirtual index, 3)) (hf : cells + mc ≤ R.cells ∧ slots + ms ≤ R.slots) {hpc : Nat}
    (hfind : ∀ (T' : State) (x : Addr) (ce : Cell), Stand p l e R s m args below meth c T' locs (cells + mc) (slots + ms) → T'.heap[x]? = some ce → s.vm.findClass X = some ce.cls → ce.vm = .none → Finds e ((T'.setTop (F0 m pc ls rest)).pushFrame (.throwing x)) (F0 m pc ls rest) x (.found hpc))
    (kk : ∀ (x : Addr) (H1 : Heap), H.size ≤ H1.size → (∀ q : Nat, q < H.size → H1[q]? = H[q]?) → W p l e R s m args below meth c H1 locs (cells + mc) (slots + ms) Q (F0 m hpc ls [.ref x])) :
    W p l e R s m args below meth c H locs cells slots Q (F0 m pc ls (As.reverse ++ .ref b :: rest)) := by
  intro T hT X0
  obtain ⟨x, st₀, t, T', L, h0, hW0, X', hL, e1, e2, hq, hgo⟩ := tt_runV (g := F0 m pc ls (As.reverse ++ .ref b :: rest)) (rest := rest) S hM cw hp rfl hn hsize rfl (by simpa [JFrame.monitorRoom] using hW) hdg hf hT X0
  have hLe : L = [] := by
    cases L with
    | nil => rfl
    | cons q r => exact absurd (hL q List.mem_cons_self) id
  subst hLe
  rw [List.append_nil] at X'
  obtain ⟨x', ce, hxe, hxs, hce, hfc, hvm, hz, hk⟩ := hq
  cases hxe
  have hcl : s.vm.findClass X = some ce.cls := (hW0.alike.findClass X _).symm.trans hfc
  obtain ⟨t2, a1, b1⟩ := kk x T'.heap (by rw [e1, ← h0]; exact hz) (fun q hq => by rw [e1, hk q (by rw [h0]; exact hq), h0]) T' rfl X'
  exact ⟨t2, hgo _ (X'.catchAt x (g := F0 m pc ls rest) rfl (hfind T' x ce X' (by rw [e1]; exact hce) hcl hvm) a1), b1⟩
end TTW
theorem tt_isRef {C n d : String} {A : Nat → Prop} {args : Array Value} {s : State} (h : va_Zq C n d A s s.heap) : (Cond.isRef (.static C n d)).before args s = true := by
  rcases h with ⟨cf, kf, fi, f, a, cell, h1, h2, h3, h4, h5, h6, h7, h8⟩ | ⟨t, cf, kf, fi, f, a, cell, h1, h2, h3, h4, h5, h6, h7, h8⟩
  · have hv : (Term.static C n d).eval args s none [] s = some .null := by simp [Term.eval, State.fieldNamed?, h1, h2, h4, h5, h6, h7]
    simp [Cond.before, Cond.holds, Cond.value, hv]
  · have hv : (Term.static C n d).eval args s none [] s = some (.ref t) := by simp [Term.eval, State.fieldNamed?, h1, h2, h4, h5, h6, h7]
    simp [Cond.before, Cond.holds, Cond.value, hv]
