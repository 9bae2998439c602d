-- TWO ENDS: a contract for a method that returns or throws, as a pure function says; a throw behind writes; catching where the tables are cold
def t2_FE (first t : State) (L : List Loc) (k n : Nat) : Prop := first.WarmedH t.vm ∧ first.sameButNew ({ t with vm := first.vm } : State) L k n
def t2_Met (l : Launch) (y : MethodName) (ws : List Cond) (rm : Room) (Pc : Array Value → State → Prop) (Qc : Array Value → State → Outcome → State → Prop) (mc ms : Nat) (free : Addr → Prop) : Prop :=
  MetFree l y (headSpec ws rm) Pc (fun _ _ _ _ _ => True) (fun a st o t => Qc a st o t ∧ ∃ L, t2_FE st t L mc ms ∧ ∀ q ∈ L, free q.base)
def t2_MQ (below : List Frame) (Qc : Array Value → State → Outcome → State → Prop) (a : Array Value) (s : State) (mc ms : Nat) (free : Addr → Prop) : State → Prop := fun t =>
  ∃ o, t.status = .running ∧ Ended t below o ∧ Qc a s o t ∧ ∃ L, t2_FE s t L mc ms ∧ ∀ q ∈ L, free q.base
theorem t2_ofW {l : Launch} {y : MethodName} {ws ws' : List Cond} {rm : Room} {Pc : Array Value → State → Prop} {Qc : Array Value → State → Outcome → State → Prop} {mc ms : Nat} {free : Addr → Prop} {cc : ByteArray} {maxL : Nat} {ret : Option FieldType}
    (hy : plainName y.cls = true) (hw : ws = Cond.code y cc maxL ret :: ws')
    (body : ∀ p e s m args below meth c s₁, BodyLoose p l y (headSpec ws rm) cc maxL ret e s m args below meth c s₁ → c.maxLocals = maxL → c.exceptionTable.isEmpty = true → l.admits e → Pc args s →
      W p l e (headSpec ws rm).room s m args below meth c s.heap [] 0 0 (t2_MQ below Qc args s mc ms free) (entryFrame m args maxL)) : t2_Met l y ws rm Pc Qc mc ms free := by
  refine MetFree.of_bodyS (code := cc) (maxLocals := maxL) (ret := ret) hy ?_ ?_
  · intro args s m h hn
    obtain ⟨meth, c, h1, h2, h3, h4, h5, h6, -, -⟩ := Cond.code_spec hn (atoms_spec (ws := ws) h _ (by rw [hw]; exact List.mem_cons_self))
    exact ⟨meth, c, h1, h2, h3, h4, h5, h6⟩
  · intro p e s m args below meth c s₁ B hml hP _
    have hh0 : s₁.heap = s.heap := by rw [B.state]; rfl
    have hX := Stand.of_body B
    have hex : c.exceptionTable.isEmpty = true := B.noHandlers (atoms_spec (ws := ws) B.pre _ (by rw [hw]; exact List.mem_cons_self))
    obtain ⟨t, a1, o, b1, b2, b3⟩ := body p e s m args below meth c s₁ B hml hex hX.admits hP s₁ hh0 hX
    exact ⟨t, o, a1, b1, b2, ⟨b3.1, b3.2⟩⟩
/-- what a method leaves: z says whether it returned or threw, and its cells; B: the world behind it; A: what it may change; X: the class of what it throws -/
def t2_Q {U V : Type} (rv : V → Option Value) (B : U → State → Prop) (A : Nat → Prop) (X : String) (z : Except U (V × U)) : Array Value → State → Outcome → State → Prop := fun _ st oc t =>
  (match z with
    | .ok w => oc = .returned (rv w.1) ∧ B w.2 t
    | .error u => (∃ (x : Nat) (ce : Cell), oc = .threw x ∧ st.heap.size ≤ x ∧ t.heap[x]? = some ce ∧ st.vm.findClass X = some ce.cls ∧ ce.vm = .none) ∧ B u t) ∧ va_F A st t
/-- how many cells it makes: the exception, if it throws -/
def t2_mc {U V : Type} (z : Except U V) : Nat := match z with
  | .ok _ => 0
  | .error _ => 1
abbrev t2_rI : Int32 → Option Value := fun r => some (.int r)
abbrev t2_rL : Int64 → Option Value := fun r => some (.long r)
abbrev t2_rV : Unit → Option Value := fun _ => none
section T2M
variable {l : Launch} {y : MethodName} {ws : List Cond} {rm : Room} {Pc : Array Value → State → Prop} {mc ms : Nat} {free : Addr → Prop} {U : Type} {B : U → State → Prop} {A : Nat → Prop} {X : String} {u : U}
theorem t2_okI {r : Int32} (h : t2_Met l y ws rm Pc (t2_Q t2_rI B A X (.ok (r, u))) mc ms free) : Met l y ws rm Pc (va_Qi (fun r' u' => r' = r ∧ u' = u) B A) mc ms free :=
  MetFree.mono h (fun _ _ h => h) (fun _ _ _ _ _ h => h) (fun _ _ _ _ _ ⟨hq, L, hF, hL⟩ => ⟨⟨⟨r, u, hq.1.1, ⟨rfl, rfl⟩, hq.1.2⟩, hq.2⟩, L, ⟨⟨_, hq.1.1⟩, hF.1, hF.2⟩, hL⟩)
theorem t2_okL {r : Int64} (h : t2_Met l y ws rm Pc (t2_Q t2_rL B A X (.ok (r, u))) mc ms free) : Met l y ws rm Pc (va_Ql (fun r' u' => r' = r ∧ u' = u) B A) mc ms free :=
  MetFree.mono h (fun _ _ h => h) (fun _ _ _ _ _ h => h) (fun _ _ _ _ _ ⟨hq, L, hF, hL⟩ => ⟨⟨⟨r, u, hq.1.1, ⟨rfl, rfl⟩, hq.1.2⟩, hq.2⟩, L, ⟨⟨_, hq.1.1⟩, hF.1, hF.2⟩, hL⟩)
theorem t2_okV {r : Unit} (h : t2_Met l y ws rm Pc (t2_Q t2_rV B A X (.ok (r, u))) mc ms free) : Met l y ws rm Pc (va_Qv (fun u' => u' = u) B A) mc ms free :=
  MetFree.mono h (fun _ _ h => h) (fun _ _ _ _ _ h => h) (fun _ _ _ _ _ ⟨hq, L, hF, hL⟩ => ⟨⟨⟨u, hq.1.1, rfl, hq.1.2⟩, hq.2⟩, L, ⟨⟨_, hq.1.1⟩, hF.1, hF.2⟩, hL⟩)
theorem t2_err {V : Type} {rv : V → Option Value} (h : t2_Met l y ws rm Pc (t2_Q rv B A X (.error u)) mc ms free) : tt_Met l y ws rm Pc (t2_Q rv B A X (.error u)) mc ms free :=
  MetFree.mono h (fun _ _ h => h) (fun _ _ _ _ _ h => h) (fun _ _ _ _ _ ⟨hq, L, hF, hL⟩ => ⟨hq, L, ⟨by obtain ⟨⟨⟨x, ce, h1, -⟩, -⟩, -⟩ := hq; exact ⟨x, h1⟩, hF.1, hF.2⟩, hL⟩)
end T2M
section T2W
variable {p : Program} {l : Launch} {e : Env} {R : Room} {s : State} {m : MethodId} {args : Array Value} {below : List Frame} {meth : Method} {c : Code} {H : Heap} {locs : List Loc} {cells slots : Nat} {Q Q' : State → Prop}
variable {cc : ByteArray} {pc : Nat} {ls : Array Slot} {rest : List Value} {g : JFrame}
theorem t2_W (h : W p l e R s m args below meth c H locs cells slots Q g) (hQ : ∀ t, Q t → Q' t) : W p l e R s m args below meth c H locs cells slots Q' g := fun T hT X => by
  obtain ⟨t, a, b⟩ := h T hT X
  exact ⟨t, a, hQ t b⟩
theorem t2_of {Qc : Array Value → State → Outcome → State → Prop} {mc ms : Nat} {free : Addr → Prop} : ∀ t, MQ below Qc args s mc ms free t → t2_MQ below Qc args s mc ms free t :=
  fun _ ⟨o, h1, h2, h3, L, h4, h5⟩ => ⟨o, h1, h2, h3, L, ⟨h4.2.1, h4.2.2⟩, h5⟩
theorem t2_iret {Qc : Array Value → State → Outcome → State → Prop} {free : Addr → Prop} {v : Int32} (hexec : p.tables.exec = Jvm.exec) (hb : c.code = cc) (hr : meth.sig.returnType = some .int)
    (hq : ∀ t : State, t.heap = H → s.WarmedH t.vm → Qc args s (.returned (some (.int v))) t) (hf : ∀ q ∈ locs, free q.base) (hdg : decode cc pc = .ok (.ireturn, 1)) (hlocks : meth.locks = false) : W p l e R s m args below meth c H locs cells slots (t2_MQ below Qc args s cells slots free) (F0 m pc ls [.int v]) :=
  t2_W (W.iret hexec hb hr hq hf hdg hlocks) t2_of
theorem t2_zret {Qc : Array Value → State → Outcome → State → Prop} {free : Addr → Prop} {v : Int32} {ty : FieldType} (hexec : p.tables.exec = Jvm.exec) (hb : c.code = cc) (hr : meth.sig.returnType = some ty) (hn : narrow ty (.int v) = .int v)
    (hq : ∀ t : State, t.heap = H → s.WarmedH t.vm → Qc args s (.returned (some (.int v))) t) (hf : ∀ q ∈ locs, free q.base) (hdg : decode cc pc = .ok (.ireturn, 1)) (hlocks : meth.locks = false) : W p l e R s m args below meth c H locs cells slots (t2_MQ below Qc args s cells slots free) (F0 m pc ls [.int v]) :=
  t2_W (W.zret hexec hb hr hn hq hf hdg hlocks) t2_of
theorem t2_lret {Qc : Array Value → State → Outcome → State → Prop} {free : Addr → Prop} {v : Int64} (hexec : p.tables.exec = Jvm.exec) (hb : c.code = cc) (hr : meth.sig.returnType = some .long)
    (hq : ∀ t : State, t.heap = H → s.WarmedH t.vm → Qc args s (.returned (some (.long v))) t) (hf : ∀ q ∈ locs, free q.base) (hdg : decode cc pc = .ok (.lreturn, 1)) (hlocks : meth.locks = false) : W p l e R s m args below meth c H locs cells slots (t2_MQ below Qc args s cells slots free) (F0 m pc ls [.long v]) :=
  t2_W (W.lret hexec hb hr hq hf hdg hlocks) t2_of
theorem t2_vret {Qc : Array Value → State → Outcome → State → Prop} {free : Addr → Prop} (hexec : p.tables.exec = Jvm.exec) (hb : c.code = cc) (hr : meth.sig.returnType = none)
    (hq : ∀ t : State, t.heap = H → s.WarmedH t.vm → Qc args s (.returned none) t) (hf : ∀ q ∈ locs, free q.base) (hdg : decode cc pc = .ok (.return_, 1)) (hlocks : meth.locks = false) : W p l e R s m args below meth c H locs cells slots (t2_MQ below Qc args s cells slots free) (F0 m pc ls []) :=
  t2_W (W.vret hexec hb hr hq hf hdg hlocks) t2_of
/-- the start taken anew at a later heap -/
theorem t2_base {T : State} (X : Stand p l e R s m args below meth c T locs cells slots) {k n : Nat} (hc : cells + k ≤ R.cells) (hs : slots + n ≤ R.slots) :
    Stand p l e { R with cells := k, slots := n } ({ s with heap := T.heap, slotsUsed := T.slotsUsed } : State) m args below meth c T [] 0 0 := by
  have hroom := X.room
  simp only [State.hasRoom, Bool.and_eq_true, decide_eq_true_eq] at hroom
  obtain ⟨⟨⟨⟨h1, h2⟩, h3⟩, h4⟩, -⟩ := hroom
  have hz := X.heapSize
  have hu := X.used
  have hbk := X.book
  have hsame := X.same.1
  refine { admits := X.admits, cas := X.cas, clock := X.clock, frames := X.frames, room := ?_, hears := X.hears, method := X.method, code := X.code, here := X.here, tail := X.tail, warmed := X.warmed, limits := X.limits, bytes := X.bytes, same := ?_ }
  · simp only [State.hasRoom, Bool.and_eq_true, decide_eq_true_eq]
    refine ⟨⟨⟨⟨h1, h2⟩, ?_⟩, ?_⟩, hbk⟩
    · show T.heap.size + k ≤ _
      omega
    · show T.slotsUsed + n ≤ _
      omega
  · have hd : (T.heap.toList.drop T.heap.size) = [] := List.drop_eq_nil_of_le (by rw [Array.length_toList]; exact Nat.le_refl _)
    refine ⟨hsame, Nat.le_refl _, Nat.le_refl _, ?_, ?_, fun a c h => ⟨c, h, rfl, rfl, fun _ _ => rfl⟩⟩
    · show T.slotsUsed = T.slotsUsed + ((T.heap.toList.drop T.heap.size).map (fun x => x.slots.size)).sum
      rw [hd]; rfl
    · show ((T.heap.toList.drop T.heap.size).map (fun x => x.slots.size)).sum ≤ 0
      rw [hd]; exact Nat.le_refl _
theorem t2_back {T t : State} (X : Stand p l e R s m args below meth c T locs cells slots) {L : List Loc} {k n : Nat} (h : t2_FE ({ s with heap := T.heap, slotsUsed := T.slotsUsed } : State) t L k n) : t2_FE s t (locs ++ L) (cells + k) (slots + n) := by
  obtain ⟨hW, q1, q2, q3, q4, q5, q6⟩ := h
  have key : ∀ (Y : State) (F : List Frame) (h : Heap) (v : Nat), Y = ({ State.setFrames s F with heap := h, slotsUsed := v } : State) → ∀ (G : List Frame) (h2 : Heap) (v2 : Nat), ({ State.setFrames ({ s with heap := T.heap, slotsUsed := T.slotsUsed } : State) G with heap := h2, slotsUsed := v2 } : State) = { State.setFrames Y G with heap := h2, slotsUsed := v2 } := by
    intro Y F h v hY G h2 v2
    subst hY
    show ({ State.setFrames s G with heap := h2, slotsUsed := v2 } : State) = { State.setFrames (State.setFrames s F) G with heap := h2, slotsUsed := v2 }
    rw [State.setFrames_setFrames]
  exact ⟨hW, X.same.trans ⟨q1.trans (key _ _ _ _ X.same.1 _ _ _), q2, q3, q4, q5, q6⟩⟩
/-- 'throw new X(text)' behind writes -/
theorem t2_throw {U V : Type} {rv : V → Option Value} {B : U → State → Prop} {A : Nat → Prop} {u : U} (hx : p.tables.exec = Jvm.exec) (hb : c.code = cc) (htr : l.stackTraces = false) {own X tx : String} {up : List String} {Ys : List Cond} {ia ib ic q : Nat}
    (hown : s.vm.findClass own = some m.cls) (hw : ∀ a' U, s.WarmedH U.vm → (Cond.classLink own ia X).before a' U = true ∧ (Cond.instantiable X 6).before a' U = true ∧ (Cond.initialized X).before a' U = true)
    (hat : ∀ a ∈ Bundle.ownAtoms own ic X up, (a = .isRef (.static "java/lang/Throwable" "UNASSIGNED_STACK" "[Ljava/lang/StackTraceElement;") ∨ a = .isRef (.static "java/lang/Throwable" "SUPPRESSED_SENTINEL" "Ljava/util/List;")) ∨ a ∈ Ys ∨ ∀ a' U, s.WarmedH U.vm → a.before a' U = true) (hYs : ∀ a ∈ Ys, ∀ (U : State), U.heap = H → s.WarmedH U.vm → ∀ args : Array Value, a.before args U = true)
    (hz1 : va_Zq "java/lang/Throwable" "UNASSIGNED_STACK" "[Ljava/lang/StackTraceElement;" A s H) (hz2 : va_Zq "java/lang/Throwable" "SUPPRESSED_SENTINEL" "Ljava/util/List;" A s H)
    (hfX : Bundle.fit X = true) (hfu : ∀ n ∈ up, Bundle.fit n = true) (hZ : vk_R own ib tx q s)
    (hex : c.exceptionTable.isEmpty = true) (hlocks : meth.locks = false) (hml : c.maxLocals = ls.size)
    (hd0 : decode cc pc = .ok (.new ia, 3)) (hd3 : decode cc (pc + 3) = .ok (.dup, 1)) (hd4 : decode cc (pc + 4) = .ok (.ldc ib, 2)) (hd6 : decode cc (pc + 6) = .ok (.invokespecial ic, 3)) (hd9 : decode cc (pc + 9) = .ok (.athrow, 1))
    (hc1 : cells + 1 ≤ R.cells) (hs1 : slots + 6 ≤ R.slots) (hf : up.length + 3 < R.frames) (hlo : 1 + (rest.map fun v => v.category).sum + (13 * (up.length + 1) + 42) ≤ R.locals)
    (hS : va_S A s.heap H locs) (fin : ∀ t : State, s.WarmedH t.vm → H.size ≤ t.heap.size → (∀ q : Nat, q < H.size → t.heap[q]? = H[q]?) → B u t) :
    W p l e R s m args below meth c H locs cells slots (t2_MQ below (t2_Q rv B A X (.error u)) args s (cells + 1) (slots + 6) A) (F0 m pc ls rest) := by
  intro T hT X0
  have X1 := t2_base X0 (k := 1) (n := 6) hc1 hs1
  have hWs : s.WarmedH ({ s with heap := T.heap, slotsUsed := T.slotsUsed } : State).vm := State.WarmedH.refl s
  obtain ⟨w1, w2, w3⟩ := hw args ({ s with heap := T.heap, slotsUsed := T.slotsUsed } : State) hWs
  have hat' : ∀ a ∈ Bundle.ownAtoms own ic X up, a.before args ({ s with heap := T.heap, slotsUsed := T.slotsUsed } : State) = true := by
    intro a ha
    rcases hat a ha with (h | h) | h | h
    · rw [h]
      exact tt_isRef (A := A) (by have := hz1.moved (U := ({ s with heap := T.heap, slotsUsed := T.slotsUsed } : State)) (Vm.Alike.refl s.vm); rw [← hT] at this; exact this)
    · rw [h]
      exact tt_isRef (A := A) (by have := hz2.moved (U := ({ s with heap := T.heap, slotsUsed := T.slotsUsed } : State)) (Vm.Alike.refl s.vm); rw [← hT] at this; exact this)
    · exact hYs a h ({ s with heap := T.heap, slotsUsed := T.slotsUsed } : State) hT hWs args
    · exact h _ _ hWs
  obtain ⟨t, hst, o, hrun, hend, hq, L, hF, hL⟩ := tt_throw (p := p) (l := l) (e := e) (R := { R with cells := 1, slots := 6 }) (s := ({ s with heap := T.heap, slotsUsed := T.slotsUsed } : State)) (below := below) (H := H) (cells := 0) (slots := 0) (rest := rest) (free := fun _ => False) hx hb htr hown w1 w2 w3 hat' hfX hfu (hZ.same rfl) hex hlocks hml (by rw [← hT]; exact Nat.le_refl _) hd0 hd3 hd4 hd6 hd9 (Nat.le_refl _) (Nat.le_refl _) hf hlo T hT X1
  have hLe : L = [] := by
    cases L with
    | nil => rfl
    | cons q r => exact absurd (hL q List.mem_cons_self) id
  subst hLe
  obtain ⟨hth, hFW, hFs⟩ := hF
  obtain ⟨hW2, hsame⟩ := t2_back X0 (L := []) (k := 1) (n := 6) ⟨hFW, hFs⟩
  rw [List.append_nil] at hsame
  obtain ⟨x, ce, hxe, hxs, hce, hfc, hvm, hz, hk⟩ := hq
  have hz' : H.size ≤ t.heap.size := by rw [← hT]; exact hz
  have hk' : ∀ q : Nat, q < H.size → t.heap[q]? = H[q]? := by rw [← hT]; exact hk
  refine ⟨t, hst, o, hrun, hend, ⟨⟨⟨x, ce, hxe, Nat.le_trans hS.1 (by rw [← hT]; exact hxs), hce, hfc, hvm⟩, fin t hW2 hz' hk'⟩, Nat.le_trans hS.1 hz', fun q h1 h2 => ?_⟩, locs, ⟨hW2, hsame⟩, hS.2.2⟩
  rw [hk' q (Nat.lt_of_lt_of_le h1 hS.1)]
  exact hS.2.1 q h1 h2
variable {y : MethodName} {bytes : ByteArray} {maxL nL mc ms n index : Nat} {ret : Option FieldType} {ws : List Cond} {rm : Room} {Pc : Array Value → State → Prop} {free : Addr → Prop} {Ts : List Cond} {own C : String} {b : Addr} {As : List Value}
/-- a callee throws, the caller passes it on -/
theorem t2_outV (S : CallFix p m c cc nL s args Ts own) {U V U' V' : Type} {rv : V → Option Value} {rv' : V' → Option Value} {B : U → State → Prop} {B' : U' → State → Prop} {A0 A1 : Nat → Prop} {X : String} {u : U} {u' : U'}
    (hM : t2_Met l y ws rm Pc (t2_Q rv B A1 X (.error u)) mc ms free) (cw : CallW R s args own C index y bytes maxL ret ws rm mc ms n) (hp : PreV s H C b Pc As)
    (hn : As.length = n) (hsize : ls.size = nL) (hW : (rest.map fun v => v.category).sum ≤ 8) (hdg : decode cc pc = .ok (.invokevirtual index, 3)) (hf : cells + mc ≤ R.cells ∧ slots + ms ≤ R.slots)
    (hex : c.exceptionTable.isEmpty = true) (hlocks : meth.locks = false) (hS : va_S A0 s.heap H locs) (hA : ∀ q, q < H.size → A1 q → A0 q) (hfr : ∀ q, free q → A0 q)
    (fin : ∀ t : State, s.vm.Alike t.vm → B u t → H.size ≤ t.heap.size → (∀ q : Nat, q < H.size → ¬ A1 q → t.heap[q]? = H[q]?) → ∀ t' : State, t'.heap = t.heap → s.WarmedH t'.vm → B' u' t') :
    W p l e R s m args below meth c H locs cells slots (t2_MQ below (t2_Q rv' B' A0 X (.error u')) args s (cells + mc) (slots + ms) A0) (F0 m pc ls (As.reverse ++ .ref b :: rest)) := by
  intro T hT X0
  obtain ⟨x, st₀, t, T', L, h0, hW0, X', hL, e1, e2, hq, hgo⟩ := tt_runV (g := F0 m pc ls (As.reverse ++ .ref b :: rest)) (rest := rest) S (t2_err hM) cw hp rfl hn hsize rfl (by simpa [JFrame.monitorRoom] using hW) hdg hf hT X0
  obtain ⟨hst, hrun, hend, hWm, hsame⟩ := X'.leaveThrown x (g := F0 m pc ls rest) rfl rfl rfl (covers_of_empty hex _) hlocks
  obtain ⟨⟨⟨x', ce, hxe, hxs, hce, hfc, hvm⟩, hB⟩, hz, hk⟩ := hq
  cases hxe
  rw [h0] at hz hk hxs
  have hheap : (T'.setFrames (.throwing x :: below)).heap = t.heap := by rw [← e1]; rfl
  have hcl : s.vm.findClass X = some ce.cls := (hW0.alike.findClass X _).symm.trans hfc
  refine ⟨T'.setFrames (.throwing x :: below), hgo _ hst, .threw x, hrun, hend, ⟨⟨⟨x, ce, rfl, Nat.le_trans hS.1 hxs, by rw [hheap]; exact hce, hcl, hvm⟩, fin t (by rw [← e2]; exact X'.warmed.alike) hB hz hk _ hheap hWm⟩, by rw [hheap]; exact Nat.le_trans hS.1 hz, fun q h1 h2 => ?_⟩, locs ++ L, ⟨hWm, hsame⟩, fun q hq => ?_⟩
  · rw [hheap, hk q (Nat.lt_of_lt_of_le h1 hS.1) (fun z => h2 (hA q (Nat.lt_of_lt_of_le h1 hS.1) z))]
    exact hS.2.1 q h1 h2
  · rcases List.mem_append.mp hq with h | h
    · exact hS.2.2 q h
    · exact hfr _ (hL q h)
end T2W
