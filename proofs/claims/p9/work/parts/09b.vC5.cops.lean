-- the class's single steps on its rows
theorem byt_m1 {T : Nat → Int32} {L : Nat} : m_X7_byteAt T (nI L) (-1) = some (-1) := by
  unfold m_X7_byteAt
  rw [if_pos (show (-1 : Int32) < 0 by decide)]
section ISX
variable {T : Nat → Int32} {L : Nat}
theorem iss_eq (hL : L ≤ 4096) {p : Nat} (hp : p < 4096) : m_X7_isString T (nI L) (nI p) = some (if cb T L p = 34 then 1 else 0) := by
  unfold m_X7_isString
  rw [byt_eq hL (by omega)]
  simp only [Option.bind_some, ub34]
  split <;> rfl
theorem isl_eq (hL : L ≤ 4096) {p : Nat} (hp : p < 4096) : m_X7_isList T (nI L) (nI p) = some (if cb T L p = 91 then 1 else 0) := by
  unfold m_X7_isList
  rw [byt_eq hL (by omega)]
  simp only [Option.bind_some, ub91]
  split <;> rfl
theorem iso_eq (hL : L ≤ 4096) {p : Nat} (hp : p < 4096) : m_X7_isObject T (nI L) (nI p) = some (if cb T L p = 123 then 1 else 0) := by
  unfold m_X7_isObject
  rw [byt_eq hL (by omega)]
  simp only [Option.bind_some, show (ubI (cb T L p) = 123) = (cb T L p = 123) from propext (ub_e (cb_le T L p) (c := 123) (by decide))]
  split <;> rfl
theorem isnb_eq (hL : L ≤ 4096) {p : Nat} (hp : p < 4096) : m_X7_isNumber T (nI L) (nI p) = some (if cb T L p = 45 ∨ (48 ≤ cb T L p ∧ cb T L p ≤ 57) then 1 else 0) := by
  unfold m_X7_isNumber
  rw [byt_eq hL (by omega)]
  simp only [Option.bind_some, ub45, dig_eq]
  by_cases c : cb T L p = 45
  · rw [if_pos c, if_pos (Or.inl c)]
  · rw [if_neg c]
    by_cases c2 : 48 ≤ cb T L p ∧ cb T L p ≤ 57
    · simp only [if_pos c2, if_neg (show ¬ (1 : Int32) = 0 by decide)]
      rw [if_pos (Or.inr c2)]
    · simp only [if_neg c2, if_true]
      rw [if_neg (fun z => z.elim c c2)]
theorem iss_m1 : m_X7_isString T (nI L) (-1) = some 0 := by
  unfold m_X7_isString
  rw [byt_m1]
  rfl
theorem isl_m1 : m_X7_isList T (nI L) (-1) = some 0 := by
  unfold m_X7_isList
  rw [byt_m1]
  rfl
theorem snm_no {Sd Am : Nat → Int32} (hL : L ≤ 4096) {p : Nat} (hp : p < 4096) (hc : ¬ cb T L p = 34) : m_X7_saysName T Sd Am (nI L) (nI p) = some 0 := by
  unfold m_X7_saysName
  simp only [m_X7_amount, ent_eq (n := 4096) (by decide) hp, Option.bind_some, iss_eq hL hp, if_neg hc, if_true]
end ISX
theorem sto_eq {α : Type} {s : Nat} {a b : Option α} (hs : s < 128) : ((m_X6_isSlot (nI s)).bind fun r1 => (if r1 = 0 then a else (if nI s < (0 : Int32) ∨ 128 ≤ (nI s).toNatClampNeg then none else b))) = b := by
  rw [slt_1 hs]
  simp only [Option.bind_some, if_neg (show ¬ (1 : Int32) = 0 by decide)]
  exact bd_go hs (by decide)
section ROWS
variable {Ki Me Na Ac Fn Fd Ed Fi Ne : Nat → Int32}
theorem stk_eq {s : Nat} {v : Int32} (hs : s < 128) : m_X6_setKind Ki (nI s) v = some (upd Ki s v) := by
  unfold m_X6_setKind
  rw [sto_eq hs, nI_clamp (by omega)]
theorem stm_eq {s : Nat} {v : Int32} (hs : s < 128) : m_X6_setMeant Me (nI s) v = some (upd Me s v) := by
  unfold m_X6_setMeant
  rw [sto_eq hs, nI_clamp (by omega)]
theorem stn_eq {s : Nat} {v : Int32} (hs : s < 128) : m_X6_setName Na (nI s) v = some (upd Na s v) := by
  unfold m_X6_setName
  rw [sto_eq hs, nI_clamp (by omega)]
theorem sta_eq {s : Nat} {v : Int32} (hs : s < 128) : m_X6_setAmount Ac (nI s) v = some (upd Ac s v) := by
  unfold m_X6_setAmount
  rw [sto_eq hs, nI_clamp (by omega)]
theorem ste_eq {s : Nat} (hs : s < 128) : ∃ Ed', m_X6_setEnumDefault Ed (nI s) = some Ed' := by
  unfold m_X6_setEnumDefault
  rw [sto_eq hs]
  exact ⟨_, rfl⟩
theorem stf_eq {s : Nat} {v w : Int32} (hs : s < 128) : ∃ Fd', m_X6_setField Fn Fd (nI s) v w = some (upd Fn s v, Fd') := by
  unfold m_X6_setField
  rw [sto_eq hs, bd_go hs (by decide), nI_clamp (by omega)]
  exact ⟨_, rfl⟩
theorem slt_m1 : m_X6_isSlot (-1) = some 0 := by decide
theorem joi_eq {s c : Nat} {ch : List Nat} (hs : s < 128) (hl : ∀ x, x ∈ ch → x < 128) : m_X6_join Fi Ne Ac (nI s) (if ch.length = 0 then -1 else nI (ch.getD (ch.length - 1) 0)) (nI c) = some ((if ch.length = 0 then upd Fi s (nI c) else Fi), (if ch.length = 0 then Ne else upd Ne (ch.getD (ch.length - 1) 0) (nI c)), upd Ac s (Ac s + 1)) := by
  unfold m_X6_join
  rw [slt_1 hs]
  simp only [Option.bind_some, if_neg (show ¬ (1 : Int32) = 0 by decide)]
  by_cases c0 : ch.length = 0
  · simp only [if_pos c0, slt_m1, Option.bind_some, if_true, bd_go hs (by decide), bd_gc hs (by decide), nI_clamp (show s < 2 ^ 31 by omega)]
  · have hlt := hl _ (ch_mem (l := ch) (j := ch.length - 1) (by omega))
    simp only [if_neg c0, slt_1 hlt, Option.bind_some, if_neg (show ¬ (1 : Int32) = 0 by decide), bd_go hlt (by decide), bd_gc hlt (by decide), bd_go hs (by decide), bd_gc hs (by decide), nI_clamp (show s < 2 ^ 31 by omega), nI_clamp (show ch.getD (ch.length - 1) 0 < 2 ^ 31 by omega)]
theorem knd_eq {i m : Nat} (hi : i < 128) (hm : m < 128) (h : Me i = nI m) : m_X6_kind Ki Me (nI i) = some (Ki m) := by
  unfold m_X6_kind
  simp only [ent_eq (n := 128) (by decide) hi, h, ent_eq (n := 128) (by decide) hm, Option.bind_some]
theorem nam_k {k : Nat} (hk : k < 2 ^ 31) : m_X3_isNamed (nI k) = some (if 8 ≤ k ∧ k ≤ 10 then 1 else 0) := by
  unfold m_X3_isNamed
  by_cases c8 : k = 8
  · subst c8; rfl
  by_cases c9 : k = 9
  · subst c9; rfl
  by_cases c10 : k = 10
  · subst c10; rfl
  rw [if_neg (show ¬ nI k = 8 from fun z => c8 ((nI_eq (b := 8) hk (by decide)).mp z)), if_neg (show ¬ nI k = 9 from fun z => c9 ((nI_eq (b := 9) hk (by decide)).mp z)), if_neg (show ¬ nI k = 10 from fun z => c10 ((nI_eq (b := 10) hk (by decide)).mp z)), if_neg (by omega)]
end ROWS
section WRL
variable {Sd Am : Nat → Int32}
theorem lit_255 {w : Nat} (hw : w < 75) : ∀ v, v ∈ litN w → v ≤ 255 := fun v hv => by
  have := lit_b w hw v hv
  omega
theorem wrL {Pl : Nat → Int32} {pl : List Nat} {w : Nat} (hw : w < 75) (h : PLI Pl pl) (hl : pl.length + (litN w).length ≤ 4096) : ∃ Pl', m_X6_write Pl (nI pl.length) w = some (Pl', nI (pl ++ litN w).length) ∧ PLI Pl' (pl ++ litN w) := by
  rw [wr_eq hw hl, List.length_append]
  exact ⟨_, rfl, h.wr (lit_255 hw)⟩
theorem wbL {Pl : Nat → Int32} {pl : List Nat} {v : Nat} (hv : v ≤ 255) (h : PLI Pl pl) (hl : pl.length + 1 ≤ 4096) : ∃ Pl', m_X6_writeByte Pl (nI pl.length) (nI v) = some (Pl', nI (pl ++ [v]).length) ∧ PLI Pl' (pl ++ [v]) := by
  rw [wb_eq (by omega), List.length_append]
  exact ⟨_, rfl, h.wr (fun x hx => by rw [List.mem_singleton.mp hx]; exact hv)⟩
theorem qt_255 {s : List Nat} (hb : ∀ v, v ∈ s → v ≤ 255) : ∀ v, v ∈ qt s → v ≤ 255 := by
  intro v hv
  rcases List.mem_cons.mp hv with e | e
  · omega
  · rcases List.mem_append.mp e with e | e
    · exact hb v e
    · rw [List.mem_singleton.mp e]; decide
theorem qt_len {s : List Nat} : (qt s).length = s.length + 2 := by simp [qt]
theorem wsL {Pl : Nat → Int32} {pl s : List Nat} {p : Nat} (hs : SAID Sd Am p s) (hb : ∀ v, v ∈ s → v ≤ 255) (h : PLI Pl pl) (hl : pl.length + s.length + 2 ≤ 4096) : ∃ Pl', m_X6_writeSaid Pl (nI pl.length) Sd Am (nI p) = some (nI (pl.length + 1), Pl', nI (pl ++ qt s).length) ∧ PLI Pl' (pl ++ qt s) := by
  rw [ws_eq hs hl, List.length_append, qt_len]
  exact ⟨_, rfl, h.wr (qt_255 hb)⟩
end WRL
def NM1 (Na : Nat → Int32) (pl : List Nat) (k : Nat) (D : List Nat → Option Nat) : Prop := (∀ i, i < k → Na i = -1 ∨ ∃ w a, D w = some i ∧ Na i = nI a ∧ PNL pl a w) ∧ (∀ w i, D w = some i → i < k ∧ ∃ a, Na i = nI a ∧ PNL pl a w)
theorem NM1.wr {Na : Nat → Int32} {pl : List Nat} {k : Nat} {D : List Nat → Option Nat} (h : NM1 Na pl k D) (t : List Nat) : NM1 Na (pl ++ t) k D := by
  refine ⟨fun i hi => (h.1 i hi).imp id ?_, fun w i q => ?_⟩
  · rintro ⟨w, a, x1, x2, x3⟩
    exact ⟨w, a, x1, x2, x3.app⟩
  · obtain ⟨y, a, x1, x2⟩ := h.2 w i q
    exact ⟨y, a, x1, x2.app⟩
theorem NM1.opn {Na : Nat → Int32} {pl : List Nat} {k : Nat} {D : List Nat → Option Nat} (h : NM1 Na pl k D) : NM1 (upd Na k (-1)) pl (k + 1) D := by
  refine ⟨fun i hi => ?_, fun w i q => ?_⟩
  · by_cases e : i = k
    · exact Or.inl (by rw [e, pk_us])
    · rw [pk_un e]
      exact h.1 i (by omega)
  · obtain ⟨y, a, x1, x2⟩ := h.2 w i q
    exact ⟨by omega, a, by rw [pk_un (by omega)]; exact x1, x2⟩
def DUI (Cf Cs : Nat → Int32) (fi : List (Nat × Nat × Option Nat)) : Prop := ∀ j, j < (dul fi).length → Cf j = nI ((dul fi).getD j (0, 0)).1 ∧ Cs j = nI ((dul fi).getD j (0, 0)).2
def CI (Pl Ki Me Fi Ne Na Fn Ac : Nat → Int32) (lc sc : Int32) (Cf Cs : Nat → Int32) (cc : Int32) : LSt → Prop
  | (k, _, _, pl, D, fi, G) => sc = nI k ∧ k ≤ 128 ∧ lc = nI pl.length ∧ pl.length ≤ 4096 ∧ PLI Pl pl ∧ NM1 Na pl k D ∧ LCs Ki Me Fi Ne Fn Ac pl k G ∧ cc = nI (dul fi).length ∧ DUI Cf Cs fi
section DFN
variable {Sd Am Pl Na : Nat → Int32}
theorem pnl_one {pl : List Nat} {Pl Sd Am : Nat → Int32} {a p : Nat} {s t : List Nat} (h : PLI Pl pl) (hl : pl.length ≤ 4096) (h1 : PNL pl a s) (h2 : PN Pl pl.length a t) (ht : SAID Sd Am p t) : s = t := by
  have x := isd_eq (h1.pn h hl) ht
  have y := isd_eq h2 ht
  rw [if_pos rfl] at y
  rw [y] at x
  by_cases e : s = t
  · exact e
  · rw [if_neg e] at x
    exact absurd (Option.some.inj x) (by decide)
theorem dfn_c {pl : List Nat} {k p : Nat} {D : List Nat → Option Nat} {t : List Nat} (hk : k ≤ 128) (h : PLI Pl pl) (hl : pl.length ≤ 4096) (hn : NM1 Na pl k D) (ht : SAID Sd Am p t) : m_X6_definition Pl Na (nI pl.length) (nI k) Sd Am (nI p) = some (match D t with | none => -1 | some d => nI d) := by
  have hN : NMS Pl Na pl.length k := fun i hi => (hn.1 i hi).imp id (fun ⟨w, a, x1, x2, x3⟩ => ⟨a, w, x2, x3.pn h hl⟩)
  rcases def_eq hk hN ht with ⟨i, x, i1, i2, i3, i4⟩ | ⟨i1, i2⟩
  · rw [i4]
    rcases hn.1 i i1 with e | ⟨w, a, w1, w2, w3⟩
    · rw [e] at i2
      have := i3.1
      exact absurd i2.symm (nI_m1 (by have := i3.2.1; omega))
    · have ea : a = x := by
        have := i3.1
        have := i3.2.1
        have := w3.1
        exact (nI_eq (by omega) (by omega)).mp (w2.symm.trans i2)
      subst ea
      have := pnl_one h hl w3 i3 ht
      subst this
      rw [w1]
  · rw [i2]
    cases hD : D t with
    | none => rfl
    | some d =>
      obtain ⟨y, a, x1, x2⟩ := hn.2 t d hD
      exact absurd (x2.pn h hl) (i1 d a y x1)
end DFN
