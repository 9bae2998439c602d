-- the reference's face: keep, schema, take, fits, matches
abbrev TYR : Type := (Nat → Int32) × (Int32) × (Int32) × (Int32) × (Int32) × (Int32) × (Int32) × (Int32) × (Nat → Int32) × (Nat → Int32) × (Nat → Int64) × (Nat → Int32) × (Nat → Int32) × (Nat → Int32) × (Nat → Int32) × (Int32) × (Int32) × (Int32) × (Nat → Int32) × (Nat → Int32) × (Nat → Int32) × (Nat → Int32) × (Nat → Int32) × (Nat → Int32) × (Int32) × (Nat → Int32) × (Nat → Int32) × (Nat → Int32) × (Nat → Int32) × (Int32) × (Nat → Int32) × (Int32) × (Nat → Int32) × (Int32) × (Nat → Int32)
/-- what is known of a text that was taken -/
def tkT (r : TYR) : Prop := match r with
  | (_, _, _, _, _, _, _, _, _, _, y_numbers, y_sizes, _, _, _, _, _, _, y_sorts, y_names, y_wide, y_kids, _, _, _, y_kidShape, y_kidName, _, y_kidNext, _, _, y_root, _, _, _) => (∃ (n l sh kc : Nat) (K : Nat → Int32) (rt w : Nat), txtOK n l sh kc K y_numbers y_sizes y_sorts y_names y_wide y_kids y_kidShape y_kidName y_kidNext rt w ∧ y_root = nI rt)
def tyH (has : Int32) (r : TYR) : Prop := match r with
  | (y_bytes, y_length, _, _, _, _, _, _, _, _, _, _, _, _, _, _, _, _, _, _, _, _, _, _, _, _, _, _, _, _, _, _, _, y_plainSize, _) => HP has y_bytes y_length y_plainSize
theorem nar_2 (x : Int32) : vp_nar .byte (vp_nar .byte x) = vp_nar .byte x := by
  show (x.toInt8.toInt32).toInt8.toInt32 = x.toInt8.toInt32
  rw [Int8.toInt8_toInt32]
theorem mpl_1 {p : Nat} (hp : p < 8) : m_X10_isPlace (nI p) = some 1 := by
  unfold m_X10_isPlace
  rw [show (7 : Int32) = nI 7 from rfl, wit_1 (by omega) (show p ≤ 7 by omega) rfl]
  rfl
section MTK
variable {T kept sizes yb : Nat → Int32} {L : Nat} {y_bytes y_kinds y_firsts y_sizes y_inner y_nexts y_letters y_sorts y_names y_wide y_kids y_many y_fallback y_kidShape y_kidName y_kidDefault y_kidNext y_finished y_plain y_told : Nat → Int32} {y_numbers : Nat → Int64} {y_length y_at y_deep y_fault y_place y_end y_nodes y_lettered y_shapes y_looked y_kidCount y_done y_root y_plainSize : Int32} {a_bytes a_kinds a_firsts a_sizes a_inner a_nexts a_letters a_sorts a_names a_wide a_kids a_many a_fallback a_kidShape a_kidName a_kidDefault a_kidNext a_finished a_plain a_told : Nat → Int32} {a_numbers : Nat → Int64} {a_length a_at a_deep a_fault a_place a_end a_nodes a_lettered a_shapes a_looked a_kidCount a_done a_root a_plainSize : Int32} {b_bytes b_kinds b_firsts b_sizes b_inner b_nexts b_letters b_sorts b_names b_wide b_kids b_many b_fallback b_kidShape b_kidName b_kidDefault b_kidNext b_finished b_plain b_told : Nat → Int32} {b_numbers : Nat → Int64} {b_length b_at b_deep b_fault b_place b_end b_nodes b_lettered b_shapes b_looked b_kidCount b_done b_root b_plainSize : Int32}
theorem mke_sp {has yl ps : Int32} (hH : HP has yb yl ps) (hK : KP kept sizes) (th x : Int32) : SP (m_X10_keep th has kept sizes yb yl x) (fun r => KP r.2.2.2.1 r.2.2.2.2 ∧ (r.2.2.1 = has ∨ r.2.2.1 = 0)) := by
  have n1 : ¬ (1 : Int32) = 0 := by decide
  have no : ∀ y0 : Int32, SP (m_X10_keep_25 yb yl th has kept sizes x y0 1) (fun r => KP r.2.2.2.1 r.2.2.2.2 ∧ (r.2.2.1 = has ∨ r.2.2.1 = 0)) := by
    intro y0
    unfold m_X10_keep_25
    simp only [ref_1, Option.bind_some, if_neg n1]
    exact SP.ok ⟨hK, Or.inl rfl⟩
  have no2 : SP (m_X10_keep_25 yb yl th has kept sizes x 1 0) (fun r => KP r.2.2.2.1 r.2.2.2.2 ∧ (r.2.2.1 = has ∨ r.2.2.1 = 0)) := by
    unfold m_X10_keep_25
    simp only [ref_2, Option.bind_some, if_neg n1]
    exact SP.ok ⟨hK, Or.inl rfl⟩
  unfold m_X10_keep m_X10_keep_13
  refine SP.bind (mpl_sp x) (fun r hr => SP.ite (fun _ => SP.ite (fun _ => no _) (fun _ => no _)) (fun h0 => SP.ite (fun _ => no2) (fun hh => ?_)))
  obtain ⟨-, p, hp, rfl⟩ := hr.resolve_left h0
  rcases hH with e | ⟨-, B, L, w, hG, rfl, hB, -, -⟩
  · exact absurd e hh
  have hL := hG.1
  unfold m_X10_keep_25
  simp only [ref_0, Option.bind_some, if_true]
  rw [bd_go hp (by decide), nI_clamp (show p < 2 ^ 31 by omega)]
  have cnt : ∀ (kept sizes : Nat → Int32) (th h : Int32), ∀ (fuel j : Nat) (x2 : Int32), j ≤ 8 → 8 - j < fuel → SP (m_X10_keep_95 yb (nI L) fuel th h kept sizes x2 (nI j)) (fun r => r.2.2.2.1 = kept ∧ r.2.2.2.2 = sizes ∧ r.2.2.1 = h) := by
    intro kept sizes th h fuel
    induction fuel with
    | zero => intro j x2 _ hf; exact absurd hf (Nat.not_lt_zero _)
    | succ fuel ih =>
      intro j x2 hj hf
      simp only [m_X10_keep_95, nI_1]
      refine SP.ite (fun _ => SP.ok ⟨rfl, rfl, rfl⟩) (fun hc => ?_)
      have hlt : j < 8 := Nat.lt_of_not_le (fun q => hc (nI_le (a := 8) q (by omega)))
      rw [bd_go hlt (by decide)]
      exact SP.ite (fun _ => ih (j + 1) _ (by omega) (by omega)) (fun _ => ih (j + 1) _ (by omega) (by omega))
  have go : ∀ (fuel j : Nat) (k' : Nat → Int32), j ≤ L → L - j < fuel → (∀ i, i < j → vp_nar .byte (k' (4096 * p + i)) = B i) → (∀ q i, q ≠ p → i < 4096 → k' (4096 * q + i) = kept (4096 * q + i)) → SP (m_X10_keep_53 yb (nI L) fuel 0 0 k' (upd sizes p (nI L)) (nI p) (nI j)) (fun r => KP r.2.2.2.1 r.2.2.2.2 ∧ (r.2.2.1 = has ∨ r.2.2.1 = 0)) := by
    intro fuel
    induction fuel with
    | zero => intro j k' _ hf; exact absurd hf (Nat.not_lt_zero _)
    | succ fuel ih =>
      intro j k' hj hf h1 h2
      have e4 : (4096 : Int32) * nI p + nI j = nI (4096 * p + j) := by
        rw [show (4096 : Int32) = nI 4096 from rfl, nI_mul, nI_add]
      simp only [m_X10_keep_53, nI_1]
      refine SP.ite (fun hc => ?_) (fun hc => ?_)
      · have ej : j = L := Nat.le_antisymm hj (Nat.le_of_not_lt (fun q => nI_ge q (by omega) hc))
        subst ej
        have := cnt k' (upd sizes p (nI j)) 0 0 sr_fuel 0 0 (by omega) (by unfold sr_fuel; omega)
        rw [nI_0] at this
        refine this.mono (fun r hr => ⟨?_, Or.inr hr.2.2⟩)
        rw [hr.1, hr.2.1]
        intro q hq
        by_cases e : q = p
        · subst e
          exact Or.inr ⟨B, j, hG, pk_us, h1⟩
        · rw [pk_un e]
          rcases hK q hq with h | ⟨B', L', hG', hs', hB'⟩
          · exact Or.inl h
          · exact Or.inr ⟨B', L', hG', hs', fun i hi => by rw [h2 q i e (by have := hG'.1; omega)]; exact hB' i hi⟩
      · have hlt : j < L := Nat.lt_of_not_le (fun q => hc (nI_le q (by omega)))
        rw [e4, bd_go (show j < 4096 by omega) (by decide), bd_go (show 4096 * p + j < 32768 by omega) (by decide), nI_clamp (show 4096 * p + j < 2 ^ 31 by omega), nI_clamp (show j < 2 ^ 31 by omega)]
        refine ih (j + 1) _ (by omega) (by omega) (fun i hi => ?_) (fun q i hq hi => ?_)
        · by_cases e : i = j
          · subst e
            rw [pk_us, nar_2]
            exact hB i (by omega)
          · rw [pk_un (by omega)]
            exact h1 i (by omega)
        · rw [pk_un (by omega)]
          exact h2 q i hq hi
  have := go sr_fuel 0 kept (Nat.zero_le _) (by unfold sr_fuel; omega) (fun i hi => absurd hi (Nat.not_lt_zero _)) (fun _ _ _ _ => rfl)
  rw [nI_0] at this
  exact this
theorem rd_gT {B : Nat → Int32} (h : gT B L) {row : Nat → Int32} {rn st : Nat} (h1 : st + L ≤ rn) (h2 : rn < 2 ^ 31) (h3 : ∀ i, i < L → vp_nar .byte (row (st + i)) = B i) : SP (m_X9_read y_bytes y_length y_at y_deep y_fault y_place y_end y_nodes y_kinds y_firsts y_numbers y_sizes y_inner y_nexts y_letters y_lettered y_shapes y_looked y_sorts y_names y_wide y_kids y_many y_fallback y_kidCount y_kidShape y_kidName y_kidDefault y_kidNext y_done y_finished y_root y_plain y_plainSize y_told row rn (nI st) (nI L)) (fun r => r.1 = 0 ∧ tkT r.2 ∧ r.2.2.1 = nI L ∧ (∃ w, w ≤ 4096 ∧ r.2.2.2.2.2.2.2.2.2.2.2.2.2.2.2.2.2.2.2.2.2.2.2.2.2.2.2.2.2.2.2.2.2.2.1 = nI w) ∧ ∀ i, i < L → r.2.1 i = B i) := by
  obtain ⟨hL, a, e, n, l, sh, lk, kc, dn, root, w, K, F, N, S, I, X, Lt, So, Na, Wi, Ki, Ma, Fa, kS, kN, kD, kX, Fi, Pl, To, hT, hr⟩ := h
  refine ⟨_, hr y_bytes y_kinds y_firsts y_sizes y_inner y_nexts y_letters y_sorts y_names y_wide y_kids y_many y_fallback y_kidShape y_kidName y_kidDefault y_kidNext y_finished y_plain y_told row y_numbers y_length y_at y_deep y_fault y_place y_end y_nodes y_lettered y_shapes y_looked y_kidCount y_done y_root y_plainSize rn st h1 h2 h3, rfl, ⟨n, l, sh, kc, _, root, w, hT.conc (tK := y_kinds), rfl⟩, rfl, ⟨w, hT.2.2.2.2.2.2.2, rfl⟩, fun i hi => ov_lt hi⟩
theorem msc_sp (hL : L ≤ 4096) (th has pl : Int32) : SP (m_X10_schema th T (nI L) has pl y_bytes y_length y_at y_deep y_fault y_place y_end y_nodes y_kinds y_firsts y_numbers y_sizes y_inner y_nexts y_letters y_lettered y_shapes y_looked y_sorts y_names y_wide y_kids y_many y_fallback y_kidCount y_kidShape y_kidName y_kidDefault y_kidNext y_done y_finished y_root y_plain y_plainSize y_told) (fun r => tyH r.2.2.1 r.2.2.2.2) := by
  have hB : ∀ i, i < L → vp_nar .byte (T (0 + i)) = (fun i => vp_nar .byte (T i)) i := fun i _ => by rw [Nat.zero_add]
  unfold m_X10_schema
  rcases read_out (fun i => vp_nar .byte (T i)) hL with h | ⟨c, p, hc, hb⟩
  · have hG : gT (fun i => vp_nar .byte (T i)) L := ⟨hL, h⟩
    have hs := rd_gT (y_bytes := y_bytes) ( y_length := y_length) ( y_at := y_at) ( y_deep := y_deep) ( y_fault := y_fault) ( y_place := y_place) ( y_end := y_end) ( y_nodes := y_nodes) ( y_kinds := y_kinds) ( y_firsts := y_firsts) ( y_numbers := y_numbers) ( y_sizes := y_sizes) ( y_inner := y_inner) ( y_nexts := y_nexts) ( y_letters := y_letters) ( y_lettered := y_lettered) ( y_shapes := y_shapes) ( y_looked := y_looked) ( y_sorts := y_sorts) ( y_names := y_names) ( y_wide := y_wide) ( y_kids := y_kids) ( y_many := y_many) ( y_fallback := y_fallback) ( y_kidCount := y_kidCount) ( y_kidShape := y_kidShape) ( y_kidName := y_kidName) ( y_kidDefault := y_kidDefault) ( y_kidNext := y_kidNext) ( y_done := y_done) ( y_finished := y_finished) ( y_root := y_root) ( y_plain := y_plain) ( y_plainSize := y_plainSize) ( y_told := y_told) hG (row := T) (rn := 4096) (st := 0) (by omega) (by decide) hB
    rw [nI_0] at hs
    refine SP.bind hs ?_
    rintro ⟨r1, y_bytes, y_length, y_at, y_deep, y_fault, y_place, y_end, y_nodes, y_kinds, y_firsts, y_numbers, y_sizes, y_inner, y_nexts, y_letters, y_lettered, y_shapes, y_looked, y_sorts, y_names, y_wide, y_kids, y_many, y_fallback, y_kidCount, y_kidShape, y_kidName, y_kidDefault, y_kidNext, y_done, y_finished, y_root, y_plain, y_plainSize, y_told⟩ ⟨h0, h1, h2, ⟨w, hw, h3⟩, h4⟩
    dsimp only at h0 h2 h3 h4 ⊢
    subst h0
    unfold m_X10_schema_32
    simp only [if_true, if_neg (show ¬ (1 : Int32) = 0 by decide), or_true]
    exact SP.ok (Or.inr ⟨rfl, _, L, w, hG, h2, fun i hi => by rw [h4 i hi]; exact nar_2 _, hw, h3⟩)
  · obtain ⟨u, hu, -⟩ := hb y_bytes y_kinds y_firsts y_sizes y_inner y_nexts y_letters y_sorts y_names y_wide y_kids y_many y_fallback y_kidShape y_kidName y_kidDefault y_kidNext y_finished y_plain y_told T y_numbers y_length y_at y_deep y_fault y_place y_end y_nodes y_lettered y_shapes y_looked y_kidCount y_done y_root y_plainSize 4096 0 (by omega) (by decide) hB
    rw [nI_0] at hu
    rw [hu]
    unfold m_X10_schema_32
    simp only [Option.bind_some, if_neg hc, if_true, true_or]
    exact SP.ok (Or.inl rfl)
theorem mtk_sp (hK : KP kept sizes) (th x y : Int32) : SP (m_X10_take th kept sizes a_bytes a_length a_at a_deep a_fault a_place a_end a_nodes a_kinds a_firsts a_numbers a_sizes a_inner a_nexts a_letters a_lettered a_shapes a_looked a_sorts a_names a_wide a_kids a_many a_fallback a_kidCount a_kidShape a_kidName a_kidDefault a_kidNext a_done a_finished a_root a_plain a_plainSize a_told b_bytes b_length b_at b_deep b_fault b_place b_end b_nodes b_kinds b_firsts b_numbers b_sizes b_inner b_nexts b_letters b_lettered b_shapes b_looked b_sorts b_names b_wide b_kids b_many b_fallback b_kidCount b_kidShape b_kidName b_kidDefault b_kidNext b_done b_finished b_root b_plain b_plainSize b_told x y) (fun r => r.1 = 0 ∨ r.1 = 1 ∧ match r.2 with
    | (_, _, _, _, _, _, _, _, _, _, _, a_numbers, a_sizes, _, _, _, _, _, _, a_sorts, a_names, a_wide, a_kids, _, _, _, a_kidShape, a_kidName, _, a_kidNext, _, _, a_root, _, _, _, _, _, _, _, _, _, _, _, _, _, b_numbers, b_sizes, _, _, _, _, _, _, b_sorts, b_names, b_wide, b_kids, _, _, _, b_kidShape, b_kidName, _, b_kidNext, _, _, b_root, _, _, _) => (∃ (n l sh kc : Nat) (K : Nat → Int32) (rt w : Nat), txtOK n l sh kc K a_numbers a_sizes a_sorts a_names a_wide a_kids a_kidShape a_kidName a_kidNext rt w ∧ a_root = nI rt) ∧ (∃ (n l sh kc : Nat) (K : Nat → Int32) (rt w : Nat), txtOK n l sh kc K b_numbers b_sizes b_sorts b_names b_wide b_kids b_kidShape b_kidName b_kidNext rt w ∧ b_root = nI rt)) := by
  have n1 : ¬ (1 : Int32) = 0 := by decide
  have no1 : ∀ y0 : Int32, SP (m_X10_take_57 kept sizes th a_bytes a_length a_at a_deep a_fault a_place a_end a_nodes a_kinds a_firsts a_numbers a_sizes a_inner a_nexts a_letters a_lettered a_shapes a_looked a_sorts a_names a_wide a_kids a_many a_fallback a_kidCount a_kidShape a_kidName a_kidDefault a_kidNext a_done a_finished a_root a_plain a_plainSize a_told b_bytes b_length b_at b_deep b_fault b_place b_end b_nodes b_kinds b_firsts b_numbers b_sizes b_inner b_nexts b_letters b_lettered b_shapes b_looked b_sorts b_names b_wide b_kids b_many b_fallback b_kidCount b_kidShape b_kidName b_kidDefault b_kidNext b_done b_finished b_root b_plain b_plainSize b_told x y y0 1) (fun r => r.1 = 0 ∨ r.1 = 1 ∧ match r.2 with
    | (_, _, _, _, _, _, _, _, _, _, _, a_numbers, a_sizes, _, _, _, _, _, _, a_sorts, a_names, a_wide, a_kids, _, _, _, a_kidShape, a_kidName, _, a_kidNext, _, _, a_root, _, _, _, _, _, _, _, _, _, _, _, _, _, b_numbers, b_sizes, _, _, _, _, _, _, b_sorts, b_names, b_wide, b_kids, _, _, _, b_kidShape, b_kidName, _, b_kidNext, _, _, b_root, _, _, _) => (∃ (n l sh kc : Nat) (K : Nat → Int32) (rt w : Nat), txtOK n l sh kc K a_numbers a_sizes a_sorts a_names a_wide a_kids a_kidShape a_kidName a_kidNext rt w ∧ a_root = nI rt) ∧ (∃ (n l sh kc : Nat) (K : Nat → Int32) (rt w : Nat), txtOK n l sh kc K b_numbers b_sizes b_sorts b_names b_wide b_kids b_kidShape b_kidName b_kidNext rt w ∧ b_root = nI rt)) := by
    intro y0
    unfold m_X10_take_57
    simp only [ref_1, Option.bind_some, if_neg n1]
    exact SP.ok (Or.inl rfl)
  have no2 : SP (m_X10_take_57 kept sizes th a_bytes a_length a_at a_deep a_fault a_place a_end a_nodes a_kinds a_firsts a_numbers a_sizes a_inner a_nexts a_letters a_lettered a_shapes a_looked a_sorts a_names a_wide a_kids a_many a_fallback a_kidCount a_kidShape a_kidName a_kidDefault a_kidNext a_done a_finished a_root a_plain a_plainSize a_told b_bytes b_length b_at b_deep b_fault b_place b_end b_nodes b_kinds b_firsts b_numbers b_sizes b_inner b_nexts b_letters b_lettered b_shapes b_looked b_sorts b_names b_wide b_kids b_many b_fallback b_kidCount b_kidShape b_kidName b_kidDefault b_kidNext b_done b_finished b_root b_plain b_plainSize b_told x y 1 0) (fun r => r.1 = 0 ∨ r.1 = 1 ∧ match r.2 with
    | (_, _, _, _, _, _, _, _, _, _, _, a_numbers, a_sizes, _, _, _, _, _, _, a_sorts, a_names, a_wide, a_kids, _, _, _, a_kidShape, a_kidName, _, a_kidNext, _, _, a_root, _, _, _, _, _, _, _, _, _, _, _, _, _, b_numbers, b_sizes, _, _, _, _, _, _, b_sorts, b_names, b_wide, b_kids, _, _, _, b_kidShape, b_kidName, _, b_kidNext, _, _, b_root, _, _, _) => (∃ (n l sh kc : Nat) (K : Nat → Int32) (rt w : Nat), txtOK n l sh kc K a_numbers a_sizes a_sorts a_names a_wide a_kids a_kidShape a_kidName a_kidNext rt w ∧ a_root = nI rt) ∧ (∃ (n l sh kc : Nat) (K : Nat → Int32) (rt w : Nat), txtOK n l sh kc K b_numbers b_sizes b_sorts b_names b_wide b_kids b_kidShape b_kidName b_kidNext rt w ∧ b_root = nI rt)) := by
    unfold m_X10_take_57
    simp only [ref_2, Option.bind_some, if_neg n1]
    exact SP.ok (Or.inl rfl)
  have h20 : SP (m_X10_take_20 kept sizes th a_bytes a_length a_at a_deep a_fault a_place a_end a_nodes a_kinds a_firsts a_numbers a_sizes a_inner a_nexts a_letters a_lettered a_shapes a_looked a_sorts a_names a_wide a_kids a_many a_fallback a_kidCount a_kidShape a_kidName a_kidDefault a_kidNext a_done a_finished a_root a_plain a_plainSize a_told b_bytes b_length b_at b_deep b_fault b_place b_end b_nodes b_kinds b_firsts b_numbers b_sizes b_inner b_nexts b_letters b_lettered b_shapes b_looked b_sorts b_names b_wide b_kids b_many b_fallback b_kidCount b_kidShape b_kidName b_kidDefault b_kidNext b_done b_finished b_root b_plain b_plainSize b_told x y 1) (fun r => r.1 = 0 ∨ r.1 = 1 ∧ match r.2 with
    | (_, _, _, _, _, _, _, _, _, _, _, a_numbers, a_sizes, _, _, _, _, _, _, a_sorts, a_names, a_wide, a_kids, _, _, _, a_kidShape, a_kidName, _, a_kidNext, _, _, a_root, _, _, _, _, _, _, _, _, _, _, _, _, _, b_numbers, b_sizes, _, _, _, _, _, _, b_sorts, b_names, b_wide, b_kids, _, _, _, b_kidShape, b_kidName, _, b_kidNext, _, _, b_root, _, _, _) => (∃ (n l sh kc : Nat) (K : Nat → Int32) (rt w : Nat), txtOK n l sh kc K a_numbers a_sizes a_sorts a_names a_wide a_kids a_kidShape a_kidName a_kidNext rt w ∧ a_root = nI rt) ∧ (∃ (n l sh kc : Nat) (K : Nat → Int32) (rt w : Nat), txtOK n l sh kc K b_numbers b_sizes b_sorts b_names b_wide b_kids b_kidShape b_kidName b_kidNext rt w ∧ b_root = nI rt)) := by
    unfold m_X10_take_20 m_X10_take_56 m_X10_take_52
    refine SP.bind (mpl_sp x) (fun r hr => SP.ite (fun _ => no1 _) (fun h0 => SP.bind (mpl_sp y) (fun r2 hr2 => SP.ite (fun _ => no1 _) (fun h2 => ?_))))
    obtain ⟨-, p, hp, rfl⟩ := hr.resolve_left h0
    obtain ⟨-, q, hq, rfl⟩ := hr2.resolve_left h2
    rw [bd_go hp (by decide)]
    refine SP.ite (fun _ => no1 _) (fun _ => ?_)
    rw [bd_go hq (by decide)]
    exact SP.ite (fun _ => no1 _) (fun _ => no1 _)
  unfold m_X10_take m_X10_take_15
  refine SP.bind (mpl_sp x) (fun r hr => SP.ite (fun _ => h20) (fun h0 => SP.bind (mpl_sp y) (fun r2 hr2 => SP.ite (fun _ => h20) (fun h2 => ?_))))
  obtain ⟨-, p, hp, rfl⟩ := hr.resolve_left h0
  obtain ⟨-, q, hq, rfl⟩ := hr2.resolve_left h2
  unfold m_X10_take_20 m_X10_take_56 m_X10_take_52
  simp only [mpl_1 hp, mpl_1 hq, Option.bind_some, if_neg n1]
  rw [bd_go hp (by decide), nI_clamp (show p < 2 ^ 31 by omega)]
  refine SP.ite (fun _ => no2) (fun hs => ?_)
  rw [bd_go hq (by decide), nI_clamp (show q < 2 ^ 31 by omega)]
  refine SP.ite (fun hs2 => ?_) (fun _ => no2)
  obtain ⟨B1, L1, hG1, e1, hB1⟩ := (hK p hp).resolve_left (fun e => hs (by rw [e]; decide))
  obtain ⟨B2, L2, hG2, e2, hB2⟩ := (hK q hq).resolve_left (fun e => absurd hs2 (by rw [e]; decide))
  have m1 : (4096 : Int32) * nI p = nI (4096 * p) := by rw [show (4096 : Int32) = nI 4096 from rfl, nI_mul]
  have m2 : (4096 : Int32) * nI q = nI (4096 * q) := by rw [show (4096 : Int32) = nI 4096 from rfl, nI_mul]
  have l1 := hG1.1
  have l2 := hG2.1
  unfold m_X10_take_57
  simp only [ref_0, Option.bind_some, if_true]
  rw [bd_go hp (by decide), nI_clamp (show p < 2 ^ 31 by omega), e1, m1]
  refine SP.bind (rd_gT hG1 (row := kept) (rn := 32768) (st := 4096 * p) (by omega) (by decide) hB1) ?_
  rintro ⟨r6, a_bytes6, a_length6, a_at6, a_deep6, a_fault6, a_place6, a_end6, a_nodes6, a_kinds6, a_firsts6, a_numbers6, a_sizes6, a_inner6, a_nexts6, a_letters6, a_lettered6, a_shapes6, a_looked6, a_sorts6, a_names6, a_wide6, a_kids6, a_many6, a_fallback6, a_kidCount6, a_kidShape6, a_kidName6, a_kidDefault6, a_kidNext6, a_done6, a_finished6, a_root6, a_plain6, a_plainSize6, a_told6⟩ ⟨-, h1, -⟩
  dsimp only
  rw [bd_go hq (by decide), nI_clamp (show q < 2 ^ 31 by omega), e2, m2]
  refine SP.bind (rd_gT hG2 (row := kept) (rn := 32768) (st := 4096 * q) (by omega) (by decide) hB2) ?_
  rintro ⟨r8, b_bytes8, b_length8, b_at8, b_deep8, b_fault8, b_place8, b_end8, b_nodes8, b_kinds8, b_firsts8, b_numbers8, b_sizes8, b_inner8, b_nexts8, b_letters8, b_lettered8, b_shapes8, b_looked8, b_sorts8, b_names8, b_wide8, b_kids8, b_many8, b_fallback8, b_kidCount8, b_kidShape8, b_kidName8, b_kidDefault8, b_kidNext8, b_done8, b_finished8, b_root8, b_plain8, b_plainSize8, b_told8⟩ ⟨-, h2, -⟩
  exact SP.ok (Or.inr ⟨rfl, h1, h2⟩)
theorem mfi_sp (hK : KP kept sizes) (th : Int32) (asked pairs : Nat → Int32) (many x y : Int32) : SP (m_X10_fits th kept sizes asked pairs many a_bytes a_length a_at a_deep a_fault a_place a_end a_nodes a_kinds a_firsts a_numbers a_sizes a_inner a_nexts a_letters a_lettered a_shapes a_looked a_sorts a_names a_wide a_kids a_many a_fallback a_kidCount a_kidShape a_kidName a_kidDefault a_kidNext a_done a_finished a_root a_plain a_plainSize a_told b_bytes b_length b_at b_deep b_fault b_place b_end b_nodes b_kinds b_firsts b_numbers b_sizes b_inner b_nexts b_letters b_lettered b_shapes b_looked b_sorts b_names b_wide b_kids b_many b_fallback b_kidCount b_kidShape b_kidName b_kidDefault b_kidNext b_done b_finished b_root b_plain b_plainSize b_told x y) (fun _ => True) := by
  unfold m_X10_fits
  refine SP.bind (mtk_sp hK th x y) ?_
  rintro ⟨r1, th1, a_bytes1, a_length1, a_at1, a_deep1, a_fault1, a_place1, a_end1, a_nodes1, a_kinds1, a_firsts1, a_numbers1, a_sizes1, a_inner1, a_nexts1, a_letters1, a_lettered1, a_shapes1, a_looked1, a_sorts1, a_names1, a_wide1, a_kids1, a_many1, a_fallback1, a_kidCount1, a_kidShape1, a_kidName1, a_kidDefault1, a_kidNext1, a_done1, a_finished1, a_root1, a_plain1, a_plainSize1, a_told1, b_bytes1, b_length1, b_at1, b_deep1, b_fault1, b_place1, b_end1, b_nodes1, b_kinds1, b_firsts1, b_numbers1, b_sizes1, b_inner1, b_nexts1, b_letters1, b_lettered1, b_shapes1, b_looked1, b_sorts1, b_names1, b_wide1, b_kids1, b_many1, b_fallback1, b_kidCount1, b_kidShape1, b_kidName1, b_kidDefault1, b_kidNext1, b_done1, b_finished1, b_root1, b_plain1, b_plainSize1, b_told1⟩ h
  refine SP.ite (fun _ => SP.ok trivial) (fun hne => ?_)
  obtain ⟨-, ⟨nA, lA, shA, kcA, KA, rtA, wA, hA, eA⟩, ⟨nB, lB, shB, kcB, KB, rtB, wB, hB, eB⟩⟩ := h.resolve_left hne
  subst eA eB
  obtain ⟨z, asked', pairs', m, hz, e, -⟩ := all_ok (LA := a_letters1) (LB := b_letters1) (FaB := b_fallback1) (kDB := b_kidDefault1) hA hB asked pairs many
  rw [e]
  exact SP.ite (fun _ => SP.ok trivial) (fun _ => SP.ok trivial)
theorem mma_sp (hK : KP kept sizes) (th x y : Int32) : SP (m_X10_matches th kept sizes a_bytes a_length a_at a_deep a_fault a_place a_end a_nodes a_kinds a_firsts a_numbers a_sizes a_inner a_nexts a_letters a_lettered a_shapes a_looked a_sorts a_names a_wide a_kids a_many a_fallback a_kidCount a_kidShape a_kidName a_kidDefault a_kidNext a_done a_finished a_root a_plain a_plainSize a_told b_bytes b_length b_at b_deep b_fault b_place b_end b_nodes b_kinds b_firsts b_numbers b_sizes b_inner b_nexts b_letters b_lettered b_shapes b_looked b_sorts b_names b_wide b_kids b_many b_fallback b_kidCount b_kidShape b_kidName b_kidDefault b_kidNext b_done b_finished b_root b_plain b_plainSize b_told x y) (fun _ => True) := by
  unfold m_X10_matches
  refine SP.bind (mtk_sp hK th x y) ?_
  rintro ⟨r1, th1, a_bytes1, a_length1, a_at1, a_deep1, a_fault1, a_place1, a_end1, a_nodes1, a_kinds1, a_firsts1, a_numbers1, a_sizes1, a_inner1, a_nexts1, a_letters1, a_lettered1, a_shapes1, a_looked1, a_sorts1, a_names1, a_wide1, a_kids1, a_many1, a_fallback1, a_kidCount1, a_kidShape1, a_kidName1, a_kidDefault1, a_kidNext1, a_done1, a_finished1, a_root1, a_plain1, a_plainSize1, a_told1, b_bytes1, b_length1, b_at1, b_deep1, b_fault1, b_place1, b_end1, b_nodes1, b_kinds1, b_firsts1, b_numbers1, b_sizes1, b_inner1, b_nexts1, b_letters1, b_lettered1, b_shapes1, b_looked1, b_sorts1, b_names1, b_wide1, b_kids1, b_many1, b_fallback1, b_kidCount1, b_kidShape1, b_kidName1, b_kidDefault1, b_kidNext1, b_done1, b_finished1, b_root1, b_plain1, b_plainSize1, b_told1⟩ h
  refine SP.ite (fun _ => SP.ok trivial) (fun hne => ?_)
  obtain ⟨-, ⟨nA, lA, shA, kcA, KA, rtA, wA, hA, eA⟩, ⟨nB, lB, shB, kcB, KB, rtB, wB, hB, eB⟩⟩ := h.resolve_left hne
  subst eA eB
  obtain ⟨z, hz, e⟩ := mat150 (LA := a_letters1) (LB := b_letters1) hA hB (hA.2.2.2.2.2.2.1.lt (Nat.le_refl _)) (hB.2.2.2.2.2.2.1.lt (Nat.le_refl _))
  rw [e]
  exact SP.ite (fun _ => SP.ok trivial) (fun _ => SP.ok trivial)
end MTK
