-- the reference's objects, as told
theorem list_ext {s t : List Nat} (hl : s.length = t.length) (h : ∀ j, j < s.length → s.getD j 0 = t.getD j 0) : s = t := by
  induction s generalizing t with
  | nil => cases t with
    | nil => rfl
    | cons b t => cases hl
  | cons a s ih => cases t with
    | nil => cases hl
    | cons b t =>
      have h0 := h 0 (by simp)
      have hr := ih (t := t) (by simpa using hl) (fun j hj => by
        have := h (j + 1) (by simp; omega)
        simpa using this)
      rw [hr]
      congr 1
theorem same_r {N N' : Nat → Int64} {S Lt S' Lt' : Nat → Int32} {l l' x y : Nat} {s t : List Nat} (hx : x < 4200) (hy : y < 4200) (hl : l ≤ 4200) (hl' : l' ≤ 4200) (hs : RSt N S Lt l x s) (ht : RSt N' S' Lt' l' y t) (hb : ∀ c, c ∈ s → c ≤ 255) (hb' : ∀ c, c ∈ t → c ≤ 255) : m_X9_same N S Lt N' S' Lt' (nI x) (nI y) = some (if s = t then 1 else 0) := by
  obtain ⟨a1, st, a2, a3, a4⟩ := hs
  obtain ⟨b1, st', b2, b3, b4⟩ := ht
  by_cases e : s = t
  · subst e
    rw [if_pos rfl]
    exact same_t hx hy a2 a1 b2 b1 (by omega) (by omega) (fun j hj => by rw [a4 j hj, b4 j hj])
  · rw [if_neg e]
    refine same_f hx hy a2 a1 b2 b1 (by omega) (by omega) (fun q => e (list_ext q.1 (fun j hj => ?_)))
    have h := q.2 j hj
    have hj' : j < t.length := by have := q.1; omega
    rw [a4 j hj, b4 j hj'] at h
    have m1 : s.getD j 0 ≤ 255 := by rw [ls_get hj]; exact hb _ (List.getElem_mem hj)
    have m2 : t.getD j 0 ≤ 255 := by rw [ls_get hj']; exact hb' _ (List.getElem_mem hj')
    exact sb_inj (by omega) (by omega) h
theorem sgrp_t {fv : Nat → Nat ⊕ Nat} {B : Nat → Int32} {L cl n a : Nat} {seen : List (List Nat)} : sgrp fv B L true cl (n + 1) a seen = match skey B L a seen with
    | .inl w => .inl w
    | .inr (v, s) => match fv v with
      | .inl w => .inl w
      | .inr b => if cb B L (sbl B L b) = cl then .inr ([(a, v)], sbl B L b + 1) else if cb B L (sbl B L b) = 44 then
          (match sgrp fv B L true cl n (sbl B L (sbl B L b + 1)) (s :: seen) with
          | .inl w => .inl w
          | .inr (l, q) => .inr ((a, v) :: l, q)) else .inl (sbl B L b) := rfl
section ROBJ
variable {B : Nat → Int32} {L : Nat}
/-- the members read before: k of them, their strings' rows c i, what they say st i -/
def PFX (N : Nat → Int64) (S I X Lt : Nat → Int32) (l n0 n k : Nat) (c : Nat → Nat) (st : Nat → List Nat) : Prop :=
  (∀ i, i < k → n0 < c i ∧ c i + 1 < n ∧ X (c i) = nI (c i + 1) ∧ X (c i + 1) = (if i + 1 = k then -1 else nI (c (i + 1))) ∧ RSt N S Lt l (c i) (st i) ∧ (∀ v, v ∈ st i → v ≤ 255)) ∧ (∀ i j, i < j → j < k → c i + 1 < c j) ∧ I n0 = (if k = 0 then -1 else nI (c 0))
theorem obx_dup {fv : FV} {d a n l1 n0 k part : Nat} {c : Nat → Nat} {st : Nat → List Nat} {K1 F1 S1 I1 X1 Lt1 : Nat → Int32} {N1 : Nat → Int64} {fl pl x2 : Int32} {k37 : Int32 → Int32 → Int32 → Int32 → Int32 → (Nat → Int32) → (Nat → Int32) → (Nat → Int64) → (Nat → Int32) → (Nat → Int32) → (Nat → Int32) → (Nat → Int32) → Int32 → Int32 → Int32 → Int32 → Option (Except TV (Int32 × TV))} {E : TV → Prop} {Q : Int32 → TV → Prop} {s : List Nat}
    (hn : n < 4200) (hl1 : l1 ≤ 4200) (hkey : RSt N1 S1 Lt1 l1 n s) (hsb : ∀ v, v ∈ s → v ≤ 255) (hF : F1 n = nI part)
    (hc : ∀ i, i < k → c i + 1 < 4200 ∧ X1 (c i) = nI (c i + 1) ∧ X1 (c i + 1) = (if i + 1 = k then -1 else nI (c (i + 1))) ∧ RSt N1 S1 Lt1 l1 (c i) (st i) ∧ (∀ v, v ∈ st i → v ≤ 255))
    (hdup : (∃ i, i < k ∧ st i = s) → ∀ u : TV, fpV u = (1, nI part) → E u)
    (hexit : (¬ ∃ i, i < k ∧ st i = s) → ∀ f, PX (m_X9_object_78 fv B (nI L) k37 (f + 1) (nI a) (nI d) fl pl (nI (n + 1)) K1 F1 N1 S1 I1 X1 Lt1 (nI l1) (nI n0) x2 (nI n) (-1)) E Q) :
    ∀ (fuel i : Nat), i ≤ k → (∀ j, j < i → st j ≠ s) → PX (m_X9_object_78 fv B (nI L) k37 fuel (nI a) (nI d) fl pl (nI (n + 1)) K1 F1 N1 S1 I1 X1 Lt1 (nI l1) (nI n0) x2 (nI n) (if i = k then -1 else nI (c i))) E Q := by
  intro fuel
  induction fuel with
  | zero => intro i _ _; exact PX.none
  | succ fuel ih =>
    intro i hi hne
    by_cases hik : i = k
    · rw [if_pos hik]
      exact hexit (fun ⟨j, j1, j2⟩ => hne j (by omega) j2) fuel
    · obtain ⟨c1, c2, c3, c4, c5⟩ := hc i (by omega)
      rw [if_neg hik]
      simp only [m_X9_object_78, if_neg (nI_pos (show c i < 2 ^ 31 by omega))]
      rw [same_r (by omega) hn hl1 hl1 c4 hkey c5 hsb]
      simp only [Option.bind_some]
      by_cases hs : st i = s
      · rw [if_pos hs, if_neg (show ¬ (1 : Int32) = 0 by decide)]
        simp only [m_X9_object_101, bd_go hn (by decide), bd_gc hn (by decide), nI_clamp (show n < 2 ^ 31 by omega), hF, need_0, try_e]
        exact PX.er (hdup ⟨i, by omega, hs⟩ _ rfl)
      · rw [if_neg hs, if_pos rfl]
        simp only [m_X9_object_101, bd_go hn (by decide), bd_gc hn (by decide), nI_clamp (show n < 2 ^ 31 by omega), hF, need_1, try_o, bd_go (show c i < 4200 by omega) (by decide), bd_gc (show c i < 4200 by omega) (by decide), nI_clamp (show c i < 2 ^ 31 by omega), c2, bd_go (show c i + 1 < 4200 by omega) (by decide), bd_gc (show c i + 1 < 4200 by omega) (by decide), nI_clamp (show c i + 1 < 2 ^ 31 by omega), c3]
        refine ih (i + 1) (by omega) (fun j hj => ?_)
        by_cases e : j = i
        · rw [e]; exact hs
        · exact hne j (by omega)
theorem obx_go (hB : BY B L) (hL : L ≤ 4096) {fv : FV} {d D : Nat} (hv : okX B L fv d D) {n0 : Nat} {fl pl : Int32} : ∀ (nn fuel a n l k : Nat) (c : Nat → Nat) (st : Nat → List Nat) (K F : Nat → Int32) (N : Nat → Int64) (S I X Lt : Nat → Int32) (seen : List (List Nat)), a ≤ L → L - a < nn → n ≤ a → l ≤ a → n0 < n → PFX N S I X Lt l n0 n k c st → (∀ s, s ∈ seen ↔ ∃ i, i < k ∧ st i = s) →
    PX (m_X9_object_37 fv B (nI L) fuel (nI a) (nI d) fl pl (nI n) K F N S I X Lt (nI l) (nI n0) (if k = 0 then -1 else nI (c (k - 1) + 1)) 1) (fun u => EW (sgrp (sval B L D) B L true 125 nn a seen) (fpV u))
      (fun v u => ∃ (ks : List (Nat × Nat)) (q n' l' : Nat) (K' F' : Nat → Int32) (N' : Nat → Int64) (S' I' X' Lt' : Nat → Int32), sgrp (sval B L D) B L true 125 nn a seen = .inr (ks, q) ∧ v = nI n0 ∧ u = (nI q, nI d, fl, pl, nI n', K', F', N', S', I', X', Lt', nI l') ∧ n < n' ∧ n' + a ≤ n + q ∧ l ≤ l' ∧ l' + a ≤ l + q ∧ ag n K K' ∧ ag n F F' ∧ ag n N N' ∧ ag n S S' ∧ (∀ i, i < n → I' i = (if k = 0 then upd I n0 (nI n) else I) i) ∧ (∀ i, i < n → X' i = (if k = 0 then X else upd X (c (k - 1) + 1) (nI n)) i) ∧ ag l Lt Lt' ∧ RTO (RT B L K' F' N' S' I' X' Lt' l' D) (RKey B L K' F' N' S' Lt' l') X' n' ks n (nI n)) := by
  intro nn
  induction nn with
  | zero => intro fuel a n l k c st K F N S I X Lt seen _ h; exact absurd h (Nat.not_lt_zero _)
  | succ nn ih =>
    intro fuel a n l k c st K F N S I X Lt seen ha hnn hn hl hn0 hpf hseen
    cases fuel with
    | zero => exact PX.none
    | succ fuel =>
    simp only [m_X9_object_37, if_neg (show ¬ (1 : Int32) = 0 by decide), look_r hB hL ha, Option.bind_some, sb34]
    refine PX.ite (fun h34 => ?_) (fun h34 => ?_)
    case refine_2 =>
      simp only [m_X9_object_56, need_0, try_e]
      refine PX.er ⟨a, ?_, rfl⟩
      rw [sgrp_t]
      unfold skey
      rw [if_neg h34]
    have hlt : a < L := cb_lt (B := B) (by omega)
    simp only [m_X9_object_56, need_1, try_o]
    refine PX.try (str_r hB hL hlt hn hl) ?_ ?_
    · rintro u ⟨w, h1, h2⟩
      refine ⟨w, ?_, h2⟩
      rw [sgrp_t]
      unfold skey
      rw [if_pos h34, h1]
    rintro _ _ ⟨w, s, Lt1, hstr, rfl, rfl, gL1, hlet⟩
    dsimp only
    have hsw := sstrf_p _ _ _ _ hstr
    have hsb := sstrf_b _ _ _ _ hstr
    obtain ⟨hp1, hp2, hp3⟩ := hpf
    rw [bd_go (show n0 < 4200 by omega) (by decide), nI_clamp (show n0 < 2 ^ 31 by omega), pk_un (show n0 ≠ n by omega), hp3]
    have hkey1 : RSt (vp_updL N n (lN l)) (upd S n (nI s.length)) Lt1 (l + s.length) n s := ⟨pk_us, l, pk_uLs, Nat.le_refl _, hlet⟩
    have hcs : ∀ i, i < k → c i + 1 < 4200 ∧ (upd X n (-1)) (c i) = nI (c i + 1) ∧ (upd X n (-1)) (c i + 1) = (if i + 1 = k then -1 else nI (c (i + 1))) ∧ RSt (vp_updL N n (lN l)) (upd S n (nI s.length)) Lt1 (l + s.length) (c i) (st i) ∧ (∀ v, v ∈ st i → v ≤ 255) := by
      intro i hi
      obtain ⟨q1, q2, q3, q4, q5, q6⟩ := hp1 i hi
      exact ⟨by omega, by rw [pk_un (by omega)]; exact q3, by rw [pk_un (by omega)]; exact q4, q5.keep (pk_uLn (by omega)) (pk_un (by omega)) (by omega) gL1, q6⟩
    have hstart : (if k = 0 then (-1 : Int32) else nI (c 0)) = (if 0 = k then -1 else nI (c 0)) := by
      by_cases hk : k = 0
      · rw [if_pos hk, if_pos hk.symm]
      · rw [if_neg hk, if_neg (fun q => hk q.symm)]
    rw [hstart]
    refine obx_dup (part := a) (show n < 4200 by omega) (show l + s.length ≤ 4200 by omega) hkey1 hsb pk_us hcs ?_ ?_ sr_fuel 0 (by omega) (fun j hj => absurd hj (Nat.not_lt_zero _))
    · intro hd u hu
      refine ⟨a, ?_, hu⟩
      rw [sgrp_t]
      unfold skey
      rw [if_pos h34, hstr]
      simp only
      rw [if_pos ((hseen s).mpr hd)]
    intro hnd f
    have hns : s ∉ seen := fun q => hnd ((hseen s).mp q)
    have hb1 := sbl_le (B := B) (L := L) (a := w)
    have hb2 := sbl_le2 (B := B) (L := L) (a := w) (by omega)
    simp only [m_X9_object_78, if_pos (show (-1 : Int32) < 0 by decide), blk_r hB hL (show w ≤ L by omega), Option.bind_some, take_r hB hL hb2, sb58]
    by_cases h58 : cb B L (sbl B L w) = 58
    case neg =>
      simp only [if_neg h58, try_e]
      refine PX.er ⟨sbl B L w, ?_, rfl⟩
      rw [sgrp_t]
      unfold skey
      rw [if_pos h34, hstr]
      simp only
      rw [if_neg hns, if_neg h58]
    have hlt1 : sbl B L w < L := cb_lt (B := B) (by omega)
    have hy1 := sbl_le (B := B) (L := L) (a := sbl B L w + 1)
    have hy2 := sbl_le2 (B := B) (L := L) (a := sbl B L w + 1) (by omega)
    have hsk : skey B L a seen = .inr (sbl B L (sbl B L w + 1), s) := by
      unfold skey
      rw [if_pos h34, hstr]
      simp only
      rw [if_neg hns, if_pos h58]
    simp only [if_pos h58, try_o, blk_r hB hL (show sbl B L w + 1 ≤ L by omega), Option.bind_some]
    generalize sbl B L (sbl B L w + 1) = y at hy1 hy2 hsk ⊢
    refine PX.try (hv y (n + 1) (l + s.length) _ _ _ _ _ _ Lt1 fl pl hy2 (by omega) (by omega)) ?_ ?_
    · rintro u ⟨w', q1, q2⟩
      exact ⟨w', by rw [sgrp_t, hsk]; simp only; rw [q1], q2⟩
    rintro _ _ ⟨b, n1, l1, K1, F1, N1, S1, I1, X1, Lt2, hb, rfl, rfl, h1, h2, h3, h4, ⟨gK, gF, gN, gS, gI, gX⟩, gL, hXn, hRT⟩
    obtain ⟨hab, hbL⟩ := sval_p _ _ _ hb
    dsimp only
    have eK : ∀ j, j < n → K1 j = K j := fun j hj => by rw [← gK j (by omega), pk_un (by omega)]
    have eF : ∀ j, j < n → F1 j = F j := fun j hj => by rw [← gF j (by omega), pk_un (by omega)]
    have eN : ∀ j, j < n → N1 j = N j := fun j hj => by rw [← gN j (by omega), pk_uLn (by omega)]
    have eS : ∀ j, j < n → S1 j = S j := fun j hj => by rw [← gS j (by omega), pk_un (by omega)]
    have eI : ∀ j, j < n → I1 j = I j := fun j hj => by rw [← gI j (by omega), pk_un (by omega)]
    have eX : ∀ j, j < n → X1 j = X j := fun j hj => by rw [← gX j (by omega), pk_un (by omega)]
    have hKn : K1 n = 2 := by rw [← gK n (by omega), pk_us]
    have hFn : F1 n = nI a := by rw [← gF n (by omega), pk_us]
    have hRn : RSt N1 S1 Lt2 l1 n s := hkey1.keep (gN n (by omega)).symm (gS n (by omega)).symm h3 gL
    have tail : ∀ (I2 X2 : Nat → Int32), (∀ i, i < n → I2 i = (if k = 0 then upd I n0 (nI n) else I) i) → (∀ i, n ≤ i → I2 i = I1 i) → (∀ i, i < n → X2 i = (if k = 0 then X else upd X (c (k - 1) + 1) (nI n)) i) → (∀ i, n ≤ i → X2 i = X1 i) →
        PX (m_X9_object_172 fv B (nI L) (m_X9_object_37 fv B (nI L) fuel) (nI b) (nI d) fl pl (nI n1) K1 F1 N1 S1 I2 X2 Lt2 (nI l1) (nI n0) (nI n) (nI (n + 1))) (fun u => EW (sgrp (sval B L D) B L true 125 (nn + 1) a seen) (fpV u))
          (fun v u => ∃ (ks : List (Nat × Nat)) (q n' l' : Nat) (K' F' : Nat → Int32) (N' : Nat → Int64) (S' I' X' Lt' : Nat → Int32), sgrp (sval B L D) B L true 125 (nn + 1) a seen = .inr (ks, q) ∧ v = nI n0 ∧ u = (nI q, nI d, fl, pl, nI n', K', F', N', S', I', X', Lt', nI l') ∧ n < n' ∧ n' + a ≤ n + q ∧ l ≤ l' ∧ l' + a ≤ l + q ∧ ag n K K' ∧ ag n F F' ∧ ag n N N' ∧ ag n S S' ∧ (∀ i, i < n → I' i = (if k = 0 then upd I n0 (nI n) else I) i) ∧ (∀ i, i < n → X' i = (if k = 0 then X else upd X (c (k - 1) + 1) (nI n)) i) ∧ ag l Lt Lt' ∧ RTO (RT B L K' F' N' S' I' X' Lt' l' D) (RKey B L K' F' N' S' Lt' l') X' n' ks n (nI n)) := by
      intro I2 X2 i1 i2 x1 x2
      have hc1 := sbl_le (B := B) (L := L) (a := b)
      have hc2 := sbl_le2 (B := B) (L := L) (a := b) hbL
      simp only [m_X9_object_172, bd_go (show n < 4200 by omega) (by decide), bd_gc (show n < 4200 by omega) (by decide), nI_clamp (show n < 2 ^ 31 by omega), blk_r hB hL hbL, Option.bind_some, look_r hB hL hc2, sb44]
      have hXs : ∀ i, i < n → (upd X2 n (nI (n + 1))) i = (if k = 0 then X else upd X (c (k - 1) + 1) (nI n)) i := fun i hi => by rw [pk_un (by omega)]; exact x1 i hi
      refine PX.ite (fun h44 => ?_) (fun h44 => ?_)
      · have hlt2 : sbl B L b < L := cb_lt (B := B) (by omega)
        have hd1 := sbl_le (B := B) (L := L) (a := sbl B L b + 1)
        have hd2 := sbl_le2 (B := B) (L := L) (a := sbl B L b + 1) (by omega)
        simp only [m_X9_object_202, if_neg (show ¬ (1 : Int32) = 0 by decide), nI_1, blk_r hB hL (show sbl B L b + 1 ≤ L by omega), Option.bind_some]
        have hpf2 : PFX N1 S1 I2 (upd X2 n (nI (n + 1))) Lt2 l1 n0 n1 (k + 1) (snc c k n) (fun i => if i = k then s else st i) := by
          refine ⟨fun i hi => ?_, fun i j hij hj => ?_, ?_⟩
          · by_cases e : i = k
            · subst e
              simp only [snc_s, if_true]
              exact ⟨hn0, by omega, pk_us, by rw [pk_un (by omega), x2 (n + 1) (by omega)]; exact hXn, hRn, hsb⟩
            · obtain ⟨q1, q2, q3, q4, q5, q6⟩ := hp1 i (by omega)
              have hk0 : ¬ k = 0 := by omega
              simp only [snc_n e, if_neg e]
              refine ⟨q1, by omega, ?_, ?_, q5.keep (eN _ (by omega)) (eS _ (by omega)) (by omega) (gL1.trans gL (by omega)), q6⟩
              · rw [hXs _ (by omega), if_neg hk0, pk_un ?_]
                · exact q3
                · by_cases e2 : i = k - 1
                  · rw [e2]; omega
                  · have := hp2 i (k - 1) (by omega) (by omega)
                    omega
              · rw [hXs _ (by omega), if_neg hk0, if_neg (show ¬ i + 1 = k + 1 by omega)]
                by_cases e2 : i + 1 = k
                · have e3 : i = k - 1 := by omega
                  rw [e3, pk_us, show k - 1 + 1 = k by omega, snc_s]
                · have := hp2 i (k - 1) (by omega) (by omega)
                  rw [pk_un (by omega), snc_n e2, q4, if_neg e2]
          · by_cases e : j = k
            · subst e
              rw [snc_s, snc_n (by omega)]
              have := hp1 i (by omega)
              omega
            · rw [snc_n e, snc_n (by omega)]
              exact hp2 i j hij (by omega)
          · rw [i1 n0 hn0, if_neg (show ¬ k + 1 = 0 by omega)]
            by_cases e : k = 0
            · subst e
              rw [if_pos rfl, pk_us, snc_s]
            · rw [if_neg e, snc_n (by omega), hp3, if_neg e]
        have hse2 : ∀ x, x ∈ s :: seen ↔ ∃ i, i < k + 1 ∧ (fun i => if i = k then s else st i) i = x := by
          intro x
          rw [List.mem_cons, hseen x]
          constructor
          · rintro (q | ⟨j, j1, j2⟩)
            · exact ⟨k, by omega, by simp only [if_true]; exact q.symm⟩
            · exact ⟨j, by omega, by simp only [if_neg (show ¬ j = k by omega)]; exact j2⟩
          · rintro ⟨j, j1, j2⟩
            by_cases q : j = k
            · simp only [if_pos q] at j2
              exact Or.inl j2.symm
            · simp only [if_neg q] at j2
              exact Or.inr ⟨j, by omega, j2⟩
        have hlast : (if k + 1 = 0 then (-1 : Int32) else nI (snc c k n (k + 1 - 1) + 1)) = nI (n + 1) := by
          rw [if_neg (by omega), Nat.add_sub_cancel, snc_s]
        have hI := ih fuel (sbl B L (sbl B L b + 1)) n1 l1 (k + 1) (snc c k n) (fun i => if i = k then s else st i) K1 F1 N1 S1 I2 (upd X2 n (nI (n + 1))) Lt2 (s :: seen) hd2 (by omega) (by omega) (by omega) (by omega) hpf2 hse2
        rw [hlast] at hI
        refine hI.mono ?_ ?_
        · rintro u ⟨w', q1, q2⟩
          refine ⟨w', ?_, q2⟩
          rw [sgrp_t, hsk]
          simp only
          rw [hb]
          simp only
          rw [if_neg (by omega), if_pos h44, q1]
        · rintro v u ⟨ks, q, n', l', K', F', N', S', I', X', Lt', z1, z2, z3, z4, z5, z6, z7, z8, z9, z10, z11, z12, z13, z14, z15⟩
          rw [if_neg (show ¬ k + 1 = 0 by omega)] at z12 z13
          rw [Nat.add_sub_cancel, snc_s] at z13
          refine ⟨(a, y) :: ks, q, n', l', K', F', N', S', I', X', Lt', ?_, z2, z3, by omega, by omega, by omega, by omega, fun i hi => ?_, fun i hi => ?_, fun i hi => ?_, fun i hi => ?_, fun i hi => ?_, fun i hi => ?_, (gL1.trans gL (by omega)).trans z14 (by omega), n, n1, rfl, Nat.le_refl _, by omega, by omega, ?_, ?_, ?_, ?_⟩
          · rw [sgrp_t, hsk]
            simp only
            rw [hb]
            simp only
            rw [if_neg (by omega), if_pos h44, z1]
          · rw [← z8 i (by omega)]; exact (eK i hi).symm
          · rw [← z9 i (by omega)]; exact (eF i hi).symm
          · rw [← z10 i (by omega)]; exact (eN i hi).symm
          · rw [← z11 i (by omega)]; exact (eS i hi).symm
          · rw [z12 i (by omega)]; exact i1 i hi
          · rw [z13 i (by omega), pk_un (by omega)]; exact hXs i hi
          · exact ⟨by rw [← z8 n (by omega)]; exact hKn, by rw [← z9 n (by omega)]; exact hFn, s, w, hstr, hRn.keep (z10 n (by omega)).symm (z11 n (by omega)).symm z6 z14⟩
          · refine RT.keep z6 z14 _ _ _ _ hRT (fun i j1 j2 => ⟨(z8 i j2).symm, (z9 i j2).symm, (z10 i j2).symm, (z11 i j2).symm, ?_⟩) (fun i j1 j2 => ?_)
            · rw [z12 i j2]; exact i2 i (by omega)
            · rw [z13 i j2, pk_un (by omega), pk_un (by omega)]; exact x2 i (by omega)
          · rw [z13 n (by omega), pk_un (by omega), pk_us]
          · rw [z13 (n + 1) h1, pk_us]
            exact z15
      · simp only [m_X9_object_202, if_pos (rfl : (0 : Int32) = 0)]
        cases fuel with
        | zero => exact PX.none
        | succ fuel =>
        simp only [m_X9_object_37, if_pos (rfl : (0 : Int32) = 0), take_r hB hL hc2, sb125]
        by_cases h125 : cb B L (sbl B L b) = 125
        · simp only [if_pos h125, try_o]
          have hlt2 : sbl B L b < L := cb_lt (B := B) (by omega)
          refine PX.ok ⟨[(a, y)], sbl B L b + 1, n1, l1, K1, F1, N1, S1, I2, upd X2 n (nI (n + 1)), Lt2, ?_, rfl, rfl, by omega, by omega, by omega, by omega, fun i hi => (eK i hi).symm, fun i hi => (eF i hi).symm, fun i hi => (eN i hi).symm, fun i hi => (eS i hi).symm, i1, hXs, gL1.trans gL (by omega), n, n1, rfl, Nat.le_refl _, by omega, Nat.le_refl _, ⟨hKn, hFn, s, w, hstr, hRn⟩, ?_, pk_us, ?_⟩
          · rw [sgrp_t, hsk]
            simp only
            rw [hb]
            simp only
            rw [if_pos h125]
          · exact RT.keep (Nat.le_refl _) ag.rfl' _ _ _ _ hRT (fun i j1 j2 => ⟨rfl, rfl, rfl, rfl, i2 i (by omega)⟩) (fun i j1 j2 => by rw [pk_un (by omega)]; exact x2 i (by omega))
          · show upd X2 n (nI (n + 1)) (n + 1) = -1
            rw [pk_un (by omega), x2 (n + 1) (by omega)]
            exact hXn
        · simp only [if_neg h125, try_e]
          refine PX.er ⟨sbl B L b, ?_, rfl⟩
          rw [sgrp_t, hsk]
          simp only
          rw [hb]
          simp only
          rw [if_neg h125, if_neg h44]
    by_cases hk : k = 0
    · subst hk
      rw [if_pos rfl, if_neg (show ¬ (0 : Int32) ≤ -1 by decide), bd_go (show n0 < 4200 by omega) (by decide), nI_clamp (show n0 < 2 ^ 31 by omega)]
      refine tail (upd I1 n0 (nI n)) X1 (fun i hi => ?_) (fun i hi => pk_un (by omega)) (fun i hi => ?_) (fun _ _ => rfl)
      · rw [if_pos rfl]
        by_cases e : i = n0
        · rw [e, pk_us, pk_us]
        · rw [pk_un e, pk_un e]; exact eI i hi
      · rw [if_pos rfl]; exact eX i hi
    · obtain ⟨q1, q2, q3, q4, q5, q6⟩ := hp1 (k - 1) (by omega)
      rw [if_neg hk, if_pos (nI_pos' (show c (k - 1) + 1 < 2 ^ 31 by omega)), bd_go (show c (k - 1) + 1 < 4200 by omega) (by decide), nI_clamp (show c (k - 1) + 1 < 2 ^ 31 by omega)]
      refine tail I1 (upd X1 (c (k - 1) + 1) (nI n)) (fun i hi => ?_) (fun _ _ => rfl) (fun i hi => ?_) (fun i hi => pk_un (by omega))
      · rw [if_neg hk]; exact eI i hi
      · rw [if_neg hk]
        by_cases e : i = c (k - 1) + 1
        · rw [e, pk_us, pk_us]
        · rw [pk_un e, pk_un e]; exact eX i hi
end ROBJ
