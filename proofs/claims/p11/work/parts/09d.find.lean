-- words found by their places in the tables
section
def sr_tb : Nat → List Cond
  | 0 => k2_sels lw_privs
  | 1 => tables_1_1
  | 2 => tables_1_2
  | 3 => tables_1_3
  | 4 => tables_1_4
  | 5 => tables_1_5
  | 6 => tables_1_6
  | 7 => tables_1_7
  | _ => []
theorem sr_tb_in : ∀ (k : Nat) (w : Cond), w ∈ sr_tb k → w ∈ lw_tbl
  | 0, _, h => List.mem_append_left _ h
  | 1, w, h => in_tables_1_1 w h
  | 2, w, h => in_tables_1_2 w h
  | 3, w, h => in_tables_1_3 w h
  | 4, w, h => in_tables_1_4 w h
  | 5, w, h => in_tables_1_5 w h
  | 6, w, h => in_tables_1_6 w h
  | 7, w, h => in_tables_1_7 w h
  | _ + 8, _, h => absurd h List.not_mem_nil
def sr_lq : List UInt8 → List UInt8 → Bool
  | [], [] => true
  | a :: as, b :: bs => Nat.beq a.toNat b.toNat && sr_lq as bs
  | _, _ => false
theorem sr_lq_eq : ∀ as bs : List UInt8, sr_lq as bs = true → as = bs
  | [], [], _ => rfl
  | a :: as, b :: bs, h => by
    simp only [sr_lq, Bool.and_eq_true, Nat.beq_eq] at h
    rw [UInt8.toNat_inj.mp h.1, sr_lq_eq as bs h.2]
  | [], _ :: _, h => absurd h Bool.false_ne_true
  | _ :: _, [], h => absurd h Bool.false_ne_true
def sr_cq : Cond → Cond → Bool
  | .code y c n r, .code y' c' n' r' => decide (y = y') && (sr_lq c.data.toList c'.data.toList && (decide (n = n') && decide (r = r')))
  | v, w => decide (v = w)
theorem sr_cq_eq {v w : Cond} (h : sr_cq v w = true) : v = w := by
  unfold sr_cq at h
  split at h
  · rename_i y c n r y' c' n' r'
    simp only [Bool.and_eq_true, decide_eq_true_eq] at h
    obtain ⟨rfl, hc, rfl, rfl⟩ := h
    obtain ⟨d⟩ := c
    obtain ⟨d'⟩ := c'
    have hd : d = d' := Array.toList_inj.mp (sr_lq_eq _ _ hc)
    rw [hd]
  · exact of_decide_eq_true h
def sr_oq : Option Cond → Cond → Bool
  | some v, w => sr_cq v w
  | none, _ => false
theorem sr_oq_eq {o : Option Cond} {w : Cond} (h : sr_oq o w = true) : o = some w := by
  cases o with
  | none => exact absurd h Bool.false_ne_true
  | some v => exact congrArg some (sr_cq_eq h)
def sr_iw : List Cond → List (Nat × Nat) → Bool
  | [], _ => true
  | w :: ws, q :: qs => sr_oq (sr_tb q.1)[q.2]? w && (goodWord w && sr_iw ws qs)
  | _ :: _, [] => false
theorem sr_iw_in : ∀ (ws : List Cond) (qs : List (Nat × Nat)), sr_iw ws qs = true → ∀ w ∈ ws, w ∈ sr_G
  | [], _, _ => fun w h => absurd h List.not_mem_nil
  | v :: ws, [], h => absurd h Bool.false_ne_true
  | v :: ws, q :: qs, h => by
    simp only [sr_iw, Bool.and_eq_true] at h
    intro w hw
    rcases List.mem_cons.mp hw with e | hw
    · subst e
      exact sr_in (sr_tb_in q.1 _ (List.mem_of_getElem? (sr_oq_eq h.1))) h.2.1
    · exact sr_iw_in ws qs h.2.2 w hw
theorem sr_insI {ws : List Cond} (qs : List (Nat × Nat)) (h : sr_iw ws qs = true) : ∀ w ∈ ws, w ∈ sr_G := sr_iw_in ws qs h
end
