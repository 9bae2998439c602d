-- matches: what is told, over two told states
section WSM
variable {G : Nat → Nod} {nm : Nat → List Nat}
theorem upB_s {to : Nat → Bool} {d : Nat} : upB to d d = true := if_pos rfl
theorem upB_t {to : Nat → Bool} {d e : Nat} (h : to e = true) : upB to d e = true := by
  unfold upB
  split
  · rfl
  · exact h
theorem wS_nam {n i : Nat} {to to' : Nat → Bool} {b : List Nat} (h : wS G nm n i to = some (b, to')) (h8 : 8 ≤ n_kd (G (n_me (G i)))) (h10 : n_kd (G (n_me (G i))) ≤ 10) : to' (n_me (G i)) = true := by
  cases n with
  | zero => cases h
  | succ n =>
    unfold wS at h
    rw [if_neg (by omega), if_neg (by omega), if_neg (by omega)] at h
    split at h
    · rename_i ht
      cases h
      exact ht
    split at h
    · cases h; exact upB_s
    split at h
    · cases h; exact upB_s
    split at h
    · cases h
    · rename_i r hr
      cases h
      exact gS_mono (fun c t b t' => wS_mono n c t b t') _ _ r.1 r.2 hr _ upB_s
theorem wS_arr {n i : Nat} {to to' : Nat → Bool} {b : List Nat} (h : wS G nm (n + 1) i to = some (b, to')) (h6 : n_kd (G (n_me (G i))) = 6 ∨ n_kd (G (n_me (G i))) = 7) : ∃ c r b2, n_ch (G (n_me (G i))) = c :: r ∧ wS G nm n c to = some (b2, to') := by
  unfold wS at h
  rw [if_neg (by omega), if_pos h6] at h
  split at h
  · cases h
  · rename_i c r hc
    split at h
    · cases h
    · rename_i z hz
      cases h
      exact ⟨c, r, z.1, hc, hz⟩
end WSM
/-- from slot i on, down the items of arrays and maps, all is as it should be -/
def CHF (G : Nat → Nod) (D : List Nat → Option Nat) (k : Nat) : Nat → Nat → Prop
  | 0, _ => False
  | n + 1, i => i < k ∧ n_me (G i) < k ∧ n_me (G (n_me (G i))) = n_me (G i) ∧ n_kd (G (n_me (G i))) ≤ 11 ∧ (8 ≤ n_kd (G (n_me (G i))) → n_kd (G (n_me (G i))) ≤ 10 → ∃ w, D w = some (n_me (G i))) ∧ (n_kd (G (n_me (G i))) = 6 ∨ n_kd (G (n_me (G i))) = 7 → ∃ c r, n_ch (G (n_me (G i))) = c :: r ∧ CHF G D k n c)
theorem chf_of {G : Nat → Nod} {nm : Nat → List Nat} {D : List Nat → Option Nat} {k : Nat} (hO : ∀ i, i < k → OKS G k i) : ∀ (n i : Nat) (b : List Nat), i < k → wS G nm n i (fun _ => false) = some (b, tol D) → CHF G D k n i := by
  intro n
  induction n with
  | zero => intro i b _ h; cases h
  | succ n ih =>
    intro i b hi h
    obtain ⟨o1, o2, o3, o4, o5⟩ := hO i hi
    refine ⟨hi, o3, o1, o2, fun h8 h10 => ?_, fun h6 => ?_⟩
    · have ht := wS_nam h h8 h10
      by_cases hx : ∃ w, D w = some (n_me (G i))
      · exact hx
      · rw [tol_f (fun w hw => hx ⟨w, hw⟩)] at ht
        cases ht
    · obtain ⟨c, r, b2, hc, hw⟩ := wS_arr h h6
      refine ⟨c, r, hc, ih c b2 ?_ hw⟩
      exact ((hO _ o3).2.2.2.1 c (by rw [hc]; exact List.mem_cons_self)).1
/-- the six, one told as another -/
def sixT (x y : Nat) : Bool := decide (x ≤ 5 ∧ y ≤ 5 ∧ (x = y ∨ (x = 2 ∧ y = 3) ∨ ((x = 4 ∨ x = 5) ∧ (y = 4 ∨ y = 5))))
section MTS
variable (G G' : Nat → Nod) (D D' : List Nat → Option Nat)
noncomputable def mtS : Nat → Nat → Nat → Bool
  | 0, _, _ => false
  | n + 1, i, j =>
    if n_kd (G (n_me (G i))) = 11 ∨ n_kd (G' (n_me (G' j))) = 11 then true
    else if ¬ n_kd (G (n_me (G i))) = n_kd (G' (n_me (G' j))) ∨ n_kd (G (n_me (G i))) ≤ 5 then sixT (n_kd (G (n_me (G i)))) (n_kd (G' (n_me (G' j))))
    else if n_kd (G (n_me (G i))) ≤ 7 then mtS n ((n_ch (G (n_me (G i)))).getD 0 0) ((n_ch (G' (n_me (G' j)))).getD 0 0)
    else dec ((∃ w, D w = some (n_me (G i)) ∧ D' w = some (n_me (G' j))) ∧ (n_kd (G (n_me (G i))) = 8 → n_wd (G (n_me (G i))) = n_wd (G' (n_me (G' j)))))
end MTS
/-- whether one told state matches another -/
noncomputable def mtT (st st' : LSt) : Bool := mtS st.2.2.2.2.2.2 st'.2.2.2.2.2.2 st.2.2.2.2.1 st'.2.2.2.2.1 16 0 0
/-- what matches rests on, of one told state -/
def MOK (st : LSt) : Prop := st.1 ≤ 128 ∧ CHF st.2.2.2.2.2.2 st.2.2.2.2.1 st.1 16 0 ∧ (∃ nm : Nat → List Nat, ∀ w d, st.2.2.2.2.1 w = some d → nm d = w) ∧ ∀ i, i < st.1 → n_me (st.2.2.2.2.2.2 i) = i → n_kd (st.2.2.2.2.2.2 i) = 8 → n_wd (st.2.2.2.2.2.2 i) ≤ 64
theorem mok_rtu {T : Nat → Int32} {L : Nat} {st : LSt} {u : TR} (hL : L ≤ 4096) (h : RTU T L st u) : MOK st := by
  obtain ⟨Sd, In, Nx, Am, l, p, n, b, hl, hu⟩ := h
  obtain ⟨u1, u2, u3, u4, u5, u6, K, F, N, S, I, X, Lt, u14, sh, lk, So, Nm, Wi, Kd, u21, u22, kc, kS, kN, kD, kX, dn, Fi, rt⟩ := u
  obtain ⟨hV, hlk, hW, hI, hrt⟩ := hu
  have hp := look_p (T := T) (Sd := Sd) (In := In) (Nx := Nx) (Am := Am) (K := K) (F := F) (N := N) (S := S) (I := I) (X := X) (Lt := Lt) hL hl 16 p false st0 st n b hV wf0 hlk
  have hw := look_w (T := T) (Sd := Sd) (In := In) (Nx := Nx) (Am := Am) (K := K) (F := F) (N := N) (S := S) (I := I) (X := X) (Lt := Lt) hL hl 16 16 (Nat.le_refl _) p false st0 st n b hV wf0 hlk
  have hO := look_f (T := T) (Sd := Sd) (In := In) (Nx := Nx) (Am := Am) (K := K) (F := F) (N := N) (S := S) (I := I) (X := X) (Lt := Lt) hL hl 16 p false st0 st n b hV wf0 hlk
  obtain ⟨k, sh', kc', pl, D, fi, G⟩ := st
  obtain ⟨⟨f1, f2, f3, f4, f5, f6, f7, f8, f9, f10⟩, fl⟩ := hp
  obtain ⟨i1, i2, i3, i4, i5, i6, i7, i8, i9, i10, i11, i12, i13, i14⟩ := hI
  obtain ⟨nm, hnm⟩ := nm_ex hl i11
  have hD : DOK D G k := f9
  obtain ⟨bs, w1, w2⟩ := hw G nm ⟨rfl, rfl, rfl, rfl, rfl⟩ (fun i _ _ => ⟨⟨rfl, rfl, rfl, rfl, rfl⟩, rfl⟩) (fun w d e => ⟨hnm w d e, (hD w d e).2.1, (hD w d e).2.2.1, (hD w d e).2.2.2⟩)
  have t0 : tol (st0.2.2.2.2.1) = fun _ => false := funext (fun d => tol_f (fun w hw => (nomatch hw)))
  rw [t0] at w1
  exact ⟨i5, chf_of (fun i hi => hO i (Nat.zero_le _) hi) 16 0 bs f1 w1, ⟨nm, hnm⟩, hW⟩
theorem mok_st {T B : Nat → Int32} {L : Nat} {st : LSt} (hB : BY B L) (hL : L ≤ 4096) (hcb : cb B L = cb T L) (hst : rdS T L = .inr st) : MOK st := by
  obtain ⟨u, -, hU⟩ := read_full hB hL hcb hst (fun _ => 0) (fun _ => 0) (fun _ => 0) (fun _ => 0) (fun _ => 0) (fun _ => 0) (fun _ => 0) (fun _ => 0) (fun _ => 0) (fun _ => 0) (fun _ => 0) (fun _ => 0) (fun _ => 0) (fun _ => 0) (fun _ => 0) (fun _ => 0) (fun _ => 0) (fun _ => 0) (fun _ => 0) (fun _ => 0) B (fun _ => 0) 0 0 0 0 0 0 0 0 0 0 0 0 0 0 4096 0 (by omega) (by decide) (fun i hi => by rw [Nat.zero_add]; exact hB i hi)
  obtain ⟨u1, u2, u3, u4, u5, u6, u7, u8, u9, u10, u11, u12, u13, u14, u15, u16, u17, u18, u19, u20, u21, u22, u23, u24, u25, u26, u27, u28, u29, u30, u31, u32, u33, u34, u35⟩ := u
  exact mok_rtu hL hU.1
/-- names are told alike -/
theorem dnm_eq {D D' : List Nat → Option Nat} {nm : Nat → List Nat} {m m' : Nat} {w w' : List Nat} (hn : ∀ w d, D w = some d → nm d = w) (h : D w = some m) (h' : D' w' = some m') {nm' : Nat → List Nat} (hn' : ∀ w d, D' w = some d → nm' d = w) : (∃ u, D u = some m ∧ D' u = some m') ↔ w = w' := by
  constructor
  · rintro ⟨u, h1, h2⟩
    rw [← hn w m h, hn u m h1, ← hn' w' m' h', hn' u m' h2]
  · intro e
    exact ⟨w, h, by rw [e]; exact h'⟩
