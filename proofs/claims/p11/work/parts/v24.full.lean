-- a text read whole by the reference: rows and plain form
theorem sbI_inj {a b : Nat} (ha : a < 256) (hb : b < 256) (h : sbI a = sbI b) : a = b := by
  rw [← bv_sbI a ha, ← bv_sbI b hb, h]
theorem RNm.inj {N : Nat → Int64} {S Lt : Nat → Int32} {l : Nat} {x : Int32} {w w' : List Nat} (hl : l ≤ 4200) (h : RNm N S Lt l x w) (h' : RNm N S Lt l x w') : w = w' := by
  obtain ⟨n, rfl, hn, ⟨hS, st, hN, hst, hLt⟩, hv⟩ := h
  obtain ⟨n', e, hn', ⟨hS', st', hN', hst', hLt'⟩, hv'⟩ := h'
  have en : n = n' := (nI_eq (by omega) (by omega)).mp e
  subst en
  have el : w.length = w'.length := (nI_eq (by omega) (by omega)).mp (hS.symm.trans hS')
  have es : st = st' := by
    have e2 := congrArg Int64.toInt (hN.symm.trans hN')
    rw [lN_toInt (by omega), lN_toInt (by omega)] at e2
    omega
  subst es
  refine List.ext_getElem el (fun j h1 h2 => ?_)
  have g1 : w.getD j 0 = w[j] := by simp only [List.getD, List.getElem?_eq_getElem h1, Option.getD_some]
  have g2 : w'.getD j 0 = w'[j] := by simp only [List.getD, List.getElem?_eq_getElem h2, Option.getD_some]
  have a := (hLt j h1).symm.trans (hLt' j h2)
  rw [g1, g2] at a
  have v1 := hv _ (List.getElem_mem h1)
  have v2 := hv' _ (List.getElem_mem h2)
  exact sbI_inj (by omega) (by omega) a
section PLF
variable {T B : Nat → Int32} {L : Nat} {Sd In Nx Am K F S I X Lt : Nat → Int32} {N : Nat → Int64} {l : Nat}
theorem nm_ex {Nm : Nat → Int32} {sh : Nat} {D : List Nat → Option Nat} {G : Nat → Nod} (hl : l ≤ 4200) (h : RN1 N S Lt l Nm sh D G) : ∃ nm : Nat → List Nat, ∀ w d, D w = some d → nm d = w := by
  classical
  refine ⟨fun d => if hx : ∃ w, D w = some d then Classical.choose hx else [], fun w d hd => ?_⟩
  have hx : ∃ w, D w = some d := ⟨w, hd⟩
  show (if hx : ∃ w, D w = some d then Classical.choose hx else []) = w
  rw [dif_pos hx]
  exact RNm.inj hl (h.2 _ _ (Classical.choose_spec hx)).2.2 (h.2 _ _ hd).2.2
theorem pl_tell (hL : L ≤ 4096) (hl : l ≤ 4200) {p n b : Nat} {st : LSt} {So Nm Wi Kd kS kN kD kX Fi : Nat → Int32} {shI lkI kcI dnI : Int32} (hV : VV T L Sd In Nx Am K F N S I X Lt l n p b) (hlk : look T L 16 p false st0 = .inr st) (hI : RI T L Sd In Nx Am K F N S I X Lt l So Nm Wi Kd shI lkI kcI kS kN kD kX dnI Fi st) : ∃ nm, (∀ d, tol st.2.2.2.2.1 d = true → st.2.2.2.2.1 (nm d) = some d) ∧ wS st.2.2.2.2.2.2 nm 40 0 (fun _ => false) = some (st.2.2.2.1, tol st.2.2.2.2.1) ∧ 0 < st.1 ∧ st.2.2.2.1.length ≤ 4096 := by
  have hp := look_p (T := T) (Sd := Sd) (In := In) (Nx := Nx) (Am := Am) (K := K) (F := F) (N := N) (S := S) (I := I) (X := X) (Lt := Lt) hL hl 16 p false st0 st n b hV wf0 hlk
  have hw := look_w (T := T) (Sd := Sd) (In := In) (Nx := Nx) (Am := Am) (K := K) (F := F) (N := N) (S := S) (I := I) (X := X) (Lt := Lt) hL hl 16 40 (by decide) p false st0 st n b hV wf0 hlk
  have hb := hV.base
  obtain ⟨k, sh, kc, pl, D, fi, G⟩ := st
  obtain ⟨⟨f1, f2, f3, f4, f5, f6, f7, f8, f9, f10⟩, fl⟩ := hp
  obtain ⟨i1, i2, i3, i4, i5, i6, i7, i8, i9, i10, i11, i12, i13, i14⟩ := hI
  obtain ⟨nm, hnm⟩ := nm_ex hl i11
  have hD : DOK D G k := f9
  obtain ⟨bs, w1, w2⟩ := hw G nm ⟨rfl, rfl, rfl, rfl, rfl⟩ (fun i _ _ => ⟨⟨rfl, rfl, rfl, rfl, rfl⟩, rfl⟩) (fun w d e => ⟨hnm w d e, (hD w d e).2.1, (hD w d e).2.2.1, (hD w d e).2.2.2⟩)
  have w2 : pl = [] ++ bs := w2
  have w2 : pl = bs := w2
  have t0 : tol (st0.2.2.2.2.1) = fun _ => false := funext (fun d => tol_f (fun w hw => (nomatch hw)))
  have fl : pl.length ≤ 0 + (b - p) := fl
  refine ⟨nm, fun d hd => ?_, ?_, f1, ?_⟩
  · have hd : tol D d = true := hd
    show D (nm d) = some d
    by_cases hx : ∃ w, D w = some d
    · obtain ⟨w, hw⟩ := hx
      rw [hnm w d hw]
      exact hw
    · rw [tol_f (fun w hw => hx ⟨w, hw⟩)] at hd
      cases hd
  · rw [t0] at w1
    rw [w2]
    exact w1
  · show pl.length ≤ 4096
    omega
theorem wr_fin (hL : L ≤ 4096) (hl : l ≤ 4200) {p n b : Nat} {st : LSt} {So Nm Wi Kd kS kN kD kX Fi : Nat → Int32} {shI lkI kcI dnI : Int32} (hV : VV T L Sd In Nx Am K F N S I X Lt l n p b) (hlk : look T L 16 p false st0 = .inr st) (hI : RI T L Sd In Nx Am K F N S I X Lt l So Nm Wi Kd shI lkI kcI kS kN kD kX dnI Fi st) (hW : ∀ i, i < st.1 → n_me (st.2.2.2.2.2.2 i) = i → n_kd (st.2.2.2.2.2.2 i) = 8 → n_wd (st.2.2.2.2.2.2 i) ≤ 64) {Pl To : Nat → Int32} (hTo : ∀ t, t < st.2.1 → To t = 0) : ∃ Pl' To', m_X9_write 40 N S Lt So Nm Wi Kd kS kN kX Pl 0 To (nI (n_sg (st.2.2.2.2.2.2 0))) = some (Pl', nI st.2.2.2.1.length, To') ∧ PLI Pl' st.2.2.2.1 := by
  obtain ⟨nm, hN, hw, hk, hpl⟩ := pl_tell hL hl hV hlk hI
  have hO := look_f (T := T) (Sd := Sd) (In := In) (Nx := Nx) (Am := Am) (K := K) (F := F) (N := N) (S := S) (I := I) (X := X) (Lt := Lt) hL hl 16 p false st0 st n b hV wf0 hlk
  obtain ⟨k, sh, kc, pl, D, fi, G⟩ := st
  obtain ⟨i1, i2, i3, i4, i5, i6, i7, i8, i9, i10, i11, i12, i13, i14⟩ := hI
  have H : WRH N S Lt So Nm Wi Kd kS kN kX l sh kc k D G := ⟨hl, by omega, i7, i10, i11, i12, i13, fun i hi => hO i (Nat.zero_le _) hi, hW⟩
  have hT : TOL G k To (fun _ => false) := by
    intro d hd hm h8 h10
    rw [if_neg (show ¬ false = true by decide)]
    obtain ⟨-, b2, b3⟩ := (i12 d hd).2.2.2 hm
    exact hTo _ (b3 (by omega) (by omega)).2.1
  have hpl : pl.length ≤ 4096 := hpl
  obtain ⟨P1, T1, e1, h1, t1⟩ := wri_b H 40 0 (fun _ => false) (tol D) pl [] Pl To hk hw (fun i hi => absurd hi (Nat.not_lt_zero _)) (show 0 + pl.length ≤ 4200 by omega) hT hN
  have e1 : m_X9_write 40 N S Lt So Nm Wi Kd kS kN kX Pl (nI 0) To (nI (n_sg (G 0))) = some (P1, nI pl.length, T1) := e1
  rw [nI_0] at e1
  exact ⟨P1, T1, e1, h1⟩
/-- all of a text read by the reference -/
def RYU (T B : Nat → Int32) (L : Nat) (st : LSt) (u : TYR) : Prop := match u with
  | (b1, b2, u1, u2, u3, u4, u5, u6, K, F, N, S, I, X, Lt, u14, sh, lk, So, Nm, Wi, Kd, u21, u22, kc, kS, kN, kD, kX, dn, Fi, rt, Pl, ps, To) => RTU T L st (u1, u2, u3, u4, u5, u6, K, F, N, S, I, X, Lt, u14, sh, lk, So, Nm, Wi, Kd, u21, u22, kc, kS, kN, kD, kX, dn, Fi, rt) ∧ PLI Pl st.2.2.2.1 ∧ ps = nI st.2.2.2.1.length ∧ st.2.2.2.1.length ≤ 4096 ∧ b2 = nI L ∧ ∀ i, i < L → b1 i = B i
theorem read_full (hB : BY B L) (hL : L ≤ 4096) (hcb : cb B L = cb T L) {st : LSt} (hst : rdS T L = .inr st) (tB tK tF tS tI tX tL tSo tNa tWi tKi tMa tFa tkS tkN tkD tkX tFi tPn tTo row : Nat → Int32) (tN : Nat → Int64) (tLen tAt tDe tFl tPl tEn tNo tLd tSh tLk tKc tDn tRo tPs : Int32) (rn sr : Nat) (hrn : sr + L ≤ rn) (hrn2 : rn < 2 ^ 31) (hB2 : ∀ i, i < L → vp_nar .byte (row (sr + i)) = B i) : ∃ u, m_X9_read tB tLen tAt tDe tFl tPl tEn tNo tK tF tN tS tI tX tL tLd tSh tLk tSo tNa tWi tKi tMa tFa tKc tkS tkN tkD tkX tDn tFi tRo tPn tPs tTo row rn (nI sr) (nI L) = some (0, u) ∧ RYU T B L st u := by
  have hBo : BY (ov L B tB) L := fun i hi => by rw [ov_lt hi]; exact hB i hi
  have hco : cb (ov L B tB) L = cb T L := by
    rw [← hcb]
    funext i
    unfold cb
    by_cases hi : L ≤ i
    · rw [if_pos hi, if_pos hi]
    · rw [if_neg hi, if_neg hi, ov_lt (by omega)]
  obtain ⟨u, g1, hU⟩ : ∃ u, m_X9_readAll (ov L B tB) (nI L) (nI 0) (nI 0) 0 (-1) tEn (nI 0) tK tF tN tS tI tX tL (nI 0) (nI 6) (nI 0) (ov 6 (fun s => nI s) tSo) (ov 6 (fun _ => -1) tNa) tWi (ov 6 (fun _ => -1) tKi) tMa tFa (nI 0) tkS tkN tkD tkX (nI 0) tFi tRo = some (.ok ((), u)) ∧ RTU T L st u := by
    have hex : ∃ r, m_X9_readAll (ov L B tB) (nI L) (nI 0) (nI 0) 0 (-1) tEn (nI 0) tK tF tN tS tI tX tL (nI 0) (nI 6) (nI 0) (ov 6 (fun s => nI s) tSo) (ov 6 (fun _ => -1) tNa) tWi (ov 6 (fun _ => -1) tKi) tMa tFa (nI 0) tkS tkN tkD tkX (nI 0) tFi tRo = some r := by
      rcases readAll_ok B hL (fun g => g.1 20 0) (fun g => g.1 21 0) with ⟨v0, u0, hq, hok⟩ | ⟨⟨c, p⟩, hc, hbad⟩
      · exact ⟨_, hok (fun j => match j with | 0 => tK | 1 => tF | 2 => tS | 3 => tI | 4 => tX | 5 => tL | 6 => tB | 7 => tSo | 8 => tNa | 9 => tWi | 10 => tKi | 11 => tMa | 12 => tFa | 13 => tkS | 14 => tkN | 15 => tkD | 16 => tkX | 17 => tFi | 18 => tPn | 19 => tTo | 20 => fun _ => tEn | _ => fun _ => tRo, tN)⟩
      · obtain ⟨u, g1, gfp⟩ := hbad (fun j => match j with | 0 => tK | 1 => tF | 2 => tS | 3 => tI | 4 => tX | 5 => tL | 6 => tB | 7 => tSo | 8 => tNa | 9 => tWi | 10 => tKi | 11 => tMa | 12 => tFa | 13 => tkS | 14 => tkN | 15 => tkD | 16 => tkX | 17 => tFi | 18 => tPn | 19 => tTo | 20 => fun _ => tEn | _ => fun _ => tRo, tN)
        exact ⟨_, g1⟩
    obtain ⟨r, hr⟩ := hex
    rcases rd_ref2 hBo hL hco (by intro t ht; exact if_pos ht) hr with ⟨e9, u9, h9, _⟩ | ⟨st9, u9, h9, rfl, hU⟩
    · rw [hst] at h9; cases h9
    · rw [hst] at h9
      cases h9
      exact ⟨u9, hr, hU⟩
  simp only [nI_0, nI_6] at g1
  have s1 := r3 (tB := tB) (tK := tK) (tF := tF) (tS := tS) (tI := tI) (tX := tX) (tL := tL) (tSo := tSo) (tNa := tNa) (tWi := tWi) (tKi := tKi) (tMa := tMa) (tFa := tFa) (tkS := tkS) (tkN := tkN) (tkD := tkD) (tkX := tkX) (tFi := tFi) (tPn := tPn) (tTo := tTo) (row := row) (tN := tN) (tLen := tLen) (tAt := tAt) (tDe := tDe) (tFl := tFl) (tPl := tPl) (tEn := tEn) (tNo := tNo) (tLd := tLd) (tSh := tSh) (tLk := tLk) (tKc := tKc) (tDn := tDn) (tRo := tRo) (tPs := tPs) (B := B) (rn := rn) (st := sr) hL hrn hrn2 hB2 sr_fuel 0 (Nat.zero_le _) (by unfold sr_fuel; omega)
  have s2 := r62 (tB := ov L B tB) (tK := tK) (tF := tF) (tS := tS) (tI := tI) (tX := tX) (tL := tL) (tSo := tSo) (tNa := tNa) (tWi := tWi) (tKi := tKi) (tMa := tMa) (tFa := tFa) (tkS := tkS) (tkN := tkN) (tkD := tkD) (tkX := tkX) (tFi := tFi) (tPn := tPn) (tTo := tTo) (row := row) (tN := tN) (tLen := nI L) (tAt := 0) (tDe := 0) (tFl := tFl) (tPl := tPl) (tEn := tEn) (tNo := 0) (tLd := 0) (tSh := 6) (tLk := tLk) (tKc := tKc) (tDn := tDn) (tRo := tRo) (tPs := tPs) (rn := rn) sr_fuel 0 (Nat.zero_le _) (by unfold sr_fuel; omega)
  simp only [ov_0, nI_0, nI_6] at s1 s2
  obtain ⟨u1, u2, u3, u4, u5, u6, K, F, N, S, I, X, Lt, u14, sh, lk, So, Nm, Wi, Kd, u21, u22, kc, kS, kN, kD, kX, dn, Fi, rt⟩ := u
  have hU0 := hU
  obtain ⟨Sd, In, Nx, Am, l, p, n, b, hl, hV, hlk, hW, hI, hrt⟩ := hU
  subst hrt
  have hsh : ∃ k0 sh0 : Nat, sh = nI sh0 ∧ sh0 ≤ 140 ∧ sh0 = st.2.1 := by
    obtain ⟨k, sh', kc', pl, D, fi, G⟩ := st
    obtain ⟨i1, i2, i3, i4, i5, i6⟩ := hI
    exact ⟨k, sh', i1, by omega, rfl⟩
  obtain ⟨k0, sh0, rfl, hs140, hs0⟩ := hsh
  rw [m_X9_read, s1, s2]
  simp only [m_X9_read_62, if_pos (show (6 : Int32) ≤ 6 by decide), g1, mr_tc]
  have s3 := r147 (tB := ov L B tB) (tK := K) (tF := F) (tS := S) (tI := I) (tX := X) (tL := Lt) (tSo := So) (tNa := Nm) (tWi := Wi) (tKi := Kd) (tMa := u21) (tFa := u22) (tkS := kS) (tkN := kN) (tkD := kD) (tkX := kX) (tFi := Fi) (tPn := tPn) (tTo := tTo) (row := row) (tN := N) (tLen := nI L) (tAt := u1) (tDe := u2) (tFl := u3) (tPl := u4) (tEn := u5) (tNo := u6) (tLd := u14) (tSh := nI sh0) (tLk := lk) (tKc := kc) (tDn := dn) (tRo := nI (n_sg (st.2.2.2.2.2.2 0))) (tPs := 0) (rn := rn) (sh := sh0) hs140 rfl sr_fuel 0 (Nat.zero_le _) (by unfold sr_fuel; omega)
  simp only [ov_0, nI_0] at s3
  rw [s3]
  obtain ⟨P1, T1, e1, h1⟩ := wr_fin hL hl hV hlk hI hW (Pl := tPn) (To := ov sh0 (fun _ => 0) tTo) (fun t ht => ov_lt (by omega))
  simp only [m_X9_read_147, if_pos (nI_le (Nat.le_refl sh0) (show sh0 < 2 ^ 31 by omega)), e1, Option.bind_some]
  obtain ⟨nm, -, -, -, hpl⟩ := pl_tell hL hl hV hlk hI
  exact ⟨_, rfl, hU0, h1, rfl, hpl, rfl, fun i hi => ov_lt hi⟩
end PLF
