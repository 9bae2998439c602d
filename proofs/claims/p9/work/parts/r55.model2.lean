set_option maxHeartbeats 4000000 in
set_option maxRecDepth 100000 in
theorem kX10_matchesT (l : Launch) (htr : l.stackTraces = false) (dC : Nat → ClassId) (dI : Nat → Nat → Nat) (adK adV : Nat → Nat) (cI cB cJ cZ cQ : ClassId) (obA aq_bytes aq_kinds aq_firsts aq_numbers aq_sizes aq_inner aq_nexts aq_letters aq_sorts aq_names aq_wide aq_kids aq_many aq_fallback aq_kidShape aq_kidName aq_kidDefault aq_kidNext aq_finished aq_plain aq_told obB bq_bytes bq_kinds bq_firsts bq_numbers bq_sizes bq_inner bq_nexts bq_letters bq_sorts bq_names bq_wide bq_kids bq_many bq_fallback bq_kidShape bq_kidName bq_kidDefault bq_kidNext bq_finished bq_plain bq_told : Nat) : ∀ (d : Nat) (a_length : Int32) (a_at : Int32) (a_deep : Int32) (a_fault : Int32) (a_place : Int32) (a_end : Int32) (a_nodes : Int32) (a_lettered : Int32) (a_shapes : Int32) (a_looked : Int32) (a_kidCount : Int32) (a_done : Int32) (a_root : Int32) (a_plainSize : Int32) (b_length : Int32) (b_at : Int32) (b_deep : Int32) (b_fault : Int32) (b_place : Int32) (b_end : Int32) (b_nodes : Int32) (b_lettered : Int32) (b_shapes : Int32) (b_looked : Int32) (b_kidCount : Int32) (b_done : Int32) (b_root : Int32) (b_plainSize : Int32) (a_numbers : Nat → Int64) (a_sizes : Nat → Int32) (a_letters : Nat → Int32) (a_sorts : Nat → Int32) (a_names : Nat → Int32) (a_wide : Nat → Int32) (a_kids : Nat → Int32) (a_kidShape : Nat → Int32) (b_numbers : Nat → Int64) (b_sizes : Nat → Int32) (b_letters : Nat → Int32) (b_sorts : Nat → Int32) (b_names : Nat → Int32) (b_wide : Nat → Int32) (b_kids : Nat → Int32) (b_kidShape : Nat → Int32) (a1 : Int32) (a3 : Int32) (res : Int32), m_X10_matchesT d a_numbers a_sizes a_letters a_sorts a_names a_wide a_kids a_kidShape b_numbers b_sizes b_letters b_sorts b_names b_wide b_kids b_kidShape a1 a3 = some res → Met l yX10_matchesT wsX10_matchesT (rmX10_matchesT d 0 0) (pcR (sr_Z adK adV) (dC, dI) srCl [(cI, .int), (cB, .byte), (cJ, .long), (cZ, .boolean), (cQ, .object "SchemaReader$Schema")] [.ref obA, .int a1, .ref obB, .int a3] [(obA, .inr (0, [.ref aq_bytes, .int a_length, .int a_at, .int a_deep, .int a_fault, .int a_place, .int a_end, .int a_nodes, .ref aq_kinds, .ref aq_firsts, .ref aq_numbers, .ref aq_sizes, .ref aq_inner, .ref aq_nexts, .ref aq_letters, .int a_lettered, .int a_shapes, .int a_looked, .ref aq_sorts, .ref aq_names, .ref aq_wide, .ref aq_kids, .ref aq_many, .ref aq_fallback, .int a_kidCount, .ref aq_kidShape, .ref aq_kidName, .ref aq_kidDefault, .ref aq_kidNext, .int a_done, .ref aq_finished, .int a_root, .ref aq_plain, .int a_plainSize, .ref aq_told])), (aq_numbers, .inl (cJ, 4200, .inr (.inl a_numbers))), (aq_sizes, .inl (cI, 4200, .inl a_sizes)), (aq_letters, .inl (cB, 4200, .inl a_letters)), (aq_sorts, .inl (cI, 140, .inl a_sorts)), (aq_names, .inl (cI, 140, .inl a_names)), (aq_wide, .inl (cI, 140, .inl a_wide)), (aq_kids, .inl (cI, 140, .inl a_kids)), (aq_kidShape, .inl (cI, 2200, .inl a_kidShape)), (obB, .inr (0, [.ref bq_bytes, .int b_length, .int b_at, .int b_deep, .int b_fault, .int b_place, .int b_end, .int b_nodes, .ref bq_kinds, .ref bq_firsts, .ref bq_numbers, .ref bq_sizes, .ref bq_inner, .ref bq_nexts, .ref bq_letters, .int b_lettered, .int b_shapes, .int b_looked, .ref bq_sorts, .ref bq_names, .ref bq_wide, .ref bq_kids, .ref bq_many, .ref bq_fallback, .int b_kidCount, .ref bq_kidShape, .ref bq_kidName, .ref bq_kidDefault, .ref bq_kidNext, .int b_done, .ref bq_finished, .int b_root, .ref bq_plain, .int b_plainSize, .ref bq_told])), (bq_numbers, .inl (cJ, 4200, .inr (.inl b_numbers))), (bq_sizes, .inl (cI, 4200, .inl b_sizes)), (bq_letters, .inl (cB, 4200, .inl b_letters)), (bq_sorts, .inl (cI, 140, .inl b_sorts)), (bq_names, .inl (cI, 140, .inl b_names)), (bq_wide, .inl (cI, 140, .inl b_wide)), (bq_kids, .inl (cI, 140, .inl b_kids)), (bq_kidShape, .inl (cI, 2200, .inl b_kidShape))]) (k2_QcV (.int res)) 0 0 (fun _ => False) := by
  intro d
  induction d with
  | zero => intro a_length a_at a_deep a_fault a_place a_end a_nodes a_lettered a_shapes a_looked a_kidCount a_done a_root a_plainSize b_length b_at b_deep b_fault b_place b_end b_nodes b_lettered b_shapes b_looked b_kidCount b_done b_root b_plainSize a_numbers a_sizes a_letters a_sorts a_names a_wide a_kids a_kidShape b_numbers b_sizes b_letters b_sorts b_names b_wide b_kids b_kidShape a1 a3 res hm; exact nomatch (show (none : Option _) = some res from hm)
  | succ d ihd =>
    intro a_length a_at a_deep a_fault a_place a_end a_nodes a_lettered a_shapes a_looked a_kidCount a_done a_root a_plainSize b_length b_at b_deep b_fault b_place b_end b_nodes b_lettered b_shapes b_looked b_kidCount b_done b_root b_plainSize a_numbers a_sizes a_letters a_sorts a_names a_wide a_kids a_kidShape b_numbers b_sizes b_letters b_sorts b_names b_wide b_kids b_kidShape a1 a3 res hm
    refine Met.ofW (cc := cX10_matchesT) (maxL := 6) (ret := (some .boolean)) (by decide) rfl ?_
    intro p e s m args below meth c s₁ B hml hv
    obtain ⟨rfl, hP, hK, hz0⟩ := hv
    have hx := B.exec
    have hb := B.bytes
    have hr := B.returns
    have hts := atoms_spec (ws := wsX10_matchesT) B.pre
    have hown : s.vm.findClass RX10 = some m.cls := findClass_of_methodNamed B.named
    have hlocks := B.notSynchronized
    have hS : va_S (fun _ => False) s.heap s.heap [] := va_S.rf
    generalize hQ0 : MQ below (k2_QcV (.int res)) [.ref obA, .int a1, .ref obB, .int a3].toArray s 0 0 (fun _ => False) = Q0
    have hl := lv_entry [.ref obA, .int a1, .ref obB, .int a3] (n := 6) (Nat.le_of_ble_eq_true rfl)
    rw [lg_entry_eq]
    generalize (lg_sl [.ref obA, .int a1, .ref obB, .int a3] ++ List.replicate (6 - (lg_sl [.ref obA, .int a1, .ref obB, .int a3]).length) Slot.unset).toArray = ls at hl ⊢
    have hl : lv_has ls 6 [(0, .ref obA), (1, .int a1), (2, .ref obB), (3, .int a3)] := hl
    rw [m_X10_matchesT] at hm
    refine lv_aload_n hx hb dX10_matchesT_0 rfl (lv_at hl 0 rfl) ?_
    refine va_getN (D := (dC, dI)) (ci := 0) (v := .ref aq_sorts) (C := RX9) (T := TX9) (N := 35) hx hb hts (inX9 _) hown hK hP 0 rfl rfl 18 (by decide) (va_Nw.use rfl (hz0.2.2.2.2.2.2.1 _ wf10_92)) (fun _ h9 => h9) rfl dX10_matchesT_1 ?_
    refine lv_iload_n hx hb dX10_matchesT_4 rfl (lv_at hl 1 rfl) ?_
    obtain ⟨h1, hm⟩ := mr_bd hm
    refine va_iald hx hb hK hP 4 0 rfl rfl h1 dX10_matchesT_5 ?_
    refine lv_istore (lv' := [(4, .int (a_sorts (a1 : Int32).toNatClampNeg)), (0, .ref obA), (1, .int a1), (2, .ref obB), (3, .int a3)]) hx hb dX10_matchesT_6 hl (by decide) rfl (fun ls hl => ?_)
    refine lv_aload_n hx hb dX10_matchesT_8 rfl (lv_at hl 3 rfl) ?_
    refine va_getN (D := (dC, dI)) (ci := 0) (v := .ref bq_sorts) (C := RX9) (T := TX9) (N := 35) hx hb hts (inX9 _) hown hK hP 9 rfl rfl 18 (by decide) (va_Nw.use rfl (hz0.2.2.2.2.2.2.1 _ wf10_92)) (fun _ h9 => h9) rfl dX10_matchesT_9 ?_
    refine lv_iload_n hx hb dX10_matchesT_12 rfl (lv_at hl 4 rfl) ?_
    obtain ⟨h2, hm⟩ := mr_bd hm
    refine va_iald hx hb hK hP 13 0 rfl rfl h2 dX10_matchesT_13 ?_
    refine lv_istore (lv' := [(5, .int (b_sorts (a3 : Int32).toNatClampNeg)), (4, .int (a_sorts (a1 : Int32).toNatClampNeg)), (0, .ref obA), (1, .int a1), (2, .ref obB), (3, .int a3)]) hx hb dX10_matchesT_14 hl (by decide) rfl (fun ls hl => ?_)
    refine lv_iload hx hb dX10_matchesT_16 (lv_at hl 1 rfl) ?_
    refine lv_bipush (v := 8) hx hb dX10_matchesT_18 (by decide) ?_
    refine lv_icmp_eq (tgt := 30) hx hb dX10_matchesT_20 (by decide) (fun c3 => ?_) (fun c3 => ?_)
    · have hm := mr_if c3 hm
      refine lv_iconst (v := 1) hx hb dX10_matchesT_30 (by decide) ?_
      obtain rfl := Option.some.inj hm
      subst hQ0
      exact W.zret (v := 1) hx hb hr rfl (fun t ht hW => ⟨rfl, ht⟩) (fun q h => by cases h) dX10_matchesT_31
    · have hm := mr_un c3 hm
      refine lv_iload hx hb dX10_matchesT_23 (lv_at hl 0 rfl) ?_
      refine lv_bipush (v := 8) hx hb dX10_matchesT_25 (by decide) ?_
      refine lv_icmp_ne (tgt := 32) hx hb dX10_matchesT_27 (by decide) (fun c4 => ?_) (fun c4 => ?_)
      · have hm := mr_un c4 hm
        refine lv_iload hx hb dX10_matchesT_32 (lv_at hl 1 rfl) ?_
        obtain ⟨r5, hz5, hm⟩ := mr_bind hm
        refine mr_pS (As := [.int (a_sorts (a1 : Int32).toNatClampNeg)]) (rest := []) (sr_okZ adK adV) ⟨hx, hb, hml, hown, hts⟩ (kX10_sixOf l htr dC dI adK adV cI cB cJ cZ cQ  (a_sorts (a1 : Int32).toNatClampNeg) r5 hz5) (va_cwS 1 hts (g10_95 _) rfl rfl rfl (by decide +kernel) ⟨(by show 0 + 1 ≤ 1 * (d + 1) + 1; omega), (by show 8 + (1 + 11) + (0) ≤ 25 * (d + 1) + 24; omega)⟩) hS hP hK hz0 [] rfl rfl rfl hl.1 (Nat.le_of_ble_eq_true rfl) dX10_matchesT_34 ⟨Nat.zero_le _, Nat.zero_le _⟩ ?_
        have j48 : ∀ (x4 : Int32) (x5 : Int32) (ls : Array Slot), lv_has ls 6 [(4, .int x4), (5, .int x5)] → m_X10_matchesT_48 (m_X10_matchesT d) a_numbers a_sizes a_letters a_sorts a_names a_wide a_kids a_kidShape b_numbers b_sizes b_letters b_sorts b_names b_wide b_kids b_kidShape x4 x5 = some res → W p l e (headSpec wsX10_matchesT (rmX10_matchesT (d + 1) 0 0)).room s m [.ref obA, .int a1, .ref obB, .int a3].toArray below meth c s.heap [] 0 0 Q0 (F0 m 48 ls []) := by
          intro x4 x5 ls hl hm
          unfold m_X10_matchesT_48 at hm
          refine lv_iload hx hb dX10_matchesT_48 (lv_at hl 0 rfl) ?_
          obtain ⟨r6, hz6, hm⟩ := mr_bind hm
          refine mr_pS (As := [.int x4]) (rest := []) (sr_okZ adK adV) ⟨hx, hb, hml, hown, hts⟩ (kX10_sixOf l htr dC dI adK adV cI cB cJ cZ cQ  x4 r6 hz6) (va_cwS 1 hts (g10_95 _) rfl rfl rfl (by decide +kernel) ⟨(by show 0 + 1 ≤ 1 * (d + 1) + 1; omega), (by show 8 + (1 + 11) + (0) ≤ 25 * (d + 1) + 24; omega)⟩) hS hP hK hz0 [] rfl rfl rfl hl.1 (Nat.le_of_ble_eq_true rfl) dX10_matchesT_50 ⟨Nat.zero_le _, Nat.zero_le _⟩ ?_
          refine lv_if_eq (tgt := 78) hx hb dX10_matchesT_53 (by decide) (fun c7 => ?_) (fun c7 => ?_)
          · have hm := mr_if c7 hm
            refine lv_iconst (v := 0) hx hb dX10_matchesT_78 (by decide) ?_
            obtain rfl := Option.some.inj hm
            subst hQ0
            exact W.zret (v := 0) hx hb hr rfl (fun t ht hW => ⟨rfl, ht⟩) (fun q h => by cases h) dX10_matchesT_79
          · have hm := mr_un c7 hm
            refine lv_iload hx hb dX10_matchesT_56 (lv_at hl 1 rfl) ?_
            obtain ⟨r8, hz8, hm⟩ := mr_bind hm
            refine mr_pS (As := [.int x5]) (rest := []) (sr_okZ adK adV) ⟨hx, hb, hml, hown, hts⟩ (kX10_sixOf l htr dC dI adK adV cI cB cJ cZ cQ  x5 r8 hz8) (va_cwS 1 hts (g10_95 _) rfl rfl rfl (by decide +kernel) ⟨(by show 0 + 1 ≤ 1 * (d + 1) + 1; omega), (by show 8 + (1 + 11) + (0) ≤ 25 * (d + 1) + 24; omega)⟩) hS hP hK hz0 [] rfl rfl rfl hl.1 (Nat.le_of_ble_eq_true rfl) dX10_matchesT_58 ⟨Nat.zero_le _, Nat.zero_le _⟩ ?_
            refine lv_if_eq (tgt := 78) hx hb dX10_matchesT_61 (by decide) (fun c9 => ?_) (fun c9 => ?_)
            · have hm := mr_if c9 hm
              refine lv_iconst (v := 0) hx hb dX10_matchesT_78 (by decide) ?_
              obtain rfl := Option.some.inj hm
              subst hQ0
              exact W.zret (v := 0) hx hb hr rfl (fun t ht hW => ⟨rfl, ht⟩) (fun q h => by cases h) dX10_matchesT_79
            · have hm := mr_un c9 hm
              refine lv_iload hx hb dX10_matchesT_64 (lv_at hl 0 rfl) ?_
              refine lv_iload hx hb dX10_matchesT_66 (lv_at hl 1 rfl) ?_
              obtain ⟨r10, hz10, hm⟩ := mr_bind hm
              refine mr_pS (As := [.int x4, .int x5]) (rest := []) (sr_okZ adK adV) ⟨hx, hb, hml, hown, hts⟩ (kX10_matchesSix l htr dC dI adK adV cI cB cJ cZ cQ  x4 x5 r10 hz10) (va_cwS 2 hts (g10_98 _) rfl rfl rfl (by decide +kernel) ⟨(by show 0 + 1 ≤ 1 * (d + 1) + 1; omega), (by show 8 + (2 + 11) + (0) ≤ 25 * (d + 1) + 24; omega)⟩) hS hP hK hz0 [] rfl rfl rfl hl.1 (Nat.le_of_ble_eq_true rfl) dX10_matchesT_68 ⟨Nat.zero_le _, Nat.zero_le _⟩ ?_
              refine lv_if_eq (tgt := 78) hx hb dX10_matchesT_71 (by decide) (fun c11 => ?_) (fun c11 => ?_)
              · have hm := mr_if c11 hm
                refine lv_iconst (v := 0) hx hb dX10_matchesT_78 (by decide) ?_
                obtain rfl := Option.some.inj hm
                subst hQ0
                exact W.zret (v := 0) hx hb hr rfl (fun t ht hW => ⟨rfl, ht⟩) (fun q h => by cases h) dX10_matchesT_79
              · have hm := mr_un c11 hm
                refine lv_iconst (v := 1) hx hb dX10_matchesT_74 (by decide) ?_
                refine lv_goto (tgt := 79) hx hb dX10_matchesT_75 (by decide) ?_
                obtain rfl := Option.some.inj hm
                subst hQ0
                exact W.zret (v := 1) hx hb hr rfl (fun t ht hW => ⟨rfl, ht⟩) (fun q h => by cases h) dX10_matchesT_79
        refine lv_if_ne (tgt := 48) hx hb dX10_matchesT_37 (by decide) (fun c12 => ?_) (fun c12 => ?_)
        · have hm := mr_un c12 hm
          exact j48 (a_sorts (a1 : Int32).toNatClampNeg) (b_sorts (a3 : Int32).toNatClampNeg) ls (lv_sub hl [1, 0] rfl) hm
        · have hm := mr_if c12 hm
          refine lv_iload hx hb dX10_matchesT_40 (lv_at hl 0 rfl) ?_
          obtain ⟨r13, hz13, hm⟩ := mr_bind hm
          refine mr_pS (As := [.int (b_sorts (a3 : Int32).toNatClampNeg)]) (rest := []) (sr_okZ adK adV) ⟨hx, hb, hml, hown, hts⟩ (kX10_sixOf l htr dC dI adK adV cI cB cJ cZ cQ  (b_sorts (a3 : Int32).toNatClampNeg) r13 hz13) (va_cwS 1 hts (g10_95 _) rfl rfl rfl (by decide +kernel) ⟨(by show 0 + 1 ≤ 1 * (d + 1) + 1; omega), (by show 8 + (1 + 11) + (0) ≤ 25 * (d + 1) + 24; omega)⟩) hS hP hK hz0 [] rfl rfl rfl hl.1 (Nat.le_of_ble_eq_true rfl) dX10_matchesT_42 ⟨Nat.zero_le _, Nat.zero_le _⟩ ?_
          refine lv_if_eq (tgt := 80) hx hb dX10_matchesT_45 (by decide) (fun c14 => ?_) (fun c14 => ?_)
          · have hm := mr_if c14 hm
            refine lv_iload hx hb dX10_matchesT_80 (lv_at hl 1 rfl) ?_
            refine lv_iload hx hb dX10_matchesT_82 (lv_at hl 0 rfl) ?_
            refine lv_icmp_eq (tgt := 89) hx hb dX10_matchesT_84 (by decide) (fun c15 => ?_) (fun c15 => ?_)
            · have hm := mr_if c15 hm
              refine lv_iload hx hb dX10_matchesT_89 (lv_at hl 1 rfl) ?_
              refine lv_bipush (v := 6) hx hb dX10_matchesT_91 (by decide) ?_
              have j103 : ∀ (x1 : Int32) (x3 : Int32) (ls : Array Slot), lv_has ls 6 [(0, .ref obA), (1, .int x1), (2, .ref obB), (3, .int x3)] → m_X10_matchesT_103 (m_X10_matchesT d) a_numbers a_sizes a_letters a_sorts a_names a_wide a_kids a_kidShape b_numbers b_sizes b_letters b_sorts b_names b_wide b_kids b_kidShape x1 x3 = some res → W p l e (headSpec wsX10_matchesT (rmX10_matchesT (d + 1) 0 0)).room s m [.ref obA, .int a1, .ref obB, .int a3].toArray below meth c s.heap [] 0 0 Q0 (F0 m 103 ls []) := by
                intro x1 x3 ls hl hm
                unfold m_X10_matchesT_103 at hm
                refine lv_aload_n hx hb dX10_matchesT_103 rfl (lv_at hl 0 rfl) ?_
                refine lv_aload_n hx hb dX10_matchesT_104 rfl (lv_at hl 0 rfl) ?_
                refine va_getN (D := (dC, dI)) (ci := 0) (v := .ref aq_kidShape) (C := RX9) (T := TX9) (N := 35) hx hb hts (inX9 _) hown hK hP 0 rfl rfl 25 (by decide) (va_Nw.use rfl (hz0.2.2.2.2.2.2.1 _ wf10_102)) (fun _ h9 => h9) rfl dX10_matchesT_105 ?_
                refine lv_aload_n hx hb dX10_matchesT_108 rfl (lv_at hl 0 rfl) ?_
                refine va_getN (D := (dC, dI)) (ci := 0) (v := .ref aq_kids) (C := RX9) (T := TX9) (N := 35) hx hb hts (inX9 _) hown hK hP 0 rfl rfl 21 (by decide) (va_Nw.use rfl (hz0.2.2.2.2.2.2.1 _ wf10_105)) (fun _ h9 => h9) rfl dX10_matchesT_109 ?_
                refine lv_iload_n hx hb dX10_matchesT_112 rfl (lv_at hl 1 rfl) ?_
                obtain ⟨h16, hm⟩ := mr_bd hm
                refine va_iald hx hb hK hP 7 0 rfl rfl h16 dX10_matchesT_113 ?_
                obtain ⟨h17, hm⟩ := mr_bd hm
                refine va_iald hx hb hK hP 8 0 rfl rfl h17 dX10_matchesT_114 ?_
                refine lv_aload_n hx hb dX10_matchesT_115 rfl (lv_at hl 2 rfl) ?_
                refine lv_aload_n hx hb dX10_matchesT_116 rfl (lv_at hl 2 rfl) ?_
                refine va_getN (D := (dC, dI)) (ci := 0) (v := .ref bq_kidShape) (C := RX9) (T := TX9) (N := 35) hx hb hts (inX9 _) hown hK hP 9 rfl rfl 25 (by decide) (va_Nw.use rfl (hz0.2.2.2.2.2.2.1 _ wf10_102)) (fun _ h9 => h9) rfl dX10_matchesT_117 ?_
                refine lv_aload_n hx hb dX10_matchesT_120 rfl (lv_at hl 2 rfl) ?_
                refine va_getN (D := (dC, dI)) (ci := 0) (v := .ref bq_kids) (C := RX9) (T := TX9) (N := 35) hx hb hts (inX9 _) hown hK hP 9 rfl rfl 21 (by decide) (va_Nw.use rfl (hz0.2.2.2.2.2.2.1 _ wf10_105)) (fun _ h9 => h9) rfl dX10_matchesT_121 ?_
                refine lv_iload_n hx hb dX10_matchesT_124 rfl (lv_at hl 3 rfl) ?_
                obtain ⟨h18, hm⟩ := mr_bd hm
                refine va_iald hx hb hK hP 16 0 rfl rfl h18 dX10_matchesT_125 ?_
                obtain ⟨h19, hm⟩ := mr_bd hm
                refine va_iald hx hb hK hP 17 0 rfl rfl h19 dX10_matchesT_126 ?_
                obtain ⟨r20, hz20, hm⟩ := mr_bind hm
                refine mr_pS (As := [.ref obA, .int (a_kidShape ((a_kids (x1 : Int32).toNatClampNeg) : Int32).toNatClampNeg), .ref obB, .int (b_kidShape ((b_kids (x3 : Int32).toNatClampNeg) : Int32).toNatClampNeg)]) (rest := []) (sr_okZ adK adV) ⟨hx, hb, hml, hown, hts⟩ (ihd a_length a_at a_deep a_fault a_place a_end a_nodes a_lettered a_shapes a_looked a_kidCount a_done a_root a_plainSize b_length b_at b_deep b_fault b_place b_end b_nodes b_lettered b_shapes b_looked b_kidCount b_done b_root b_plainSize a_numbers a_sizes a_letters a_sorts a_names a_wide a_kids a_kidShape b_numbers b_sizes b_letters b_sorts b_names b_wide b_kids b_kidShape (a_kidShape ((a_kids (x1 : Int32).toNatClampNeg) : Int32).toNatClampNeg) (b_kidShape ((b_kids (x3 : Int32).toNatClampNeg) : Int32).toNatClampNeg) r20 hz20) (va_cwS 4 hts (g10_108 _) rfl rfl rfl (by decide +kernel) ⟨(by show 1 * d + 1 + 1 ≤ 1 * (d + 1) + 1; omega), (by show 8 + (6 + 11) + (25 * d + 24) ≤ 25 * (d + 1) + 24; omega)⟩) hS hP hK hz0 [0, 1, 2, 3, 4, 5, 6, 7, 8, 9, 10, 11, 12, 13, 14, 15, 16, 17] rfl rfl rfl hl.1 (Nat.le_of_ble_eq_true rfl) dX10_matchesT_127 ⟨Nat.zero_le _, Nat.zero_le _⟩ ?_
                obtain ⟨h21, hm⟩ := mr_bz hm
                obtain rfl := Option.some.inj hm
                subst hQ0
                exact W.zret (v := r20) hx hb hr h21 (fun t ht hW => ⟨rfl, ht⟩) (fun q h => by cases h) dX10_matchesT_130
              refine lv_icmp_eq (tgt := 103) hx hb dX10_matchesT_93 (by decide) (fun c22 => ?_) (fun c22 => ?_)
              · have hm := mr_if c22 hm
                exact j103 a1 a3 ls (lv_sub hl [2, 3, 4, 5] rfl) hm
              · have hm := mr_un c22 hm
                refine lv_iload hx hb dX10_matchesT_96 (lv_at hl 1 rfl) ?_
                refine lv_bipush (v := 7) hx hb dX10_matchesT_98 (by decide) ?_
                refine lv_icmp_ne (tgt := 131) hx hb dX10_matchesT_100 (by decide) (fun c23 => ?_) (fun c23 => ?_)
                · have hm := mr_un c23 hm
                  refine lv_aload_n hx hb dX10_matchesT_131 rfl (lv_at hl 2 rfl) ?_
                  refine lv_aload_n hx hb dX10_matchesT_132 rfl (lv_at hl 2 rfl) ?_
                  refine va_getN (D := (dC, dI)) (ci := 0) (v := .ref aq_names) (C := RX9) (T := TX9) (N := 35) hx hb hts (inX9 _) hown hK hP 0 rfl rfl 19 (by decide) (va_Nw.use rfl (hz0.2.2.2.2.2.2.1 _ wf10_112)) (fun _ h9 => h9) rfl dX10_matchesT_133 ?_
                  refine lv_iload_n hx hb dX10_matchesT_136 rfl (lv_at hl 3 rfl) ?_
                  obtain ⟨h24, hm⟩ := mr_bd hm
                  refine va_iald hx hb hK hP 5 0 rfl rfl h24 dX10_matchesT_137 ?_
                  refine lv_aload_n hx hb dX10_matchesT_138 rfl (lv_at hl 4 rfl) ?_
                  refine lv_aload_n hx hb dX10_matchesT_139 rfl (lv_at hl 4 rfl) ?_
                  refine va_getN (D := (dC, dI)) (ci := 0) (v := .ref bq_names) (C := RX9) (T := TX9) (N := 35) hx hb hts (inX9 _) hown hK hP 9 rfl rfl 19 (by decide) (va_Nw.use rfl (hz0.2.2.2.2.2.2.1 _ wf10_112)) (fun _ h9 => h9) rfl dX10_matchesT_140 ?_
                  refine lv_iload_n hx hb dX10_matchesT_143 rfl (lv_at hl 5 rfl) ?_
                  obtain ⟨h25, hm⟩ := mr_bd hm
                  refine va_iald hx hb hK hP 14 0 rfl rfl h25 dX10_matchesT_144 ?_
                  obtain ⟨r26, hz26, hm⟩ := mr_bind hm
                  refine mr_pVN (As := [.int (a_names (a1 : Int32).toNatClampNeg), .ref obB, .int (b_names (a3 : Int32).toNatClampNeg)]) (rest := []) (sr_okZ adK adV) ⟨hx, hb, hml, hown, hts⟩ (kX9_same l htr dC dI adK adV cI cB cJ cZ cQ obA aq_bytes aq_kinds aq_firsts aq_numbers aq_sizes aq_inner aq_nexts aq_letters aq_sorts aq_names aq_wide aq_kids aq_many aq_fallback aq_kidShape aq_kidName aq_kidDefault aq_kidNext aq_finished aq_plain aq_told obB bq_bytes bq_kinds bq_firsts bq_numbers bq_sizes bq_inner bq_nexts bq_letters bq_sorts bq_names bq_wide bq_kids bq_many bq_fallback bq_kidShape bq_kidName bq_kidDefault bq_kidNext bq_finished bq_plain bq_told a_length a_at a_deep a_fault a_place a_end a_nodes a_lettered a_shapes a_looked a_kidCount a_done a_root a_plainSize b_length b_at b_deep b_fault b_place b_end b_nodes b_lettered b_shapes b_looked b_kidCount b_done b_root b_plainSize a_numbers a_sizes a_letters b_numbers b_sizes b_letters (a_names (a1 : Int32).toNatClampNeg) (b_names (a3 : Int32).toNatClampNeg) r26 hz26) (sr_cnV 3 hts rfl gn10_115.1 (hz0.2.2.2.2.2.2.1 _ gn10_115.2) rfl rfl (by decide +kernel) ⟨(by show 0 + 1 ≤ 1 * (d + 1) + 1; omega), (by show 8 + (5 + 11) + (0) ≤ 25 * (d + 1) + 24; omega)⟩) hS hP hK hz0 [0, 1, 2, 3, 9, 10, 11, 12] rfl (va_recv hK hP (ci := 0) (q0 := 0) rfl rfl) rfl rfl hl.1 (Nat.le_of_ble_eq_true rfl) dX10_matchesT_145 ⟨Nat.zero_le _, Nat.zero_le _⟩ ?_
                  refine lv_if_eq (tgt := 177) hx hb dX10_matchesT_148 (by decide) (fun c27 => ?_) (fun c27 => ?_)
                  · have hm := mr_if c27 hm
                    refine lv_iconst (v := 0) hx hb dX10_matchesT_177 (by decide) ?_
                    obtain rfl := Option.some.inj hm
                    subst hQ0
                    exact W.zret (v := 0) hx hb hr rfl (fun t ht hW => ⟨rfl, ht⟩) (fun q h => by cases h) dX10_matchesT_178
                  · have hm := mr_un c27 hm
                    refine lv_iload hx hb dX10_matchesT_151 (lv_at hl 1 rfl) ?_
                    refine lv_bipush (v := 9) hx hb dX10_matchesT_153 (by decide) ?_
                    refine lv_icmp_ne (tgt := 173) hx hb dX10_matchesT_155 (by decide) (fun c28 => ?_) (fun c28 => ?_)
                    · have hm := mr_un c28 hm
                      refine lv_iconst (v := 1) hx hb dX10_matchesT_173 (by decide) ?_
                      refine lv_goto (tgt := 178) hx hb dX10_matchesT_174 (by decide) ?_
                      obtain rfl := Option.some.inj hm
                      subst hQ0
                      exact W.zret (v := 1) hx hb hr rfl (fun t ht hW => ⟨rfl, ht⟩) (fun q h => by cases h) dX10_matchesT_178
                    · have hm := mr_if c28 hm
                      refine lv_aload_n hx hb dX10_matchesT_158 rfl (lv_at hl 2 rfl) ?_
                      refine va_getN (D := (dC, dI)) (ci := 0) (v := .ref aq_wide) (C := RX9) (T := TX9) (N := 35) hx hb hts (inX9 _) hown hK hP 0 rfl rfl 20 (by decide) (va_Nw.use rfl (hz0.2.2.2.2.2.2.1 _ wf10_119)) (fun _ h9 => h9) rfl dX10_matchesT_159 ?_
                      refine lv_iload_n hx hb dX10_matchesT_162 rfl (lv_at hl 3 rfl) ?_
                      obtain ⟨h29, hm⟩ := mr_bd hm
                      refine va_iald hx hb hK hP 6 0 rfl rfl h29 dX10_matchesT_163 ?_
                      refine lv_aload_n hx hb dX10_matchesT_164 rfl (lv_at hl 4 rfl) ?_
                      refine va_getN (D := (dC, dI)) (ci := 0) (v := .ref bq_wide) (C := RX9) (T := TX9) (N := 35) hx hb hts (inX9 _) hown hK hP 9 rfl rfl 20 (by decide) (va_Nw.use rfl (hz0.2.2.2.2.2.2.1 _ wf10_119)) (fun _ h9 => h9) rfl dX10_matchesT_165 ?_
                      refine lv_iload_n hx hb dX10_matchesT_168 rfl (lv_at hl 5 rfl) ?_
                      obtain ⟨h30, hm⟩ := mr_bd hm
                      refine va_iald hx hb hK hP 15 0 rfl rfl h30 dX10_matchesT_169 ?_
                      refine lv_icmp_ne (tgt := 177) hx hb dX10_matchesT_170 (by decide) (fun c31 => ?_) (fun c31 => ?_)
                      · have hm := mr_un c31 hm
                        refine lv_iconst (v := 0) hx hb dX10_matchesT_177 (by decide) ?_
                        obtain rfl := Option.some.inj hm
                        subst hQ0
                        exact W.zret (v := 0) hx hb hr rfl (fun t ht hW => ⟨rfl, ht⟩) (fun q h => by cases h) dX10_matchesT_178
                      · have hm := mr_if c31 hm
                        refine lv_iconst (v := 1) hx hb dX10_matchesT_173 (by decide) ?_
                        refine lv_goto (tgt := 178) hx hb dX10_matchesT_174 (by decide) ?_
                        obtain rfl := Option.some.inj hm
                        subst hQ0
                        exact W.zret (v := 1) hx hb hr rfl (fun t ht hW => ⟨rfl, ht⟩) (fun q h => by cases h) dX10_matchesT_178
                · have hm := mr_if c23 hm
                  exact j103 a1 a3 ls (lv_sub hl [2, 3, 4, 5] rfl) hm
            · have hm := mr_un c15 hm
              refine lv_iconst (v := 0) hx hb dX10_matchesT_87 (by decide) ?_
              obtain rfl := Option.some.inj hm
              subst hQ0
              exact W.zret (v := 0) hx hb hr rfl (fun t ht hW => ⟨rfl, ht⟩) (fun q h => by cases h) dX10_matchesT_88
          · have hm := mr_un c14 hm
            exact j48 (a_sorts (a1 : Int32).toNatClampNeg) (b_sorts (a3 : Int32).toNatClampNeg) ls (lv_sub hl [1, 0] rfl) hm
      · have hm := mr_if c4 hm
        refine lv_iconst (v := 1) hx hb dX10_matchesT_30 (by decide) ?_
        obtain rfl := Option.some.inj hm
        subst hQ0
        exact W.zret (v := 1) hx hb hr rfl (fun t ht hW => ⟨rfl, ht⟩) (fun q h => by cases h) dX10_matchesT_31
set_option maxHeartbeats 4000000 in
set_option maxRecDepth 100000 in
theorem kX10_branchFor (l : Launch) (htr : l.stackTraces = false) (dC : Nat → ClassId) (dI : Nat → Nat → Nat) (adK adV : Nat → Nat) (cI cB cJ cZ cQ : ClassId) (obA aq_bytes aq_kinds aq_firsts aq_numbers aq_sizes aq_inner aq_nexts aq_letters aq_sorts aq_names aq_wide aq_kids aq_many aq_fallback aq_kidShape aq_kidName aq_kidDefault aq_kidNext aq_finished aq_plain aq_told obB bq_bytes bq_kinds bq_firsts bq_numbers bq_sizes bq_inner bq_nexts bq_letters bq_sorts bq_names bq_wide bq_kids bq_many bq_fallback bq_kidShape bq_kidName bq_kidDefault bq_kidNext bq_finished bq_plain bq_told : Nat) (a_length : Int32) (a_at : Int32) (a_deep : Int32) (a_fault : Int32) (a_place : Int32) (a_end : Int32) (a_nodes : Int32) (a_lettered : Int32) (a_shapes : Int32) (a_looked : Int32) (a_kidCount : Int32) (a_done : Int32) (a_root : Int32) (a_plainSize : Int32) (b_length : Int32) (b_at : Int32) (b_deep : Int32) (b_fault : Int32) (b_place : Int32) (b_end : Int32) (b_nodes : Int32) (b_lettered : Int32) (b_shapes : Int32) (b_looked : Int32) (b_kidCount : Int32) (b_done : Int32) (b_root : Int32) (b_plainSize : Int32) (a_numbers : Nat → Int64) (a_sizes : Nat → Int32) (a_letters : Nat → Int32) (a_sorts : Nat → Int32) (a_names : Nat → Int32) (a_wide : Nat → Int32) (a_kids : Nat → Int32) (a_kidShape : Nat → Int32) (b_numbers : Nat → Int64) (b_sizes : Nat → Int32) (b_letters : Nat → Int32) (b_sorts : Nat → Int32) (b_names : Nat → Int32) (b_wide : Nat → Int32) (b_kids : Nat → Int32) (b_kidShape : Nat → Int32) (b_kidNext : Nat → Int32) (a1 : Int32) (a3 : Int32) (res : Int32) (hm : m_X10_branchFor a_numbers a_sizes a_letters a_sorts a_names a_wide a_kids a_kidShape b_numbers b_sizes b_letters b_sorts b_names b_wide b_kids b_kidShape b_kidNext a1 a3 = some res) : Met l yX10_branchFor wsX10_branchFor (rmX10_branchFor 0 0) (pcR (sr_Z adK adV) (dC, dI) srCl [(cI, .int), (cB, .byte), (cJ, .long), (cZ, .boolean), (cQ, .object "SchemaReader$Schema")] [.ref obA, .int a1, .ref obB, .int a3] [(obA, .inr (0, [.ref aq_bytes, .int a_length, .int a_at, .int a_deep, .int a_fault, .int a_place, .int a_end, .int a_nodes, .ref aq_kinds, .ref aq_firsts, .ref aq_numbers, .ref aq_sizes, .ref aq_inner, .ref aq_nexts, .ref aq_letters, .int a_lettered, .int a_shapes, .int a_looked, .ref aq_sorts, .ref aq_names, .ref aq_wide, .ref aq_kids, .ref aq_many, .ref aq_fallback, .int a_kidCount, .ref aq_kidShape, .ref aq_kidName, .ref aq_kidDefault, .ref aq_kidNext, .int a_done, .ref aq_finished, .int a_root, .ref aq_plain, .int a_plainSize, .ref aq_told])), (aq_numbers, .inl (cJ, 4200, .inr (.inl a_numbers))), (aq_sizes, .inl (cI, 4200, .inl a_sizes)), (aq_letters, .inl (cB, 4200, .inl a_letters)), (aq_sorts, .inl (cI, 140, .inl a_sorts)), (aq_names, .inl (cI, 140, .inl a_names)), (aq_wide, .inl (cI, 140, .inl a_wide)), (aq_kids, .inl (cI, 140, .inl a_kids)), (aq_kidShape, .inl (cI, 2200, .inl a_kidShape)), (obB, .inr (0, [.ref bq_bytes, .int b_length, .int b_at, .int b_deep, .int b_fault, .int b_place, .int b_end, .int b_nodes, .ref bq_kinds, .ref bq_firsts, .ref bq_numbers, .ref bq_sizes, .ref bq_inner, .ref bq_nexts, .ref bq_letters, .int b_lettered, .int b_shapes, .int b_looked, .ref bq_sorts, .ref bq_names, .ref bq_wide, .ref bq_kids, .ref bq_many, .ref bq_fallback, .int b_kidCount, .ref bq_kidShape, .ref bq_kidName, .ref bq_kidDefault, .ref bq_kidNext, .int b_done, .ref bq_finished, .int b_root, .ref bq_plain, .int b_plainSize, .ref bq_told])), (bq_numbers, .inl (cJ, 4200, .inr (.inl b_numbers))), (bq_sizes, .inl (cI, 4200, .inl b_sizes)), (bq_letters, .inl (cB, 4200, .inl b_letters)), (bq_sorts, .inl (cI, 140, .inl b_sorts)), (bq_names, .inl (cI, 140, .inl b_names)), (bq_wide, .inl (cI, 140, .inl b_wide)), (bq_kids, .inl (cI, 140, .inl b_kids)), (bq_kidShape, .inl (cI, 2200, .inl b_kidShape)), (bq_kidNext, .inl (cI, 2200, .inl b_kidNext))]) (k2_QcV (.int res)) 0 0 (fun _ => False) := by
  refine Met.ofW (cc := cX10_branchFor) (maxL := 5) (ret := (some .int)) (by decide) rfl ?_
  intro p e s m args below meth c s₁ B hml hv
  obtain ⟨rfl, hP, hK, hz0⟩ := hv
  have hx := B.exec
  have hb := B.bytes
  have hr := B.returns
  have hts := atoms_spec (ws := wsX10_branchFor) B.pre
  have hown : s.vm.findClass RX10 = some m.cls := findClass_of_methodNamed B.named
  have hlocks := B.notSynchronized
  have hS : va_S (fun _ => False) s.heap s.heap [] := va_S.rf
  generalize hQ0 : MQ below (k2_QcV (.int res)) [.ref obA, .int a1, .ref obB, .int a3].toArray s 0 0 (fun _ => False) = Q0
  have hl := lv_entry [.ref obA, .int a1, .ref obB, .int a3] (n := 5) (Nat.le_of_ble_eq_true rfl)
  rw [lg_entry_eq]
  generalize (lg_sl [.ref obA, .int a1, .ref obB, .int a3] ++ List.replicate (5 - (lg_sl [.ref obA, .int a1, .ref obB, .int a3]).length) Slot.unset).toArray = ls at hl ⊢
  have hl : lv_has ls 5 [(0, .ref obA), (1, .int a1), (2, .ref obB), (3, .int a3)] := hl
  unfold m_X10_branchFor at hm
  refine lv_aload_n hx hb dX10_branchFor_0 rfl (lv_at hl 2 rfl) ?_
  refine va_getN (D := (dC, dI)) (ci := 0) (v := .ref bq_kids) (C := RX9) (T := TX9) (N := 35) hx hb hts (inX9 _) hown hK hP 9 rfl rfl 21 (by decide) (va_Nw.use rfl (hz0.2.2.2.2.2.2.1 _ wf10_105)) (fun _ h9 => h9) rfl dX10_branchFor_1 ?_
  refine lv_iload_n hx hb dX10_branchFor_4 rfl (lv_at hl 3 rfl) ?_
  obtain ⟨h1, hm⟩ := mr_bd hm
  refine va_iald hx hb hK hP 16 0 rfl rfl h1 dX10_branchFor_5 ?_
  have j8 : ∀ (n8 : Nat) (x1 : Int32) (x4 : Int32) (ls : Array Slot), lv_has ls 5 [(0, .ref obA), (1, .int x1), (2, .ref obB), (4, .int x4)] → m_X10_branchFor_8 a_numbers a_sizes a_letters a_sorts a_names a_wide a_kids a_kidShape b_numbers b_sizes b_letters b_sorts b_names b_wide b_kids b_kidShape b_kidNext n8 x1 x4 = some res → W p l e (headSpec wsX10_branchFor (rmX10_branchFor 0 0)).room s m [.ref obA, .int a1, .ref obB, .int a3].toArray below meth c s.heap [] 0 0 Q0 (F0 m 8 ls []) := by
    intro n8
    induction n8 with
    | zero => intro x1 x4 ls hl hm; exact nomatch (show (none : Option _) = some res from hm)
    | succ n8 ih8 =>
      intro x1 x4 ls hl hm
      rw [m_X10_branchFor_8] at hm
      refine lv_iload hx hb dX10_branchFor_8 (lv_at hl 3 rfl) ?_
      refine lv_if_lt (tgt := 44) hx hb dX10_branchFor_10 (by decide) (fun c2 => ?_) (fun c2 => ?_)
      · have hm := mr_if c2 hm
        refine lv_iconst (v := -1) hx hb dX10_branchFor_44 (by decide) ?_
        obtain rfl := Option.some.inj hm
        subst hQ0
        exact W.iret (v := (-1)) hx hb hr (fun t ht hW => ⟨rfl, ht⟩) (fun q h => by cases h) dX10_branchFor_45
      · have hm := mr_un c2 hm
        refine lv_aload_n hx hb dX10_branchFor_13 rfl (lv_at hl 0 rfl) ?_
        refine lv_iload_n hx hb dX10_branchFor_14 rfl (lv_at hl 1 rfl) ?_
        refine lv_aload_n hx hb dX10_branchFor_15 rfl (lv_at hl 2 rfl) ?_
        refine lv_aload_n hx hb dX10_branchFor_16 rfl (lv_at hl 2 rfl) ?_
        refine va_getN (D := (dC, dI)) (ci := 0) (v := .ref bq_kidShape) (C := RX9) (T := TX9) (N := 35) hx hb hts (inX9 _) hown hK hP 9 rfl rfl 25 (by decide) (va_Nw.use rfl (hz0.2.2.2.2.2.2.1 _ wf10_102)) (fun _ h9 => h9) rfl dX10_branchFor_17 ?_
        refine lv_iload hx hb dX10_branchFor_20 (lv_at hl 3 rfl) ?_
        obtain ⟨h3, hm⟩ := mr_bd hm
        refine va_iald hx hb hK hP 17 0 rfl rfl h3 dX10_branchFor_22 ?_
        obtain ⟨r4, hz4, hm⟩ := mr_bind hm
        refine mr_pS (As := [.ref obA, .int x1, .ref obB, .int (b_kidShape (x4 : Int32).toNatClampNeg)]) (rest := []) (sr_okZ adK adV) ⟨hx, hb, hml, hown, hts⟩ (kX10_matchesT l htr dC dI adK adV cI cB cJ cZ cQ obA aq_bytes aq_kinds aq_firsts aq_numbers aq_sizes aq_inner aq_nexts aq_letters aq_sorts aq_names aq_wide aq_kids aq_many aq_fallback aq_kidShape aq_kidName aq_kidDefault aq_kidNext aq_finished aq_plain aq_told obB bq_bytes bq_kinds bq_firsts bq_numbers bq_sizes bq_inner bq_nexts bq_letters bq_sorts bq_names bq_wide bq_kids bq_many bq_fallback bq_kidShape bq_kidName bq_kidDefault bq_kidNext bq_finished bq_plain bq_told 150 a_length a_at a_deep a_fault a_place a_end a_nodes a_lettered a_shapes a_looked a_kidCount a_done a_root a_plainSize b_length b_at b_deep b_fault b_place b_end b_nodes b_lettered b_shapes b_looked b_kidCount b_done b_root b_plainSize a_numbers a_sizes a_letters a_sorts a_names a_wide a_kids a_kidShape b_numbers b_sizes b_letters b_sorts b_names b_wide b_kids b_kidShape x1 (b_kidShape (x4 : Int32).toNatClampNeg) r4 hz4) (va_cwS 4 hts (g10_108 _) rfl rfl rfl (by decide +kernel) ⟨(by show 1 * 150 + 1 + 1 ≤ 152; omega), (by show 8 + (6 + 11) + (25 * 150 + 24) ≤ 3799; omega)⟩) hS hP hK hz0 [0, 1, 2, 3, 4, 5, 6, 7, 8, 9, 10, 11, 12, 13, 14, 15, 16, 17] rfl rfl rfl hl.1 (Nat.le_of_ble_eq_true rfl) dX10_branchFor_23 ⟨Nat.zero_le _, Nat.zero_le _⟩ ?_
        refine lv_if_eq (tgt := 32) hx hb dX10_branchFor_26 (by decide) (fun c5 => ?_) (fun c5 => ?_)
        · have hm := mr_if c5 hm
          refine lv_aload_n hx hb dX10_branchFor_32 rfl (lv_at hl 2 rfl) ?_
          refine va_getN (D := (dC, dI)) (ci := 0) (v := .ref bq_kidNext) (C := RX9) (T := TX9) (N := 35) hx hb hts (inX9 _) hown hK hP 9 rfl rfl 28 (by decide) (va_Nw.use rfl (hz0.2.2.2.2.2.2.1 _ wf10_122)) (fun _ h9 => h9) rfl dX10_branchFor_33 ?_
          refine lv_iload hx hb dX10_branchFor_36 (lv_at hl 3 rfl) ?_
          obtain ⟨h6, hm⟩ := mr_bd hm
          refine va_iald hx hb hK hP 18 0 rfl rfl h6 dX10_branchFor_38 ?_
          refine lv_istore (lv' := [(4, .int (b_kidNext (x4 : Int32).toNatClampNeg)), (0, .ref obA), (1, .int x1), (2, .ref obB)]) hx hb dX10_branchFor_39 hl (by decide) rfl (fun ls hl => ?_)
          refine lv_goto (tgt := 8) hx hb dX10_branchFor_41 (by decide) ?_
          exact ih8 x1 (b_kidNext (x4 : Int32).toNatClampNeg) ls (lv_sub hl [1, 2, 3, 0] rfl) hm
        · have hm := mr_un c5 hm
          refine lv_iload hx hb dX10_branchFor_29 (lv_at hl 3 rfl) ?_
          obtain rfl := Option.some.inj hm
          subst hQ0
          exact W.iret (v := x4) hx hb hr (fun t ht hW => ⟨rfl, ht⟩) (fun q h => by cases h) dX10_branchFor_31
  refine lv_istore (lv' := [(4, .int (b_kids (a3 : Int32).toNatClampNeg)), (0, .ref obA), (1, .int a1), (2, .ref obB), (3, .int a3)]) hx hb dX10_branchFor_6 hl (by decide) rfl (fun ls hl => ?_)
  exact j8 sr_fuel a1 (b_kids (a3 : Int32).toNatClampNeg) ls (lv_sub hl [1, 2, 3, 0] rfl) hm
set_option maxHeartbeats 4000000 in
set_option maxRecDepth 100000 in
theorem kX10_ask (l : Launch) (htr : l.stackTraces = false) (dC : Nat → ClassId) (dI : Nat → Nat → Nat) (adK adV : Nat → Nat) (cI cB cJ cZ cQ : ClassId) (obM mq_tape obY obA obB mq_kept mq_sizes mq_asked mq_pairs : Nat) (m_thrown : Int32) (m_taped : Int32) (m_has : Int32) (m_place : Int32) (m_many : Int32) (m_asked : Nat → Int32) (m_pairs : Nat → Int32) (sz : Nat) (a0 : Int32) (a1 : Int32) (res : (Nat → Int32) × (Nat → Int32) × Int32) (hm : m_X10_ask m_asked m_pairs m_many a0 a1 = some res) : Met l yX10_ask wsX10_ask (rmX10_ask 0 0) (pcW (sr_Z adK adV) (dC, dI) srCl [(cI, .int), (cB, .byte), (cJ, .long), (cZ, .boolean), (cQ, .object "SchemaReader$Schema")] [.ref obM, .int a0, .int a1] [(obM, .inr (1, [.int m_thrown, .ref mq_tape, .int m_taped, .ref obY, .ref obA, .ref obB, .int m_has, .int m_place, .ref mq_kept, .ref mq_sizes, .ref mq_asked, .ref mq_pairs, .int m_many])), (mq_asked, .inl (cZ, 19600, .inl m_asked)), (mq_pairs, .inl (cI, 19600, .inl m_pairs))] sz) (va_Qv (fun u' => u' = res) (pcB (dC, dI) srCl [(cI, .int), (cB, .byte), (cJ, .long), (cZ, .boolean), (cQ, .object "SchemaReader$Schema")] (fun u : (Nat → Int32) × (Nat → Int32) × Int32 => [(obM, .inr (1, [.int m_thrown, .ref mq_tape, .int m_taped, .ref obY, .ref obA, .ref obB, .int m_has, .int m_place, .ref mq_kept, .ref mq_sizes, .ref mq_asked, .ref mq_pairs, .int u.2.2])), (mq_asked, .inl (cZ, 19600, .inl u.1)), (mq_pairs, .inl (cI, 19600, .inl u.2.1))]) (va_A [(obM, .inr (1, [.int m_thrown, .ref mq_tape, .int m_taped, .ref obY, .ref obA, .ref obB, .int m_has, .int m_place, .ref mq_kept, .ref mq_sizes, .ref mq_asked, .ref mq_pairs, .int m_many])), (mq_asked, .inl (cZ, 19600, .inl m_asked)), (mq_pairs, .inl (cI, 19600, .inl m_pairs))] sz)) (va_A [(obM, .inr (1, [.int m_thrown, .ref mq_tape, .int m_taped, .ref obY, .ref obA, .ref obB, .int m_has, .int m_place, .ref mq_kept, .ref mq_sizes, .ref mq_asked, .ref mq_pairs, .int m_many])), (mq_asked, .inl (cZ, 19600, .inl m_asked)), (mq_pairs, .inl (cI, 19600, .inl m_pairs))] sz)) 0 0 (va_A [(obM, .inr (1, [.int m_thrown, .ref mq_tape, .int m_taped, .ref obY, .ref obA, .ref obB, .int m_has, .int m_place, .ref mq_kept, .ref mq_sizes, .ref mq_asked, .ref mq_pairs, .int m_many])), (mq_asked, .inl (cZ, 19600, .inl m_asked)), (mq_pairs, .inl (cI, 19600, .inl m_pairs))] sz) := by
  refine Met.ofW (cc := cX10_ask) (maxL := 3) (ret := none) (by decide) rfl ?_
  intro p e s m args below meth c s₁ B hml hv
  obtain ⟨rfl, hsz, hP, hK, hD0, hz0⟩ := hv
  have hx := B.exec
  have hb := B.bytes
  have hr := B.returns
  have hts := atoms_spec (ws := wsX10_ask) B.pre
  have hown : s.vm.findClass RX10 = some m.cls := findClass_of_methodNamed B.named
  have hlocks := B.notSynchronized
  subst hsz
  have hD := hD0.self (sz := s.heap.size)
  generalize hAe : va_A [(obM, .inr (1, [.int m_thrown, .ref mq_tape, .int m_taped, .ref obY, .ref obA, .ref obB, .int m_has, .int m_place, .ref mq_kept, .ref mq_sizes, .ref mq_asked, .ref mq_pairs, .int m_many])), (mq_asked, .inl (cZ, 19600, .inl m_asked)), (mq_pairs, .inl (cI, 19600, .inl m_pairs))] s.heap.size = A at hD hz0 ⊢
  have hA : ∀ q : Nat, s.heap.size ≤ q → A q := fun q h => by rw [← hAe]; exact Or.inr h
  have hS : va_S A s.heap s.heap [] := va_S.rf
  generalize hQ0 : MQ below (va_Qv (fun u' => u' = res) (pcB (dC, dI) srCl [(cI, .int), (cB, .byte), (cJ, .long), (cZ, .boolean), (cQ, .object "SchemaReader$Schema")] (fun u : (Nat → Int32) × (Nat → Int32) × Int32 => [(obM, .inr (1, [.int m_thrown, .ref mq_tape, .int m_taped, .ref obY, .ref obA, .ref obB, .int m_has, .int m_place, .ref mq_kept, .ref mq_sizes, .ref mq_asked, .ref mq_pairs, .int u.2.2])), (mq_asked, .inl (cZ, 19600, .inl u.1)), (mq_pairs, .inl (cI, 19600, .inl u.2.1))]) A) A) [.ref obM, .int a0, .int a1].toArray s 0 0 A = Q0
  have hl := lv_entry [.ref obM, .int a0, .int a1] (n := 3) (Nat.le_of_ble_eq_true rfl)
  rw [lg_entry_eq]
  generalize (lg_sl [.ref obM, .int a0, .int a1] ++ List.replicate (3 - (lg_sl [.ref obM, .int a0, .int a1]).length) Slot.unset).toArray = ls at hl ⊢
  have hl : lv_has ls 3 [(0, .ref obM), (1, .int a0), (2, .int a1)] := hl
  unfold m_X10_ask at hm
  refine lv_aload_n hx hb dX10_ask_0 rfl (lv_at hl 0 rfl) ?_
  refine va_get (D := (dC, dI)) (ci := 1) (v := .ref mq_asked) (C := RX10) (T := TX10) (N := 13) hx hb hts (inX10 _) hown hK hP 0 rfl rfl 10 (by decide) (hts _ (List.mem_cons_of_mem _ wf10_38)) (fun _ h9 => h9) rfl dX10_ask_1 ?_
  refine lv_sipush (v := 140) hx hb dX10_ask_4 (by decide) ?_
  refine lv_iload_n hx hb dX10_ask_7 rfl (lv_at hl 1 rfl) ?_
  refine lv_imul hx hb dX10_ask_8 ?_
  refine lv_iload_n hx hb dX10_ask_9 rfl (lv_at hl 2 rfl) ?_
  refine lv_iadd hx hb dX10_ask_10 ?_
  obtain ⟨h1, hm⟩ := mr_bd hm
  refine va_zald hx hb hK hP 1 3 rfl rfl h1 dX10_ask_11 ?_
  refine lv_if_ne (tgt := 54) hx hb dX10_ask_12 (by decide) (fun c2 => ?_) (fun c2 => ?_)
  · have hm := mr_un c2 hm
    obtain rfl := Option.some.inj hm
    subst hQ0
    exact W.vret hx hb hr (fun t ht hW => ⟨⟨(m_asked, m_pairs, m_many), rfl, rfl, by rw [ht]; exact hP, va_K.moved hW.alike hK, hD⟩, hS.F ht⟩) hS.2.2 dX10_ask_54
  · have hm := mr_if c2 hm
    refine lv_aload_n hx hb dX10_ask_15 rfl (lv_at hl 0 rfl) ?_
    refine va_get (D := (dC, dI)) (ci := 1) (v := .ref mq_asked) (C := RX10) (T := TX10) (N := 13) hx hb hts (inX10 _) hown hK hP 0 rfl rfl 10 (by decide) (hts _ (List.mem_cons_of_mem _ wf10_38)) (fun _ h9 => h9) rfl dX10_ask_16 ?_
    refine lv_sipush (v := 140) hx hb dX10_ask_19 (by decide) ?_
    refine lv_iload_n hx hb dX10_ask_22 rfl (lv_at hl 1 rfl) ?_
    refine lv_imul hx hb dX10_ask_23 ?_
    refine lv_iload_n hx hb dX10_ask_24 rfl (lv_at hl 2 rfl) ?_
    refine lv_iadd hx hb dX10_ask_25 ?_
    refine lv_iconst (v := 1) hx hb dX10_ask_26 (by decide) ?_
    obtain ⟨h3, hm⟩ := mr_bd hm
    refine va_zast hx hb hK hP hD hS 1 3 rfl rfl h3 dX10_ask_27 (fun H locs hP hD hS => ?_)
    have hP : va_P (dC, dI) srCl [(obM, .inr (1, [.int m_thrown, .ref mq_tape, .int m_taped, .ref obY, .ref obA, .ref obB, .int m_has, .int m_place, .ref mq_kept, .ref mq_sizes, .ref mq_asked, .ref mq_pairs, .int m_many])), (mq_asked, .inl (cZ, 19600, .inl (upd m_asked (((140 * a0) + a1) : Int32).toNatClampNeg (vp_nar .boolean 1)))), (mq_pairs, .inl (cI, 19600, .inl m_pairs))] H := hP
    have hD : va_D A [(obM, .inr (1, [.int m_thrown, .ref mq_tape, .int m_taped, .ref obY, .ref obA, .ref obB, .int m_has, .int m_place, .ref mq_kept, .ref mq_sizes, .ref mq_asked, .ref mq_pairs, .int m_many])), (mq_asked, .inl (cZ, 19600, .inl (upd m_asked (((140 * a0) + a1) : Int32).toNatClampNeg (vp_nar .boolean 1)))), (mq_pairs, .inl (cI, 19600, .inl m_pairs))] := hD
    refine lv_aload_n hx hb dX10_ask_28 rfl (lv_at hl 0 rfl) ?_
    refine va_get (D := (dC, dI)) (ci := 1) (v := .ref mq_pairs) (C := RX10) (T := TX10) (N := 13) hx hb hts (inX10 _) hown hK hP 0 rfl rfl 11 (by decide) (hts _ (List.mem_cons_of_mem _ wf10_42)) (fun _ h9 => h9) rfl dX10_ask_29 ?_
    refine lv_aload_n hx hb dX10_ask_32 rfl (lv_at hl 0 rfl) ?_
    refine va_get (D := (dC, dI)) (ci := 1) (v := .int m_many) (C := RX10) (T := TX10) (N := 13) hx hb hts (inX10 _) hown hK hP 0 rfl rfl 12 (by decide) (hts _ (List.mem_cons_of_mem _ wf10_125)) (fun _ h9 => h9) rfl dX10_ask_33 ?_
    refine lv_sipush (v := 140) hx hb dX10_ask_36 (by decide) ?_
    refine lv_iload_n hx hb dX10_ask_39 rfl (lv_at hl 1 rfl) ?_
    refine lv_imul hx hb dX10_ask_40 ?_
    refine lv_iload_n hx hb dX10_ask_41 rfl (lv_at hl 2 rfl) ?_
    refine lv_iadd hx hb dX10_ask_42 ?_
    obtain ⟨h4, hm⟩ := mr_bd hm
    refine va_iast hx hb hK hP hD hS 2 0 rfl rfl h4 dX10_ask_43 (fun H locs hP hD hS => ?_)
    have hP : va_P (dC, dI) srCl [(obM, .inr (1, [.int m_thrown, .ref mq_tape, .int m_taped, .ref obY, .ref obA, .ref obB, .int m_has, .int m_place, .ref mq_kept, .ref mq_sizes, .ref mq_asked, .ref mq_pairs, .int m_many])), (mq_asked, .inl (cZ, 19600, .inl (upd m_asked (((140 * a0) + a1) : Int32).toNatClampNeg (vp_nar .boolean 1)))), (mq_pairs, .inl (cI, 19600, .inl (upd m_pairs (m_many : Int32).toNatClampNeg ((140 * a0) + a1))))] H := hP
    have hD : va_D A [(obM, .inr (1, [.int m_thrown, .ref mq_tape, .int m_taped, .ref obY, .ref obA, .ref obB, .int m_has, .int m_place, .ref mq_kept, .ref mq_sizes, .ref mq_asked, .ref mq_pairs, .int m_many])), (mq_asked, .inl (cZ, 19600, .inl (upd m_asked (((140 * a0) + a1) : Int32).toNatClampNeg (vp_nar .boolean 1)))), (mq_pairs, .inl (cI, 19600, .inl (upd m_pairs (m_many : Int32).toNatClampNeg ((140 * a0) + a1))))] := hD
    refine lv_aload_n hx hb dX10_ask_44 rfl (lv_at hl 0 rfl) ?_
    refine lv_dup hx hb dX10_ask_45 rfl ?_
    refine va_get (D := (dC, dI)) (ci := 1) (v := .int m_many) (C := RX10) (T := TX10) (N := 13) hx hb hts (inX10 _) hown hK hP 0 rfl rfl 12 (by decide) (hts _ (List.mem_cons_of_mem _ wf10_125)) (fun _ h9 => h9) rfl dX10_ask_46 ?_
    refine lv_iconst (v := 1) hx hb dX10_ask_49 (by decide) ?_
    refine lv_iadd hx hb dX10_ask_50 ?_
    refine va_put (D := (dC, dI)) (ci := 1) (v := .int (m_many + 1)) (ty := .int) (C := RX10) (T := TX10) (N := 13) hx hb hts (inX10 _) tyX10 tyX10_ok nmX10 hown hK hP hD hS 0 rfl rfl 12 (by decide) (hts _ (List.mem_cons_of_mem _ wf10_125)) (fun _ h9 => h9) rfl (by decide +kernel) rfl rfl (Nat.le_of_ble_eq_true rfl) dX10_ask_51 (fun H locs hP hD hS => ?_)
    have hP : va_P (dC, dI) srCl [(obM, .inr (1, [.int m_thrown, .ref mq_tape, .int m_taped, .ref obY, .ref obA, .ref obB, .int m_has, .int m_place, .ref mq_kept, .ref mq_sizes, .ref mq_asked, .ref mq_pairs, .int (m_many + 1)])), (mq_asked, .inl (cZ, 19600, .inl (upd m_asked (((140 * a0) + a1) : Int32).toNatClampNeg (vp_nar .boolean 1)))), (mq_pairs, .inl (cI, 19600, .inl (upd m_pairs (m_many : Int32).toNatClampNeg ((140 * a0) + a1))))] H := hP
    have hD : va_D A [(obM, .inr (1, [.int m_thrown, .ref mq_tape, .int m_taped, .ref obY, .ref obA, .ref obB, .int m_has, .int m_place, .ref mq_kept, .ref mq_sizes, .ref mq_asked, .ref mq_pairs, .int (m_many + 1)])), (mq_asked, .inl (cZ, 19600, .inl (upd m_asked (((140 * a0) + a1) : Int32).toNatClampNeg (vp_nar .boolean 1)))), (mq_pairs, .inl (cI, 19600, .inl (upd m_pairs (m_many : Int32).toNatClampNeg ((140 * a0) + a1))))] := hD
    obtain rfl := Option.some.inj hm
    subst hQ0
    exact W.vret hx hb hr (fun t ht hW => ⟨⟨((upd m_asked (((140 * a0) + a1) : Int32).toNatClampNeg (vp_nar .boolean 1)), (upd m_pairs (m_many : Int32).toNatClampNeg ((140 * a0) + a1)), (m_many + 1)), rfl, rfl, by rw [ht]; exact hP, va_K.moved hW.alike hK, hD⟩, hS.F ht⟩) hS.2.2 dX10_ask_54
