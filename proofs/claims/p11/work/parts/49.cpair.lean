section
set_option maxHeartbeats 4000000 in
set_option maxRecDepth 100000 in
theorem kX5_isSame (l : Launch) (htr : l.stackTraces = false) (dC : Nat → ClassId) (dI : Nat → Nat → Nat) (adK adV : Nat → Nat) (cI cB cJ cZ cQ : ClassId) (obP obW obV obC wq_plain wq_kinds wq_meant wq_firsts wq_nexts wq_names wq_fieldNames wq_amounts wq_fieldDefaults wq_enumDefaults vq_plain vq_kinds vq_meant vq_firsts vq_nexts vq_names vq_fieldNames vq_amounts vq_fieldDefaults vq_enumDefaults : Nat) (w_letterCount : Int32) (w_slotCount : Int32) (v_letterCount : Int32) (v_slotCount : Int32) (w_plain : Nat → Int32) (w_kinds : Nat → Int32) (w_meant : Nat → Int32) (w_names : Nat → Int32) (w_amounts : Nat → Int32) (v_plain : Nat → Int32) (v_kinds : Nat → Int32) (v_meant : Nat → Int32) (v_names : Nat → Int32) (v_amounts : Nat → Int32) (a0 : Int32) (a1 : Int32) (res : Int32) (hm : m_X5_isSame w_plain w_kinds w_meant w_names w_amounts w_letterCount v_plain v_kinds v_meant v_names v_amounts v_letterCount a0 a1 = some res) : Met l yX5_isSame wsX5_isSame (rmX5_isSame 0 0) (pcR (sr_Z adK adV) (dC, dI) srCl [(cI, .int), (cB, .byte), (cJ, .long), (cZ, .boolean), (cQ, .object "SchemaReader$Schema")] [.ref obP, .int a0, .int a1] [(obP, .inr (7, [.ref obW, .ref obV, .ref obC])), (obW, .inr (8, [.ref wq_plain, .ref wq_kinds, .ref wq_meant, .ref wq_firsts, .ref wq_nexts, .ref wq_names, .ref wq_fieldNames, .ref wq_amounts, .ref wq_fieldDefaults, .ref wq_enumDefaults, .int w_letterCount, .int w_slotCount])), (wq_plain, .inl (cB, 4096, .inl w_plain)), (wq_kinds, .inl (cI, 128, .inl w_kinds)), (wq_meant, .inl (cI, 128, .inl w_meant)), (wq_names, .inl (cI, 128, .inl w_names)), (wq_amounts, .inl (cI, 128, .inl w_amounts)), (obV, .inr (8, [.ref vq_plain, .ref vq_kinds, .ref vq_meant, .ref vq_firsts, .ref vq_nexts, .ref vq_names, .ref vq_fieldNames, .ref vq_amounts, .ref vq_fieldDefaults, .ref vq_enumDefaults, .int v_letterCount, .int v_slotCount])), (vq_plain, .inl (cB, 4096, .inl v_plain)), (vq_kinds, .inl (cI, 128, .inl v_kinds)), (vq_meant, .inl (cI, 128, .inl v_meant)), (vq_names, .inl (cI, 128, .inl v_names)), (vq_amounts, .inl (cI, 128, .inl v_amounts))]) (k2_QcV (.int res)) 0 0 (fun _ => False) := by
  refine Met.ofW (cc := cX5_isSame) (maxL := 5) (ret := (some .boolean)) (by decide) rfl ?_
  intro p e s m args below meth c s₁ B hml hv
  obtain ⟨rfl, hP, hK, hz0⟩ := hv
  have hx := B.exec
  have hb := B.bytes
  have hr := B.returns
  have hts := atoms_spec (ws := wsX5_isSame) B.pre
  have hown : s.vm.findClass RX5 = some m.cls := findClass_of_methodNamed B.named
  have hlocks := B.notSynchronized
  have hS : va_S (fun _ => False) s.heap s.heap [] := va_S.rf
  generalize hQ0 : MQ below (k2_QcV (.int res)) [.ref obP, .int a0, .int a1].toArray s 0 0 (fun _ => False) = Q0
  have hl := lv_entry [.ref obP, .int a0, .int a1] (n := 5) (Nat.le_of_ble_eq_true rfl)
  rw [lg_entry_eq]
  generalize (lg_sl [.ref obP, .int a0, .int a1] ++ List.replicate (5 - (lg_sl [.ref obP, .int a0, .int a1]).length) Slot.unset).toArray = ls at hl ⊢
  have hl : lv_has ls 5 [(0, .ref obP), (1, .int a0), (2, .int a1)] := hl
  unfold m_X5_isSame at hm
  refine lv_aload_n hx hb dX5_isSame_0 rfl (lv_at hl 0 rfl) ?_
  refine va_get (D := (dC, dI)) (ci := 7) (v := .ref obW) (C := RX5) (T := TX5) (N := 3) hx hb hts (inX5 _) hown hK hP 0 rfl rfl 0 (by decide) (hts _ (List.mem_cons_of_mem _ wf5_11)) (fun _ h9 => h9) rfl dX5_isSame_1 ?_
  refine lv_iload_n hx hb dX5_isSame_4 rfl (lv_at hl 1 rfl) ?_
  obtain ⟨r1, hz1, hm⟩ := mr_bind hm
  refine mr_pV (As := [.int a0]) (rest := []) (sr_okZ adK adV) ⟨hx, hb, hml, hown, hts⟩ (kX6_kind l htr dC dI adK adV cI cB cJ cZ cQ obW wq_plain wq_kinds wq_meant wq_firsts wq_nexts wq_names wq_fieldNames wq_amounts wq_fieldDefaults wq_enumDefaults w_letterCount w_slotCount w_kinds w_meant a0 r1 hz1) (cwV 1 hts (g5_24 _) rfl rfl rfl (by decide +kernel) ⟨(by show 1 + 1 ≤ 2; omega), (by show 8 + (2 + 11) + (21) ≤ 42; omega)⟩) hS hP hK hz0 [1, 3, 4] rfl (va_recv hK hP (ci := 8) (q0 := 1) rfl rfl) rfl rfl hl.1 (Nat.le_of_ble_eq_true rfl) dX5_isSame_5 ⟨Nat.zero_le _, Nat.zero_le _⟩ ?_
  refine lv_istore_n (lv' := [(3, .int r1), (0, .ref obP), (1, .int a0), (2, .int a1)]) hx hb dX5_isSame_8 rfl hl (by decide) rfl (fun ls hl => ?_)
  refine lv_aload_n hx hb dX5_isSame_9 rfl (lv_at hl 1 rfl) ?_
  refine va_get (D := (dC, dI)) (ci := 7) (v := .ref obV) (C := RX5) (T := TX5) (N := 3) hx hb hts (inX5 _) hown hK hP 0 rfl rfl 1 (by decide) (hts _ (List.mem_cons_of_mem _ wf5_17)) (fun _ h9 => h9) rfl dX5_isSame_10 ?_
  refine lv_iload_n hx hb dX5_isSame_13 rfl (lv_at hl 3 rfl) ?_
  obtain ⟨r2, hz2, hm⟩ := mr_bind hm
  refine mr_pV (As := [.int a1]) (rest := []) (sr_okZ adK adV) ⟨hx, hb, hml, hown, hts⟩ (kX6_kind l htr dC dI adK adV cI cB cJ cZ cQ obV vq_plain vq_kinds vq_meant vq_firsts vq_nexts vq_names vq_fieldNames vq_amounts vq_fieldDefaults vq_enumDefaults v_letterCount v_slotCount v_kinds v_meant a1 r2 hz2) (cwV 1 hts (g5_24 _) rfl rfl rfl (by decide +kernel) ⟨(by show 1 + 1 ≤ 2; omega), (by show 8 + (2 + 11) + (21) ≤ 42; omega)⟩) hS hP hK hz0 [7, 9, 10] rfl (va_recv hK hP (ci := 8) (q0 := 7) rfl rfl) rfl rfl hl.1 (Nat.le_of_ble_eq_true rfl) dX5_isSame_14 ⟨Nat.zero_le _, Nat.zero_le _⟩ ?_
  refine lv_istore (lv' := [(4, .int r2), (3, .int r1), (0, .ref obP), (1, .int a0), (2, .int a1)]) hx hb dX5_isSame_17 hl (by decide) rfl (fun ls hl => ?_)
  refine lv_iload_n hx hb dX5_isSame_19 rfl (lv_at hl 1 rfl) ?_
  refine lv_iload hx hb dX5_isSame_20 (lv_at hl 0 rfl) ?_
  refine lv_icmp_eq (tgt := 64) hx hb dX5_isSame_22 (by decide) (fun c3 => ?_) (fun c3 => ?_)
  · have hm := mr_if c3 hm
    refine lv_iload_n hx hb dX5_isSame_64 rfl (lv_at hl 1 rfl) ?_
    obtain ⟨r4, hz4, hm⟩ := mr_bind hm
    refine mr_pS (As := [.int r1]) (rest := []) (sr_okZ adK adV) ⟨hx, hb, hml, hown, hts⟩ (kX3_isNamed l htr dC dI adK adV cI cB cJ cZ cQ  r1 r4 hz4) (va_cwS 1 hts (g5_37 _) rfl rfl rfl (by decide +kernel) ⟨(by show 0 + 1 ≤ 2; omega), (by show 8 + (1 + 11) + (0) ≤ 42; omega)⟩) hS hP hK hz0 [] rfl rfl rfl hl.1 (Nat.le_of_ble_eq_true rfl) dX5_isSame_65 ⟨Nat.zero_le _, Nat.zero_le _⟩ ?_
    refine lv_if_ne (tgt := 73) hx hb dX5_isSame_68 (by decide) (fun c5 => ?_) (fun c5 => ?_)
    · have hm := mr_un c5 hm
      refine lv_iload_n hx hb dX5_isSame_73 rfl (lv_at hl 1 rfl) ?_
      refine lv_bipush (v := 8) hx hb dX5_isSame_74 (by decide) ?_
      have j100 : ∀ (x1 : Int32) (x2 : Int32) (ls : Array Slot), lv_has ls 5 [(0, .ref obP), (1, .int x1), (2, .int x2)] → m_X5_isSame_100 w_plain w_kinds w_meant w_names w_amounts w_letterCount v_plain v_kinds v_meant v_names v_amounts v_letterCount x1 x2 = some res → W p l e (headSpec wsX5_isSame (rmX5_isSame 0 0)).room s m [.ref obP, .int a0, .int a1].toArray below meth c s.heap [] 0 0 Q0 (F0 m 100 ls []) := by
        intro x1 x2 ls hl hm
        unfold m_X5_isSame_100 at hm
        refine lv_aload_n hx hb dX5_isSame_100 rfl (lv_at hl 0 rfl) ?_
        refine va_get (D := (dC, dI)) (ci := 7) (v := .ref obW) (C := RX5) (T := TX5) (N := 3) hx hb hts (inX5 _) hown hK hP 0 rfl rfl 0 (by decide) (hts _ (List.mem_cons_of_mem _ wf5_11)) (fun _ h9 => h9) rfl dX5_isSame_101 ?_
        refine lv_aload_n hx hb dX5_isSame_104 rfl (lv_at hl 0 rfl) ?_
        refine va_get (D := (dC, dI)) (ci := 7) (v := .ref obW) (C := RX5) (T := TX5) (N := 3) hx hb hts (inX5 _) hown hK hP 0 rfl rfl 0 (by decide) (hts _ (List.mem_cons_of_mem _ wf5_11)) (fun _ h9 => h9) rfl dX5_isSame_105 ?_
        refine lv_iload_n hx hb dX5_isSame_108 rfl (lv_at hl 1 rfl) ?_
        obtain ⟨r6, hz6, hm⟩ := mr_bind hm
        refine mr_pV (As := [.int x1]) (rest := [.ref obW]) (sr_okZ adK adV) ⟨hx, hb, hml, hown, hts⟩ (kX6_name l htr dC dI adK adV cI cB cJ cZ cQ obW wq_plain wq_kinds wq_meant wq_firsts wq_nexts wq_names wq_fieldNames wq_amounts wq_fieldDefaults wq_enumDefaults w_letterCount w_slotCount w_meant w_names x1 r6 hz6) (cwV 1 hts (g5_44 _) rfl rfl rfl (by decide +kernel) ⟨(by show 1 + 1 ≤ 2; omega), (by show 8 + (2 + 11) + (21) ≤ 42; omega)⟩) hS hP hK hz0 [1, 4, 5] rfl (va_recv hK hP (ci := 8) (q0 := 1) rfl rfl) rfl rfl hl.1 (Nat.le_of_ble_eq_true rfl) dX5_isSame_109 ⟨Nat.zero_le _, Nat.zero_le _⟩ ?_
        refine lv_aload_n hx hb dX5_isSame_112 rfl (lv_at hl 0 rfl) ?_
        refine va_get (D := (dC, dI)) (ci := 7) (v := .ref obV) (C := RX5) (T := TX5) (N := 3) hx hb hts (inX5 _) hown hK hP 0 rfl rfl 1 (by decide) (hts _ (List.mem_cons_of_mem _ wf5_17)) (fun _ h9 => h9) rfl dX5_isSame_113 ?_
        refine lv_aload_n hx hb dX5_isSame_116 rfl (lv_at hl 0 rfl) ?_
        refine va_get (D := (dC, dI)) (ci := 7) (v := .ref obV) (C := RX5) (T := TX5) (N := 3) hx hb hts (inX5 _) hown hK hP 0 rfl rfl 1 (by decide) (hts _ (List.mem_cons_of_mem _ wf5_17)) (fun _ h9 => h9) rfl dX5_isSame_117 ?_
        refine lv_iload_n hx hb dX5_isSame_120 rfl (lv_at hl 2 rfl) ?_
        obtain ⟨r7, hz7, hm⟩ := mr_bind hm
        refine mr_pV (As := [.int x2]) (rest := [.ref obV, .int r6, .ref obW]) (sr_okZ adK adV) ⟨hx, hb, hml, hown, hts⟩ (kX6_name l htr dC dI adK adV cI cB cJ cZ cQ obV vq_plain vq_kinds vq_meant vq_firsts vq_nexts vq_names vq_fieldNames vq_amounts vq_fieldDefaults vq_enumDefaults v_letterCount v_slotCount v_meant v_names x2 r7 hz7) (cwV 1 hts (g5_44 _) rfl rfl rfl (by decide +kernel) ⟨(by show 1 + 1 ≤ 2; omega), (by show 8 + (2 + 11) + (21) ≤ 42; omega)⟩) hS hP hK hz0 [7, 10, 11] rfl (va_recv hK hP (ci := 8) (q0 := 7) rfl rfl) rfl rfl hl.1 (Nat.le_of_ble_eq_true rfl) dX5_isSame_121 ⟨Nat.zero_le _, Nat.zero_le _⟩ ?_
        obtain ⟨r8, hz8, hm⟩ := mr_bind hm
        refine mr_pS (As := [.ref obW, .int r6, .ref obV, .int r7]) (rest := []) (sr_okZ adK adV) ⟨hx, hb, hml, hown, hts⟩ (kX6_isSameName l htr dC dI adK adV cI cB cJ cZ cQ obW wq_plain wq_kinds wq_meant wq_firsts wq_nexts wq_names wq_fieldNames wq_amounts wq_fieldDefaults wq_enumDefaults obV vq_plain vq_kinds vq_meant vq_firsts vq_nexts vq_names vq_fieldNames vq_amounts vq_fieldDefaults vq_enumDefaults w_letterCount w_slotCount v_letterCount v_slotCount w_plain v_plain r6 r7 r8 hz8) (va_cwS 4 hts (g5_47 _) rfl rfl rfl (by decide +kernel) ⟨(by show 0 + 1 ≤ 2; omega), (by show 8 + (7 + 11) + (0) ≤ 42; omega)⟩) hS hP hK hz0 [1, 2, 7, 8] rfl rfl rfl hl.1 (Nat.le_of_ble_eq_true rfl) dX5_isSame_124 ⟨Nat.zero_le _, Nat.zero_le _⟩ ?_
        obtain ⟨h9, hm⟩ := mr_bz hm
        obtain rfl := Option.some.inj hm
        subst hQ0
        exact W.zret (v := r8) hx hb hr h9 (fun t ht hW => ⟨rfl, ht⟩) (fun q h => by cases h) dX5_isSame_127
      refine lv_icmp_ne (tgt := 100) hx hb dX5_isSame_76 (by decide) (fun c10 => ?_) (fun c10 => ?_)
      · have hm := mr_un c10 hm
        exact j100 a0 a1 ls (lv_sub hl [2, 3, 4] rfl) hm
      · have hm := mr_if c10 hm
        refine lv_aload_n hx hb dX5_isSame_79 rfl (lv_at hl 2 rfl) ?_
        refine va_get (D := (dC, dI)) (ci := 7) (v := .ref obW) (C := RX5) (T := TX5) (N := 3) hx hb hts (inX5 _) hown hK hP 0 rfl rfl 0 (by decide) (hts _ (List.mem_cons_of_mem _ wf5_11)) (fun _ h9 => h9) rfl dX5_isSame_80 ?_
        refine lv_iload_n hx hb dX5_isSame_83 rfl (lv_at hl 3 rfl) ?_
        obtain ⟨r11, hz11, hm⟩ := mr_bind hm
        refine mr_pV (As := [.int a0]) (rest := []) (sr_okZ adK adV) ⟨hx, hb, hml, hown, hts⟩ (kX6_amount l htr dC dI adK adV cI cB cJ cZ cQ obW wq_plain wq_kinds wq_meant wq_firsts wq_nexts wq_names wq_fieldNames wq_amounts wq_fieldDefaults wq_enumDefaults w_letterCount w_slotCount w_meant w_amounts a0 r11 hz11) (cwV 1 hts (g5_41 _) rfl rfl rfl (by decide +kernel) ⟨(by show 1 + 1 ≤ 2; omega), (by show 8 + (2 + 11) + (21) ≤ 42; omega)⟩) hS hP hK hz0 [1, 4, 6] rfl (va_recv hK hP (ci := 8) (q0 := 1) rfl rfl) rfl rfl hl.1 (Nat.le_of_ble_eq_true rfl) dX5_isSame_84 ⟨Nat.zero_le _, Nat.zero_le _⟩ ?_
        refine lv_aload_n hx hb dX5_isSame_87 rfl (lv_at hl 2 rfl) ?_
        refine va_get (D := (dC, dI)) (ci := 7) (v := .ref obV) (C := RX5) (T := TX5) (N := 3) hx hb hts (inX5 _) hown hK hP 0 rfl rfl 1 (by decide) (hts _ (List.mem_cons_of_mem _ wf5_17)) (fun _ h9 => h9) rfl dX5_isSame_88 ?_
        refine lv_iload_n hx hb dX5_isSame_91 rfl (lv_at hl 4 rfl) ?_
        obtain ⟨r12, hz12, hm⟩ := mr_bind hm
        refine mr_pV (As := [.int a1]) (rest := [.int r11]) (sr_okZ adK adV) ⟨hx, hb, hml, hown, hts⟩ (kX6_amount l htr dC dI adK adV cI cB cJ cZ cQ obV vq_plain vq_kinds vq_meant vq_firsts vq_nexts vq_names vq_fieldNames vq_amounts vq_fieldDefaults vq_enumDefaults v_letterCount v_slotCount v_meant v_amounts a1 r12 hz12) (cwV 1 hts (g5_41 _) rfl rfl rfl (by decide +kernel) ⟨(by show 1 + 1 ≤ 2; omega), (by show 8 + (2 + 11) + (21) ≤ 42; omega)⟩) hS hP hK hz0 [7, 10, 12] rfl (va_recv hK hP (ci := 8) (q0 := 7) rfl rfl) rfl rfl hl.1 (Nat.le_of_ble_eq_true rfl) dX5_isSame_92 ⟨Nat.zero_le _, Nat.zero_le _⟩ ?_
        refine lv_icmp_eq (tgt := 100) hx hb dX5_isSame_95 (by decide) (fun c13 => ?_) (fun c13 => ?_)
        · have hm := mr_if c13 hm
          exact j100 a0 a1 ls (lv_sub hl [2, 3, 4] rfl) hm
        · have hm := mr_un c13 hm
          refine lv_iconst (v := 0) hx hb dX5_isSame_98 (by decide) ?_
          obtain rfl := Option.some.inj hm
          subst hQ0
          exact W.zret (v := 0) hx hb hr rfl (fun t ht hW => ⟨rfl, ht⟩) (fun q h => by cases h) dX5_isSame_99
    · have hm := mr_if c5 hm
      refine lv_iconst (v := 1) hx hb dX5_isSame_71 (by decide) ?_
      obtain rfl := Option.some.inj hm
      subst hQ0
      exact W.zret (v := 1) hx hb hr rfl (fun t ht hW => ⟨rfl, ht⟩) (fun q h => by cases h) dX5_isSame_72
  · have hm := mr_un c3 hm
    refine lv_iload_n hx hb dX5_isSame_25 rfl (lv_at hl 1 rfl) ?_
    refine lv_iconst (v := 2) hx hb dX5_isSame_26 (by decide) ?_
    have j36 : ∀ (x3 : Int32) (x4 : Int32) (ls : Array Slot), lv_has ls 5 [(3, .int x3), (4, .int x4)] → m_X5_isSame_36 w_plain w_kinds w_meant w_names w_amounts w_letterCount v_plain v_kinds v_meant v_names v_amounts v_letterCount x3 x4 = some res → W p l e (headSpec wsX5_isSame (rmX5_isSame 0 0)).room s m [.ref obP, .int a0, .int a1].toArray below meth c s.heap [] 0 0 Q0 (F0 m 36 ls []) := by
      intro x3 x4 ls hl hm
      unfold m_X5_isSame_36 at hm
      refine lv_iload_n hx hb dX5_isSame_36 rfl (lv_at hl 0 rfl) ?_
      refine lv_iconst (v := 4) hx hb dX5_isSame_37 (by decide) ?_
      refine lv_icmp_ne (tgt := 47) hx hb dX5_isSame_38 (by decide) (fun c14 => ?_) (fun c14 => ?_)
      · have hm := mr_un c14 hm
        refine lv_iload_n hx hb dX5_isSame_47 rfl (lv_at hl 0 rfl) ?_
        refine lv_iconst (v := 5) hx hb dX5_isSame_48 (by decide) ?_
        refine lv_icmp_ne (tgt := 62) hx hb dX5_isSame_49 (by decide) (fun c15 => ?_) (fun c15 => ?_)
        · have hm := mr_un c15 hm
          refine lv_iconst (v := 0) hx hb dX5_isSame_62 (by decide) ?_
          obtain rfl := Option.some.inj hm
          subst hQ0
          exact W.zret (v := 0) hx hb hr rfl (fun t ht hW => ⟨rfl, ht⟩) (fun q h => by cases h) dX5_isSame_63
        · have hm := mr_if c15 hm
          refine lv_iload hx hb dX5_isSame_52 (lv_at hl 1 rfl) ?_
          refine lv_iconst (v := 4) hx hb dX5_isSame_54 (by decide) ?_
          refine lv_icmp_ne (tgt := 62) hx hb dX5_isSame_55 (by decide) (fun c16 => ?_) (fun c16 => ?_)
          · have hm := mr_un c16 hm
            refine lv_iconst (v := 0) hx hb dX5_isSame_62 (by decide) ?_
            obtain rfl := Option.some.inj hm
            subst hQ0
            exact W.zret (v := 0) hx hb hr rfl (fun t ht hW => ⟨rfl, ht⟩) (fun q h => by cases h) dX5_isSame_63
          · have hm := mr_if c16 hm
            refine lv_iconst (v := 1) hx hb dX5_isSame_58 (by decide) ?_
            refine lv_goto (tgt := 63) hx hb dX5_isSame_59 (by decide) ?_
            obtain rfl := Option.some.inj hm
            subst hQ0
            exact W.zret (v := 1) hx hb hr rfl (fun t ht hW => ⟨rfl, ht⟩) (fun q h => by cases h) dX5_isSame_63
      · have hm := mr_if c14 hm
        refine lv_iload hx hb dX5_isSame_41 (lv_at hl 1 rfl) ?_
        refine lv_iconst (v := 5) hx hb dX5_isSame_43 (by decide) ?_
        refine lv_icmp_eq (tgt := 58) hx hb dX5_isSame_44 (by decide) (fun c17 => ?_) (fun c17 => ?_)
        · have hm := mr_if c17 hm
          refine lv_iconst (v := 1) hx hb dX5_isSame_58 (by decide) ?_
          refine lv_goto (tgt := 63) hx hb dX5_isSame_59 (by decide) ?_
          obtain rfl := Option.some.inj hm
          subst hQ0
          exact W.zret (v := 1) hx hb hr rfl (fun t ht hW => ⟨rfl, ht⟩) (fun q h => by cases h) dX5_isSame_63
        · have hm := mr_un c17 hm
          refine lv_iload_n hx hb dX5_isSame_47 rfl (lv_at hl 0 rfl) ?_
          refine lv_iconst (v := 5) hx hb dX5_isSame_48 (by decide) ?_
          refine lv_icmp_ne (tgt := 62) hx hb dX5_isSame_49 (by decide) (fun c18 => ?_) (fun c18 => ?_)
          · have hm := mr_un c18 hm
            refine lv_iconst (v := 0) hx hb dX5_isSame_62 (by decide) ?_
            obtain rfl := Option.some.inj hm
            subst hQ0
            exact W.zret (v := 0) hx hb hr rfl (fun t ht hW => ⟨rfl, ht⟩) (fun q h => by cases h) dX5_isSame_63
          · have hm := mr_if c18 hm
            refine lv_iload hx hb dX5_isSame_52 (lv_at hl 1 rfl) ?_
            refine lv_iconst (v := 4) hx hb dX5_isSame_54 (by decide) ?_
            refine lv_icmp_ne (tgt := 62) hx hb dX5_isSame_55 (by decide) (fun c19 => ?_) (fun c19 => ?_)
            · have hm := mr_un c19 hm
              refine lv_iconst (v := 0) hx hb dX5_isSame_62 (by decide) ?_
              obtain rfl := Option.some.inj hm
              subst hQ0
              exact W.zret (v := 0) hx hb hr rfl (fun t ht hW => ⟨rfl, ht⟩) (fun q h => by cases h) dX5_isSame_63
            · have hm := mr_if c19 hm
              refine lv_iconst (v := 1) hx hb dX5_isSame_58 (by decide) ?_
              refine lv_goto (tgt := 63) hx hb dX5_isSame_59 (by decide) ?_
              obtain rfl := Option.some.inj hm
              subst hQ0
              exact W.zret (v := 1) hx hb hr rfl (fun t ht hW => ⟨rfl, ht⟩) (fun q h => by cases h) dX5_isSame_63
    refine lv_icmp_ne (tgt := 36) hx hb dX5_isSame_27 (by decide) (fun c20 => ?_) (fun c20 => ?_)
    · have hm := mr_un c20 hm
      exact j36 r1 r2 ls (lv_sub hl [1, 0] rfl) hm
    · have hm := mr_if c20 hm
      refine lv_iload hx hb dX5_isSame_30 (lv_at hl 0 rfl) ?_
      refine lv_iconst (v := 3) hx hb dX5_isSame_32 (by decide) ?_
      refine lv_icmp_eq (tgt := 58) hx hb dX5_isSame_33 (by decide) (fun c21 => ?_) (fun c21 => ?_)
      · have hm := mr_if c21 hm
        refine lv_iconst (v := 1) hx hb dX5_isSame_58 (by decide) ?_
        refine lv_goto (tgt := 63) hx hb dX5_isSame_59 (by decide) ?_
        obtain rfl := Option.some.inj hm
        subst hQ0
        exact W.zret (v := 1) hx hb hr rfl (fun t ht hW => ⟨rfl, ht⟩) (fun q h => by cases h) dX5_isSame_63
      · have hm := mr_un c21 hm
        exact j36 r1 r2 ls (lv_sub hl [1, 0] rfl) hm
set_option maxHeartbeats 4000000 in
set_option maxRecDepth 100000 in
theorem kX5_isMatch (l : Launch) (htr : l.stackTraces = false) (dC : Nat → ClassId) (dI : Nat → Nat → Nat) (adK adV : Nat → Nat) (cI cB cJ cZ cQ : ClassId) (obP obW obV obC wq_plain wq_kinds wq_meant wq_firsts wq_nexts wq_names wq_fieldNames wq_amounts wq_fieldDefaults wq_enumDefaults vq_plain vq_kinds vq_meant vq_firsts vq_nexts vq_names vq_fieldNames vq_amounts vq_fieldDefaults vq_enumDefaults : Nat) (w_letterCount : Int32) (w_slotCount : Int32) (v_letterCount : Int32) (v_slotCount : Int32) (w_plain : Nat → Int32) (w_kinds : Nat → Int32) (w_meant : Nat → Int32) (w_firsts : Nat → Int32) (w_names : Nat → Int32) (w_amounts : Nat → Int32) (v_plain : Nat → Int32) (v_kinds : Nat → Int32) (v_meant : Nat → Int32) (v_firsts : Nat → Int32) (v_names : Nat → Int32) (v_amounts : Nat → Int32) (a0 : Int32) (a1 : Int32) (res : Int32) (hm : m_X5_isMatch w_plain w_kinds w_meant w_firsts w_names w_amounts w_letterCount v_plain v_kinds v_meant v_firsts v_names v_amounts v_letterCount a0 a1 = some res) : Met l yX5_isMatch wsX5_isMatch (rmX5_isMatch 0 0) (pcR (sr_Z adK adV) (dC, dI) srCl [(cI, .int), (cB, .byte), (cJ, .long), (cZ, .boolean), (cQ, .object "SchemaReader$Schema")] [.ref obP, .int a0, .int a1] [(obP, .inr (7, [.ref obW, .ref obV, .ref obC])), (obW, .inr (8, [.ref wq_plain, .ref wq_kinds, .ref wq_meant, .ref wq_firsts, .ref wq_nexts, .ref wq_names, .ref wq_fieldNames, .ref wq_amounts, .ref wq_fieldDefaults, .ref wq_enumDefaults, .int w_letterCount, .int w_slotCount])), (wq_plain, .inl (cB, 4096, .inl w_plain)), (wq_kinds, .inl (cI, 128, .inl w_kinds)), (wq_meant, .inl (cI, 128, .inl w_meant)), (wq_firsts, .inl (cI, 128, .inl w_firsts)), (wq_names, .inl (cI, 128, .inl w_names)), (wq_amounts, .inl (cI, 128, .inl w_amounts)), (obV, .inr (8, [.ref vq_plain, .ref vq_kinds, .ref vq_meant, .ref vq_firsts, .ref vq_nexts, .ref vq_names, .ref vq_fieldNames, .ref vq_amounts, .ref vq_fieldDefaults, .ref vq_enumDefaults, .int v_letterCount, .int v_slotCount])), (vq_plain, .inl (cB, 4096, .inl v_plain)), (vq_kinds, .inl (cI, 128, .inl v_kinds)), (vq_meant, .inl (cI, 128, .inl v_meant)), (vq_firsts, .inl (cI, 128, .inl v_firsts)), (vq_names, .inl (cI, 128, .inl v_names)), (vq_amounts, .inl (cI, 128, .inl v_amounts))]) (k2_QcV (.int res)) 0 0 (fun _ => False) := by
  refine Met.ofW (cc := cX5_isMatch) (maxL := 7) (ret := (some .boolean)) (by decide) rfl ?_
  intro p e s m args below meth c s₁ B hml hv
  obtain ⟨rfl, hP, hK, hz0⟩ := hv
  have hx := B.exec
  have hb := B.bytes
  have hr := B.returns
  have hts := atoms_spec (ws := wsX5_isMatch) B.pre
  have hown : s.vm.findClass RX5 = some m.cls := findClass_of_methodNamed B.named
  have hlocks := B.notSynchronized
  have hS : va_S (fun _ => False) s.heap s.heap [] := va_S.rf
  generalize hQ0 : MQ below (k2_QcV (.int res)) [.ref obP, .int a0, .int a1].toArray s 0 0 (fun _ => False) = Q0
  have hl := lv_entry [.ref obP, .int a0, .int a1] (n := 7) (Nat.le_of_ble_eq_true rfl)
  rw [lg_entry_eq]
  generalize (lg_sl [.ref obP, .int a0, .int a1] ++ List.replicate (7 - (lg_sl [.ref obP, .int a0, .int a1]).length) Slot.unset).toArray = ls at hl ⊢
  have hl : lv_has ls 7 [(0, .ref obP), (1, .int a0), (2, .int a1)] := hl
  unfold m_X5_isMatch at hm
  refine lv_iload_n hx hb dX5_isMatch_0 rfl (lv_at hl 1 rfl) ?_
  refine lv_istore_n (lv' := [(3, .int a0), (0, .ref obP), (1, .int a0), (2, .int a1)]) hx hb dX5_isMatch_1 rfl hl (by decide) rfl (fun ls hl => ?_)
  refine lv_iload_n hx hb dX5_isMatch_2 rfl (lv_at hl 3 rfl) ?_
  refine lv_istore (lv' := [(4, .int a1), (3, .int a0), (0, .ref obP), (1, .int a0), (2, .int a1)]) hx hb dX5_isMatch_3 hl (by decide) rfl (fun ls hl => ?_)
  refine lv_iconst (v := 0) hx hb dX5_isMatch_5 (by decide) ?_
  have j8 : ∀ (n8 : Nat) (x3 : Int32) (x4 : Int32) (x5 : Int32) (ls : Array Slot), lv_has ls 7 [(0, .ref obP), (3, .int x3), (4, .int x4), (5, .int x5)] → m_X5_isMatch_8 w_plain w_kinds w_meant w_firsts w_names w_amounts w_letterCount v_plain v_kinds v_meant v_firsts v_names v_amounts v_letterCount n8 x3 x4 x5 = some res → W p l e (headSpec wsX5_isMatch (rmX5_isMatch 0 0)).room s m [.ref obP, .int a0, .int a1].toArray below meth c s.heap [] 0 0 Q0 (F0 m 8 ls []) := by
    intro n8
    induction n8 with
    | zero => intro x3 x4 x5 ls hl hm; exact nomatch (show (none : Option _) = some res from hm)
    | succ n8 ih8 =>
      intro x3 x4 x5 ls hl hm
      rw [m_X5_isMatch_8] at hm
      refine lv_iload hx hb dX5_isMatch_8 (lv_at hl 3 rfl) ?_
      refine lv_bipush (v := 16) hx hb dX5_isMatch_10 (by decide) ?_
      refine lv_icmp_gt (tgt := 110) hx hb dX5_isMatch_12 (by decide) (fun c1 => ?_) (fun c1 => ?_)
      · have hm := mr_if c1 hm
        refine lv_iconst (v := 0) hx hb dX5_isMatch_110 (by decide) ?_
        obtain rfl := Option.some.inj hm
        subst hQ0
        exact W.zret (v := 0) hx hb hr rfl (fun t ht hW => ⟨rfl, ht⟩) (fun q h => by cases h) dX5_isMatch_111
      · have hm := mr_un c1 hm
        refine lv_aload_n hx hb dX5_isMatch_15 rfl (lv_at hl 0 rfl) ?_
        refine va_get (D := (dC, dI)) (ci := 7) (v := .ref obW) (C := RX5) (T := TX5) (N := 3) hx hb hts (inX5 _) hown hK hP 0 rfl rfl 0 (by decide) (hts _ (List.mem_cons_of_mem _ wf5_11)) (fun _ h9 => h9) rfl dX5_isMatch_16 ?_
        refine lv_iload_n hx hb dX5_isMatch_19 rfl (lv_at hl 1 rfl) ?_
        obtain ⟨r2, hz2, hm⟩ := mr_bind hm
        refine mr_pV (As := [.int x3]) (rest := []) (sr_okZ adK adV) ⟨hx, hb, hml, hown, hts⟩ (kX6_kind l htr dC dI adK adV cI cB cJ cZ cQ obW wq_plain wq_kinds wq_meant wq_firsts wq_nexts wq_names wq_fieldNames wq_amounts wq_fieldDefaults wq_enumDefaults w_letterCount w_slotCount w_kinds w_meant x3 r2 hz2) (cwV 1 hts (g5_24 _) rfl rfl rfl (by decide +kernel) ⟨(by show 1 + 1 ≤ 3; omega), (by show 8 + (2 + 11) + (21) ≤ 66; omega)⟩) hS hP hK hz0 [1, 3, 4] rfl (va_recv hK hP (ci := 8) (q0 := 1) rfl rfl) rfl rfl hl.1 (Nat.le_of_ble_eq_true rfl) dX5_isMatch_20 ⟨Nat.zero_le _, Nat.zero_le _⟩ ?_
        refine lv_istore (lv' := [(6, .int r2), (0, .ref obP), (3, .int x3), (4, .int x4), (5, .int x5)]) hx hb dX5_isMatch_23 hl (by decide) rfl (fun ls hl => ?_)
        refine lv_iload hx hb dX5_isMatch_25 (lv_at hl 0 rfl) ?_
        refine lv_bipush (v := 11) hx hb dX5_isMatch_27 (by decide) ?_
        refine lv_icmp_eq (tgt := 46) hx hb dX5_isMatch_29 (by decide) (fun c3 => ?_) (fun c3 => ?_)
        · have hm := mr_if c3 hm
          refine lv_iconst (v := 1) hx hb dX5_isMatch_46 (by decide) ?_
          obtain rfl := Option.some.inj hm
          subst hQ0
          exact W.zret (v := 1) hx hb hr rfl (fun t ht hW => ⟨rfl, ht⟩) (fun q h => by cases h) dX5_isMatch_47
        · have hm := mr_un c3 hm
          refine lv_aload_n hx hb dX5_isMatch_32 rfl (lv_at hl 1 rfl) ?_
          refine va_get (D := (dC, dI)) (ci := 7) (v := .ref obV) (C := RX5) (T := TX5) (N := 3) hx hb hts (inX5 _) hown hK hP 0 rfl rfl 1 (by decide) (hts _ (List.mem_cons_of_mem _ wf5_17)) (fun _ h9 => h9) rfl dX5_isMatch_33 ?_
          refine lv_iload hx hb dX5_isMatch_36 (lv_at hl 3 rfl) ?_
          obtain ⟨r4, hz4, hm⟩ := mr_bind hm
          refine mr_pV (As := [.int x4]) (rest := []) (sr_okZ adK adV) ⟨hx, hb, hml, hown, hts⟩ (kX6_kind l htr dC dI adK adV cI cB cJ cZ cQ obV vq_plain vq_kinds vq_meant vq_firsts vq_nexts vq_names vq_fieldNames vq_amounts vq_fieldDefaults vq_enumDefaults v_letterCount v_slotCount v_kinds v_meant x4 r4 hz4) (cwV 1 hts (g5_24 _) rfl rfl rfl (by decide +kernel) ⟨(by show 1 + 1 ≤ 3; omega), (by show 8 + (2 + 11) + (21) ≤ 66; omega)⟩) hS hP hK hz0 [8, 10, 11] rfl (va_recv hK hP (ci := 8) (q0 := 8) rfl rfl) rfl rfl hl.1 (Nat.le_of_ble_eq_true rfl) dX5_isMatch_38 ⟨Nat.zero_le _, Nat.zero_le _⟩ ?_
          refine lv_bipush (v := 11) hx hb dX5_isMatch_41 (by decide) ?_
          refine lv_icmp_ne (tgt := 48) hx hb dX5_isMatch_43 (by decide) (fun c5 => ?_) (fun c5 => ?_)
          · have hm := mr_un c5 hm
            refine lv_iload hx hb dX5_isMatch_48 (lv_at hl 0 rfl) ?_
            refine lv_aload_n hx hb dX5_isMatch_50 rfl (lv_at hl 1 rfl) ?_
            refine va_get (D := (dC, dI)) (ci := 7) (v := .ref obV) (C := RX5) (T := TX5) (N := 3) hx hb hts (inX5 _) hown hK hP 0 rfl rfl 1 (by decide) (hts _ (List.mem_cons_of_mem _ wf5_17)) (fun _ h9 => h9) rfl dX5_isMatch_51 ?_
            refine lv_iload hx hb dX5_isMatch_54 (lv_at hl 3 rfl) ?_
            obtain ⟨r6, hz6, hm⟩ := mr_bind hm
            refine mr_pV (As := [.int x4]) (rest := [.int r2]) (sr_okZ adK adV) ⟨hx, hb, hml, hown, hts⟩ (kX6_kind l htr dC dI adK adV cI cB cJ cZ cQ obV vq_plain vq_kinds vq_meant vq_firsts vq_nexts vq_names vq_fieldNames vq_amounts vq_fieldDefaults vq_enumDefaults v_letterCount v_slotCount v_kinds v_meant x4 r6 hz6) (cwV 1 hts (g5_24 _) rfl rfl rfl (by decide +kernel) ⟨(by show 1 + 1 ≤ 3; omega), (by show 8 + (2 + 11) + (21) ≤ 66; omega)⟩) hS hP hK hz0 [8, 10, 11] rfl (va_recv hK hP (ci := 8) (q0 := 8) rfl rfl) rfl rfl hl.1 (Nat.le_of_ble_eq_true rfl) dX5_isMatch_56 ⟨Nat.zero_le _, Nat.zero_le _⟩ ?_
            have j76 : ∀ (x3 : Int32) (x4 : Int32) (ls : Array Slot), lv_has ls 7 [(0, .ref obP), (3, .int x3), (4, .int x4)] → m_X5_isMatch_76 w_plain w_kinds w_meant w_firsts w_names w_amounts w_letterCount v_plain v_kinds v_meant v_firsts v_names v_amounts v_letterCount x3 x4 = some res → W p l e (headSpec wsX5_isMatch (rmX5_isMatch 0 0)).room s m [.ref obP, .int a0, .int a1].toArray below meth c s.heap [] 0 0 Q0 (F0 m 76 ls []) := by
              intro x3 x4 ls hl hm
              unfold m_X5_isMatch_76 at hm
              refine lv_aload_n hx hb dX5_isMatch_76 rfl (lv_at hl 0 rfl) ?_
              refine lv_iload_n hx hb dX5_isMatch_77 rfl (lv_at hl 1 rfl) ?_
              refine lv_iload hx hb dX5_isMatch_78 (lv_at hl 2 rfl) ?_
              obtain ⟨r7, hz7, hm⟩ := mr_bind hm
              refine mr_pV (As := [.int x3, .int x4]) (rest := []) (sr_okZ adK adV) ⟨hx, hb, hml, hown, hts⟩ (kX5_isSame l htr dC dI adK adV cI cB cJ cZ cQ obP obW obV obC wq_plain wq_kinds wq_meant wq_firsts wq_nexts wq_names wq_fieldNames wq_amounts wq_fieldDefaults wq_enumDefaults vq_plain vq_kinds vq_meant vq_firsts vq_nexts vq_names vq_fieldNames vq_amounts vq_fieldDefaults vq_enumDefaults w_letterCount w_slotCount v_letterCount v_slotCount w_plain w_kinds w_meant w_names w_amounts v_plain v_kinds v_meant v_names v_amounts x3 x4 r7 hz7) (cwV 2 hts (g5_30 _) rfl rfl rfl (by decide +kernel) ⟨(by show 2 + 1 ≤ 3; omega), (by show 8 + (5 + 11) + (42) ≤ 66; omega)⟩) hS hP hK hz0 [0, 1, 2, 3, 4, 6, 7, 8, 9, 10, 11, 13, 14] rfl (va_recv hK hP (ci := 7) (q0 := 0) rfl rfl) rfl rfl hl.1 (Nat.le_of_ble_eq_true rfl) dX5_isMatch_80 ⟨Nat.zero_le _, Nat.zero_le _⟩ ?_
              obtain ⟨h8, hm⟩ := mr_bz hm
              obtain rfl := Option.some.inj hm
              subst hQ0
              exact W.zret (v := r7) hx hb hr h8 (fun t ht hW => ⟨rfl, ht⟩) (fun q h => by cases h) dX5_isMatch_83
            refine lv_icmp_ne (tgt := 76) hx hb dX5_isMatch_59 (by decide) (fun c9 => ?_) (fun c9 => ?_)
            · have hm := mr_un c9 hm
              exact j76 x3 x4 ls (lv_sub hl [1, 2, 3] rfl) hm
            · have hm := mr_if c9 hm
              refine lv_iload hx hb dX5_isMatch_62 (lv_at hl 0 rfl) ?_
              refine lv_bipush (v := 6) hx hb dX5_isMatch_64 (by decide) ?_
              have j84 : ∀ (x3 : Int32) (x4 : Int32) (x5 : Int32) (ls : Array Slot), lv_has ls 7 [(0, .ref obP), (3, .int x3), (4, .int x4), (5, .int x5)] → m_X5_isMatch_84 w_plain w_kinds w_meant w_firsts w_names w_amounts w_letterCount v_plain v_kinds v_meant v_firsts v_names v_amounts v_letterCount (m_X5_isMatch_8 w_plain w_kinds w_meant w_firsts w_names w_amounts w_letterCount v_plain v_kinds v_meant v_firsts v_names v_amounts v_letterCount n8) x3 x4 x5 = some res → W p l e (headSpec wsX5_isMatch (rmX5_isMatch 0 0)).room s m [.ref obP, .int a0, .int a1].toArray below meth c s.heap [] 0 0 Q0 (F0 m 84 ls []) := by
                intro x3 x4 x5 ls hl hm
                unfold m_X5_isMatch_84 at hm
                refine lv_aload_n hx hb dX5_isMatch_84 rfl (lv_at hl 0 rfl) ?_
                refine va_get (D := (dC, dI)) (ci := 7) (v := .ref obW) (C := RX5) (T := TX5) (N := 3) hx hb hts (inX5 _) hown hK hP 0 rfl rfl 0 (by decide) (hts _ (List.mem_cons_of_mem _ wf5_11)) (fun _ h9 => h9) rfl dX5_isMatch_85 ?_
                refine lv_iload_n hx hb dX5_isMatch_88 rfl (lv_at hl 1 rfl) ?_
                obtain ⟨r10, hz10, hm⟩ := mr_bind hm
                refine mr_pV (As := [.int x3]) (rest := []) (sr_okZ adK adV) ⟨hx, hb, hml, hown, hts⟩ (kX6_first l htr dC dI adK adV cI cB cJ cZ cQ obW wq_plain wq_kinds wq_meant wq_firsts wq_nexts wq_names wq_fieldNames wq_amounts wq_fieldDefaults wq_enumDefaults w_letterCount w_slotCount w_meant w_firsts x3 r10 hz10) (cwV 1 hts (g5_34 _) rfl rfl rfl (by decide +kernel) ⟨(by show 1 + 1 ≤ 3; omega), (by show 8 + (2 + 11) + (21) ≤ 66; omega)⟩) hS hP hK hz0 [1, 4, 5] rfl (va_recv hK hP (ci := 8) (q0 := 1) rfl rfl) rfl rfl hl.1 (Nat.le_of_ble_eq_true rfl) dX5_isMatch_89 ⟨Nat.zero_le _, Nat.zero_le _⟩ ?_
                refine lv_istore_n (lv' := [(3, .int r10), (0, .ref obP), (4, .int x4), (5, .int x5)]) hx hb dX5_isMatch_92 rfl hl (by decide) rfl (fun ls hl => ?_)
                refine lv_aload_n hx hb dX5_isMatch_93 rfl (lv_at hl 1 rfl) ?_
                refine va_get (D := (dC, dI)) (ci := 7) (v := .ref obV) (C := RX5) (T := TX5) (N := 3) hx hb hts (inX5 _) hown hK hP 0 rfl rfl 1 (by decide) (hts _ (List.mem_cons_of_mem _ wf5_17)) (fun _ h9 => h9) rfl dX5_isMatch_94 ?_
                refine lv_iload hx hb dX5_isMatch_97 (lv_at hl 2 rfl) ?_
                obtain ⟨r11, hz11, hm⟩ := mr_bind hm
                refine mr_pV (As := [.int x4]) (rest := []) (sr_okZ adK adV) ⟨hx, hb, hml, hown, hts⟩ (kX6_first l htr dC dI adK adV cI cB cJ cZ cQ obV vq_plain vq_kinds vq_meant vq_firsts vq_nexts vq_names vq_fieldNames vq_amounts vq_fieldDefaults vq_enumDefaults v_letterCount v_slotCount v_meant v_firsts x4 r11 hz11) (cwV 1 hts (g5_34 _) rfl rfl rfl (by decide +kernel) ⟨(by show 1 + 1 ≤ 3; omega), (by show 8 + (2 + 11) + (21) ≤ 66; omega)⟩) hS hP hK hz0 [8, 11, 12] rfl (va_recv hK hP (ci := 8) (q0 := 8) rfl rfl) rfl rfl hl.1 (Nat.le_of_ble_eq_true rfl) dX5_isMatch_99 ⟨Nat.zero_le _, Nat.zero_le _⟩ ?_
                refine lv_istore (lv' := [(4, .int r11), (3, .int r10), (0, .ref obP), (5, .int x5)]) hx hb dX5_isMatch_102 hl (by decide) rfl (fun ls hl => ?_)
                refine lv_iinc (v := x5 + 1) (lv' := [(5, .int (x5 + 1)), (4, .int r11), (3, .int r10), (0, .ref obP)]) hx hb dX5_isMatch_104 hl (k := 3) rfl rfl (by decide) rfl (fun ls hl => ?_)
                refine lv_goto (tgt := 8) hx hb dX5_isMatch_107 (by decide) ?_
                exact ih8 r10 r11 (x5 + 1) ls (lv_sub hl [3, 2, 1, 0] rfl) hm
              refine lv_icmp_eq (tgt := 84) hx hb dX5_isMatch_66 (by decide) (fun c12 => ?_) (fun c12 => ?_)
              · have hm := mr_if c12 hm
                exact j84 x3 x4 x5 ls (lv_sub hl [1, 2, 3, 4] rfl) hm
              · have hm := mr_un c12 hm
                refine lv_iload hx hb dX5_isMatch_69 (lv_at hl 0 rfl) ?_
                refine lv_bipush (v := 7) hx hb dX5_isMatch_71 (by decide) ?_
                refine lv_icmp_eq (tgt := 84) hx hb dX5_isMatch_73 (by decide) (fun c13 => ?_) (fun c13 => ?_)
                · have hm := mr_if c13 hm
                  exact j84 x3 x4 x5 ls (lv_sub hl [1, 2, 3, 4] rfl) hm
                · have hm := mr_un c13 hm
                  exact j76 x3 x4 ls (lv_sub hl [1, 2, 3] rfl) hm
          · have hm := mr_if c5 hm
            refine lv_iconst (v := 1) hx hb dX5_isMatch_46 (by decide) ?_
            obtain rfl := Option.some.inj hm
            subst hQ0
            exact W.zret (v := 1) hx hb hr rfl (fun t ht hW => ⟨rfl, ht⟩) (fun q h => by cases h) dX5_isMatch_47
  refine lv_istore (lv' := [(5, .int 0), (4, .int a1), (3, .int a0), (0, .ref obP), (1, .int a0), (2, .int a1)]) hx hb dX5_isMatch_6 hl (by decide) rfl (fun ls hl => ?_)
  exact j8 sr_fuel a0 a1 0 ls (lv_sub hl [3, 2, 1, 0] rfl) hm
set_option maxHeartbeats 4000000 in
set_option maxRecDepth 100000 in
theorem kX5_firstMatch (l : Launch) (htr : l.stackTraces = false) (dC : Nat → ClassId) (dI : Nat → Nat → Nat) (adK adV : Nat → Nat) (cI cB cJ cZ cQ : ClassId) (obP obW obV obC wq_plain wq_kinds wq_meant wq_firsts wq_nexts wq_names wq_fieldNames wq_amounts wq_fieldDefaults wq_enumDefaults vq_plain vq_kinds vq_meant vq_firsts vq_nexts vq_names vq_fieldNames vq_amounts vq_fieldDefaults vq_enumDefaults : Nat) (w_letterCount : Int32) (w_slotCount : Int32) (v_letterCount : Int32) (v_slotCount : Int32) (w_plain : Nat → Int32) (w_kinds : Nat → Int32) (w_meant : Nat → Int32) (w_firsts : Nat → Int32) (w_names : Nat → Int32) (w_amounts : Nat → Int32) (v_plain : Nat → Int32) (v_kinds : Nat → Int32) (v_meant : Nat → Int32) (v_firsts : Nat → Int32) (v_nexts : Nat → Int32) (v_names : Nat → Int32) (v_amounts : Nat → Int32) (a0 : Int32) (a1 : Int32) (res : Int32) (hm : m_X5_firstMatch w_plain w_kinds w_meant w_firsts w_names w_amounts w_letterCount v_plain v_kinds v_meant v_firsts v_nexts v_names v_amounts v_letterCount a0 a1 = some res) : Met l yX5_firstMatch wsX5_firstMatch (rmX5_firstMatch 0 0) (pcR (sr_Z adK adV) (dC, dI) srCl [(cI, .int), (cB, .byte), (cJ, .long), (cZ, .boolean), (cQ, .object "SchemaReader$Schema")] [.ref obP, .int a0, .int a1] [(obP, .inr (7, [.ref obW, .ref obV, .ref obC])), (obW, .inr (8, [.ref wq_plain, .ref wq_kinds, .ref wq_meant, .ref wq_firsts, .ref wq_nexts, .ref wq_names, .ref wq_fieldNames, .ref wq_amounts, .ref wq_fieldDefaults, .ref wq_enumDefaults, .int w_letterCount, .int w_slotCount])), (wq_plain, .inl (cB, 4096, .inl w_plain)), (wq_kinds, .inl (cI, 128, .inl w_kinds)), (wq_meant, .inl (cI, 128, .inl w_meant)), (wq_firsts, .inl (cI, 128, .inl w_firsts)), (wq_names, .inl (cI, 128, .inl w_names)), (wq_amounts, .inl (cI, 128, .inl w_amounts)), (obV, .inr (8, [.ref vq_plain, .ref vq_kinds, .ref vq_meant, .ref vq_firsts, .ref vq_nexts, .ref vq_names, .ref vq_fieldNames, .ref vq_amounts, .ref vq_fieldDefaults, .ref vq_enumDefaults, .int v_letterCount, .int v_slotCount])), (vq_plain, .inl (cB, 4096, .inl v_plain)), (vq_kinds, .inl (cI, 128, .inl v_kinds)), (vq_meant, .inl (cI, 128, .inl v_meant)), (vq_firsts, .inl (cI, 128, .inl v_firsts)), (vq_nexts, .inl (cI, 128, .inl v_nexts)), (vq_names, .inl (cI, 128, .inl v_names)), (vq_amounts, .inl (cI, 128, .inl v_amounts))]) (k2_QcV (.int res)) 0 0 (fun _ => False) := by
  refine Met.ofW (cc := cX5_firstMatch) (maxL := 5) (ret := (some .int)) (by decide) rfl ?_
  intro p e s m args below meth c s₁ B hml hv
  obtain ⟨rfl, hP, hK, hz0⟩ := hv
  have hx := B.exec
  have hb := B.bytes
  have hr := B.returns
  have hts := atoms_spec (ws := wsX5_firstMatch) B.pre
  have hown : s.vm.findClass RX5 = some m.cls := findClass_of_methodNamed B.named
  have hlocks := B.notSynchronized
  have hS : va_S (fun _ => False) s.heap s.heap [] := va_S.rf
  generalize hQ0 : MQ below (k2_QcV (.int res)) [.ref obP, .int a0, .int a1].toArray s 0 0 (fun _ => False) = Q0
  have hl := lv_entry [.ref obP, .int a0, .int a1] (n := 5) (Nat.le_of_ble_eq_true rfl)
  rw [lg_entry_eq]
  generalize (lg_sl [.ref obP, .int a0, .int a1] ++ List.replicate (5 - (lg_sl [.ref obP, .int a0, .int a1]).length) Slot.unset).toArray = ls at hl ⊢
  have hl : lv_has ls 5 [(0, .ref obP), (1, .int a0), (2, .int a1)] := hl
  unfold m_X5_firstMatch at hm
  refine lv_aload_n hx hb dX5_firstMatch_0 rfl (lv_at hl 0 rfl) ?_
  refine va_get (D := (dC, dI)) (ci := 7) (v := .ref obV) (C := RX5) (T := TX5) (N := 3) hx hb hts (inX5 _) hown hK hP 0 rfl rfl 1 (by decide) (hts _ (List.mem_cons_of_mem _ wf5_17)) (fun _ h9 => h9) rfl dX5_firstMatch_1 ?_
  refine lv_iload_n hx hb dX5_firstMatch_4 rfl (lv_at hl 2 rfl) ?_
  obtain ⟨r1, hz1, hm⟩ := mr_bind hm
  refine mr_pV (As := [.int a1]) (rest := []) (sr_okZ adK adV) ⟨hx, hb, hml, hown, hts⟩ (kX6_first l htr dC dI adK adV cI cB cJ cZ cQ obV vq_plain vq_kinds vq_meant vq_firsts vq_nexts vq_names vq_fieldNames vq_amounts vq_fieldDefaults vq_enumDefaults v_letterCount v_slotCount v_meant v_firsts a1 r1 hz1) (cwV 1 hts (g5_34 _) rfl rfl rfl (by decide +kernel) ⟨(by show 1 + 1 ≤ 4; omega), (by show 8 + (2 + 11) + (21) ≤ 92; omega)⟩) hS hP hK hz0 [8, 11, 12] rfl (va_recv hK hP (ci := 8) (q0 := 8) rfl rfl) rfl rfl hl.1 (Nat.le_of_ble_eq_true rfl) dX5_firstMatch_5 ⟨Nat.zero_le _, Nat.zero_le _⟩ ?_
  refine lv_istore_n (lv' := [(3, .int r1), (0, .ref obP), (1, .int a0), (2, .int a1)]) hx hb dX5_firstMatch_8 rfl hl (by decide) rfl (fun ls hl => ?_)
  refine lv_iconst (v := 0) hx hb dX5_firstMatch_9 (by decide) ?_
  have j12 : ∀ (n12 : Nat) (x1 : Int32) (x2 : Int32) (x3 : Int32) (x4 : Int32) (ls : Array Slot), lv_has ls 5 [(0, .ref obP), (1, .int x1), (2, .int x2), (3, .int x3), (4, .int x4)] → m_X5_firstMatch_12 w_plain w_kinds w_meant w_firsts w_names w_amounts w_letterCount v_plain v_kinds v_meant v_firsts v_nexts v_names v_amounts v_letterCount n12 x1 x2 x3 x4 = some res → W p l e (headSpec wsX5_firstMatch (rmX5_firstMatch 0 0)).room s m [.ref obP, .int a0, .int a1].toArray below meth c s.heap [] 0 0 Q0 (F0 m 12 ls []) := by
    intro n12
    induction n12 with
    | zero => intro x1 x2 x3 x4 ls hl hm; exact nomatch (show (none : Option _) = some res from hm)
    | succ n12 ih12 =>
      intro x1 x2 x3 x4 ls hl hm
      rw [m_X5_firstMatch_12] at hm
      refine lv_iload hx hb dX5_firstMatch_12 (lv_at hl 4 rfl) ?_
      refine lv_aload_n hx hb dX5_firstMatch_14 rfl (lv_at hl 0 rfl) ?_
      refine va_get (D := (dC, dI)) (ci := 7) (v := .ref obV) (C := RX5) (T := TX5) (N := 3) hx hb hts (inX5 _) hown hK hP 0 rfl rfl 1 (by decide) (hts _ (List.mem_cons_of_mem _ wf5_17)) (fun _ h9 => h9) rfl dX5_firstMatch_15 ?_
      refine lv_iload_n hx hb dX5_firstMatch_18 rfl (lv_at hl 2 rfl) ?_
      obtain ⟨r2, hz2, hm⟩ := mr_bind hm
      refine mr_pV (As := [.int x2]) (rest := [.int x4]) (sr_okZ adK adV) ⟨hx, hb, hml, hown, hts⟩ (kX6_amount l htr dC dI adK adV cI cB cJ cZ cQ obV vq_plain vq_kinds vq_meant vq_firsts vq_nexts vq_names vq_fieldNames vq_amounts vq_fieldDefaults vq_enumDefaults v_letterCount v_slotCount v_meant v_amounts x2 r2 hz2) (cwV 1 hts (g5_41 _) rfl rfl rfl (by decide +kernel) ⟨(by show 1 + 1 ≤ 4; omega), (by show 8 + (2 + 11) + (21) ≤ 92; omega)⟩) hS hP hK hz0 [8, 11, 15] rfl (va_recv hK hP (ci := 8) (q0 := 8) rfl rfl) rfl rfl hl.1 (Nat.le_of_ble_eq_true rfl) dX5_firstMatch_19 ⟨Nat.zero_le _, Nat.zero_le _⟩ ?_
      refine lv_icmp_ge (tgt := 51) hx hb dX5_firstMatch_22 (by decide) (fun c3 => ?_) (fun c3 => ?_)
      · have hm := mr_if c3 hm
        refine lv_iconst (v := -1) hx hb dX5_firstMatch_51 (by decide) ?_
        obtain rfl := Option.some.inj hm
        subst hQ0
        exact W.iret (v := (-1)) hx hb hr (fun t ht hW => ⟨rfl, ht⟩) (fun q h => by cases h) dX5_firstMatch_52
      · have hm := mr_un c3 hm
        refine lv_aload_n hx hb dX5_firstMatch_25 rfl (lv_at hl 0 rfl) ?_
        refine lv_iload_n hx hb dX5_firstMatch_26 rfl (lv_at hl 1 rfl) ?_
        refine lv_iload_n hx hb dX5_firstMatch_27 rfl (lv_at hl 3 rfl) ?_
        obtain ⟨r4, hz4, hm⟩ := mr_bind hm
        refine mr_pV (As := [.int x1, .int x3]) (rest := []) (sr_okZ adK adV) ⟨hx, hb, hml, hown, hts⟩ (kX5_isMatch l htr dC dI adK adV cI cB cJ cZ cQ obP obW obV obC wq_plain wq_kinds wq_meant wq_firsts wq_nexts wq_names wq_fieldNames wq_amounts wq_fieldDefaults wq_enumDefaults vq_plain vq_kinds vq_meant vq_firsts vq_nexts vq_names vq_fieldNames vq_amounts vq_fieldDefaults vq_enumDefaults w_letterCount w_slotCount v_letterCount v_slotCount w_plain w_kinds w_meant w_firsts w_names w_amounts v_plain v_kinds v_meant v_firsts v_names v_amounts x1 x3 r4 hz4) (cwV 2 hts (g5_94 _) rfl rfl rfl (by decide +kernel) ⟨(by show 3 + 1 ≤ 4; omega), (by show 8 + (7 + 11) + (66) ≤ 92; omega)⟩) hS hP hK hz0 [0, 1, 2, 3, 4, 5, 6, 7, 8, 9, 10, 11, 12, 14, 15] rfl (va_recv hK hP (ci := 7) (q0 := 0) rfl rfl) rfl rfl hl.1 (Nat.le_of_ble_eq_true rfl) dX5_firstMatch_28 ⟨Nat.zero_le _, Nat.zero_le _⟩ ?_
        refine lv_if_eq (tgt := 36) hx hb dX5_firstMatch_31 (by decide) (fun c5 => ?_) (fun c5 => ?_)
        · have hm := mr_if c5 hm
          refine lv_aload_n hx hb dX5_firstMatch_36 rfl (lv_at hl 0 rfl) ?_
          refine va_get (D := (dC, dI)) (ci := 7) (v := .ref obV) (C := RX5) (T := TX5) (N := 3) hx hb hts (inX5 _) hown hK hP 0 rfl rfl 1 (by decide) (hts _ (List.mem_cons_of_mem _ wf5_17)) (fun _ h9 => h9) rfl dX5_firstMatch_37 ?_
          refine lv_iload_n hx hb dX5_firstMatch_40 rfl (lv_at hl 3 rfl) ?_
          obtain ⟨r6, hz6, hm⟩ := mr_bind hm
          refine mr_pV (As := [.int x3]) (rest := []) (sr_okZ adK adV) ⟨hx, hb, hml, hown, hts⟩ (kX6_next l htr dC dI adK adV cI cB cJ cZ cQ obV vq_plain vq_kinds vq_meant vq_firsts vq_nexts vq_names vq_fieldNames vq_amounts vq_fieldDefaults vq_enumDefaults v_letterCount v_slotCount v_nexts x3 r6 hz6) (cwV 1 hts (g5_91 _) rfl rfl rfl (by decide +kernel) ⟨(by show 1 + 1 ≤ 4; omega), (by show 8 + (2 + 11) + (21) ≤ 92; omega)⟩) hS hP hK hz0 [8, 13] rfl (va_recv hK hP (ci := 8) (q0 := 8) rfl rfl) rfl rfl hl.1 (Nat.le_of_ble_eq_true rfl) dX5_firstMatch_41 ⟨Nat.zero_le _, Nat.zero_le _⟩ ?_
          refine lv_istore_n (lv' := [(3, .int r6), (0, .ref obP), (1, .int x1), (2, .int x2), (4, .int x4)]) hx hb dX5_firstMatch_44 rfl hl (by decide) rfl (fun ls hl => ?_)
          refine lv_iinc (v := x4 + 1) (lv' := [(4, .int (x4 + 1)), (3, .int r6), (0, .ref obP), (1, .int x1), (2, .int x2)]) hx hb dX5_firstMatch_45 hl (k := 4) rfl rfl (by decide) rfl (fun ls hl => ?_)
          refine lv_goto (tgt := 12) hx hb dX5_firstMatch_48 (by decide) ?_
          exact ih12 x1 x2 r6 (x4 + 1) ls (lv_sub hl [2, 3, 4, 1, 0] rfl) hm
        · have hm := mr_un c5 hm
          refine lv_iload_n hx hb dX5_firstMatch_34 rfl (lv_at hl 3 rfl) ?_
          obtain rfl := Option.some.inj hm
          subst hQ0
          exact W.iret (v := x3) hx hb hr (fun t ht hW => ⟨rfl, ht⟩) (fun q h => by cases h) dX5_firstMatch_35
  refine lv_istore (lv' := [(4, .int 0), (3, .int r1), (0, .ref obP), (1, .int a0), (2, .int a1)]) hx hb dX5_firstMatch_10 hl (by decide) rfl (fun ls hl => ?_)
  exact j12 sr_fuel a0 a1 r1 0 ls (lv_sub hl [2, 3, 4, 1, 0] rfl) hm
set_option maxHeartbeats 4000000 in
set_option maxRecDepth 100000 in
theorem kX5_hasSymbol (l : Launch) (htr : l.stackTraces = false) (dC : Nat → ClassId) (dI : Nat → Nat → Nat) (adK adV : Nat → Nat) (cI cB cJ cZ cQ : ClassId) (obP obW obV obC wq_plain wq_kinds wq_meant wq_firsts wq_nexts wq_names wq_fieldNames wq_amounts wq_fieldDefaults wq_enumDefaults vq_plain vq_kinds vq_meant vq_firsts vq_nexts vq_names vq_fieldNames vq_amounts vq_fieldDefaults vq_enumDefaults : Nat) (w_letterCount : Int32) (w_slotCount : Int32) (v_letterCount : Int32) (v_slotCount : Int32) (w_plain : Nat → Int32) (v_plain : Nat → Int32) (v_meant : Nat → Int32) (v_firsts : Nat → Int32) (v_amounts : Nat → Int32) (a0 : Int32) (a1 : Int32) (res : Int32) (hm : m_X5_hasSymbol w_plain w_letterCount v_plain v_meant v_firsts v_amounts v_letterCount a0 a1 = some res) : Met l yX5_hasSymbol wsX5_hasSymbol (rmX5_hasSymbol 0 0) (pcR (sr_Z adK adV) (dC, dI) srCl [(cI, .int), (cB, .byte), (cJ, .long), (cZ, .boolean), (cQ, .object "SchemaReader$Schema")] [.ref obP, .int a0, .int a1] [(obP, .inr (7, [.ref obW, .ref obV, .ref obC])), (obW, .inr (8, [.ref wq_plain, .ref wq_kinds, .ref wq_meant, .ref wq_firsts, .ref wq_nexts, .ref wq_names, .ref wq_fieldNames, .ref wq_amounts, .ref wq_fieldDefaults, .ref wq_enumDefaults, .int w_letterCount, .int w_slotCount])), (wq_plain, .inl (cB, 4096, .inl w_plain)), (obV, .inr (8, [.ref vq_plain, .ref vq_kinds, .ref vq_meant, .ref vq_firsts, .ref vq_nexts, .ref vq_names, .ref vq_fieldNames, .ref vq_amounts, .ref vq_fieldDefaults, .ref vq_enumDefaults, .int v_letterCount, .int v_slotCount])), (vq_plain, .inl (cB, 4096, .inl v_plain)), (vq_meant, .inl (cI, 128, .inl v_meant)), (vq_firsts, .inl (cI, 128, .inl v_firsts)), (vq_amounts, .inl (cI, 128, .inl v_amounts))]) (k2_QcV (.int res)) 0 0 (fun _ => False) := by
  refine Met.ofW (cc := cX5_hasSymbol) (maxL := 5) (ret := (some .boolean)) (by decide) rfl ?_
  intro p e s m args below meth c s₁ B hml hv
  obtain ⟨rfl, hP, hK, hz0⟩ := hv
  have hx := B.exec
  have hb := B.bytes
  have hr := B.returns
  have hts := atoms_spec (ws := wsX5_hasSymbol) B.pre
  have hown : s.vm.findClass RX5 = some m.cls := findClass_of_methodNamed B.named
  have hlocks := B.notSynchronized
  have hS : va_S (fun _ => False) s.heap s.heap [] := va_S.rf
  generalize hQ0 : MQ below (k2_QcV (.int res)) [.ref obP, .int a0, .int a1].toArray s 0 0 (fun _ => False) = Q0
  have hl := lv_entry [.ref obP, .int a0, .int a1] (n := 5) (Nat.le_of_ble_eq_true rfl)
  rw [lg_entry_eq]
  generalize (lg_sl [.ref obP, .int a0, .int a1] ++ List.replicate (5 - (lg_sl [.ref obP, .int a0, .int a1]).length) Slot.unset).toArray = ls at hl ⊢
  have hl : lv_has ls 5 [(0, .ref obP), (1, .int a0), (2, .int a1)] := hl
  unfold m_X5_hasSymbol at hm
  refine lv_aload_n hx hb dX5_hasSymbol_0 rfl (lv_at hl 0 rfl) ?_
  refine va_get (D := (dC, dI)) (ci := 7) (v := .ref obV) (C := RX5) (T := TX5) (N := 3) hx hb hts (inX5 _) hown hK hP 0 rfl rfl 1 (by decide) (hts _ (List.mem_cons_of_mem _ wf5_17)) (fun _ h9 => h9) rfl dX5_hasSymbol_1 ?_
  refine lv_iload_n hx hb dX5_hasSymbol_4 rfl (lv_at hl 1 rfl) ?_
  obtain ⟨r1, hz1, hm⟩ := mr_bind hm
  refine mr_pV (As := [.int a0]) (rest := []) (sr_okZ adK adV) ⟨hx, hb, hml, hown, hts⟩ (kX6_first l htr dC dI adK adV cI cB cJ cZ cQ obV vq_plain vq_kinds vq_meant vq_firsts vq_nexts vq_names vq_fieldNames vq_amounts vq_fieldDefaults vq_enumDefaults v_letterCount v_slotCount v_meant v_firsts a0 r1 hz1) (cwV 1 hts (g5_34 _) rfl rfl rfl (by decide +kernel) ⟨(by show 1 + 1 ≤ 2; omega), (by show 8 + (2 + 11) + (21) ≤ 43; omega)⟩) hS hP hK hz0 [3, 5, 6] rfl (va_recv hK hP (ci := 8) (q0 := 3) rfl rfl) rfl rfl hl.1 (Nat.le_of_ble_eq_true rfl) dX5_hasSymbol_5 ⟨Nat.zero_le _, Nat.zero_le _⟩ ?_
  refine lv_istore_n (lv' := [(3, .int r1), (0, .ref obP), (1, .int a0), (2, .int a1)]) hx hb dX5_hasSymbol_8 rfl hl (by decide) rfl (fun ls hl => ?_)
  refine lv_iconst (v := 0) hx hb dX5_hasSymbol_9 (by decide) ?_
  have j12 : ∀ (n12 : Nat) (x1 : Int32) (x2 : Int32) (x3 : Int32) (x4 : Int32) (ls : Array Slot), lv_has ls 5 [(0, .ref obP), (1, .int x1), (2, .int x2), (3, .int x3), (4, .int x4)] → m_X5_hasSymbol_12 w_plain w_letterCount v_plain v_meant v_firsts v_amounts v_letterCount n12 x1 x2 x3 x4 = some res → W p l e (headSpec wsX5_hasSymbol (rmX5_hasSymbol 0 0)).room s m [.ref obP, .int a0, .int a1].toArray below meth c s.heap [] 0 0 Q0 (F0 m 12 ls []) := by
    intro n12
    induction n12 with
    | zero => intro x1 x2 x3 x4 ls hl hm; exact nomatch (show (none : Option _) = some res from hm)
    | succ n12 ih12 =>
      intro x1 x2 x3 x4 ls hl hm
      rw [m_X5_hasSymbol_12] at hm
      refine lv_iload hx hb dX5_hasSymbol_12 (lv_at hl 4 rfl) ?_
      refine lv_aload_n hx hb dX5_hasSymbol_14 rfl (lv_at hl 0 rfl) ?_
      refine va_get (D := (dC, dI)) (ci := 7) (v := .ref obV) (C := RX5) (T := TX5) (N := 3) hx hb hts (inX5 _) hown hK hP 0 rfl rfl 1 (by decide) (hts _ (List.mem_cons_of_mem _ wf5_17)) (fun _ h9 => h9) rfl dX5_hasSymbol_15 ?_
      refine lv_iload_n hx hb dX5_hasSymbol_18 rfl (lv_at hl 1 rfl) ?_
      obtain ⟨r2, hz2, hm⟩ := mr_bind hm
      refine mr_pV (As := [.int x1]) (rest := [.int x4]) (sr_okZ adK adV) ⟨hx, hb, hml, hown, hts⟩ (kX6_amount l htr dC dI adK adV cI cB cJ cZ cQ obV vq_plain vq_kinds vq_meant vq_firsts vq_nexts vq_names vq_fieldNames vq_amounts vq_fieldDefaults vq_enumDefaults v_letterCount v_slotCount v_meant v_amounts x1 r2 hz2) (cwV 1 hts (g5_41 _) rfl rfl rfl (by decide +kernel) ⟨(by show 1 + 1 ≤ 2; omega), (by show 8 + (2 + 11) + (21) ≤ 43; omega)⟩) hS hP hK hz0 [3, 5, 7] rfl (va_recv hK hP (ci := 8) (q0 := 3) rfl rfl) rfl rfl hl.1 (Nat.le_of_ble_eq_true rfl) dX5_hasSymbol_19 ⟨Nat.zero_le _, Nat.zero_le _⟩ ?_
      refine lv_icmp_ge (tgt := 58) hx hb dX5_hasSymbol_22 (by decide) (fun c3 => ?_) (fun c3 => ?_)
      · have hm := mr_if c3 hm
        refine lv_iconst (v := 0) hx hb dX5_hasSymbol_58 (by decide) ?_
        obtain rfl := Option.some.inj hm
        subst hQ0
        exact W.zret (v := 0) hx hb hr rfl (fun t ht hW => ⟨rfl, ht⟩) (fun q h => by cases h) dX5_hasSymbol_59
      · have hm := mr_un c3 hm
        refine lv_aload_n hx hb dX5_hasSymbol_25 rfl (lv_at hl 0 rfl) ?_
        refine va_get (D := (dC, dI)) (ci := 7) (v := .ref obW) (C := RX5) (T := TX5) (N := 3) hx hb hts (inX5 _) hown hK hP 0 rfl rfl 0 (by decide) (hts _ (List.mem_cons_of_mem _ wf5_11)) (fun _ h9 => h9) rfl dX5_hasSymbol_26 ?_
        refine lv_iload_n hx hb dX5_hasSymbol_29 rfl (lv_at hl 2 rfl) ?_
        refine lv_aload_n hx hb dX5_hasSymbol_30 rfl (lv_at hl 0 rfl) ?_
        refine va_get (D := (dC, dI)) (ci := 7) (v := .ref obV) (C := RX5) (T := TX5) (N := 3) hx hb hts (inX5 _) hown hK hP 0 rfl rfl 1 (by decide) (hts _ (List.mem_cons_of_mem _ wf5_17)) (fun _ h9 => h9) rfl dX5_hasSymbol_31 ?_
        refine lv_iload_n hx hb dX5_hasSymbol_34 rfl (lv_at hl 3 rfl) ?_
        obtain ⟨r4, hz4, hm⟩ := mr_bind hm
        refine mr_pS (As := [.ref obW, .int x2, .ref obV, .int x3]) (rest := []) (sr_okZ adK adV) ⟨hx, hb, hml, hown, hts⟩ (kX6_isSameName l htr dC dI adK adV cI cB cJ cZ cQ obW wq_plain wq_kinds wq_meant wq_firsts wq_nexts wq_names wq_fieldNames wq_amounts wq_fieldDefaults wq_enumDefaults obV vq_plain vq_kinds vq_meant vq_firsts vq_nexts vq_names vq_fieldNames vq_amounts vq_fieldDefaults vq_enumDefaults w_letterCount w_slotCount v_letterCount v_slotCount w_plain v_plain x2 x3 r4 hz4) (va_cwS 4 hts (g5_47 _) rfl rfl rfl (by decide +kernel) ⟨(by show 0 + 1 ≤ 2; omega), (by show 8 + (7 + 11) + (0) ≤ 43; omega)⟩) hS hP hK hz0 [1, 2, 3, 4] rfl rfl rfl hl.1 (Nat.le_of_ble_eq_true rfl) dX5_hasSymbol_35 ⟨Nat.zero_le _, Nat.zero_le _⟩ ?_
        refine lv_if_eq (tgt := 43) hx hb dX5_hasSymbol_38 (by decide) (fun c5 => ?_) (fun c5 => ?_)
        · have hm := mr_if c5 hm
          refine lv_aload_n hx hb dX5_hasSymbol_43 rfl (lv_at hl 0 rfl) ?_
          refine va_get (D := (dC, dI)) (ci := 7) (v := .ref obV) (C := RX5) (T := TX5) (N := 3) hx hb hts (inX5 _) hown hK hP 0 rfl rfl 1 (by decide) (hts _ (List.mem_cons_of_mem _ wf5_17)) (fun _ h9 => h9) rfl dX5_hasSymbol_44 ?_
          refine lv_iload_n hx hb dX5_hasSymbol_47 rfl (lv_at hl 3 rfl) ?_
          obtain ⟨r6, hz6, hm⟩ := mr_bind hm
          refine mr_pV (As := [.int x3]) (rest := []) (sr_okZ adK adV) ⟨hx, hb, hml, hown, hts⟩ (kX6_nextSymbol l htr dC dI adK adV cI cB cJ cZ cQ obV vq_plain vq_kinds vq_meant vq_firsts vq_nexts vq_names vq_fieldNames vq_amounts vq_fieldDefaults vq_enumDefaults v_letterCount v_slotCount v_plain x3 r6 hz6) (cwV 1 hts (g5_100 _) rfl rfl rfl (by decide +kernel) ⟨(by show 1 + 1 ≤ 2; omega), (by show 8 + (3 + 11) + (21) ≤ 43; omega)⟩) hS hP hK hz0 [3, 4] rfl (va_recv hK hP (ci := 8) (q0 := 3) rfl rfl) rfl rfl hl.1 (Nat.le_of_ble_eq_true rfl) dX5_hasSymbol_48 ⟨Nat.zero_le _, Nat.zero_le _⟩ ?_
          refine lv_istore_n (lv' := [(3, .int r6), (0, .ref obP), (1, .int x1), (2, .int x2), (4, .int x4)]) hx hb dX5_hasSymbol_51 rfl hl (by decide) rfl (fun ls hl => ?_)
          refine lv_iinc (v := x4 + 1) (lv' := [(4, .int (x4 + 1)), (3, .int r6), (0, .ref obP), (1, .int x1), (2, .int x2)]) hx hb dX5_hasSymbol_52 hl (k := 4) rfl rfl (by decide) rfl (fun ls hl => ?_)
          refine lv_goto (tgt := 12) hx hb dX5_hasSymbol_55 (by decide) ?_
          exact ih12 x1 x2 r6 (x4 + 1) ls (lv_sub hl [2, 3, 4, 1, 0] rfl) hm
        · have hm := mr_un c5 hm
          refine lv_iconst (v := 1) hx hb dX5_hasSymbol_41 (by decide) ?_
          obtain rfl := Option.some.inj hm
          subst hQ0
          exact W.zret (v := 1) hx hb hr rfl (fun t ht hW => ⟨rfl, ht⟩) (fun q h => by cases h) dX5_hasSymbol_42
  refine lv_istore (lv' := [(4, .int 0), (3, .int r1), (0, .ref obP), (1, .int a0), (2, .int a1)]) hx hb dX5_hasSymbol_10 hl (by decide) rfl (fun ls hl => ?_)
  exact j12 sr_fuel a0 a1 r1 0 ls (lv_sub hl [2, 3, 4, 1, 0] rfl) hm
set_option maxHeartbeats 4000000 in
set_option maxRecDepth 100000 in
theorem kX5_hasAllSymbols (l : Launch) (htr : l.stackTraces = false) (dC : Nat → ClassId) (dI : Nat → Nat → Nat) (adK adV : Nat → Nat) (cI cB cJ cZ cQ : ClassId) (obP obW obV obC wq_plain wq_kinds wq_meant wq_firsts wq_nexts wq_names wq_fieldNames wq_amounts wq_fieldDefaults wq_enumDefaults vq_plain vq_kinds vq_meant vq_firsts vq_nexts vq_names vq_fieldNames vq_amounts vq_fieldDefaults vq_enumDefaults : Nat) (w_letterCount : Int32) (w_slotCount : Int32) (v_letterCount : Int32) (v_slotCount : Int32) (w_plain : Nat → Int32) (w_meant : Nat → Int32) (w_firsts : Nat → Int32) (w_amounts : Nat → Int32) (v_plain : Nat → Int32) (v_meant : Nat → Int32) (v_firsts : Nat → Int32) (v_amounts : Nat → Int32) (a0 : Int32) (a1 : Int32) (res : Int32) (hm : m_X5_hasAllSymbols w_plain w_meant w_firsts w_amounts w_letterCount v_plain v_meant v_firsts v_amounts v_letterCount a0 a1 = some res) : Met l yX5_hasAllSymbols wsX5_hasAllSymbols (rmX5_hasAllSymbols 0 0) (pcR (sr_Z adK adV) (dC, dI) srCl [(cI, .int), (cB, .byte), (cJ, .long), (cZ, .boolean), (cQ, .object "SchemaReader$Schema")] [.ref obP, .int a0, .int a1] [(obP, .inr (7, [.ref obW, .ref obV, .ref obC])), (obW, .inr (8, [.ref wq_plain, .ref wq_kinds, .ref wq_meant, .ref wq_firsts, .ref wq_nexts, .ref wq_names, .ref wq_fieldNames, .ref wq_amounts, .ref wq_fieldDefaults, .ref wq_enumDefaults, .int w_letterCount, .int w_slotCount])), (wq_plain, .inl (cB, 4096, .inl w_plain)), (wq_meant, .inl (cI, 128, .inl w_meant)), (wq_firsts, .inl (cI, 128, .inl w_firsts)), (wq_amounts, .inl (cI, 128, .inl w_amounts)), (obV, .inr (8, [.ref vq_plain, .ref vq_kinds, .ref vq_meant, .ref vq_firsts, .ref vq_nexts, .ref vq_names, .ref vq_fieldNames, .ref vq_amounts, .ref vq_fieldDefaults, .ref vq_enumDefaults, .int v_letterCount, .int v_slotCount])), (vq_plain, .inl (cB, 4096, .inl v_plain)), (vq_meant, .inl (cI, 128, .inl v_meant)), (vq_firsts, .inl (cI, 128, .inl v_firsts)), (vq_amounts, .inl (cI, 128, .inl v_amounts))]) (k2_QcV (.int res)) 0 0 (fun _ => False) := by
  refine Met.ofW (cc := cX5_hasAllSymbols) (maxL := 5) (ret := (some .boolean)) (by decide) rfl ?_
  intro p e s m args below meth c s₁ B hml hv
  obtain ⟨rfl, hP, hK, hz0⟩ := hv
  have hx := B.exec
  have hb := B.bytes
  have hr := B.returns
  have hts := atoms_spec (ws := wsX5_hasAllSymbols) B.pre
  have hown : s.vm.findClass RX5 = some m.cls := findClass_of_methodNamed B.named
  have hlocks := B.notSynchronized
  have hS : va_S (fun _ => False) s.heap s.heap [] := va_S.rf
  generalize hQ0 : MQ below (k2_QcV (.int res)) [.ref obP, .int a0, .int a1].toArray s 0 0 (fun _ => False) = Q0
  have hl := lv_entry [.ref obP, .int a0, .int a1] (n := 5) (Nat.le_of_ble_eq_true rfl)
  rw [lg_entry_eq]
  generalize (lg_sl [.ref obP, .int a0, .int a1] ++ List.replicate (5 - (lg_sl [.ref obP, .int a0, .int a1]).length) Slot.unset).toArray = ls at hl ⊢
  have hl : lv_has ls 5 [(0, .ref obP), (1, .int a0), (2, .int a1)] := hl
  unfold m_X5_hasAllSymbols at hm
  refine lv_aload_n hx hb dX5_hasAllSymbols_0 rfl (lv_at hl 0 rfl) ?_
  refine va_get (D := (dC, dI)) (ci := 7) (v := .ref obW) (C := RX5) (T := TX5) (N := 3) hx hb hts (inX5 _) hown hK hP 0 rfl rfl 0 (by decide) (hts _ (List.mem_cons_of_mem _ wf5_11)) (fun _ h9 => h9) rfl dX5_hasAllSymbols_1 ?_
  refine lv_iload_n hx hb dX5_hasAllSymbols_4 rfl (lv_at hl 1 rfl) ?_
  obtain ⟨r1, hz1, hm⟩ := mr_bind hm
  refine mr_pV (As := [.int a0]) (rest := []) (sr_okZ adK adV) ⟨hx, hb, hml, hown, hts⟩ (kX6_first l htr dC dI adK adV cI cB cJ cZ cQ obW wq_plain wq_kinds wq_meant wq_firsts wq_nexts wq_names wq_fieldNames wq_amounts wq_fieldDefaults wq_enumDefaults w_letterCount w_slotCount w_meant w_firsts a0 r1 hz1) (cwV 1 hts (g5_34 _) rfl rfl rfl (by decide +kernel) ⟨(by show 1 + 1 ≤ 3; omega), (by show 8 + (2 + 11) + (21) ≤ 67; omega)⟩) hS hP hK hz0 [1, 3, 4] rfl (va_recv hK hP (ci := 8) (q0 := 1) rfl rfl) rfl rfl hl.1 (Nat.le_of_ble_eq_true rfl) dX5_hasAllSymbols_5 ⟨Nat.zero_le _, Nat.zero_le _⟩ ?_
  refine lv_istore_n (lv' := [(3, .int r1), (0, .ref obP), (1, .int a0), (2, .int a1)]) hx hb dX5_hasAllSymbols_8 rfl hl (by decide) rfl (fun ls hl => ?_)
  refine lv_iconst (v := 0) hx hb dX5_hasAllSymbols_9 (by decide) ?_
  have j12 : ∀ (n12 : Nat) (x1 : Int32) (x2 : Int32) (x3 : Int32) (x4 : Int32) (ls : Array Slot), lv_has ls 5 [(0, .ref obP), (1, .int x1), (2, .int x2), (3, .int x3), (4, .int x4)] → m_X5_hasAllSymbols_12 w_plain w_meant w_firsts w_amounts w_letterCount v_plain v_meant v_firsts v_amounts v_letterCount n12 x1 x2 x3 x4 = some res → W p l e (headSpec wsX5_hasAllSymbols (rmX5_hasAllSymbols 0 0)).room s m [.ref obP, .int a0, .int a1].toArray below meth c s.heap [] 0 0 Q0 (F0 m 12 ls []) := by
    intro n12
    induction n12 with
    | zero => intro x1 x2 x3 x4 ls hl hm; exact nomatch (show (none : Option _) = some res from hm)
    | succ n12 ih12 =>
      intro x1 x2 x3 x4 ls hl hm
      rw [m_X5_hasAllSymbols_12] at hm
      refine lv_iload hx hb dX5_hasAllSymbols_12 (lv_at hl 4 rfl) ?_
      refine lv_aload_n hx hb dX5_hasAllSymbols_14 rfl (lv_at hl 0 rfl) ?_
      refine va_get (D := (dC, dI)) (ci := 7) (v := .ref obW) (C := RX5) (T := TX5) (N := 3) hx hb hts (inX5 _) hown hK hP 0 rfl rfl 0 (by decide) (hts _ (List.mem_cons_of_mem _ wf5_11)) (fun _ h9 => h9) rfl dX5_hasAllSymbols_15 ?_
      refine lv_iload_n hx hb dX5_hasAllSymbols_18 rfl (lv_at hl 1 rfl) ?_
      obtain ⟨r2, hz2, hm⟩ := mr_bind hm
      refine mr_pV (As := [.int x1]) (rest := [.int x4]) (sr_okZ adK adV) ⟨hx, hb, hml, hown, hts⟩ (kX6_amount l htr dC dI adK adV cI cB cJ cZ cQ obW wq_plain wq_kinds wq_meant wq_firsts wq_nexts wq_names wq_fieldNames wq_amounts wq_fieldDefaults wq_enumDefaults w_letterCount w_slotCount w_meant w_amounts x1 r2 hz2) (cwV 1 hts (g5_41 _) rfl rfl rfl (by decide +kernel) ⟨(by show 1 + 1 ≤ 3; omega), (by show 8 + (2 + 11) + (21) ≤ 67; omega)⟩) hS hP hK hz0 [1, 3, 5] rfl (va_recv hK hP (ci := 8) (q0 := 1) rfl rfl) rfl rfl hl.1 (Nat.le_of_ble_eq_true rfl) dX5_hasAllSymbols_19 ⟨Nat.zero_le _, Nat.zero_le _⟩ ?_
      refine lv_icmp_ge (tgt := 51) hx hb dX5_hasAllSymbols_22 (by decide) (fun c3 => ?_) (fun c3 => ?_)
      · have hm := mr_if c3 hm
        refine lv_iconst (v := 1) hx hb dX5_hasAllSymbols_51 (by decide) ?_
        obtain rfl := Option.some.inj hm
        subst hQ0
        exact W.zret (v := 1) hx hb hr rfl (fun t ht hW => ⟨rfl, ht⟩) (fun q h => by cases h) dX5_hasAllSymbols_52
      · have hm := mr_un c3 hm
        refine lv_aload_n hx hb dX5_hasAllSymbols_25 rfl (lv_at hl 0 rfl) ?_
        refine lv_iload_n hx hb dX5_hasAllSymbols_26 rfl (lv_at hl 2 rfl) ?_
        refine lv_iload_n hx hb dX5_hasAllSymbols_27 rfl (lv_at hl 3 rfl) ?_
        obtain ⟨r4, hz4, hm⟩ := mr_bind hm
        refine mr_pV (As := [.int x2, .int x3]) (rest := []) (sr_okZ adK adV) ⟨hx, hb, hml, hown, hts⟩ (kX5_hasSymbol l htr dC dI adK adV cI cB cJ cZ cQ obP obW obV obC wq_plain wq_kinds wq_meant wq_firsts wq_nexts wq_names wq_fieldNames wq_amounts wq_fieldDefaults wq_enumDefaults vq_plain vq_kinds vq_meant vq_firsts vq_nexts vq_names vq_fieldNames vq_amounts vq_fieldDefaults vq_enumDefaults w_letterCount w_slotCount v_letterCount v_slotCount w_plain v_plain v_meant v_firsts v_amounts x2 x3 r4 hz4) (cwV 2 hts (g5_97 _) rfl rfl rfl (by decide +kernel) ⟨(by show 2 + 1 ≤ 3; omega), (by show 8 + (5 + 11) + (43) ≤ 67; omega)⟩) hS hP hK hz0 [0, 1, 2, 6, 7, 8, 9, 10] rfl (va_recv hK hP (ci := 7) (q0 := 0) rfl rfl) rfl rfl hl.1 (Nat.le_of_ble_eq_true rfl) dX5_hasAllSymbols_28 ⟨Nat.zero_le _, Nat.zero_le _⟩ ?_
        refine lv_if_ne (tgt := 36) hx hb dX5_hasAllSymbols_31 (by decide) (fun c5 => ?_) (fun c5 => ?_)
        · have hm := mr_un c5 hm
          refine lv_aload_n hx hb dX5_hasAllSymbols_36 rfl (lv_at hl 0 rfl) ?_
          refine va_get (D := (dC, dI)) (ci := 7) (v := .ref obW) (C := RX5) (T := TX5) (N := 3) hx hb hts (inX5 _) hown hK hP 0 rfl rfl 0 (by decide) (hts _ (List.mem_cons_of_mem _ wf5_11)) (fun _ h9 => h9) rfl dX5_hasAllSymbols_37 ?_
          refine lv_iload_n hx hb dX5_hasAllSymbols_40 rfl (lv_at hl 3 rfl) ?_
          obtain ⟨r6, hz6, hm⟩ := mr_bind hm
          refine mr_pV (As := [.int x3]) (rest := []) (sr_okZ adK adV) ⟨hx, hb, hml, hown, hts⟩ (kX6_nextSymbol l htr dC dI adK adV cI cB cJ cZ cQ obW wq_plain wq_kinds wq_meant wq_firsts wq_nexts wq_names wq_fieldNames wq_amounts wq_fieldDefaults wq_enumDefaults w_letterCount w_slotCount w_plain x3 r6 hz6) (cwV 1 hts (g5_100 _) rfl rfl rfl (by decide +kernel) ⟨(by show 1 + 1 ≤ 3; omega), (by show 8 + (3 + 11) + (21) ≤ 67; omega)⟩) hS hP hK hz0 [1, 2] rfl (va_recv hK hP (ci := 8) (q0 := 1) rfl rfl) rfl rfl hl.1 (Nat.le_of_ble_eq_true rfl) dX5_hasAllSymbols_41 ⟨Nat.zero_le _, Nat.zero_le _⟩ ?_
          refine lv_istore_n (lv' := [(3, .int r6), (0, .ref obP), (1, .int x1), (2, .int x2), (4, .int x4)]) hx hb dX5_hasAllSymbols_44 rfl hl (by decide) rfl (fun ls hl => ?_)
          refine lv_iinc (v := x4 + 1) (lv' := [(4, .int (x4 + 1)), (3, .int r6), (0, .ref obP), (1, .int x1), (2, .int x2)]) hx hb dX5_hasAllSymbols_45 hl (k := 4) rfl rfl (by decide) rfl (fun ls hl => ?_)
          refine lv_goto (tgt := 12) hx hb dX5_hasAllSymbols_48 (by decide) ?_
          exact ih12 x1 x2 r6 (x4 + 1) ls (lv_sub hl [2, 3, 4, 1, 0] rfl) hm
        · have hm := mr_if c5 hm
          refine lv_iconst (v := 0) hx hb dX5_hasAllSymbols_34 (by decide) ?_
          obtain rfl := Option.some.inj hm
          subst hQ0
          exact W.zret (v := 0) hx hb hr rfl (fun t ht hW => ⟨rfl, ht⟩) (fun q h => by cases h) dX5_hasAllSymbols_35
  refine lv_istore (lv' := [(4, .int 0), (3, .int r1), (0, .ref obP), (1, .int a0), (2, .int a1)]) hx hb dX5_hasAllSymbols_10 hl (by decide) rfl (fun ls hl => ?_)
  exact j12 sr_fuel a0 a1 r1 0 ls (lv_sub hl [2, 3, 4, 1, 0] rfl) hm
set_option maxHeartbeats 4000000 in
set_option maxRecDepth 100000 in
theorem kX5_ask (l : Launch) (htr : l.stackTraces = false) (dC : Nat → ClassId) (dI : Nat → Nat → Nat) (adK adV : Nat → Nat) (cI cB cJ cZ cQ : ClassId) (obP obW obV obC cq_firsts cq_seconds : Nat) (c_count : Int32) (c_firsts : Nat → Int32) (c_seconds : Nat → Int32) (sz : Nat) (a0 : Int32) (a1 : Int32) (res : (Nat → Int32) × (Nat → Int32) × Int32) (hm : m_X5_ask c_firsts c_seconds c_count a0 a1 = some res) : Met l yX5_ask wsX5_ask (rmX5_ask 0 0) (pcW (sr_Z adK adV) (dC, dI) srCl [(cI, .int), (cB, .byte), (cJ, .long), (cZ, .boolean), (cQ, .object "SchemaReader$Schema")] [.ref obP, .int a0, .int a1] [(obP, .inr (7, [.ref obW, .ref obV, .ref obC])), (obC, .inr (3, [.ref cq_firsts, .ref cq_seconds, .int c_count])), (cq_firsts, .inl (cI, 128, .inl c_firsts)), (cq_seconds, .inl (cI, 128, .inl c_seconds))] sz) (va_Qv (fun u' => u' = res) (pcB (dC, dI) srCl [(cI, .int), (cB, .byte), (cJ, .long), (cZ, .boolean), (cQ, .object "SchemaReader$Schema")] (fun u : (Nat → Int32) × (Nat → Int32) × Int32 => [(obP, .inr (7, [.ref obW, .ref obV, .ref obC])), (obC, .inr (3, [.ref cq_firsts, .ref cq_seconds, .int u.2.2])), (cq_firsts, .inl (cI, 128, .inl u.1)), (cq_seconds, .inl (cI, 128, .inl u.2.1))]) (va_A [(obP, .inr (7, [.ref obW, .ref obV, .ref obC])), (obC, .inr (3, [.ref cq_firsts, .ref cq_seconds, .int c_count])), (cq_firsts, .inl (cI, 128, .inl c_firsts)), (cq_seconds, .inl (cI, 128, .inl c_seconds))] sz)) (va_A [(obP, .inr (7, [.ref obW, .ref obV, .ref obC])), (obC, .inr (3, [.ref cq_firsts, .ref cq_seconds, .int c_count])), (cq_firsts, .inl (cI, 128, .inl c_firsts)), (cq_seconds, .inl (cI, 128, .inl c_seconds))] sz)) 0 0 (va_A [(obP, .inr (7, [.ref obW, .ref obV, .ref obC])), (obC, .inr (3, [.ref cq_firsts, .ref cq_seconds, .int c_count])), (cq_firsts, .inl (cI, 128, .inl c_firsts)), (cq_seconds, .inl (cI, 128, .inl c_seconds))] sz) := by
  refine Met.ofW (cc := cX5_ask) (maxL := 3) (ret := none) (by decide) rfl ?_
  intro p e s m args below meth c s₁ B hml hv
  obtain ⟨rfl, hsz, hP, hK, hD0, hz0⟩ := hv
  have hx := B.exec
  have hb := B.bytes
  have hr := B.returns
  have hts := atoms_spec (ws := wsX5_ask) B.pre
  have hown : s.vm.findClass RX5 = some m.cls := findClass_of_methodNamed B.named
  have hlocks := B.notSynchronized
  subst hsz
  have hD := hD0.self (sz := s.heap.size)
  generalize hAe : va_A [(obP, .inr (7, [.ref obW, .ref obV, .ref obC])), (obC, .inr (3, [.ref cq_firsts, .ref cq_seconds, .int c_count])), (cq_firsts, .inl (cI, 128, .inl c_firsts)), (cq_seconds, .inl (cI, 128, .inl c_seconds))] s.heap.size = A at hD hz0 ⊢
  have hA : ∀ q : Nat, s.heap.size ≤ q → A q := fun q h => by rw [← hAe]; exact Or.inr h
  have hS : va_S A s.heap s.heap [] := va_S.rf
  generalize hQ0 : MQ below (va_Qv (fun u' => u' = res) (pcB (dC, dI) srCl [(cI, .int), (cB, .byte), (cJ, .long), (cZ, .boolean), (cQ, .object "SchemaReader$Schema")] (fun u : (Nat → Int32) × (Nat → Int32) × Int32 => [(obP, .inr (7, [.ref obW, .ref obV, .ref obC])), (obC, .inr (3, [.ref cq_firsts, .ref cq_seconds, .int u.2.2])), (cq_firsts, .inl (cI, 128, .inl u.1)), (cq_seconds, .inl (cI, 128, .inl u.2.1))]) A) A) [.ref obP, .int a0, .int a1].toArray s 0 0 A = Q0
  have hl := lv_entry [.ref obP, .int a0, .int a1] (n := 3) (Nat.le_of_ble_eq_true rfl)
  rw [lg_entry_eq]
  generalize (lg_sl [.ref obP, .int a0, .int a1] ++ List.replicate (3 - (lg_sl [.ref obP, .int a0, .int a1]).length) Slot.unset).toArray = ls at hl ⊢
  have hl : lv_has ls 3 [(0, .ref obP), (1, .int a0), (2, .int a1)] := hl
  unfold m_X5_ask at hm
  refine lv_aload_n hx hb dX5_ask_0 rfl (lv_at hl 0 rfl) ?_
  refine va_get (D := (dC, dI)) (ci := 7) (v := .ref obC) (C := RX5) (T := TX5) (N := 3) hx hb hts (inX5 _) hown hK hP 0 rfl rfl 2 (by decide) (hts _ (List.mem_cons_of_mem _ wf5_20)) (fun _ h9 => h9) rfl dX5_ask_1 ?_
  refine lv_iload_n hx hb dX5_ask_4 rfl (lv_at hl 1 rfl) ?_
  refine lv_iload_n hx hb dX5_ask_5 rfl (lv_at hl 2 rfl) ?_
  obtain ⟨r1, hz1, hm⟩ := mr_bind hm
  refine mr_pV (As := [.int a0, .int a1]) (rest := []) (sr_okZ adK adV) ⟨hx, hb, hml, hown, hts⟩ (kX11_has l htr dC dI adK adV cI cB cJ cZ cQ obC cq_firsts cq_seconds c_count c_firsts c_seconds a0 a1 r1 hz1) (cwV 2 hts (g5_103 _) rfl rfl rfl (by decide +kernel) ⟨(by show 1 + 1 ≤ 2; omega), (by show 8 + (4 + 11) + (21) ≤ 44; omega)⟩) hS hP hK hz0 [1, 2, 3] rfl (va_recv hK hP (ci := 3) (q0 := 1) rfl rfl) rfl rfl hl.1 (Nat.le_of_ble_eq_true rfl) dX5_ask_6 ⟨Nat.zero_le _, Nat.zero_le _⟩ ?_
  refine lv_if_ne (tgt := 21) hx hb dX5_ask_9 (by decide) (fun c2 => ?_) (fun c2 => ?_)
  · have hm := mr_un c2 hm
    obtain rfl := Option.some.inj hm
    subst hQ0
    exact W.vret hx hb hr (fun t ht hW => ⟨⟨(c_firsts, c_seconds, c_count), rfl, rfl, by rw [ht]; exact hP, va_K.moved hW.alike hK, hD⟩, hS.F ht⟩) hS.2.2 dX5_ask_21
  · have hm := mr_if c2 hm
    refine lv_aload_n hx hb dX5_ask_12 rfl (lv_at hl 0 rfl) ?_
    refine va_get (D := (dC, dI)) (ci := 7) (v := .ref obC) (C := RX5) (T := TX5) (N := 3) hx hb hts (inX5 _) hown hK hP 0 rfl rfl 2 (by decide) (hts _ (List.mem_cons_of_mem _ wf5_20)) (fun _ h9 => h9) rfl dX5_ask_13 ?_
    refine lv_iload_n hx hb dX5_ask_16 rfl (lv_at hl 1 rfl) ?_
    refine lv_iload_n hx hb dX5_ask_17 rfl (lv_at hl 2 rfl) ?_
    obtain ⟨⟨c_firsts_3, c_seconds_3, c_count_3⟩, hz3, hm⟩ := mr_bind hm
    try dsimp only at hm
    refine mr_wVv (As := [.int a0, .int a1]) (rest := []) (sr_okZ adK adV) ⟨hx, hb, hml, hown, hts⟩ (kX11_add l htr dC dI adK adV cI cB cJ cZ cQ obC cq_firsts cq_seconds c_count c_firsts c_seconds _ a0 a1 _ hz3) (cwV 2 hts (g5_106 _) rfl rfl rfl (by decide +kernel) ⟨(by show 1 + 1 ≤ 2; omega), (by show 8 + (3 + 11) + (22) ≤ 44; omega)⟩) hS hA hP hD hK hz0 (wr := [(obP, .inr (7, [.ref obW, .ref obV, .ref obC]))]) (w1 := [(obP, .inr (7, [.ref obW, .ref obV, .ref obC])), (obC, .inr (3, [.ref cq_firsts, .ref cq_seconds, .int c_count_3])), (cq_firsts, .inl (cI, 128, .inl c_firsts_3)), (cq_seconds, .inl (cI, 128, .inl c_seconds_3))]) [1, 2, 3] [0] [0, 1, 2, 3] rfl rfl rfl rfl rfl (by decide) rfl rfl rfl (va_recv hK hP (ci := 3) (q0 := 1) rfl rfl) rfl rfl hl.1 (Nat.le_of_ble_eq_true rfl) dX5_ask_18 ⟨Nat.zero_le _, Nat.zero_le _⟩ (fun H locs hP hD hS => ?_)
    obtain rfl := Option.some.inj hm
    subst hQ0
    exact W.vret hx hb hr (fun t ht hW => ⟨⟨(c_firsts_3, c_seconds_3, c_count_3), rfl, rfl, by rw [ht]; exact hP, va_K.moved hW.alike hK, hD⟩, hS.F ht⟩) hS.2.2 dX5_ask_21
set_option maxHeartbeats 4000000 in
set_option maxRecDepth 100000 in
theorem kX5_writerField (l : Launch) (htr : l.stackTraces = false) (dC : Nat → ClassId) (dI : Nat → Nat → Nat) (adK adV : Nat → Nat) (cI cB cJ cZ cQ : ClassId) (obP obW obV obC wq_plain wq_kinds wq_meant wq_firsts wq_nexts wq_names wq_fieldNames wq_amounts wq_fieldDefaults wq_enumDefaults vq_plain vq_kinds vq_meant vq_firsts vq_nexts vq_names vq_fieldNames vq_amounts vq_fieldDefaults vq_enumDefaults : Nat) (w_letterCount : Int32) (w_slotCount : Int32) (v_letterCount : Int32) (v_slotCount : Int32) (w_plain : Nat → Int32) (w_meant : Nat → Int32) (w_firsts : Nat → Int32) (w_nexts : Nat → Int32) (w_fieldNames : Nat → Int32) (w_amounts : Nat → Int32) (v_plain : Nat → Int32) (a0 : Int32) (a1 : Int32) (res : Int32) (hm : m_X5_writerField w_plain w_meant w_firsts w_nexts w_fieldNames w_amounts w_letterCount v_plain v_letterCount a0 a1 = some res) : Met l yX5_writerField wsX5_writerField (rmX5_writerField 0 0) (pcR (sr_Z adK adV) (dC, dI) srCl [(cI, .int), (cB, .byte), (cJ, .long), (cZ, .boolean), (cQ, .object "SchemaReader$Schema")] [.ref obP, .int a0, .int a1] [(obP, .inr (7, [.ref obW, .ref obV, .ref obC])), (obW, .inr (8, [.ref wq_plain, .ref wq_kinds, .ref wq_meant, .ref wq_firsts, .ref wq_nexts, .ref wq_names, .ref wq_fieldNames, .ref wq_amounts, .ref wq_fieldDefaults, .ref wq_enumDefaults, .int w_letterCount, .int w_slotCount])), (wq_plain, .inl (cB, 4096, .inl w_plain)), (wq_meant, .inl (cI, 128, .inl w_meant)), (wq_firsts, .inl (cI, 128, .inl w_firsts)), (wq_nexts, .inl (cI, 128, .inl w_nexts)), (wq_fieldNames, .inl (cI, 128, .inl w_fieldNames)), (wq_amounts, .inl (cI, 128, .inl w_amounts)), (obV, .inr (8, [.ref vq_plain, .ref vq_kinds, .ref vq_meant, .ref vq_firsts, .ref vq_nexts, .ref vq_names, .ref vq_fieldNames, .ref vq_amounts, .ref vq_fieldDefaults, .ref vq_enumDefaults, .int v_letterCount, .int v_slotCount])), (vq_plain, .inl (cB, 4096, .inl v_plain))]) (k2_QcV (.int res)) 0 0 (fun _ => False) := by
  refine Met.ofW (cc := cX5_writerField) (maxL := 5) (ret := (some .int)) (by decide) rfl ?_
  intro p e s m args below meth c s₁ B hml hv
  obtain ⟨rfl, hP, hK, hz0⟩ := hv
  have hx := B.exec
  have hb := B.bytes
  have hr := B.returns
  have hts := atoms_spec (ws := wsX5_writerField) B.pre
  have hown : s.vm.findClass RX5 = some m.cls := findClass_of_methodNamed B.named
  have hlocks := B.notSynchronized
  have hS : va_S (fun _ => False) s.heap s.heap [] := va_S.rf
  generalize hQ0 : MQ below (k2_QcV (.int res)) [.ref obP, .int a0, .int a1].toArray s 0 0 (fun _ => False) = Q0
  have hl := lv_entry [.ref obP, .int a0, .int a1] (n := 5) (Nat.le_of_ble_eq_true rfl)
  rw [lg_entry_eq]
  generalize (lg_sl [.ref obP, .int a0, .int a1] ++ List.replicate (5 - (lg_sl [.ref obP, .int a0, .int a1]).length) Slot.unset).toArray = ls at hl ⊢
  have hl : lv_has ls 5 [(0, .ref obP), (1, .int a0), (2, .int a1)] := hl
  unfold m_X5_writerField at hm
  refine lv_aload_n hx hb dX5_writerField_0 rfl (lv_at hl 0 rfl) ?_
  refine va_get (D := (dC, dI)) (ci := 7) (v := .ref obW) (C := RX5) (T := TX5) (N := 3) hx hb hts (inX5 _) hown hK hP 0 rfl rfl 0 (by decide) (hts _ (List.mem_cons_of_mem _ wf5_11)) (fun _ h9 => h9) rfl dX5_writerField_1 ?_
  refine lv_iload_n hx hb dX5_writerField_4 rfl (lv_at hl 1 rfl) ?_
  obtain ⟨r1, hz1, hm⟩ := mr_bind hm
  refine mr_pV (As := [.int a0]) (rest := []) (sr_okZ adK adV) ⟨hx, hb, hml, hown, hts⟩ (kX6_first l htr dC dI adK adV cI cB cJ cZ cQ obW wq_plain wq_kinds wq_meant wq_firsts wq_nexts wq_names wq_fieldNames wq_amounts wq_fieldDefaults wq_enumDefaults w_letterCount w_slotCount w_meant w_firsts a0 r1 hz1) (cwV 1 hts (g5_34 _) rfl rfl rfl (by decide +kernel) ⟨(by show 1 + 1 ≤ 2; omega), (by show 8 + (2 + 11) + (21) ≤ 42; omega)⟩) hS hP hK hz0 [1, 3, 4] rfl (va_recv hK hP (ci := 8) (q0 := 1) rfl rfl) rfl rfl hl.1 (Nat.le_of_ble_eq_true rfl) dX5_writerField_5 ⟨Nat.zero_le _, Nat.zero_le _⟩ ?_
  refine lv_istore_n (lv' := [(3, .int r1), (0, .ref obP), (1, .int a0), (2, .int a1)]) hx hb dX5_writerField_8 rfl hl (by decide) rfl (fun ls hl => ?_)
  refine lv_iconst (v := 0) hx hb dX5_writerField_9 (by decide) ?_
  have j12 : ∀ (n12 : Nat) (x1 : Int32) (x2 : Int32) (x3 : Int32) (x4 : Int32) (ls : Array Slot), lv_has ls 5 [(0, .ref obP), (1, .int x1), (2, .int x2), (3, .int x3), (4, .int x4)] → m_X5_writerField_12 w_plain w_meant w_firsts w_nexts w_fieldNames w_amounts w_letterCount v_plain v_letterCount n12 x1 x2 x3 x4 = some res → W p l e (headSpec wsX5_writerField (rmX5_writerField 0 0)).room s m [.ref obP, .int a0, .int a1].toArray below meth c s.heap [] 0 0 Q0 (F0 m 12 ls []) := by
    intro n12
    induction n12 with
    | zero => intro x1 x2 x3 x4 ls hl hm; exact nomatch (show (none : Option _) = some res from hm)
    | succ n12 ih12 =>
      intro x1 x2 x3 x4 ls hl hm
      rw [m_X5_writerField_12] at hm
      refine lv_iload hx hb dX5_writerField_12 (lv_at hl 4 rfl) ?_
      refine lv_aload_n hx hb dX5_writerField_14 rfl (lv_at hl 0 rfl) ?_
      refine va_get (D := (dC, dI)) (ci := 7) (v := .ref obW) (C := RX5) (T := TX5) (N := 3) hx hb hts (inX5 _) hown hK hP 0 rfl rfl 0 (by decide) (hts _ (List.mem_cons_of_mem _ wf5_11)) (fun _ h9 => h9) rfl dX5_writerField_15 ?_
      refine lv_iload_n hx hb dX5_writerField_18 rfl (lv_at hl 1 rfl) ?_
      obtain ⟨r2, hz2, hm⟩ := mr_bind hm
      refine mr_pV (As := [.int x1]) (rest := [.int x4]) (sr_okZ adK adV) ⟨hx, hb, hml, hown, hts⟩ (kX6_amount l htr dC dI adK adV cI cB cJ cZ cQ obW wq_plain wq_kinds wq_meant wq_firsts wq_nexts wq_names wq_fieldNames wq_amounts wq_fieldDefaults wq_enumDefaults w_letterCount w_slotCount w_meant w_amounts x1 r2 hz2) (cwV 1 hts (g5_41 _) rfl rfl rfl (by decide +kernel) ⟨(by show 1 + 1 ≤ 2; omega), (by show 8 + (2 + 11) + (21) ≤ 42; omega)⟩) hS hP hK hz0 [1, 3, 7] rfl (va_recv hK hP (ci := 8) (q0 := 1) rfl rfl) rfl rfl hl.1 (Nat.le_of_ble_eq_true rfl) dX5_writerField_19 ⟨Nat.zero_le _, Nat.zero_le _⟩ ?_
      refine lv_icmp_ge (tgt := 65) hx hb dX5_writerField_22 (by decide) (fun c3 => ?_) (fun c3 => ?_)
      · have hm := mr_if c3 hm
        refine lv_iconst (v := -1) hx hb dX5_writerField_65 (by decide) ?_
        obtain rfl := Option.some.inj hm
        subst hQ0
        exact W.iret (v := (-1)) hx hb hr (fun t ht hW => ⟨rfl, ht⟩) (fun q h => by cases h) dX5_writerField_66
      · have hm := mr_un c3 hm
        refine lv_aload_n hx hb dX5_writerField_25 rfl (lv_at hl 0 rfl) ?_
        refine va_get (D := (dC, dI)) (ci := 7) (v := .ref obW) (C := RX5) (T := TX5) (N := 3) hx hb hts (inX5 _) hown hK hP 0 rfl rfl 0 (by decide) (hts _ (List.mem_cons_of_mem _ wf5_11)) (fun _ h9 => h9) rfl dX5_writerField_26 ?_
        refine lv_aload_n hx hb dX5_writerField_29 rfl (lv_at hl 0 rfl) ?_
        refine va_get (D := (dC, dI)) (ci := 7) (v := .ref obW) (C := RX5) (T := TX5) (N := 3) hx hb hts (inX5 _) hown hK hP 0 rfl rfl 0 (by decide) (hts _ (List.mem_cons_of_mem _ wf5_11)) (fun _ h9 => h9) rfl dX5_writerField_30 ?_
        refine lv_iload_n hx hb dX5_writerField_33 rfl (lv_at hl 3 rfl) ?_
        obtain ⟨r4, hz4, hm⟩ := mr_bind hm
        refine mr_pV (As := [.int x3]) (rest := [.ref obW]) (sr_okZ adK adV) ⟨hx, hb, hml, hown, hts⟩ (kX6_fieldName l htr dC dI adK adV cI cB cJ cZ cQ obW wq_plain wq_kinds wq_meant wq_firsts wq_nexts wq_names wq_fieldNames wq_amounts wq_fieldDefaults wq_enumDefaults w_letterCount w_slotCount w_fieldNames x3 r4 hz4) (cwV 1 hts (g5_112 _) rfl rfl rfl (by decide +kernel) ⟨(by show 1 + 1 ≤ 2; omega), (by show 8 + (2 + 11) + (21) ≤ 42; omega)⟩) hS hP hK hz0 [1, 6] rfl (va_recv hK hP (ci := 8) (q0 := 1) rfl rfl) rfl rfl hl.1 (Nat.le_of_ble_eq_true rfl) dX5_writerField_34 ⟨Nat.zero_le _, Nat.zero_le _⟩ ?_
        refine lv_aload_n hx hb dX5_writerField_37 rfl (lv_at hl 0 rfl) ?_
        refine va_get (D := (dC, dI)) (ci := 7) (v := .ref obV) (C := RX5) (T := TX5) (N := 3) hx hb hts (inX5 _) hown hK hP 0 rfl rfl 1 (by decide) (hts _ (List.mem_cons_of_mem _ wf5_17)) (fun _ h9 => h9) rfl dX5_writerField_38 ?_
        refine lv_iload_n hx hb dX5_writerField_41 rfl (lv_at hl 2 rfl) ?_
        obtain ⟨r5, hz5, hm⟩ := mr_bind hm
        refine mr_pS (As := [.ref obW, .int r4, .ref obV, .int x2]) (rest := []) (sr_okZ adK adV) ⟨hx, hb, hml, hown, hts⟩ (kX6_isSameName l htr dC dI adK adV cI cB cJ cZ cQ obW wq_plain wq_kinds wq_meant wq_firsts wq_nexts wq_names wq_fieldNames wq_amounts wq_fieldDefaults wq_enumDefaults obV vq_plain vq_kinds vq_meant vq_firsts vq_nexts vq_names vq_fieldNames vq_amounts vq_fieldDefaults vq_enumDefaults w_letterCount w_slotCount v_letterCount v_slotCount w_plain v_plain r4 x2 r5 hz5) (va_cwS 4 hts (g5_47 _) rfl rfl rfl (by decide +kernel) ⟨(by show 0 + 1 ≤ 2; omega), (by show 8 + (7 + 11) + (0) ≤ 42; omega)⟩) hS hP hK hz0 [1, 2, 8, 9] rfl rfl rfl hl.1 (Nat.le_of_ble_eq_true rfl) dX5_writerField_42 ⟨Nat.zero_le _, Nat.zero_le _⟩ ?_
        refine lv_if_eq (tgt := 50) hx hb dX5_writerField_45 (by decide) (fun c6 => ?_) (fun c6 => ?_)
        · have hm := mr_if c6 hm
          refine lv_aload_n hx hb dX5_writerField_50 rfl (lv_at hl 0 rfl) ?_
          refine va_get (D := (dC, dI)) (ci := 7) (v := .ref obW) (C := RX5) (T := TX5) (N := 3) hx hb hts (inX5 _) hown hK hP 0 rfl rfl 0 (by decide) (hts _ (List.mem_cons_of_mem _ wf5_11)) (fun _ h9 => h9) rfl dX5_writerField_51 ?_
          refine lv_iload_n hx hb dX5_writerField_54 rfl (lv_at hl 3 rfl) ?_
          obtain ⟨r7, hz7, hm⟩ := mr_bind hm
          refine mr_pV (As := [.int x3]) (rest := []) (sr_okZ adK adV) ⟨hx, hb, hml, hown, hts⟩ (kX6_next l htr dC dI adK adV cI cB cJ cZ cQ obW wq_plain wq_kinds wq_meant wq_firsts wq_nexts wq_names wq_fieldNames wq_amounts wq_fieldDefaults wq_enumDefaults w_letterCount w_slotCount w_nexts x3 r7 hz7) (cwV 1 hts (g5_91 _) rfl rfl rfl (by decide +kernel) ⟨(by show 1 + 1 ≤ 2; omega), (by show 8 + (2 + 11) + (21) ≤ 42; omega)⟩) hS hP hK hz0 [1, 5] rfl (va_recv hK hP (ci := 8) (q0 := 1) rfl rfl) rfl rfl hl.1 (Nat.le_of_ble_eq_true rfl) dX5_writerField_55 ⟨Nat.zero_le _, Nat.zero_le _⟩ ?_
          refine lv_istore_n (lv' := [(3, .int r7), (0, .ref obP), (1, .int x1), (2, .int x2), (4, .int x4)]) hx hb dX5_writerField_58 rfl hl (by decide) rfl (fun ls hl => ?_)
          refine lv_iinc (v := x4 + 1) (lv' := [(4, .int (x4 + 1)), (3, .int r7), (0, .ref obP), (1, .int x1), (2, .int x2)]) hx hb dX5_writerField_59 hl (k := 4) rfl rfl (by decide) rfl (fun ls hl => ?_)
          refine lv_goto (tgt := 12) hx hb dX5_writerField_62 (by decide) ?_
          exact ih12 x1 x2 r7 (x4 + 1) ls (lv_sub hl [2, 3, 4, 1, 0] rfl) hm
        · have hm := mr_un c6 hm
          refine lv_iload_n hx hb dX5_writerField_48 rfl (lv_at hl 3 rfl) ?_
          obtain rfl := Option.some.inj hm
          subst hQ0
          exact W.iret (v := x3) hx hb hr (fun t ht hW => ⟨rfl, ht⟩) (fun q h => by cases h) dX5_writerField_49
  refine lv_istore (lv' := [(4, .int 0), (3, .int r1), (0, .ref obP), (1, .int a0), (2, .int a1)]) hx hb dX5_writerField_10 hl (by decide) rfl (fun ls hl => ?_)
  exact j12 sr_fuel a0 a1 r1 0 ls (lv_sub hl [2, 3, 4, 1, 0] rfl) hm
set_option maxHeartbeats 4000000 in
set_option maxRecDepth 100000 in
theorem kX5_isEveryBranchFit (l : Launch) (htr : l.stackTraces = false) (dC : Nat → ClassId) (dI : Nat → Nat → Nat) (adK adV : Nat → Nat) (cI cB cJ cZ cQ : ClassId) (obP obW obV obC wq_plain wq_kinds wq_meant wq_firsts wq_nexts wq_names wq_fieldNames wq_amounts wq_fieldDefaults wq_enumDefaults vq_plain vq_kinds vq_meant vq_firsts vq_nexts vq_names vq_fieldNames vq_amounts vq_fieldDefaults vq_enumDefaults cq_firsts cq_seconds : Nat) (f_isFit : (Nat → Int32) → (Nat → Int32) → (Nat → Int32) → (Nat → Int32) → (Nat → Int32) → (Nat → Int32) → (Nat → Int32) → Int32 → (Nat → Int32) → (Nat → Int32) → (Nat → Int32) → (Nat → Int32) → (Nat → Int32) → (Nat → Int32) → (Nat → Int32) → (Nat → Int32) → Int32 → (Nat → Int32) → (Nat → Int32) → Int32 → Int32 → Int32 → Int32 → Option (Int32 × (Nat → Int32) × (Nat → Int32) × Int32)) (d : Nat) (hrec : ∀ (w_letterCount : Int32) (w_slotCount : Int32) (v_letterCount : Int32) (v_slotCount : Int32) (c_count : Int32) (w_plain : Nat → Int32) (w_kinds : Nat → Int32) (w_meant : Nat → Int32) (w_firsts : Nat → Int32) (w_nexts : Nat → Int32) (w_names : Nat → Int32) (w_amounts : Nat → Int32) (v_plain : Nat → Int32) (v_kinds : Nat → Int32) (v_meant : Nat → Int32) (v_firsts : Nat → Int32) (v_nexts : Nat → Int32) (v_names : Nat → Int32) (v_amounts : Nat → Int32) (v_enumDefaults : Nat → Int32) (c_firsts : Nat → Int32) (c_seconds : Nat → Int32) (sz : Nat) (a0 : Int32) (a1 : Int32) (a2 : Int32) (res : Int32 × (Nat → Int32) × (Nat → Int32) × Int32), f_isFit w_plain w_kinds w_meant w_firsts w_nexts w_names w_amounts w_letterCount v_plain v_kinds v_meant v_firsts v_nexts v_names v_amounts v_enumDefaults v_letterCount c_firsts c_seconds c_count a0 a1 a2 = some res → Met l yX5_isFit wsX5_isFit (rmX5_isFit d 0 0) (pcW (sr_Z adK adV) (dC, dI) srCl [(cI, .int), (cB, .byte), (cJ, .long), (cZ, .boolean), (cQ, .object "SchemaReader$Schema")] [.ref obP, .int a0, .int a1, .int a2] [(obP, .inr (7, [.ref obW, .ref obV, .ref obC])), (obW, .inr (8, [.ref wq_plain, .ref wq_kinds, .ref wq_meant, .ref wq_firsts, .ref wq_nexts, .ref wq_names, .ref wq_fieldNames, .ref wq_amounts, .ref wq_fieldDefaults, .ref wq_enumDefaults, .int w_letterCount, .int w_slotCount])), (wq_plain, .inl (cB, 4096, .inl w_plain)), (wq_kinds, .inl (cI, 128, .inl w_kinds)), (wq_meant, .inl (cI, 128, .inl w_meant)), (wq_firsts, .inl (cI, 128, .inl w_firsts)), (wq_nexts, .inl (cI, 128, .inl w_nexts)), (wq_names, .inl (cI, 128, .inl w_names)), (wq_amounts, .inl (cI, 128, .inl w_amounts)), (obV, .inr (8, [.ref vq_plain, .ref vq_kinds, .ref vq_meant, .ref vq_firsts, .ref vq_nexts, .ref vq_names, .ref vq_fieldNames, .ref vq_amounts, .ref vq_fieldDefaults, .ref vq_enumDefaults, .int v_letterCount, .int v_slotCount])), (vq_plain, .inl (cB, 4096, .inl v_plain)), (vq_kinds, .inl (cI, 128, .inl v_kinds)), (vq_meant, .inl (cI, 128, .inl v_meant)), (vq_firsts, .inl (cI, 128, .inl v_firsts)), (vq_nexts, .inl (cI, 128, .inl v_nexts)), (vq_names, .inl (cI, 128, .inl v_names)), (vq_amounts, .inl (cI, 128, .inl v_amounts)), (vq_enumDefaults, .inl (cZ, 128, .inl v_enumDefaults)), (obC, .inr (3, [.ref cq_firsts, .ref cq_seconds, .int c_count])), (cq_firsts, .inl (cI, 128, .inl c_firsts)), (cq_seconds, .inl (cI, 128, .inl c_seconds))] sz) (va_Qi (fun r' u' => r' = res.1 ∧ u' = res.2) (pcB (dC, dI) srCl [(cI, .int), (cB, .byte), (cJ, .long), (cZ, .boolean), (cQ, .object "SchemaReader$Schema")] (fun u : (Nat → Int32) × (Nat → Int32) × Int32 => [(obP, .inr (7, [.ref obW, .ref obV, .ref obC])), (obW, .inr (8, [.ref wq_plain, .ref wq_kinds, .ref wq_meant, .ref wq_firsts, .ref wq_nexts, .ref wq_names, .ref wq_fieldNames, .ref wq_amounts, .ref wq_fieldDefaults, .ref wq_enumDefaults, .int w_letterCount, .int w_slotCount])), (wq_plain, .inl (cB, 4096, .inl w_plain)), (wq_kinds, .inl (cI, 128, .inl w_kinds)), (wq_meant, .inl (cI, 128, .inl w_meant)), (wq_firsts, .inl (cI, 128, .inl w_firsts)), (wq_nexts, .inl (cI, 128, .inl w_nexts)), (wq_names, .inl (cI, 128, .inl w_names)), (wq_amounts, .inl (cI, 128, .inl w_amounts)), (obV, .inr (8, [.ref vq_plain, .ref vq_kinds, .ref vq_meant, .ref vq_firsts, .ref vq_nexts, .ref vq_names, .ref vq_fieldNames, .ref vq_amounts, .ref vq_fieldDefaults, .ref vq_enumDefaults, .int v_letterCount, .int v_slotCount])), (vq_plain, .inl (cB, 4096, .inl v_plain)), (vq_kinds, .inl (cI, 128, .inl v_kinds)), (vq_meant, .inl (cI, 128, .inl v_meant)), (vq_firsts, .inl (cI, 128, .inl v_firsts)), (vq_nexts, .inl (cI, 128, .inl v_nexts)), (vq_names, .inl (cI, 128, .inl v_names)), (vq_amounts, .inl (cI, 128, .inl v_amounts)), (vq_enumDefaults, .inl (cZ, 128, .inl v_enumDefaults)), (obC, .inr (3, [.ref cq_firsts, .ref cq_seconds, .int u.2.2])), (cq_firsts, .inl (cI, 128, .inl u.1)), (cq_seconds, .inl (cI, 128, .inl u.2.1))]) (va_A [(obP, .inr (7, [.ref obW, .ref obV, .ref obC])), (obW, .inr (8, [.ref wq_plain, .ref wq_kinds, .ref wq_meant, .ref wq_firsts, .ref wq_nexts, .ref wq_names, .ref wq_fieldNames, .ref wq_amounts, .ref wq_fieldDefaults, .ref wq_enumDefaults, .int w_letterCount, .int w_slotCount])), (wq_plain, .inl (cB, 4096, .inl w_plain)), (wq_kinds, .inl (cI, 128, .inl w_kinds)), (wq_meant, .inl (cI, 128, .inl w_meant)), (wq_firsts, .inl (cI, 128, .inl w_firsts)), (wq_nexts, .inl (cI, 128, .inl w_nexts)), (wq_names, .inl (cI, 128, .inl w_names)), (wq_amounts, .inl (cI, 128, .inl w_amounts)), (obV, .inr (8, [.ref vq_plain, .ref vq_kinds, .ref vq_meant, .ref vq_firsts, .ref vq_nexts, .ref vq_names, .ref vq_fieldNames, .ref vq_amounts, .ref vq_fieldDefaults, .ref vq_enumDefaults, .int v_letterCount, .int v_slotCount])), (vq_plain, .inl (cB, 4096, .inl v_plain)), (vq_kinds, .inl (cI, 128, .inl v_kinds)), (vq_meant, .inl (cI, 128, .inl v_meant)), (vq_firsts, .inl (cI, 128, .inl v_firsts)), (vq_nexts, .inl (cI, 128, .inl v_nexts)), (vq_names, .inl (cI, 128, .inl v_names)), (vq_amounts, .inl (cI, 128, .inl v_amounts)), (vq_enumDefaults, .inl (cZ, 128, .inl v_enumDefaults)), (obC, .inr (3, [.ref cq_firsts, .ref cq_seconds, .int c_count])), (cq_firsts, .inl (cI, 128, .inl c_firsts)), (cq_seconds, .inl (cI, 128, .inl c_seconds))] sz)) (va_A [(obP, .inr (7, [.ref obW, .ref obV, .ref obC])), (obW, .inr (8, [.ref wq_plain, .ref wq_kinds, .ref wq_meant, .ref wq_firsts, .ref wq_nexts, .ref wq_names, .ref wq_fieldNames, .ref wq_amounts, .ref wq_fieldDefaults, .ref wq_enumDefaults, .int w_letterCount, .int w_slotCount])), (wq_plain, .inl (cB, 4096, .inl w_plain)), (wq_kinds, .inl (cI, 128, .inl w_kinds)), (wq_meant, .inl (cI, 128, .inl w_meant)), (wq_firsts, .inl (cI, 128, .inl w_firsts)), (wq_nexts, .inl (cI, 128, .inl w_nexts)), (wq_names, .inl (cI, 128, .inl w_names)), (wq_amounts, .inl (cI, 128, .inl w_amounts)), (obV, .inr (8, [.ref vq_plain, .ref vq_kinds, .ref vq_meant, .ref vq_firsts, .ref vq_nexts, .ref vq_names, .ref vq_fieldNames, .ref vq_amounts, .ref vq_fieldDefaults, .ref vq_enumDefaults, .int v_letterCount, .int v_slotCount])), (vq_plain, .inl (cB, 4096, .inl v_plain)), (vq_kinds, .inl (cI, 128, .inl v_kinds)), (vq_meant, .inl (cI, 128, .inl v_meant)), (vq_firsts, .inl (cI, 128, .inl v_firsts)), (vq_nexts, .inl (cI, 128, .inl v_nexts)), (vq_names, .inl (cI, 128, .inl v_names)), (vq_amounts, .inl (cI, 128, .inl v_amounts)), (vq_enumDefaults, .inl (cZ, 128, .inl v_enumDefaults)), (obC, .inr (3, [.ref cq_firsts, .ref cq_seconds, .int c_count])), (cq_firsts, .inl (cI, 128, .inl c_firsts)), (cq_seconds, .inl (cI, 128, .inl c_seconds))] sz)) 0 0 (va_A [(obP, .inr (7, [.ref obW, .ref obV, .ref obC])), (obW, .inr (8, [.ref wq_plain, .ref wq_kinds, .ref wq_meant, .ref wq_firsts, .ref wq_nexts, .ref wq_names, .ref wq_fieldNames, .ref wq_amounts, .ref wq_fieldDefaults, .ref wq_enumDefaults, .int w_letterCount, .int w_slotCount])), (wq_plain, .inl (cB, 4096, .inl w_plain)), (wq_kinds, .inl (cI, 128, .inl w_kinds)), (wq_meant, .inl (cI, 128, .inl w_meant)), (wq_firsts, .inl (cI, 128, .inl w_firsts)), (wq_nexts, .inl (cI, 128, .inl w_nexts)), (wq_names, .inl (cI, 128, .inl w_names)), (wq_amounts, .inl (cI, 128, .inl w_amounts)), (obV, .inr (8, [.ref vq_plain, .ref vq_kinds, .ref vq_meant, .ref vq_firsts, .ref vq_nexts, .ref vq_names, .ref vq_fieldNames, .ref vq_amounts, .ref vq_fieldDefaults, .ref vq_enumDefaults, .int v_letterCount, .int v_slotCount])), (vq_plain, .inl (cB, 4096, .inl v_plain)), (vq_kinds, .inl (cI, 128, .inl v_kinds)), (vq_meant, .inl (cI, 128, .inl v_meant)), (vq_firsts, .inl (cI, 128, .inl v_firsts)), (vq_nexts, .inl (cI, 128, .inl v_nexts)), (vq_names, .inl (cI, 128, .inl v_names)), (vq_amounts, .inl (cI, 128, .inl v_amounts)), (vq_enumDefaults, .inl (cZ, 128, .inl v_enumDefaults)), (obC, .inr (3, [.ref cq_firsts, .ref cq_seconds, .int c_count])), (cq_firsts, .inl (cI, 128, .inl c_firsts)), (cq_seconds, .inl (cI, 128, .inl c_seconds))] sz)) (w_letterCount : Int32) (w_slotCount : Int32) (v_letterCount : Int32) (v_slotCount : Int32) (c_count : Int32) (w_plain : Nat → Int32) (w_kinds : Nat → Int32) (w_meant : Nat → Int32) (w_firsts : Nat → Int32) (w_nexts : Nat → Int32) (w_names : Nat → Int32) (w_amounts : Nat → Int32) (v_plain : Nat → Int32) (v_kinds : Nat → Int32) (v_meant : Nat → Int32) (v_firsts : Nat → Int32) (v_nexts : Nat → Int32) (v_names : Nat → Int32) (v_amounts : Nat → Int32) (v_enumDefaults : Nat → Int32) (c_firsts : Nat → Int32) (c_seconds : Nat → Int32) (sz : Nat) (a0 : Int32) (a1 : Int32) (a2 : Int32) (res : Int32 × (Nat → Int32) × (Nat → Int32) × Int32) (hm : m_X5_isEveryBranchFit f_isFit w_plain w_kinds w_meant w_firsts w_nexts w_names w_amounts w_letterCount v_plain v_kinds v_meant v_firsts v_nexts v_names v_amounts v_enumDefaults v_letterCount c_firsts c_seconds c_count a0 a1 a2 = some res) : Met l yX5_isEveryBranchFit wsX5_isEveryBranchFit (rmX5_isEveryBranchFit d 0 0) (pcW (sr_Z adK adV) (dC, dI) srCl [(cI, .int), (cB, .byte), (cJ, .long), (cZ, .boolean), (cQ, .object "SchemaReader$Schema")] [.ref obP, .int a0, .int a1, .int a2] [(obP, .inr (7, [.ref obW, .ref obV, .ref obC])), (obW, .inr (8, [.ref wq_plain, .ref wq_kinds, .ref wq_meant, .ref wq_firsts, .ref wq_nexts, .ref wq_names, .ref wq_fieldNames, .ref wq_amounts, .ref wq_fieldDefaults, .ref wq_enumDefaults, .int w_letterCount, .int w_slotCount])), (wq_plain, .inl (cB, 4096, .inl w_plain)), (wq_kinds, .inl (cI, 128, .inl w_kinds)), (wq_meant, .inl (cI, 128, .inl w_meant)), (wq_firsts, .inl (cI, 128, .inl w_firsts)), (wq_nexts, .inl (cI, 128, .inl w_nexts)), (wq_names, .inl (cI, 128, .inl w_names)), (wq_amounts, .inl (cI, 128, .inl w_amounts)), (obV, .inr (8, [.ref vq_plain, .ref vq_kinds, .ref vq_meant, .ref vq_firsts, .ref vq_nexts, .ref vq_names, .ref vq_fieldNames, .ref vq_amounts, .ref vq_fieldDefaults, .ref vq_enumDefaults, .int v_letterCount, .int v_slotCount])), (vq_plain, .inl (cB, 4096, .inl v_plain)), (vq_kinds, .inl (cI, 128, .inl v_kinds)), (vq_meant, .inl (cI, 128, .inl v_meant)), (vq_firsts, .inl (cI, 128, .inl v_firsts)), (vq_nexts, .inl (cI, 128, .inl v_nexts)), (vq_names, .inl (cI, 128, .inl v_names)), (vq_amounts, .inl (cI, 128, .inl v_amounts)), (vq_enumDefaults, .inl (cZ, 128, .inl v_enumDefaults)), (obC, .inr (3, [.ref cq_firsts, .ref cq_seconds, .int c_count])), (cq_firsts, .inl (cI, 128, .inl c_firsts)), (cq_seconds, .inl (cI, 128, .inl c_seconds))] sz) (va_Qi (fun r' u' => r' = res.1 ∧ u' = res.2) (pcB (dC, dI) srCl [(cI, .int), (cB, .byte), (cJ, .long), (cZ, .boolean), (cQ, .object "SchemaReader$Schema")] (fun u : (Nat → Int32) × (Nat → Int32) × Int32 => [(obP, .inr (7, [.ref obW, .ref obV, .ref obC])), (obW, .inr (8, [.ref wq_plain, .ref wq_kinds, .ref wq_meant, .ref wq_firsts, .ref wq_nexts, .ref wq_names, .ref wq_fieldNames, .ref wq_amounts, .ref wq_fieldDefaults, .ref wq_enumDefaults, .int w_letterCount, .int w_slotCount])), (wq_plain, .inl (cB, 4096, .inl w_plain)), (wq_kinds, .inl (cI, 128, .inl w_kinds)), (wq_meant, .inl (cI, 128, .inl w_meant)), (wq_firsts, .inl (cI, 128, .inl w_firsts)), (wq_nexts, .inl (cI, 128, .inl w_nexts)), (wq_names, .inl (cI, 128, .inl w_names)), (wq_amounts, .inl (cI, 128, .inl w_amounts)), (obV, .inr (8, [.ref vq_plain, .ref vq_kinds, .ref vq_meant, .ref vq_firsts, .ref vq_nexts, .ref vq_names, .ref vq_fieldNames, .ref vq_amounts, .ref vq_fieldDefaults, .ref vq_enumDefaults, .int v_letterCount, .int v_slotCount])), (vq_plain, .inl (cB, 4096, .inl v_plain)), (vq_kinds, .inl (cI, 128, .inl v_kinds)), (vq_meant, .inl (cI, 128, .inl v_meant)), (vq_firsts, .inl (cI, 128, .inl v_firsts)), (vq_nexts, .inl (cI, 128, .inl v_nexts)), (vq_names, .inl (cI, 128, .inl v_names)), (vq_amounts, .inl (cI, 128, .inl v_amounts)), (vq_enumDefaults, .inl (cZ, 128, .inl v_enumDefaults)), (obC, .inr (3, [.ref cq_firsts, .ref cq_seconds, .int u.2.2])), (cq_firsts, .inl (cI, 128, .inl u.1)), (cq_seconds, .inl (cI, 128, .inl u.2.1))]) (va_A [(obP, .inr (7, [.ref obW, .ref obV, .ref obC])), (obW, .inr (8, [.ref wq_plain, .ref wq_kinds, .ref wq_meant, .ref wq_firsts, .ref wq_nexts, .ref wq_names, .ref wq_fieldNames, .ref wq_amounts, .ref wq_fieldDefaults, .ref wq_enumDefaults, .int w_letterCount, .int w_slotCount])), (wq_plain, .inl (cB, 4096, .inl w_plain)), (wq_kinds, .inl (cI, 128, .inl w_kinds)), (wq_meant, .inl (cI, 128, .inl w_meant)), (wq_firsts, .inl (cI, 128, .inl w_firsts)), (wq_nexts, .inl (cI, 128, .inl w_nexts)), (wq_names, .inl (cI, 128, .inl w_names)), (wq_amounts, .inl (cI, 128, .inl w_amounts)), (obV, .inr (8, [.ref vq_plain, .ref vq_kinds, .ref vq_meant, .ref vq_firsts, .ref vq_nexts, .ref vq_names, .ref vq_fieldNames, .ref vq_amounts, .ref vq_fieldDefaults, .ref vq_enumDefaults, .int v_letterCount, .int v_slotCount])), (vq_plain, .inl (cB, 4096, .inl v_plain)), (vq_kinds, .inl (cI, 128, .inl v_kinds)), (vq_meant, .inl (cI, 128, .inl v_meant)), (vq_firsts, .inl (cI, 128, .inl v_firsts)), (vq_nexts, .inl (cI, 128, .inl v_nexts)), (vq_names, .inl (cI, 128, .inl v_names)), (vq_amounts, .inl (cI, 128, .inl v_amounts)), (vq_enumDefaults, .inl (cZ, 128, .inl v_enumDefaults)), (obC, .inr (3, [.ref cq_firsts, .ref cq_seconds, .int c_count])), (cq_firsts, .inl (cI, 128, .inl c_firsts)), (cq_seconds, .inl (cI, 128, .inl c_seconds))] sz)) (va_A [(obP, .inr (7, [.ref obW, .ref obV, .ref obC])), (obW, .inr (8, [.ref wq_plain, .ref wq_kinds, .ref wq_meant, .ref wq_firsts, .ref wq_nexts, .ref wq_names, .ref wq_fieldNames, .ref wq_amounts, .ref wq_fieldDefaults, .ref wq_enumDefaults, .int w_letterCount, .int w_slotCount])), (wq_plain, .inl (cB, 4096, .inl w_plain)), (wq_kinds, .inl (cI, 128, .inl w_kinds)), (wq_meant, .inl (cI, 128, .inl w_meant)), (wq_firsts, .inl (cI, 128, .inl w_firsts)), (wq_nexts, .inl (cI, 128, .inl w_nexts)), (wq_names, .inl (cI, 128, .inl w_names)), (wq_amounts, .inl (cI, 128, .inl w_amounts)), (obV, .inr (8, [.ref vq_plain, .ref vq_kinds, .ref vq_meant, .ref vq_firsts, .ref vq_nexts, .ref vq_names, .ref vq_fieldNames, .ref vq_amounts, .ref vq_fieldDefaults, .ref vq_enumDefaults, .int v_letterCount, .int v_slotCount])), (vq_plain, .inl (cB, 4096, .inl v_plain)), (vq_kinds, .inl (cI, 128, .inl v_kinds)), (vq_meant, .inl (cI, 128, .inl v_meant)), (vq_firsts, .inl (cI, 128, .inl v_firsts)), (vq_nexts, .inl (cI, 128, .inl v_nexts)), (vq_names, .inl (cI, 128, .inl v_names)), (vq_amounts, .inl (cI, 128, .inl v_amounts)), (vq_enumDefaults, .inl (cZ, 128, .inl v_enumDefaults)), (obC, .inr (3, [.ref cq_firsts, .ref cq_seconds, .int c_count])), (cq_firsts, .inl (cI, 128, .inl c_firsts)), (cq_seconds, .inl (cI, 128, .inl c_seconds))] sz)) 0 0 (va_A [(obP, .inr (7, [.ref obW, .ref obV, .ref obC])), (obW, .inr (8, [.ref wq_plain, .ref wq_kinds, .ref wq_meant, .ref wq_firsts, .ref wq_nexts, .ref wq_names, .ref wq_fieldNames, .ref wq_amounts, .ref wq_fieldDefaults, .ref wq_enumDefaults, .int w_letterCount, .int w_slotCount])), (wq_plain, .inl (cB, 4096, .inl w_plain)), (wq_kinds, .inl (cI, 128, .inl w_kinds)), (wq_meant, .inl (cI, 128, .inl w_meant)), (wq_firsts, .inl (cI, 128, .inl w_firsts)), (wq_nexts, .inl (cI, 128, .inl w_nexts)), (wq_names, .inl (cI, 128, .inl w_names)), (wq_amounts, .inl (cI, 128, .inl w_amounts)), (obV, .inr (8, [.ref vq_plain, .ref vq_kinds, .ref vq_meant, .ref vq_firsts, .ref vq_nexts, .ref vq_names, .ref vq_fieldNames, .ref vq_amounts, .ref vq_fieldDefaults, .ref vq_enumDefaults, .int v_letterCount, .int v_slotCount])), (vq_plain, .inl (cB, 4096, .inl v_plain)), (vq_kinds, .inl (cI, 128, .inl v_kinds)), (vq_meant, .inl (cI, 128, .inl v_meant)), (vq_firsts, .inl (cI, 128, .inl v_firsts)), (vq_nexts, .inl (cI, 128, .inl v_nexts)), (vq_names, .inl (cI, 128, .inl v_names)), (vq_amounts, .inl (cI, 128, .inl v_amounts)), (vq_enumDefaults, .inl (cZ, 128, .inl v_enumDefaults)), (obC, .inr (3, [.ref cq_firsts, .ref cq_seconds, .int c_count])), (cq_firsts, .inl (cI, 128, .inl c_firsts)), (cq_seconds, .inl (cI, 128, .inl c_seconds))] sz) := by
  refine Met.ofW (cc := cX5_isEveryBranchFit) (maxL := 6) (ret := (some .boolean)) (by decide) rfl ?_
  intro p e s m args below meth c s₁ B hml hv
  obtain ⟨rfl, hsz, hP, hK, hD0, hz0⟩ := hv
  have hx := B.exec
  have hb := B.bytes
  have hr := B.returns
  have hts := atoms_spec (ws := wsX5_isEveryBranchFit) B.pre
  have hown : s.vm.findClass RX5 = some m.cls := findClass_of_methodNamed B.named
  have hlocks := B.notSynchronized
  subst hsz
  have hD := hD0.self (sz := s.heap.size)
  generalize hAe : va_A [(obP, .inr (7, [.ref obW, .ref obV, .ref obC])), (obW, .inr (8, [.ref wq_plain, .ref wq_kinds, .ref wq_meant, .ref wq_firsts, .ref wq_nexts, .ref wq_names, .ref wq_fieldNames, .ref wq_amounts, .ref wq_fieldDefaults, .ref wq_enumDefaults, .int w_letterCount, .int w_slotCount])), (wq_plain, .inl (cB, 4096, .inl w_plain)), (wq_kinds, .inl (cI, 128, .inl w_kinds)), (wq_meant, .inl (cI, 128, .inl w_meant)), (wq_firsts, .inl (cI, 128, .inl w_firsts)), (wq_nexts, .inl (cI, 128, .inl w_nexts)), (wq_names, .inl (cI, 128, .inl w_names)), (wq_amounts, .inl (cI, 128, .inl w_amounts)), (obV, .inr (8, [.ref vq_plain, .ref vq_kinds, .ref vq_meant, .ref vq_firsts, .ref vq_nexts, .ref vq_names, .ref vq_fieldNames, .ref vq_amounts, .ref vq_fieldDefaults, .ref vq_enumDefaults, .int v_letterCount, .int v_slotCount])), (vq_plain, .inl (cB, 4096, .inl v_plain)), (vq_kinds, .inl (cI, 128, .inl v_kinds)), (vq_meant, .inl (cI, 128, .inl v_meant)), (vq_firsts, .inl (cI, 128, .inl v_firsts)), (vq_nexts, .inl (cI, 128, .inl v_nexts)), (vq_names, .inl (cI, 128, .inl v_names)), (vq_amounts, .inl (cI, 128, .inl v_amounts)), (vq_enumDefaults, .inl (cZ, 128, .inl v_enumDefaults)), (obC, .inr (3, [.ref cq_firsts, .ref cq_seconds, .int c_count])), (cq_firsts, .inl (cI, 128, .inl c_firsts)), (cq_seconds, .inl (cI, 128, .inl c_seconds))] s.heap.size = A at hD hz0 ⊢
  have hA : ∀ q : Nat, s.heap.size ≤ q → A q := fun q h => by rw [← hAe]; exact Or.inr h
  have hS : va_S A s.heap s.heap [] := va_S.rf
  generalize hQ0 : MQ below (va_Qi (fun r' u' => r' = res.1 ∧ u' = res.2) (pcB (dC, dI) srCl [(cI, .int), (cB, .byte), (cJ, .long), (cZ, .boolean), (cQ, .object "SchemaReader$Schema")] (fun u : (Nat → Int32) × (Nat → Int32) × Int32 => [(obP, .inr (7, [.ref obW, .ref obV, .ref obC])), (obW, .inr (8, [.ref wq_plain, .ref wq_kinds, .ref wq_meant, .ref wq_firsts, .ref wq_nexts, .ref wq_names, .ref wq_fieldNames, .ref wq_amounts, .ref wq_fieldDefaults, .ref wq_enumDefaults, .int w_letterCount, .int w_slotCount])), (wq_plain, .inl (cB, 4096, .inl w_plain)), (wq_kinds, .inl (cI, 128, .inl w_kinds)), (wq_meant, .inl (cI, 128, .inl w_meant)), (wq_firsts, .inl (cI, 128, .inl w_firsts)), (wq_nexts, .inl (cI, 128, .inl w_nexts)), (wq_names, .inl (cI, 128, .inl w_names)), (wq_amounts, .inl (cI, 128, .inl w_amounts)), (obV, .inr (8, [.ref vq_plain, .ref vq_kinds, .ref vq_meant, .ref vq_firsts, .ref vq_nexts, .ref vq_names, .ref vq_fieldNames, .ref vq_amounts, .ref vq_fieldDefaults, .ref vq_enumDefaults, .int v_letterCount, .int v_slotCount])), (vq_plain, .inl (cB, 4096, .inl v_plain)), (vq_kinds, .inl (cI, 128, .inl v_kinds)), (vq_meant, .inl (cI, 128, .inl v_meant)), (vq_firsts, .inl (cI, 128, .inl v_firsts)), (vq_nexts, .inl (cI, 128, .inl v_nexts)), (vq_names, .inl (cI, 128, .inl v_names)), (vq_amounts, .inl (cI, 128, .inl v_amounts)), (vq_enumDefaults, .inl (cZ, 128, .inl v_enumDefaults)), (obC, .inr (3, [.ref cq_firsts, .ref cq_seconds, .int u.2.2])), (cq_firsts, .inl (cI, 128, .inl u.1)), (cq_seconds, .inl (cI, 128, .inl u.2.1))]) A) A) [.ref obP, .int a0, .int a1, .int a2].toArray s 0 0 A = Q0
  have hl := lv_entry [.ref obP, .int a0, .int a1, .int a2] (n := 6) (Nat.le_of_ble_eq_true rfl)
  rw [lg_entry_eq]
  generalize (lg_sl [.ref obP, .int a0, .int a1, .int a2] ++ List.replicate (6 - (lg_sl [.ref obP, .int a0, .int a1, .int a2]).length) Slot.unset).toArray = ls at hl ⊢
  have hl : lv_has ls 6 [(0, .ref obP), (1, .int a0), (2, .int a1), (3, .int a2)] := hl
  unfold m_X5_isEveryBranchFit at hm
  refine lv_aload_n hx hb dX5_isEveryBranchFit_0 rfl (lv_at hl 0 rfl) ?_
  refine va_get (D := (dC, dI)) (ci := 7) (v := .ref obW) (C := RX5) (T := TX5) (N := 3) hx hb hts (inX5 _) hown hK hP 0 rfl rfl 0 (by decide) (hts _ (List.mem_cons_of_mem _ wf5_11)) (fun _ h9 => h9) rfl dX5_isEveryBranchFit_1 ?_
  refine lv_iload_n hx hb dX5_isEveryBranchFit_4 rfl (lv_at hl 1 rfl) ?_
  obtain ⟨r1, hz1, hm⟩ := mr_bind hm
  refine mr_pV (As := [.int a0]) (rest := []) (sr_okZ adK adV) ⟨hx, hb, hml, hown, hts⟩ (kX6_first l htr dC dI adK adV cI cB cJ cZ cQ obW wq_plain wq_kinds wq_meant wq_firsts wq_nexts wq_names wq_fieldNames wq_amounts wq_fieldDefaults wq_enumDefaults w_letterCount w_slotCount w_meant w_firsts a0 r1 hz1) (cwV 1 hts (g5_34 _) rfl rfl rfl (by decide +kernel) ⟨(by show 1 + 1 ≤ 2 * d + 6; omega), (by show 8 + (2 + 11) + (21) ≤ 50 * d + 141; omega)⟩) hS hP hK hz0 [1, 4, 5] rfl (va_recv hK hP (ci := 8) (q0 := 1) rfl rfl) rfl rfl hl.1 (Nat.le_of_ble_eq_true rfl) dX5_isEveryBranchFit_5 ⟨Nat.zero_le _, Nat.zero_le _⟩ ?_
  refine lv_istore (lv' := [(4, .int r1), (0, .ref obP), (1, .int a0), (2, .int a1), (3, .int a2)]) hx hb dX5_isEveryBranchFit_8 hl (by decide) rfl (fun ls hl => ?_)
  refine lv_iconst (v := 0) hx hb dX5_isEveryBranchFit_10 (by decide) ?_
  have j13 : ∀ (n13 : Nat) (c_firsts : Nat → Int32) (c_seconds : Nat → Int32) (c_count : Int32) (x1 : Int32) (x2 : Int32) (x3 : Int32) (x4 : Int32) (x5 : Int32) (H : Heap) (locs : List Loc) (ls : Array Slot), va_P (dC, dI) srCl [(obP, .inr (7, [.ref obW, .ref obV, .ref obC])), (obW, .inr (8, [.ref wq_plain, .ref wq_kinds, .ref wq_meant, .ref wq_firsts, .ref wq_nexts, .ref wq_names, .ref wq_fieldNames, .ref wq_amounts, .ref wq_fieldDefaults, .ref wq_enumDefaults, .int w_letterCount, .int w_slotCount])), (wq_plain, .inl (cB, 4096, .inl w_plain)), (wq_kinds, .inl (cI, 128, .inl w_kinds)), (wq_meant, .inl (cI, 128, .inl w_meant)), (wq_firsts, .inl (cI, 128, .inl w_firsts)), (wq_nexts, .inl (cI, 128, .inl w_nexts)), (wq_names, .inl (cI, 128, .inl w_names)), (wq_amounts, .inl (cI, 128, .inl w_amounts)), (obV, .inr (8, [.ref vq_plain, .ref vq_kinds, .ref vq_meant, .ref vq_firsts, .ref vq_nexts, .ref vq_names, .ref vq_fieldNames, .ref vq_amounts, .ref vq_fieldDefaults, .ref vq_enumDefaults, .int v_letterCount, .int v_slotCount])), (vq_plain, .inl (cB, 4096, .inl v_plain)), (vq_kinds, .inl (cI, 128, .inl v_kinds)), (vq_meant, .inl (cI, 128, .inl v_meant)), (vq_firsts, .inl (cI, 128, .inl v_firsts)), (vq_nexts, .inl (cI, 128, .inl v_nexts)), (vq_names, .inl (cI, 128, .inl v_names)), (vq_amounts, .inl (cI, 128, .inl v_amounts)), (vq_enumDefaults, .inl (cZ, 128, .inl v_enumDefaults)), (obC, .inr (3, [.ref cq_firsts, .ref cq_seconds, .int c_count])), (cq_firsts, .inl (cI, 128, .inl c_firsts)), (cq_seconds, .inl (cI, 128, .inl c_seconds))] H → va_D A [(obP, .inr (7, [.ref obW, .ref obV, .ref obC])), (obW, .inr (8, [.ref wq_plain, .ref wq_kinds, .ref wq_meant, .ref wq_firsts, .ref wq_nexts, .ref wq_names, .ref wq_fieldNames, .ref wq_amounts, .ref wq_fieldDefaults, .ref wq_enumDefaults, .int w_letterCount, .int w_slotCount])), (wq_plain, .inl (cB, 4096, .inl w_plain)), (wq_kinds, .inl (cI, 128, .inl w_kinds)), (wq_meant, .inl (cI, 128, .inl w_meant)), (wq_firsts, .inl (cI, 128, .inl w_firsts)), (wq_nexts, .inl (cI, 128, .inl w_nexts)), (wq_names, .inl (cI, 128, .inl w_names)), (wq_amounts, .inl (cI, 128, .inl w_amounts)), (obV, .inr (8, [.ref vq_plain, .ref vq_kinds, .ref vq_meant, .ref vq_firsts, .ref vq_nexts, .ref vq_names, .ref vq_fieldNames, .ref vq_amounts, .ref vq_fieldDefaults, .ref vq_enumDefaults, .int v_letterCount, .int v_slotCount])), (vq_plain, .inl (cB, 4096, .inl v_plain)), (vq_kinds, .inl (cI, 128, .inl v_kinds)), (vq_meant, .inl (cI, 128, .inl v_meant)), (vq_firsts, .inl (cI, 128, .inl v_firsts)), (vq_nexts, .inl (cI, 128, .inl v_nexts)), (vq_names, .inl (cI, 128, .inl v_names)), (vq_amounts, .inl (cI, 128, .inl v_amounts)), (vq_enumDefaults, .inl (cZ, 128, .inl v_enumDefaults)), (obC, .inr (3, [.ref cq_firsts, .ref cq_seconds, .int c_count])), (cq_firsts, .inl (cI, 128, .inl c_firsts)), (cq_seconds, .inl (cI, 128, .inl c_seconds))] → va_S A s.heap H locs → lv_has ls 6 [(0, .ref obP), (1, .int x1), (2, .int x2), (3, .int x3), (4, .int x4), (5, .int x5)] → m_X5_isEveryBranchFit_13 f_isFit w_plain w_kinds w_meant w_firsts w_nexts w_names w_amounts w_letterCount v_plain v_kinds v_meant v_firsts v_nexts v_names v_amounts v_enumDefaults v_letterCount n13 c_firsts c_seconds c_count x1 x2 x3 x4 x5 = some res → W p l e (headSpec wsX5_isEveryBranchFit (rmX5_isEveryBranchFit d 0 0)).room s m [.ref obP, .int a0, .int a1, .int a2].toArray below meth c H locs 0 0 Q0 (F0 m 13 ls []) := by
    intro n13
    induction n13 with
    | zero => intro c_firsts c_seconds c_count x1 x2 x3 x4 x5 H locs ls hP hD hS hl hm; exact nomatch (show (none : Option _) = some res from hm)
    | succ n13 ih13 =>
      intro c_firsts c_seconds c_count x1 x2 x3 x4 x5 H locs ls hP hD hS hl hm
      rw [m_X5_isEveryBranchFit_13] at hm
      refine lv_iload hx hb dX5_isEveryBranchFit_13 (lv_at hl 5 rfl) ?_
      refine lv_aload_n hx hb dX5_isEveryBranchFit_15 rfl (lv_at hl 0 rfl) ?_
      refine va_get (D := (dC, dI)) (ci := 7) (v := .ref obW) (C := RX5) (T := TX5) (N := 3) hx hb hts (inX5 _) hown hK hP 0 rfl rfl 0 (by decide) (hts _ (List.mem_cons_of_mem _ wf5_11)) (fun _ h9 => h9) rfl dX5_isEveryBranchFit_16 ?_
      refine lv_iload_n hx hb dX5_isEveryBranchFit_19 rfl (lv_at hl 1 rfl) ?_
      obtain ⟨r2, hz2, hm⟩ := mr_bind hm
      refine mr_pV (As := [.int x1]) (rest := [.int x5]) (sr_okZ adK adV) ⟨hx, hb, hml, hown, hts⟩ (kX6_amount l htr dC dI adK adV cI cB cJ cZ cQ obW wq_plain wq_kinds wq_meant wq_firsts wq_nexts wq_names wq_fieldNames wq_amounts wq_fieldDefaults wq_enumDefaults w_letterCount w_slotCount w_meant w_amounts x1 r2 hz2) (cwV 1 hts (g5_41 _) rfl rfl rfl (by decide +kernel) ⟨(by show 1 + 1 ≤ 2 * d + 6; omega), (by show 8 + (2 + 11) + (21) ≤ 50 * d + 141; omega)⟩) hS hP hK hz0 [1, 4, 8] rfl (va_recv hK hP (ci := 8) (q0 := 1) rfl rfl) rfl rfl hl.1 (Nat.le_of_ble_eq_true rfl) dX5_isEveryBranchFit_20 ⟨Nat.zero_le _, Nat.zero_le _⟩ ?_
      refine lv_icmp_ge (tgt := 58) hx hb dX5_isEveryBranchFit_23 (by decide) (fun c3 => ?_) (fun c3 => ?_)
      · have hm := mr_if c3 hm
        refine lv_iconst (v := 1) hx hb dX5_isEveryBranchFit_58 (by decide) ?_
        obtain rfl := Option.some.inj hm
        subst hQ0
        exact W.zret (v := 1) hx hb hr rfl (fun t ht hW => ⟨⟨1, (c_firsts, c_seconds, c_count), rfl, ⟨rfl, rfl⟩, by rw [ht]; exact hP, va_K.moved hW.alike hK, hD⟩, hS.F ht⟩) hS.2.2 dX5_isEveryBranchFit_59
      · have hm := mr_un c3 hm
        refine lv_aload_n hx hb dX5_isEveryBranchFit_26 rfl (lv_at hl 0 rfl) ?_
        refine lv_iload hx hb dX5_isEveryBranchFit_27 (lv_at hl 4 rfl) ?_
        refine lv_iload_n hx hb dX5_isEveryBranchFit_29 rfl (lv_at hl 2 rfl) ?_
        refine lv_iload_n hx hb dX5_isEveryBranchFit_30 rfl (lv_at hl 3 rfl) ?_
        refine lv_iconst (v := 1) hx hb dX5_isEveryBranchFit_31 (by decide) ?_
        refine lv_iadd hx hb dX5_isEveryBranchFit_32 ?_
        obtain ⟨⟨r4, c_firsts_4, c_seconds_4, c_count_4⟩, hz4, hm⟩ := mr_bind hm
        try dsimp only at hm
        refine mr_wVi (As := [.int x4, .int x2, .int (x3 + 1)]) (rest := []) (sr_okZ adK adV) ⟨hx, hb, hml, hown, hts⟩ (hrec w_letterCount w_slotCount v_letterCount v_slotCount c_count w_plain w_kinds w_meant w_firsts w_nexts w_names w_amounts v_plain v_kinds v_meant v_firsts v_nexts v_names v_amounts v_enumDefaults c_firsts c_seconds _ x4 x2 (x3 + 1) _ hz4) (cwV 3 hts (g5_56 _) rfl rfl rfl (by decide +kernel) ⟨(by show 2 * d + 5 + 1 ≤ 2 * d + 6; omega), (by show 8 + (6 + 11) + (50 * d + 116) ≤ 50 * d + 141; omega)⟩) hS hA hP hD hK hz0 (wr := []) (w1 := [(obP, .inr (7, [.ref obW, .ref obV, .ref obC])), (obW, .inr (8, [.ref wq_plain, .ref wq_kinds, .ref wq_meant, .ref wq_firsts, .ref wq_nexts, .ref wq_names, .ref wq_fieldNames, .ref wq_amounts, .ref wq_fieldDefaults, .ref wq_enumDefaults, .int w_letterCount, .int w_slotCount])), (wq_plain, .inl (cB, 4096, .inl w_plain)), (wq_kinds, .inl (cI, 128, .inl w_kinds)), (wq_meant, .inl (cI, 128, .inl w_meant)), (wq_firsts, .inl (cI, 128, .inl w_firsts)), (wq_nexts, .inl (cI, 128, .inl w_nexts)), (wq_names, .inl (cI, 128, .inl w_names)), (wq_amounts, .inl (cI, 128, .inl w_amounts)), (obV, .inr (8, [.ref vq_plain, .ref vq_kinds, .ref vq_meant, .ref vq_firsts, .ref vq_nexts, .ref vq_names, .ref vq_fieldNames, .ref vq_amounts, .ref vq_fieldDefaults, .ref vq_enumDefaults, .int v_letterCount, .int v_slotCount])), (vq_plain, .inl (cB, 4096, .inl v_plain)), (vq_kinds, .inl (cI, 128, .inl v_kinds)), (vq_meant, .inl (cI, 128, .inl v_meant)), (vq_firsts, .inl (cI, 128, .inl v_firsts)), (vq_nexts, .inl (cI, 128, .inl v_nexts)), (vq_names, .inl (cI, 128, .inl v_names)), (vq_amounts, .inl (cI, 128, .inl v_amounts)), (vq_enumDefaults, .inl (cZ, 128, .inl v_enumDefaults)), (obC, .inr (3, [.ref cq_firsts, .ref cq_seconds, .int c_count_4])), (cq_firsts, .inl (cI, 128, .inl c_firsts_4)), (cq_seconds, .inl (cI, 128, .inl c_seconds_4))]) [0, 1, 2, 3, 4, 5, 6, 7, 8, 9, 10, 11, 12, 13, 14, 15, 16, 17, 18, 19, 20] [] [0, 1, 2, 3, 4, 5, 6, 7, 8, 9, 10, 11, 12, 13, 14, 15, 16, 17, 18, 19, 20] rfl rfl rfl rfl rfl (by decide) rfl rfl rfl (va_recv hK hP (ci := 7) (q0 := 0) rfl rfl) rfl rfl hl.1 (Nat.le_of_ble_eq_true rfl) dX5_isEveryBranchFit_33 ⟨Nat.zero_le _, Nat.zero_le _⟩ (fun H locs hP hD hS => ?_)
        refine lv_if_ne (tgt := 41) hx hb dX5_isEveryBranchFit_36 (by decide) (fun c5 => ?_) (fun c5 => ?_)
        · have hm := mr_un c5 hm
          refine lv_aload_n hx hb dX5_isEveryBranchFit_41 rfl (lv_at hl 0 rfl) ?_
          refine va_get (D := (dC, dI)) (ci := 7) (v := .ref obW) (C := RX5) (T := TX5) (N := 3) hx hb hts (inX5 _) hown hK hP 0 rfl rfl 0 (by decide) (hts _ (List.mem_cons_of_mem _ wf5_11)) (fun _ h9 => h9) rfl dX5_isEveryBranchFit_42 ?_
          refine lv_iload hx hb dX5_isEveryBranchFit_45 (lv_at hl 4 rfl) ?_
          obtain ⟨r6, hz6, hm⟩ := mr_bind hm
          refine mr_pV (As := [.int x4]) (rest := []) (sr_okZ adK adV) ⟨hx, hb, hml, hown, hts⟩ (kX6_next l htr dC dI adK adV cI cB cJ cZ cQ obW wq_plain wq_kinds wq_meant wq_firsts wq_nexts wq_names wq_fieldNames wq_amounts wq_fieldDefaults wq_enumDefaults w_letterCount w_slotCount w_nexts x4 r6 hz6) (cwV 1 hts (g5_91 _) rfl rfl rfl (by decide +kernel) ⟨(by show 1 + 1 ≤ 2 * d + 6; omega), (by show 8 + (2 + 11) + (21) ≤ 50 * d + 141; omega)⟩) hS hP hK hz0 [1, 6] rfl (va_recv hK hP (ci := 8) (q0 := 1) rfl rfl) rfl rfl hl.1 (Nat.le_of_ble_eq_true rfl) dX5_isEveryBranchFit_47 ⟨Nat.zero_le _, Nat.zero_le _⟩ ?_
          refine lv_istore (lv' := [(4, .int r6), (0, .ref obP), (1, .int x1), (2, .int x2), (3, .int x3), (5, .int x5)]) hx hb dX5_isEveryBranchFit_50 hl (by decide) rfl (fun ls hl => ?_)
          refine lv_iinc (v := x5 + 1) (lv' := [(5, .int (x5 + 1)), (4, .int r6), (0, .ref obP), (1, .int x1), (2, .int x2), (3, .int x3)]) hx hb dX5_isEveryBranchFit_52 hl (k := 5) rfl rfl (by decide) rfl (fun ls hl => ?_)
          refine lv_goto (tgt := 13) hx hb dX5_isEveryBranchFit_55 (by decide) ?_
          exact ih13 c_firsts_4 c_seconds_4 c_count_4 x1 x2 x3 r6 (x5 + 1) _ _ ls hP hD hS (lv_sub hl [2, 3, 4, 5, 1, 0] rfl) hm
        · have hm := mr_if c5 hm
          refine lv_iconst (v := 0) hx hb dX5_isEveryBranchFit_39 (by decide) ?_
          obtain rfl := Option.some.inj hm
          subst hQ0
          exact W.zret (v := 0) hx hb hr rfl (fun t ht hW => ⟨⟨0, (c_firsts_4, c_seconds_4, c_count_4), rfl, ⟨rfl, rfl⟩, by rw [ht]; exact hP, va_K.moved hW.alike hK, hD⟩, hS.F ht⟩) hS.2.2 dX5_isEveryBranchFit_40
  refine lv_istore (lv' := [(5, .int 0), (4, .int r1), (0, .ref obP), (1, .int a0), (2, .int a1), (3, .int a2)]) hx hb dX5_isEveryBranchFit_11 hl (by decide) rfl (fun ls hl => ?_)
  exact j13 sr_fuel c_firsts c_seconds c_count a0 a1 a2 r1 0 _ _ ls hP hD hS (lv_sub hl [2, 3, 4, 5, 1, 0] rfl) hm
set_option maxHeartbeats 4000000 in
set_option maxRecDepth 100000 in
theorem kX5_isFit (l : Launch) (htr : l.stackTraces = false) (dC : Nat → ClassId) (dI : Nat → Nat → Nat) (adK adV : Nat → Nat) (cI cB cJ cZ cQ : ClassId) (obP obW obV obC wq_plain wq_kinds wq_meant wq_firsts wq_nexts wq_names wq_fieldNames wq_amounts wq_fieldDefaults wq_enumDefaults vq_plain vq_kinds vq_meant vq_firsts vq_nexts vq_names vq_fieldNames vq_amounts vq_fieldDefaults vq_enumDefaults cq_firsts cq_seconds : Nat) : ∀ (d : Nat) (w_letterCount : Int32) (w_slotCount : Int32) (v_letterCount : Int32) (v_slotCount : Int32) (c_count : Int32) (w_plain : Nat → Int32) (w_kinds : Nat → Int32) (w_meant : Nat → Int32) (w_firsts : Nat → Int32) (w_nexts : Nat → Int32) (w_names : Nat → Int32) (w_amounts : Nat → Int32) (v_plain : Nat → Int32) (v_kinds : Nat → Int32) (v_meant : Nat → Int32) (v_firsts : Nat → Int32) (v_nexts : Nat → Int32) (v_names : Nat → Int32) (v_amounts : Nat → Int32) (v_enumDefaults : Nat → Int32) (c_firsts : Nat → Int32) (c_seconds : Nat → Int32) (sz : Nat) (a0 : Int32) (a1 : Int32) (a2 : Int32) (res : Int32 × (Nat → Int32) × (Nat → Int32) × Int32), m_X5_isFit d w_plain w_kinds w_meant w_firsts w_nexts w_names w_amounts w_letterCount v_plain v_kinds v_meant v_firsts v_nexts v_names v_amounts v_enumDefaults v_letterCount c_firsts c_seconds c_count a0 a1 a2 = some res → Met l yX5_isFit wsX5_isFit (rmX5_isFit d 0 0) (pcW (sr_Z adK adV) (dC, dI) srCl [(cI, .int), (cB, .byte), (cJ, .long), (cZ, .boolean), (cQ, .object "SchemaReader$Schema")] [.ref obP, .int a0, .int a1, .int a2] [(obP, .inr (7, [.ref obW, .ref obV, .ref obC])), (obW, .inr (8, [.ref wq_plain, .ref wq_kinds, .ref wq_meant, .ref wq_firsts, .ref wq_nexts, .ref wq_names, .ref wq_fieldNames, .ref wq_amounts, .ref wq_fieldDefaults, .ref wq_enumDefaults, .int w_letterCount, .int w_slotCount])), (wq_plain, .inl (cB, 4096, .inl w_plain)), (wq_kinds, .inl (cI, 128, .inl w_kinds)), (wq_meant, .inl (cI, 128, .inl w_meant)), (wq_firsts, .inl (cI, 128, .inl w_firsts)), (wq_nexts, .inl (cI, 128, .inl w_nexts)), (wq_names, .inl (cI, 128, .inl w_names)), (wq_amounts, .inl (cI, 128, .inl w_amounts)), (obV, .inr (8, [.ref vq_plain, .ref vq_kinds, .ref vq_meant, .ref vq_firsts, .ref vq_nexts, .ref vq_names, .ref vq_fieldNames, .ref vq_amounts, .ref vq_fieldDefaults, .ref vq_enumDefaults, .int v_letterCount, .int v_slotCount])), (vq_plain, .inl (cB, 4096, .inl v_plain)), (vq_kinds, .inl (cI, 128, .inl v_kinds)), (vq_meant, .inl (cI, 128, .inl v_meant)), (vq_firsts, .inl (cI, 128, .inl v_firsts)), (vq_nexts, .inl (cI, 128, .inl v_nexts)), (vq_names, .inl (cI, 128, .inl v_names)), (vq_amounts, .inl (cI, 128, .inl v_amounts)), (vq_enumDefaults, .inl (cZ, 128, .inl v_enumDefaults)), (obC, .inr (3, [.ref cq_firsts, .ref cq_seconds, .int c_count])), (cq_firsts, .inl (cI, 128, .inl c_firsts)), (cq_seconds, .inl (cI, 128, .inl c_seconds))] sz) (va_Qi (fun r' u' => r' = res.1 ∧ u' = res.2) (pcB (dC, dI) srCl [(cI, .int), (cB, .byte), (cJ, .long), (cZ, .boolean), (cQ, .object "SchemaReader$Schema")] (fun u : (Nat → Int32) × (Nat → Int32) × Int32 => [(obP, .inr (7, [.ref obW, .ref obV, .ref obC])), (obW, .inr (8, [.ref wq_plain, .ref wq_kinds, .ref wq_meant, .ref wq_firsts, .ref wq_nexts, .ref wq_names, .ref wq_fieldNames, .ref wq_amounts, .ref wq_fieldDefaults, .ref wq_enumDefaults, .int w_letterCount, .int w_slotCount])), (wq_plain, .inl (cB, 4096, .inl w_plain)), (wq_kinds, .inl (cI, 128, .inl w_kinds)), (wq_meant, .inl (cI, 128, .inl w_meant)), (wq_firsts, .inl (cI, 128, .inl w_firsts)), (wq_nexts, .inl (cI, 128, .inl w_nexts)), (wq_names, .inl (cI, 128, .inl w_names)), (wq_amounts, .inl (cI, 128, .inl w_amounts)), (obV, .inr (8, [.ref vq_plain, .ref vq_kinds, .ref vq_meant, .ref vq_firsts, .ref vq_nexts, .ref vq_names, .ref vq_fieldNames, .ref vq_amounts, .ref vq_fieldDefaults, .ref vq_enumDefaults, .int v_letterCount, .int v_slotCount])), (vq_plain, .inl (cB, 4096, .inl v_plain)), (vq_kinds, .inl (cI, 128, .inl v_kinds)), (vq_meant, .inl (cI, 128, .inl v_meant)), (vq_firsts, .inl (cI, 128, .inl v_firsts)), (vq_nexts, .inl (cI, 128, .inl v_nexts)), (vq_names, .inl (cI, 128, .inl v_names)), (vq_amounts, .inl (cI, 128, .inl v_amounts)), (vq_enumDefaults, .inl (cZ, 128, .inl v_enumDefaults)), (obC, .inr (3, [.ref cq_firsts, .ref cq_seconds, .int u.2.2])), (cq_firsts, .inl (cI, 128, .inl u.1)), (cq_seconds, .inl (cI, 128, .inl u.2.1))]) (va_A [(obP, .inr (7, [.ref obW, .ref obV, .ref obC])), (obW, .inr (8, [.ref wq_plain, .ref wq_kinds, .ref wq_meant, .ref wq_firsts, .ref wq_nexts, .ref wq_names, .ref wq_fieldNames, .ref wq_amounts, .ref wq_fieldDefaults, .ref wq_enumDefaults, .int w_letterCount, .int w_slotCount])), (wq_plain, .inl (cB, 4096, .inl w_plain)), (wq_kinds, .inl (cI, 128, .inl w_kinds)), (wq_meant, .inl (cI, 128, .inl w_meant)), (wq_firsts, .inl (cI, 128, .inl w_firsts)), (wq_nexts, .inl (cI, 128, .inl w_nexts)), (wq_names, .inl (cI, 128, .inl w_names)), (wq_amounts, .inl (cI, 128, .inl w_amounts)), (obV, .inr (8, [.ref vq_plain, .ref vq_kinds, .ref vq_meant, .ref vq_firsts, .ref vq_nexts, .ref vq_names, .ref vq_fieldNames, .ref vq_amounts, .ref vq_fieldDefaults, .ref vq_enumDefaults, .int v_letterCount, .int v_slotCount])), (vq_plain, .inl (cB, 4096, .inl v_plain)), (vq_kinds, .inl (cI, 128, .inl v_kinds)), (vq_meant, .inl (cI, 128, .inl v_meant)), (vq_firsts, .inl (cI, 128, .inl v_firsts)), (vq_nexts, .inl (cI, 128, .inl v_nexts)), (vq_names, .inl (cI, 128, .inl v_names)), (vq_amounts, .inl (cI, 128, .inl v_amounts)), (vq_enumDefaults, .inl (cZ, 128, .inl v_enumDefaults)), (obC, .inr (3, [.ref cq_firsts, .ref cq_seconds, .int c_count])), (cq_firsts, .inl (cI, 128, .inl c_firsts)), (cq_seconds, .inl (cI, 128, .inl c_seconds))] sz)) (va_A [(obP, .inr (7, [.ref obW, .ref obV, .ref obC])), (obW, .inr (8, [.ref wq_plain, .ref wq_kinds, .ref wq_meant, .ref wq_firsts, .ref wq_nexts, .ref wq_names, .ref wq_fieldNames, .ref wq_amounts, .ref wq_fieldDefaults, .ref wq_enumDefaults, .int w_letterCount, .int w_slotCount])), (wq_plain, .inl (cB, 4096, .inl w_plain)), (wq_kinds, .inl (cI, 128, .inl w_kinds)), (wq_meant, .inl (cI, 128, .inl w_meant)), (wq_firsts, .inl (cI, 128, .inl w_firsts)), (wq_nexts, .inl (cI, 128, .inl w_nexts)), (wq_names, .inl (cI, 128, .inl w_names)), (wq_amounts, .inl (cI, 128, .inl w_amounts)), (obV, .inr (8, [.ref vq_plain, .ref vq_kinds, .ref vq_meant, .ref vq_firsts, .ref vq_nexts, .ref vq_names, .ref vq_fieldNames, .ref vq_amounts, .ref vq_fieldDefaults, .ref vq_enumDefaults, .int v_letterCount, .int v_slotCount])), (vq_plain, .inl (cB, 4096, .inl v_plain)), (vq_kinds, .inl (cI, 128, .inl v_kinds)), (vq_meant, .inl (cI, 128, .inl v_meant)), (vq_firsts, .inl (cI, 128, .inl v_firsts)), (vq_nexts, .inl (cI, 128, .inl v_nexts)), (vq_names, .inl (cI, 128, .inl v_names)), (vq_amounts, .inl (cI, 128, .inl v_amounts)), (vq_enumDefaults, .inl (cZ, 128, .inl v_enumDefaults)), (obC, .inr (3, [.ref cq_firsts, .ref cq_seconds, .int c_count])), (cq_firsts, .inl (cI, 128, .inl c_firsts)), (cq_seconds, .inl (cI, 128, .inl c_seconds))] sz)) 0 0 (va_A [(obP, .inr (7, [.ref obW, .ref obV, .ref obC])), (obW, .inr (8, [.ref wq_plain, .ref wq_kinds, .ref wq_meant, .ref wq_firsts, .ref wq_nexts, .ref wq_names, .ref wq_fieldNames, .ref wq_amounts, .ref wq_fieldDefaults, .ref wq_enumDefaults, .int w_letterCount, .int w_slotCount])), (wq_plain, .inl (cB, 4096, .inl w_plain)), (wq_kinds, .inl (cI, 128, .inl w_kinds)), (wq_meant, .inl (cI, 128, .inl w_meant)), (wq_firsts, .inl (cI, 128, .inl w_firsts)), (wq_nexts, .inl (cI, 128, .inl w_nexts)), (wq_names, .inl (cI, 128, .inl w_names)), (wq_amounts, .inl (cI, 128, .inl w_amounts)), (obV, .inr (8, [.ref vq_plain, .ref vq_kinds, .ref vq_meant, .ref vq_firsts, .ref vq_nexts, .ref vq_names, .ref vq_fieldNames, .ref vq_amounts, .ref vq_fieldDefaults, .ref vq_enumDefaults, .int v_letterCount, .int v_slotCount])), (vq_plain, .inl (cB, 4096, .inl v_plain)), (vq_kinds, .inl (cI, 128, .inl v_kinds)), (vq_meant, .inl (cI, 128, .inl v_meant)), (vq_firsts, .inl (cI, 128, .inl v_firsts)), (vq_nexts, .inl (cI, 128, .inl v_nexts)), (vq_names, .inl (cI, 128, .inl v_names)), (vq_amounts, .inl (cI, 128, .inl v_amounts)), (vq_enumDefaults, .inl (cZ, 128, .inl v_enumDefaults)), (obC, .inr (3, [.ref cq_firsts, .ref cq_seconds, .int c_count])), (cq_firsts, .inl (cI, 128, .inl c_firsts)), (cq_seconds, .inl (cI, 128, .inl c_seconds))] sz) := by
  intro d
  induction d with
  | zero => intro w_letterCount w_slotCount v_letterCount v_slotCount c_count w_plain w_kinds w_meant w_firsts w_nexts w_names w_amounts v_plain v_kinds v_meant v_firsts v_nexts v_names v_amounts v_enumDefaults c_firsts c_seconds sz a0 a1 a2 res hm; exact nomatch (show (none : Option _) = some res from hm)
  | succ d ihd =>
    intro w_letterCount w_slotCount v_letterCount v_slotCount c_count w_plain w_kinds w_meant w_firsts w_nexts w_names w_amounts v_plain v_kinds v_meant v_firsts v_nexts v_names v_amounts v_enumDefaults c_firsts c_seconds sz a0 a1 a2 res hm
    refine Met.ofW (cc := cX5_isFit) (maxL := 6) (ret := (some .boolean)) (by decide) rfl ?_
    intro p e s m args below meth c s₁ B hml hv
    obtain ⟨rfl, hsz, hP, hK, hD0, hz0⟩ := hv
    have hx := B.exec
    have hb := B.bytes
    have hr := B.returns
    have hts := atoms_spec (ws := wsX5_isFit) B.pre
    have hown : s.vm.findClass RX5 = some m.cls := findClass_of_methodNamed B.named
    have hlocks := B.notSynchronized
    subst hsz
    have hD := hD0.self (sz := s.heap.size)
    generalize hAe : va_A [(obP, .inr (7, [.ref obW, .ref obV, .ref obC])), (obW, .inr (8, [.ref wq_plain, .ref wq_kinds, .ref wq_meant, .ref wq_firsts, .ref wq_nexts, .ref wq_names, .ref wq_fieldNames, .ref wq_amounts, .ref wq_fieldDefaults, .ref wq_enumDefaults, .int w_letterCount, .int w_slotCount])), (wq_plain, .inl (cB, 4096, .inl w_plain)), (wq_kinds, .inl (cI, 128, .inl w_kinds)), (wq_meant, .inl (cI, 128, .inl w_meant)), (wq_firsts, .inl (cI, 128, .inl w_firsts)), (wq_nexts, .inl (cI, 128, .inl w_nexts)), (wq_names, .inl (cI, 128, .inl w_names)), (wq_amounts, .inl (cI, 128, .inl w_amounts)), (obV, .inr (8, [.ref vq_plain, .ref vq_kinds, .ref vq_meant, .ref vq_firsts, .ref vq_nexts, .ref vq_names, .ref vq_fieldNames, .ref vq_amounts, .ref vq_fieldDefaults, .ref vq_enumDefaults, .int v_letterCount, .int v_slotCount])), (vq_plain, .inl (cB, 4096, .inl v_plain)), (vq_kinds, .inl (cI, 128, .inl v_kinds)), (vq_meant, .inl (cI, 128, .inl v_meant)), (vq_firsts, .inl (cI, 128, .inl v_firsts)), (vq_nexts, .inl (cI, 128, .inl v_nexts)), (vq_names, .inl (cI, 128, .inl v_names)), (vq_amounts, .inl (cI, 128, .inl v_amounts)), (vq_enumDefaults, .inl (cZ, 128, .inl v_enumDefaults)), (obC, .inr (3, [.ref cq_firsts, .ref cq_seconds, .int c_count])), (cq_firsts, .inl (cI, 128, .inl c_firsts)), (cq_seconds, .inl (cI, 128, .inl c_seconds))] s.heap.size = A at hD hz0 ⊢
    have hA : ∀ q : Nat, s.heap.size ≤ q → A q := fun q h => by rw [← hAe]; exact Or.inr h
    have hS : va_S A s.heap s.heap [] := va_S.rf
    generalize hQ0 : MQ below (va_Qi (fun r' u' => r' = res.1 ∧ u' = res.2) (pcB (dC, dI) srCl [(cI, .int), (cB, .byte), (cJ, .long), (cZ, .boolean), (cQ, .object "SchemaReader$Schema")] (fun u : (Nat → Int32) × (Nat → Int32) × Int32 => [(obP, .inr (7, [.ref obW, .ref obV, .ref obC])), (obW, .inr (8, [.ref wq_plain, .ref wq_kinds, .ref wq_meant, .ref wq_firsts, .ref wq_nexts, .ref wq_names, .ref wq_fieldNames, .ref wq_amounts, .ref wq_fieldDefaults, .ref wq_enumDefaults, .int w_letterCount, .int w_slotCount])), (wq_plain, .inl (cB, 4096, .inl w_plain)), (wq_kinds, .inl (cI, 128, .inl w_kinds)), (wq_meant, .inl (cI, 128, .inl w_meant)), (wq_firsts, .inl (cI, 128, .inl w_firsts)), (wq_nexts, .inl (cI, 128, .inl w_nexts)), (wq_names, .inl (cI, 128, .inl w_names)), (wq_amounts, .inl (cI, 128, .inl w_amounts)), (obV, .inr (8, [.ref vq_plain, .ref vq_kinds, .ref vq_meant, .ref vq_firsts, .ref vq_nexts, .ref vq_names, .ref vq_fieldNames, .ref vq_amounts, .ref vq_fieldDefaults, .ref vq_enumDefaults, .int v_letterCount, .int v_slotCount])), (vq_plain, .inl (cB, 4096, .inl v_plain)), (vq_kinds, .inl (cI, 128, .inl v_kinds)), (vq_meant, .inl (cI, 128, .inl v_meant)), (vq_firsts, .inl (cI, 128, .inl v_firsts)), (vq_nexts, .inl (cI, 128, .inl v_nexts)), (vq_names, .inl (cI, 128, .inl v_names)), (vq_amounts, .inl (cI, 128, .inl v_amounts)), (vq_enumDefaults, .inl (cZ, 128, .inl v_enumDefaults)), (obC, .inr (3, [.ref cq_firsts, .ref cq_seconds, .int u.2.2])), (cq_firsts, .inl (cI, 128, .inl u.1)), (cq_seconds, .inl (cI, 128, .inl u.2.1))]) A) A) [.ref obP, .int a0, .int a1, .int a2].toArray s 0 0 A = Q0
    have hl := lv_entry [.ref obP, .int a0, .int a1, .int a2] (n := 6) (Nat.le_of_ble_eq_true rfl)
    rw [lg_entry_eq]
    generalize (lg_sl [.ref obP, .int a0, .int a1, .int a2] ++ List.replicate (6 - (lg_sl [.ref obP, .int a0, .int a1, .int a2]).length) Slot.unset).toArray = ls at hl ⊢
    have hl : lv_has ls 6 [(0, .ref obP), (1, .int a0), (2, .int a1), (3, .int a2)] := hl
    rw [m_X5_isFit] at hm
    refine lv_iload_n hx hb dX5_isFit_0 rfl (lv_at hl 3 rfl) ?_
    refine lv_bipush (v := 34) hx hb dX5_isFit_1 (by decide) ?_
    refine lv_icmp_le (tgt := 8) hx hb dX5_isFit_3 (by decide) (fun c1 => ?_) (fun c1 => ?_)
    · have hm := mr_if c1 hm
      refine lv_aload_n hx hb dX5_isFit_8 rfl (lv_at hl 0 rfl) ?_
      refine va_get (D := (dC, dI)) (ci := 7) (v := .ref obW) (C := RX5) (T := TX5) (N := 3) hx hb hts (inX5 _) hown hK hP 0 rfl rfl 0 (by decide) (hts _ (List.mem_cons_of_mem _ wf5_11)) (fun _ h9 => h9) rfl dX5_isFit_9 ?_
      refine lv_iload_n hx hb dX5_isFit_12 rfl (lv_at hl 1 rfl) ?_
      obtain ⟨r2, hz2, hm⟩ := mr_bind hm
      refine mr_pV (As := [.int a0]) (rest := []) (sr_okZ adK adV) ⟨hx, hb, hml, hown, hts⟩ (kX6_kind l htr dC dI adK adV cI cB cJ cZ cQ obW wq_plain wq_kinds wq_meant wq_firsts wq_nexts wq_names wq_fieldNames wq_amounts wq_fieldDefaults wq_enumDefaults w_letterCount w_slotCount w_kinds w_meant a0 r2 hz2) (cwV 1 hts (g5_24 _) rfl rfl rfl (by decide +kernel) ⟨(by show 1 + 1 ≤ 2 * (d + 1) + 5; omega), (by show 8 + (2 + 11) + (21) ≤ 50 * (d + 1) + 116; omega)⟩) hS hP hK hz0 [1, 3, 4] rfl (va_recv hK hP (ci := 8) (q0 := 1) rfl rfl) rfl rfl hl.1 (Nat.le_of_ble_eq_true rfl) dX5_isFit_13 ⟨Nat.zero_le _, Nat.zero_le _⟩ ?_
      refine lv_istore (lv' := [(4, .int r2), (0, .ref obP), (1, .int a0), (2, .int a1), (3, .int a2)]) hx hb dX5_isFit_16 hl (by decide) rfl (fun ls hl => ?_)
      refine lv_iload hx hb dX5_isFit_18 (lv_at hl 0 rfl) ?_
      refine lv_bipush (v := 11) hx hb dX5_isFit_20 (by decide) ?_
      refine lv_icmp_ne (tgt := 33) hx hb dX5_isFit_22 (by decide) (fun c3 => ?_) (fun c3 => ?_)
      · have hm := mr_un c3 hm
        refine lv_aload_n hx hb dX5_isFit_33 rfl (lv_at hl 1 rfl) ?_
        refine va_get (D := (dC, dI)) (ci := 7) (v := .ref obV) (C := RX5) (T := TX5) (N := 3) hx hb hts (inX5 _) hown hK hP 0 rfl rfl 1 (by decide) (hts _ (List.mem_cons_of_mem _ wf5_17)) (fun _ h9 => h9) rfl dX5_isFit_34 ?_
        refine lv_iload_n hx hb dX5_isFit_37 rfl (lv_at hl 3 rfl) ?_
        obtain ⟨r4, hz4, hm⟩ := mr_bind hm
        refine mr_pV (As := [.int a1]) (rest := []) (sr_okZ adK adV) ⟨hx, hb, hml, hown, hts⟩ (kX6_kind l htr dC dI adK adV cI cB cJ cZ cQ obV vq_plain vq_kinds vq_meant vq_firsts vq_nexts vq_names vq_fieldNames vq_amounts vq_fieldDefaults vq_enumDefaults v_letterCount v_slotCount v_kinds v_meant a1 r4 hz4) (cwV 1 hts (g5_24 _) rfl rfl rfl (by decide +kernel) ⟨(by show 1 + 1 ≤ 2 * (d + 1) + 5; omega), (by show 8 + (2 + 11) + (21) ≤ 50 * (d + 1) + 116; omega)⟩) hS hP hK hz0 [9, 11, 12] rfl (va_recv hK hP (ci := 8) (q0 := 9) rfl rfl) rfl rfl hl.1 (Nat.le_of_ble_eq_true rfl) dX5_isFit_38 ⟨Nat.zero_le _, Nat.zero_le _⟩ ?_
        refine lv_bipush (v := 11) hx hb dX5_isFit_41 (by decide) ?_
        refine lv_icmp_ne (tgt := 79) hx hb dX5_isFit_43 (by decide) (fun c5 => ?_) (fun c5 => ?_)
        · have hm := mr_un c5 hm
          refine lv_iload hx hb dX5_isFit_79 (lv_at hl 0 rfl) ?_
          refine lv_aload_n hx hb dX5_isFit_81 rfl (lv_at hl 1 rfl) ?_
          refine va_get (D := (dC, dI)) (ci := 7) (v := .ref obV) (C := RX5) (T := TX5) (N := 3) hx hb hts (inX5 _) hown hK hP 0 rfl rfl 1 (by decide) (hts _ (List.mem_cons_of_mem _ wf5_17)) (fun _ h9 => h9) rfl dX5_isFit_82 ?_
          refine lv_iload_n hx hb dX5_isFit_85 rfl (lv_at hl 3 rfl) ?_
          obtain ⟨r6, hz6, hm⟩ := mr_bind hm
          refine mr_pV (As := [.int a1]) (rest := [.int r2]) (sr_okZ adK adV) ⟨hx, hb, hml, hown, hts⟩ (kX6_kind l htr dC dI adK adV cI cB cJ cZ cQ obV vq_plain vq_kinds vq_meant vq_firsts vq_nexts vq_names vq_fieldNames vq_amounts vq_fieldDefaults vq_enumDefaults v_letterCount v_slotCount v_kinds v_meant a1 r6 hz6) (cwV 1 hts (g5_24 _) rfl rfl rfl (by decide +kernel) ⟨(by show 1 + 1 ≤ 2 * (d + 1) + 5; omega), (by show 8 + (2 + 11) + (21) ≤ 50 * (d + 1) + 116; omega)⟩) hS hP hK hz0 [9, 11, 12] rfl (va_recv hK hP (ci := 8) (q0 := 9) rfl rfl) rfl rfl hl.1 (Nat.le_of_ble_eq_true rfl) dX5_isFit_86 ⟨Nat.zero_le _, Nat.zero_le _⟩ ?_
          have j130 : ∀ (c_firsts : Nat → Int32) (c_seconds : Nat → Int32) (c_count : Int32) (x1 : Int32) (x2 : Int32) (x4 : Int32) (H : Heap) (locs : List Loc) (ls : Array Slot), va_P (dC, dI) srCl [(obP, .inr (7, [.ref obW, .ref obV, .ref obC])), (obW, .inr (8, [.ref wq_plain, .ref wq_kinds, .ref wq_meant, .ref wq_firsts, .ref wq_nexts, .ref wq_names, .ref wq_fieldNames, .ref wq_amounts, .ref wq_fieldDefaults, .ref wq_enumDefaults, .int w_letterCount, .int w_slotCount])), (wq_plain, .inl (cB, 4096, .inl w_plain)), (wq_kinds, .inl (cI, 128, .inl w_kinds)), (wq_meant, .inl (cI, 128, .inl w_meant)), (wq_firsts, .inl (cI, 128, .inl w_firsts)), (wq_nexts, .inl (cI, 128, .inl w_nexts)), (wq_names, .inl (cI, 128, .inl w_names)), (wq_amounts, .inl (cI, 128, .inl w_amounts)), (obV, .inr (8, [.ref vq_plain, .ref vq_kinds, .ref vq_meant, .ref vq_firsts, .ref vq_nexts, .ref vq_names, .ref vq_fieldNames, .ref vq_amounts, .ref vq_fieldDefaults, .ref vq_enumDefaults, .int v_letterCount, .int v_slotCount])), (vq_plain, .inl (cB, 4096, .inl v_plain)), (vq_kinds, .inl (cI, 128, .inl v_kinds)), (vq_meant, .inl (cI, 128, .inl v_meant)), (vq_firsts, .inl (cI, 128, .inl v_firsts)), (vq_nexts, .inl (cI, 128, .inl v_nexts)), (vq_names, .inl (cI, 128, .inl v_names)), (vq_amounts, .inl (cI, 128, .inl v_amounts)), (vq_enumDefaults, .inl (cZ, 128, .inl v_enumDefaults)), (obC, .inr (3, [.ref cq_firsts, .ref cq_seconds, .int c_count])), (cq_firsts, .inl (cI, 128, .inl c_firsts)), (cq_seconds, .inl (cI, 128, .inl c_seconds))] H → va_D A [(obP, .inr (7, [.ref obW, .ref obV, .ref obC])), (obW, .inr (8, [.ref wq_plain, .ref wq_kinds, .ref wq_meant, .ref wq_firsts, .ref wq_nexts, .ref wq_names, .ref wq_fieldNames, .ref wq_amounts, .ref wq_fieldDefaults, .ref wq_enumDefaults, .int w_letterCount, .int w_slotCount])), (wq_plain, .inl (cB, 4096, .inl w_plain)), (wq_kinds, .inl (cI, 128, .inl w_kinds)), (wq_meant, .inl (cI, 128, .inl w_meant)), (wq_firsts, .inl (cI, 128, .inl w_firsts)), (wq_nexts, .inl (cI, 128, .inl w_nexts)), (wq_names, .inl (cI, 128, .inl w_names)), (wq_amounts, .inl (cI, 128, .inl w_amounts)), (obV, .inr (8, [.ref vq_plain, .ref vq_kinds, .ref vq_meant, .ref vq_firsts, .ref vq_nexts, .ref vq_names, .ref vq_fieldNames, .ref vq_amounts, .ref vq_fieldDefaults, .ref vq_enumDefaults, .int v_letterCount, .int v_slotCount])), (vq_plain, .inl (cB, 4096, .inl v_plain)), (vq_kinds, .inl (cI, 128, .inl v_kinds)), (vq_meant, .inl (cI, 128, .inl v_meant)), (vq_firsts, .inl (cI, 128, .inl v_firsts)), (vq_nexts, .inl (cI, 128, .inl v_nexts)), (vq_names, .inl (cI, 128, .inl v_names)), (vq_amounts, .inl (cI, 128, .inl v_amounts)), (vq_enumDefaults, .inl (cZ, 128, .inl v_enumDefaults)), (obC, .inr (3, [.ref cq_firsts, .ref cq_seconds, .int c_count])), (cq_firsts, .inl (cI, 128, .inl c_firsts)), (cq_seconds, .inl (cI, 128, .inl c_seconds))] → va_S A s.heap H locs → lv_has ls 6 [(0, .ref obP), (1, .int x1), (2, .int x2), (4, .int x4)] → m_X5_isFit_130 (m_X5_isFit d) w_plain w_kinds w_meant w_firsts w_nexts w_names w_amounts w_letterCount v_plain v_kinds v_meant v_firsts v_nexts v_names v_amounts v_enumDefaults v_letterCount c_firsts c_seconds c_count x1 x2 x4 = some res → W p l e (headSpec wsX5_isFit (rmX5_isFit (d + 1) 0 0)).room s m [.ref obP, .int a0, .int a1, .int a2].toArray below meth c H locs 0 0 Q0 (F0 m 130 ls []) := by
            intro c_firsts c_seconds c_count x1 x2 x4 H locs ls hP hD hS hl hm
            unfold m_X5_isFit_130 at hm
            refine lv_aload_n hx hb dX5_isFit_130 rfl (lv_at hl 0 rfl) ?_
            refine lv_iload_n hx hb dX5_isFit_131 rfl (lv_at hl 1 rfl) ?_
            refine lv_iload_n hx hb dX5_isFit_132 rfl (lv_at hl 2 rfl) ?_
            obtain ⟨r7, hz7, hm⟩ := mr_bind hm
            refine mr_pV (As := [.int x1, .int x2]) (rest := []) (sr_okZ adK adV) ⟨hx, hb, hml, hown, hts⟩ (kX5_isSame l htr dC dI adK adV cI cB cJ cZ cQ obP obW obV obC wq_plain wq_kinds wq_meant wq_firsts wq_nexts wq_names wq_fieldNames wq_amounts wq_fieldDefaults wq_enumDefaults vq_plain vq_kinds vq_meant vq_firsts vq_nexts vq_names vq_fieldNames vq_amounts vq_fieldDefaults vq_enumDefaults w_letterCount w_slotCount v_letterCount v_slotCount w_plain w_kinds w_meant w_names w_amounts v_plain v_kinds v_meant v_names v_amounts x1 x2 r7 hz7) (cwV 2 hts (g5_30 _) rfl rfl rfl (by decide +kernel) ⟨(by show 2 + 1 ≤ 2 * (d + 1) + 5; omega), (by show 8 + (5 + 11) + (42) ≤ 50 * (d + 1) + 116; omega)⟩) hS hP hK hz0 [0, 1, 2, 3, 4, 7, 8, 9, 10, 11, 12, 15, 16] rfl (va_recv hK hP (ci := 7) (q0 := 0) rfl rfl) rfl rfl hl.1 (Nat.le_of_ble_eq_true rfl) dX5_isFit_133 ⟨Nat.zero_le _, Nat.zero_le _⟩ ?_
            refine lv_if_ne (tgt := 141) hx hb dX5_isFit_136 (by decide) (fun c8 => ?_) (fun c8 => ?_)
            · have hm := mr_un c8 hm
              refine lv_iload hx hb dX5_isFit_141 (lv_at hl 3 rfl) ?_
              refine lv_bipush (v := 10) hx hb dX5_isFit_143 (by decide) ?_
              have j168 : ∀ (c_firsts : Nat → Int32) (c_seconds : Nat → Int32) (c_count : Int32) (x1 : Int32) (x2 : Int32) (x4 : Int32) (H : Heap) (locs : List Loc) (ls : Array Slot), va_P (dC, dI) srCl [(obP, .inr (7, [.ref obW, .ref obV, .ref obC])), (obW, .inr (8, [.ref wq_plain, .ref wq_kinds, .ref wq_meant, .ref wq_firsts, .ref wq_nexts, .ref wq_names, .ref wq_fieldNames, .ref wq_amounts, .ref wq_fieldDefaults, .ref wq_enumDefaults, .int w_letterCount, .int w_slotCount])), (wq_plain, .inl (cB, 4096, .inl w_plain)), (wq_kinds, .inl (cI, 128, .inl w_kinds)), (wq_meant, .inl (cI, 128, .inl w_meant)), (wq_firsts, .inl (cI, 128, .inl w_firsts)), (wq_nexts, .inl (cI, 128, .inl w_nexts)), (wq_names, .inl (cI, 128, .inl w_names)), (wq_amounts, .inl (cI, 128, .inl w_amounts)), (obV, .inr (8, [.ref vq_plain, .ref vq_kinds, .ref vq_meant, .ref vq_firsts, .ref vq_nexts, .ref vq_names, .ref vq_fieldNames, .ref vq_amounts, .ref vq_fieldDefaults, .ref vq_enumDefaults, .int v_letterCount, .int v_slotCount])), (vq_plain, .inl (cB, 4096, .inl v_plain)), (vq_kinds, .inl (cI, 128, .inl v_kinds)), (vq_meant, .inl (cI, 128, .inl v_meant)), (vq_firsts, .inl (cI, 128, .inl v_firsts)), (vq_nexts, .inl (cI, 128, .inl v_nexts)), (vq_names, .inl (cI, 128, .inl v_names)), (vq_amounts, .inl (cI, 128, .inl v_amounts)), (vq_enumDefaults, .inl (cZ, 128, .inl v_enumDefaults)), (obC, .inr (3, [.ref cq_firsts, .ref cq_seconds, .int c_count])), (cq_firsts, .inl (cI, 128, .inl c_firsts)), (cq_seconds, .inl (cI, 128, .inl c_seconds))] H → va_D A [(obP, .inr (7, [.ref obW, .ref obV, .ref obC])), (obW, .inr (8, [.ref wq_plain, .ref wq_kinds, .ref wq_meant, .ref wq_firsts, .ref wq_nexts, .ref wq_names, .ref wq_fieldNames, .ref wq_amounts, .ref wq_fieldDefaults, .ref wq_enumDefaults, .int w_letterCount, .int w_slotCount])), (wq_plain, .inl (cB, 4096, .inl w_plain)), (wq_kinds, .inl (cI, 128, .inl w_kinds)), (wq_meant, .inl (cI, 128, .inl w_meant)), (wq_firsts, .inl (cI, 128, .inl w_firsts)), (wq_nexts, .inl (cI, 128, .inl w_nexts)), (wq_names, .inl (cI, 128, .inl w_names)), (wq_amounts, .inl (cI, 128, .inl w_amounts)), (obV, .inr (8, [.ref vq_plain, .ref vq_kinds, .ref vq_meant, .ref vq_firsts, .ref vq_nexts, .ref vq_names, .ref vq_fieldNames, .ref vq_amounts, .ref vq_fieldDefaults, .ref vq_enumDefaults, .int v_letterCount, .int v_slotCount])), (vq_plain, .inl (cB, 4096, .inl v_plain)), (vq_kinds, .inl (cI, 128, .inl v_kinds)), (vq_meant, .inl (cI, 128, .inl v_meant)), (vq_firsts, .inl (cI, 128, .inl v_firsts)), (vq_nexts, .inl (cI, 128, .inl v_nexts)), (vq_names, .inl (cI, 128, .inl v_names)), (vq_amounts, .inl (cI, 128, .inl v_amounts)), (vq_enumDefaults, .inl (cZ, 128, .inl v_enumDefaults)), (obC, .inr (3, [.ref cq_firsts, .ref cq_seconds, .int c_count])), (cq_firsts, .inl (cI, 128, .inl c_firsts)), (cq_seconds, .inl (cI, 128, .inl c_seconds))] → va_S A s.heap H locs → lv_has ls 6 [(0, .ref obP), (1, .int x1), (2, .int x2), (4, .int x4)] → m_X5_isFit_168 (m_X5_isFit d) w_plain w_kinds w_meant w_firsts w_nexts w_names w_amounts w_letterCount v_plain v_kinds v_meant v_firsts v_nexts v_names v_amounts v_enumDefaults v_letterCount c_firsts c_seconds c_count x1 x2 x4 = some res → W p l e (headSpec wsX5_isFit (rmX5_isFit (d + 1) 0 0)).room s m [.ref obP, .int a0, .int a1, .int a2].toArray below meth c H locs 0 0 Q0 (F0 m 168 ls []) := by
                intro c_firsts c_seconds c_count x1 x2 x4 H locs ls hP hD hS hl hm
                unfold m_X5_isFit_168 at hm
                refine lv_iload hx hb dX5_isFit_168 (lv_at hl 3 rfl) ?_
                refine lv_bipush (v := 9) hx hb dX5_isFit_170 (by decide) ?_
                refine lv_icmp_ne (tgt := 195) hx hb dX5_isFit_172 (by decide) (fun c9 => ?_) (fun c9 => ?_)
                · have hm := mr_un c9 hm
                  refine lv_iconst (v := 1) hx hb dX5_isFit_195 (by decide) ?_
                  refine lv_goto (tgt := 200) hx hb dX5_isFit_196 (by decide) ?_
                  obtain rfl := Option.some.inj hm
                  subst hQ0
                  exact W.zret (v := 1) hx hb hr rfl (fun t ht hW => ⟨⟨1, (c_firsts, c_seconds, c_count), rfl, ⟨rfl, rfl⟩, by rw [ht]; exact hP, va_K.moved hW.alike hK, hD⟩, hS.F ht⟩) hS.2.2 dX5_isFit_200
                · have hm := mr_if c9 hm
                  refine lv_aload_n hx hb dX5_isFit_175 rfl (lv_at hl 0 rfl) ?_
                  refine va_get (D := (dC, dI)) (ci := 7) (v := .ref obV) (C := RX5) (T := TX5) (N := 3) hx hb hts (inX5 _) hown hK hP 0 rfl rfl 1 (by decide) (hts _ (List.mem_cons_of_mem _ wf5_17)) (fun _ h9 => h9) rfl dX5_isFit_176 ?_
                  refine lv_iload_n hx hb dX5_isFit_179 rfl (lv_at hl 2 rfl) ?_
                  obtain ⟨r10, hz10, hm⟩ := mr_bind hm
                  refine mr_pV (As := [.int x2]) (rest := []) (sr_okZ adK adV) ⟨hx, hb, hml, hown, hts⟩ (kX6_hasEnumDefault l htr dC dI adK adV cI cB cJ cZ cQ obV vq_plain vq_kinds vq_meant vq_firsts vq_nexts vq_names vq_fieldNames vq_amounts vq_fieldDefaults vq_enumDefaults v_letterCount v_slotCount v_meant v_enumDefaults x2 r10 hz10) (cwV 1 hts (g5_85 _) rfl rfl rfl (by decide +kernel) ⟨(by show 2 + 1 ≤ 2 * (d + 1) + 5; omega), (by show 8 + (3 + 11) + (42) ≤ 50 * (d + 1) + 116; omega)⟩) hS hP hK hz0 [9, 12, 17] rfl (va_recv hK hP (ci := 8) (q0 := 9) rfl rfl) rfl rfl hl.1 (Nat.le_of_ble_eq_true rfl) dX5_isFit_180 ⟨Nat.zero_le _, Nat.zero_le _⟩ ?_
                  refine lv_if_ne (tgt := 195) hx hb dX5_isFit_183 (by decide) (fun c11 => ?_) (fun c11 => ?_)
                  · have hm := mr_un c11 hm
                    refine lv_iconst (v := 1) hx hb dX5_isFit_195 (by decide) ?_
                    refine lv_goto (tgt := 200) hx hb dX5_isFit_196 (by decide) ?_
                    obtain rfl := Option.some.inj hm
                    subst hQ0
                    exact W.zret (v := 1) hx hb hr rfl (fun t ht hW => ⟨⟨1, (c_firsts, c_seconds, c_count), rfl, ⟨rfl, rfl⟩, by rw [ht]; exact hP, va_K.moved hW.alike hK, hD⟩, hS.F ht⟩) hS.2.2 dX5_isFit_200
                  · have hm := mr_if c11 hm
                    refine lv_aload_n hx hb dX5_isFit_186 rfl (lv_at hl 0 rfl) ?_
                    refine lv_iload_n hx hb dX5_isFit_187 rfl (lv_at hl 1 rfl) ?_
                    refine lv_iload_n hx hb dX5_isFit_188 rfl (lv_at hl 2 rfl) ?_
                    obtain ⟨r12, hz12, hm⟩ := mr_bind hm
                    refine mr_pV (As := [.int x1, .int x2]) (rest := []) (sr_okZ adK adV) ⟨hx, hb, hml, hown, hts⟩ (kX5_hasAllSymbols l htr dC dI adK adV cI cB cJ cZ cQ obP obW obV obC wq_plain wq_kinds wq_meant wq_firsts wq_nexts wq_names wq_fieldNames wq_amounts wq_fieldDefaults wq_enumDefaults vq_plain vq_kinds vq_meant vq_firsts vq_nexts vq_names vq_fieldNames vq_amounts vq_fieldDefaults vq_enumDefaults w_letterCount w_slotCount v_letterCount v_slotCount w_plain w_meant w_firsts w_amounts v_plain v_meant v_firsts v_amounts x1 x2 r12 hz12) (cwV 2 hts (g5_88 _) rfl rfl rfl (by decide +kernel) ⟨(by show 3 + 1 ≤ 2 * (d + 1) + 5; omega), (by show 8 + (5 + 11) + (67) ≤ 50 * (d + 1) + 116; omega)⟩) hS hP hK hz0 [0, 1, 2, 4, 5, 8, 9, 10, 12, 13, 16] rfl (va_recv hK hP (ci := 7) (q0 := 0) rfl rfl) rfl rfl hl.1 (Nat.le_of_ble_eq_true rfl) dX5_isFit_189 ⟨Nat.zero_le _, Nat.zero_le _⟩ ?_
                    refine lv_if_eq (tgt := 199) hx hb dX5_isFit_192 (by decide) (fun c13 => ?_) (fun c13 => ?_)
                    · have hm := mr_if c13 hm
                      refine lv_iconst (v := 0) hx hb dX5_isFit_199 (by decide) ?_
                      obtain rfl := Option.some.inj hm
                      subst hQ0
                      exact W.zret (v := 0) hx hb hr rfl (fun t ht hW => ⟨⟨0, (c_firsts, c_seconds, c_count), rfl, ⟨rfl, rfl⟩, by rw [ht]; exact hP, va_K.moved hW.alike hK, hD⟩, hS.F ht⟩) hS.2.2 dX5_isFit_200
                    · have hm := mr_un c13 hm
                      refine lv_iconst (v := 1) hx hb dX5_isFit_195 (by decide) ?_
                      refine lv_goto (tgt := 200) hx hb dX5_isFit_196 (by decide) ?_
                      obtain rfl := Option.some.inj hm
                      subst hQ0
                      exact W.zret (v := 1) hx hb hr rfl (fun t ht hW => ⟨⟨1, (c_firsts, c_seconds, c_count), rfl, ⟨rfl, rfl⟩, by rw [ht]; exact hP, va_K.moved hW.alike hK, hD⟩, hS.F ht⟩) hS.2.2 dX5_isFit_200
              refine lv_icmp_ne (tgt := 168) hx hb dX5_isFit_145 (by decide) (fun c14 => ?_) (fun c14 => ?_)
              · have hm := mr_un c14 hm
                exact j168 c_firsts c_seconds c_count x1 x2 x4 _ _ ls hP hD hS (lv_sub hl [0, 1, 2, 3] rfl) hm
              · have hm := mr_if c14 hm
                refine lv_aload_n hx hb dX5_isFit_148 rfl (lv_at hl 0 rfl) ?_
                refine lv_aload_n hx hb dX5_isFit_149 rfl (lv_at hl 0 rfl) ?_
                refine va_get (D := (dC, dI)) (ci := 7) (v := .ref obW) (C := RX5) (T := TX5) (N := 3) hx hb hts (inX5 _) hown hK hP 0 rfl rfl 0 (by decide) (hts _ (List.mem_cons_of_mem _ wf5_11)) (fun _ h9 => h9) rfl dX5_isFit_150 ?_
                refine lv_iload_n hx hb dX5_isFit_153 rfl (lv_at hl 1 rfl) ?_
                obtain ⟨r15, hz15, hm⟩ := mr_bind hm
                refine mr_pV (As := [.int x1]) (rest := [.ref obP]) (sr_okZ adK adV) ⟨hx, hb, hml, hown, hts⟩ (kX6_meant l htr dC dI adK adV cI cB cJ cZ cQ obW wq_plain wq_kinds wq_meant wq_firsts wq_nexts wq_names wq_fieldNames wq_amounts wq_fieldDefaults wq_enumDefaults w_letterCount w_slotCount w_meant x1 r15 hz15) (cwV 1 hts (g5_78 _) rfl rfl rfl (by decide +kernel) ⟨(by show 1 + 1 ≤ 2 * (d + 1) + 5; omega), (by show 8 + (2 + 11) + (21) ≤ 50 * (d + 1) + 116; omega)⟩) hS hP hK hz0 [1, 4] rfl (va_recv hK hP (ci := 8) (q0 := 1) rfl rfl) rfl rfl hl.1 (Nat.le_of_ble_eq_true rfl) dX5_isFit_154 ⟨Nat.zero_le _, Nat.zero_le _⟩ ?_
                refine lv_aload_n hx hb dX5_isFit_157 rfl (lv_at hl 0 rfl) ?_
                refine va_get (D := (dC, dI)) (ci := 7) (v := .ref obV) (C := RX5) (T := TX5) (N := 3) hx hb hts (inX5 _) hown hK hP 0 rfl rfl 1 (by decide) (hts _ (List.mem_cons_of_mem _ wf5_17)) (fun _ h9 => h9) rfl dX5_isFit_158 ?_
                refine lv_iload_n hx hb dX5_isFit_161 rfl (lv_at hl 2 rfl) ?_
                obtain ⟨r16, hz16, hm⟩ := mr_bind hm
                refine mr_pV (As := [.int x2]) (rest := [.int r15, .ref obP]) (sr_okZ adK adV) ⟨hx, hb, hml, hown, hts⟩ (kX6_meant l htr dC dI adK adV cI cB cJ cZ cQ obV vq_plain vq_kinds vq_meant vq_firsts vq_nexts vq_names vq_fieldNames vq_amounts vq_fieldDefaults vq_enumDefaults v_letterCount v_slotCount v_meant x2 r16 hz16) (cwV 1 hts (g5_78 _) rfl rfl rfl (by decide +kernel) ⟨(by show 1 + 1 ≤ 2 * (d + 1) + 5; omega), (by show 8 + (2 + 11) + (21) ≤ 50 * (d + 1) + 116; omega)⟩) hS hP hK hz0 [9, 12] rfl (va_recv hK hP (ci := 8) (q0 := 9) rfl rfl) rfl rfl hl.1 (Nat.le_of_ble_eq_true rfl) dX5_isFit_162 ⟨Nat.zero_le _, Nat.zero_le _⟩ ?_
                obtain ⟨⟨c_firsts_17, c_seconds_17, c_count_17⟩, hz17, hm⟩ := mr_bind hm
                try dsimp only at hm
                refine mr_wVv (As := [.int r15, .int r16]) (rest := []) (sr_okZ adK adV) ⟨hx, hb, hml, hown, hts⟩ (kX5_ask l htr dC dI adK adV cI cB cJ cZ cQ obP obW obV obC cq_firsts cq_seconds c_count c_firsts c_seconds _ r15 r16 _ hz17) (cwV 2 hts (g5_81 _) rfl rfl rfl (by decide +kernel) ⟨(by show 2 + 1 ≤ 2 * (d + 1) + 5; omega), (by show 8 + (3 + 11) + (44) ≤ 50 * (d + 1) + 116; omega)⟩) hS hA hP hD hK hz0 (wr := [(obW, .inr (8, [.ref wq_plain, .ref wq_kinds, .ref wq_meant, .ref wq_firsts, .ref wq_nexts, .ref wq_names, .ref wq_fieldNames, .ref wq_amounts, .ref wq_fieldDefaults, .ref wq_enumDefaults, .int w_letterCount, .int w_slotCount])), (wq_plain, .inl (cB, 4096, .inl w_plain)), (wq_kinds, .inl (cI, 128, .inl w_kinds)), (wq_meant, .inl (cI, 128, .inl w_meant)), (wq_firsts, .inl (cI, 128, .inl w_firsts)), (wq_nexts, .inl (cI, 128, .inl w_nexts)), (wq_names, .inl (cI, 128, .inl w_names)), (wq_amounts, .inl (cI, 128, .inl w_amounts)), (obV, .inr (8, [.ref vq_plain, .ref vq_kinds, .ref vq_meant, .ref vq_firsts, .ref vq_nexts, .ref vq_names, .ref vq_fieldNames, .ref vq_amounts, .ref vq_fieldDefaults, .ref vq_enumDefaults, .int v_letterCount, .int v_slotCount])), (vq_plain, .inl (cB, 4096, .inl v_plain)), (vq_kinds, .inl (cI, 128, .inl v_kinds)), (vq_meant, .inl (cI, 128, .inl v_meant)), (vq_firsts, .inl (cI, 128, .inl v_firsts)), (vq_nexts, .inl (cI, 128, .inl v_nexts)), (vq_names, .inl (cI, 128, .inl v_names)), (vq_amounts, .inl (cI, 128, .inl v_amounts)), (vq_enumDefaults, .inl (cZ, 128, .inl v_enumDefaults))]) (w1 := [(obP, .inr (7, [.ref obW, .ref obV, .ref obC])), (obW, .inr (8, [.ref wq_plain, .ref wq_kinds, .ref wq_meant, .ref wq_firsts, .ref wq_nexts, .ref wq_names, .ref wq_fieldNames, .ref wq_amounts, .ref wq_fieldDefaults, .ref wq_enumDefaults, .int w_letterCount, .int w_slotCount])), (wq_plain, .inl (cB, 4096, .inl w_plain)), (wq_kinds, .inl (cI, 128, .inl w_kinds)), (wq_meant, .inl (cI, 128, .inl w_meant)), (wq_firsts, .inl (cI, 128, .inl w_firsts)), (wq_nexts, .inl (cI, 128, .inl w_nexts)), (wq_names, .inl (cI, 128, .inl w_names)), (wq_amounts, .inl (cI, 128, .inl w_amounts)), (obV, .inr (8, [.ref vq_plain, .ref vq_kinds, .ref vq_meant, .ref vq_firsts, .ref vq_nexts, .ref vq_names, .ref vq_fieldNames, .ref vq_amounts, .ref vq_fieldDefaults, .ref vq_enumDefaults, .int v_letterCount, .int v_slotCount])), (vq_plain, .inl (cB, 4096, .inl v_plain)), (vq_kinds, .inl (cI, 128, .inl v_kinds)), (vq_meant, .inl (cI, 128, .inl v_meant)), (vq_firsts, .inl (cI, 128, .inl v_firsts)), (vq_nexts, .inl (cI, 128, .inl v_nexts)), (vq_names, .inl (cI, 128, .inl v_names)), (vq_amounts, .inl (cI, 128, .inl v_amounts)), (vq_enumDefaults, .inl (cZ, 128, .inl v_enumDefaults)), (obC, .inr (3, [.ref cq_firsts, .ref cq_seconds, .int c_count_17])), (cq_firsts, .inl (cI, 128, .inl c_firsts_17)), (cq_seconds, .inl (cI, 128, .inl c_seconds_17))]) [0, 18, 19, 20] [1, 2, 3, 4, 5, 6, 7, 8, 9, 10, 11, 12, 13, 14, 15, 16, 17] [17, 0, 1, 2, 3, 4, 5, 6, 7, 8, 9, 10, 11, 12, 13, 14, 15, 16, 18, 19, 20] rfl rfl rfl rfl rfl (by decide) rfl rfl rfl (va_recv hK hP (ci := 7) (q0 := 0) rfl rfl) rfl rfl hl.1 (Nat.le_of_ble_eq_true rfl) dX5_isFit_165 ⟨Nat.zero_le _, Nat.zero_le _⟩ (fun H locs hP hD hS => ?_)
                exact j168 c_firsts_17 c_seconds_17 c_count_17 x1 x2 x4 _ _ ls hP hD hS (lv_sub hl [0, 1, 2, 3] rfl) hm
            · have hm := mr_if c8 hm
              refine lv_iconst (v := 0) hx hb dX5_isFit_139 (by decide) ?_
              obtain rfl := Option.some.inj hm
              subst hQ0
              exact W.zret (v := 0) hx hb hr rfl (fun t ht hW => ⟨⟨0, (c_firsts, c_seconds, c_count), rfl, ⟨rfl, rfl⟩, by rw [ht]; exact hP, va_K.moved hW.alike hK, hD⟩, hS.F ht⟩) hS.2.2 dX5_isFit_140
          refine lv_icmp_ne (tgt := 130) hx hb dX5_isFit_89 (by decide) (fun c18 => ?_) (fun c18 => ?_)
          · have hm := mr_un c18 hm
            exact j130 c_firsts c_seconds c_count a0 a1 r2 _ _ ls hP hD hS (lv_sub hl [1, 2, 3, 0] rfl) hm
          · have hm := mr_if c18 hm
            refine lv_iload hx hb dX5_isFit_92 (lv_at hl 0 rfl) ?_
            refine lv_bipush (v := 6) hx hb dX5_isFit_94 (by decide) ?_
            have j106 : ∀ (c_firsts : Nat → Int32) (c_seconds : Nat → Int32) (c_count : Int32) (x1 : Int32) (x2 : Int32) (x3 : Int32) (H : Heap) (locs : List Loc) (ls : Array Slot), va_P (dC, dI) srCl [(obP, .inr (7, [.ref obW, .ref obV, .ref obC])), (obW, .inr (8, [.ref wq_plain, .ref wq_kinds, .ref wq_meant, .ref wq_firsts, .ref wq_nexts, .ref wq_names, .ref wq_fieldNames, .ref wq_amounts, .ref wq_fieldDefaults, .ref wq_enumDefaults, .int w_letterCount, .int w_slotCount])), (wq_plain, .inl (cB, 4096, .inl w_plain)), (wq_kinds, .inl (cI, 128, .inl w_kinds)), (wq_meant, .inl (cI, 128, .inl w_meant)), (wq_firsts, .inl (cI, 128, .inl w_firsts)), (wq_nexts, .inl (cI, 128, .inl w_nexts)), (wq_names, .inl (cI, 128, .inl w_names)), (wq_amounts, .inl (cI, 128, .inl w_amounts)), (obV, .inr (8, [.ref vq_plain, .ref vq_kinds, .ref vq_meant, .ref vq_firsts, .ref vq_nexts, .ref vq_names, .ref vq_fieldNames, .ref vq_amounts, .ref vq_fieldDefaults, .ref vq_enumDefaults, .int v_letterCount, .int v_slotCount])), (vq_plain, .inl (cB, 4096, .inl v_plain)), (vq_kinds, .inl (cI, 128, .inl v_kinds)), (vq_meant, .inl (cI, 128, .inl v_meant)), (vq_firsts, .inl (cI, 128, .inl v_firsts)), (vq_nexts, .inl (cI, 128, .inl v_nexts)), (vq_names, .inl (cI, 128, .inl v_names)), (vq_amounts, .inl (cI, 128, .inl v_amounts)), (vq_enumDefaults, .inl (cZ, 128, .inl v_enumDefaults)), (obC, .inr (3, [.ref cq_firsts, .ref cq_seconds, .int c_count])), (cq_firsts, .inl (cI, 128, .inl c_firsts)), (cq_seconds, .inl (cI, 128, .inl c_seconds))] H → va_D A [(obP, .inr (7, [.ref obW, .ref obV, .ref obC])), (obW, .inr (8, [.ref wq_plain, .ref wq_kinds, .ref wq_meant, .ref wq_firsts, .ref wq_nexts, .ref wq_names, .ref wq_fieldNames, .ref wq_amounts, .ref wq_fieldDefaults, .ref wq_enumDefaults, .int w_letterCount, .int w_slotCount])), (wq_plain, .inl (cB, 4096, .inl w_plain)), (wq_kinds, .inl (cI, 128, .inl w_kinds)), (wq_meant, .inl (cI, 128, .inl w_meant)), (wq_firsts, .inl (cI, 128, .inl w_firsts)), (wq_nexts, .inl (cI, 128, .inl w_nexts)), (wq_names, .inl (cI, 128, .inl w_names)), (wq_amounts, .inl (cI, 128, .inl w_amounts)), (obV, .inr (8, [.ref vq_plain, .ref vq_kinds, .ref vq_meant, .ref vq_firsts, .ref vq_nexts, .ref vq_names, .ref vq_fieldNames, .ref vq_amounts, .ref vq_fieldDefaults, .ref vq_enumDefaults, .int v_letterCount, .int v_slotCount])), (vq_plain, .inl (cB, 4096, .inl v_plain)), (vq_kinds, .inl (cI, 128, .inl v_kinds)), (vq_meant, .inl (cI, 128, .inl v_meant)), (vq_firsts, .inl (cI, 128, .inl v_firsts)), (vq_nexts, .inl (cI, 128, .inl v_nexts)), (vq_names, .inl (cI, 128, .inl v_names)), (vq_amounts, .inl (cI, 128, .inl v_amounts)), (vq_enumDefaults, .inl (cZ, 128, .inl v_enumDefaults)), (obC, .inr (3, [.ref cq_firsts, .ref cq_seconds, .int c_count])), (cq_firsts, .inl (cI, 128, .inl c_firsts)), (cq_seconds, .inl (cI, 128, .inl c_seconds))] → va_S A s.heap H locs → lv_has ls 6 [(0, .ref obP), (1, .int x1), (2, .int x2), (3, .int x3)] → m_X5_isFit_106 (m_X5_isFit d) w_plain w_kinds w_meant w_firsts w_nexts w_names w_amounts w_letterCount v_plain v_kinds v_meant v_firsts v_nexts v_names v_amounts v_enumDefaults v_letterCount c_firsts c_seconds c_count x1 x2 x3 = some res → W p l e (headSpec wsX5_isFit (rmX5_isFit (d + 1) 0 0)).room s m [.ref obP, .int a0, .int a1, .int a2].toArray below meth c H locs 0 0 Q0 (F0 m 106 ls []) := by
              intro c_firsts c_seconds c_count x1 x2 x3 H locs ls hP hD hS hl hm
              unfold m_X5_isFit_106 at hm
              refine lv_aload_n hx hb dX5_isFit_106 rfl (lv_at hl 0 rfl) ?_
              refine lv_aload_n hx hb dX5_isFit_107 rfl (lv_at hl 0 rfl) ?_
              refine va_get (D := (dC, dI)) (ci := 7) (v := .ref obW) (C := RX5) (T := TX5) (N := 3) hx hb hts (inX5 _) hown hK hP 0 rfl rfl 0 (by decide) (hts _ (List.mem_cons_of_mem _ wf5_11)) (fun _ h9 => h9) rfl dX5_isFit_108 ?_
              refine lv_iload_n hx hb dX5_isFit_111 rfl (lv_at hl 1 rfl) ?_
              obtain ⟨r19, hz19, hm⟩ := mr_bind hm
              refine mr_pV (As := [.int x1]) (rest := [.ref obP]) (sr_okZ adK adV) ⟨hx, hb, hml, hown, hts⟩ (kX6_first l htr dC dI adK adV cI cB cJ cZ cQ obW wq_plain wq_kinds wq_meant wq_firsts wq_nexts wq_names wq_fieldNames wq_amounts wq_fieldDefaults wq_enumDefaults w_letterCount w_slotCount w_meant w_firsts x1 r19 hz19) (cwV 1 hts (g5_34 _) rfl rfl rfl (by decide +kernel) ⟨(by show 1 + 1 ≤ 2 * (d + 1) + 5; omega), (by show 8 + (2 + 11) + (21) ≤ 50 * (d + 1) + 116; omega)⟩) hS hP hK hz0 [1, 4, 5] rfl (va_recv hK hP (ci := 8) (q0 := 1) rfl rfl) rfl rfl hl.1 (Nat.le_of_ble_eq_true rfl) dX5_isFit_112 ⟨Nat.zero_le _, Nat.zero_le _⟩ ?_
              refine lv_aload_n hx hb dX5_isFit_115 rfl (lv_at hl 0 rfl) ?_
              refine va_get (D := (dC, dI)) (ci := 7) (v := .ref obV) (C := RX5) (T := TX5) (N := 3) hx hb hts (inX5 _) hown hK hP 0 rfl rfl 1 (by decide) (hts _ (List.mem_cons_of_mem _ wf5_17)) (fun _ h9 => h9) rfl dX5_isFit_116 ?_
              refine lv_iload_n hx hb dX5_isFit_119 rfl (lv_at hl 2 rfl) ?_
              obtain ⟨r20, hz20, hm⟩ := mr_bind hm
              refine mr_pV (As := [.int x2]) (rest := [.int r19, .ref obP]) (sr_okZ adK adV) ⟨hx, hb, hml, hown, hts⟩ (kX6_first l htr dC dI adK adV cI cB cJ cZ cQ obV vq_plain vq_kinds vq_meant vq_firsts vq_nexts vq_names vq_fieldNames vq_amounts vq_fieldDefaults vq_enumDefaults v_letterCount v_slotCount v_meant v_firsts x2 r20 hz20) (cwV 1 hts (g5_34 _) rfl rfl rfl (by decide +kernel) ⟨(by show 1 + 1 ≤ 2 * (d + 1) + 5; omega), (by show 8 + (2 + 11) + (21) ≤ 50 * (d + 1) + 116; omega)⟩) hS hP hK hz0 [9, 12, 13] rfl (va_recv hK hP (ci := 8) (q0 := 9) rfl rfl) rfl rfl hl.1 (Nat.le_of_ble_eq_true rfl) dX5_isFit_120 ⟨Nat.zero_le _, Nat.zero_le _⟩ ?_
              refine lv_iload_n hx hb dX5_isFit_123 rfl (lv_at hl 3 rfl) ?_
              refine lv_iconst (v := 1) hx hb dX5_isFit_124 (by decide) ?_
              refine lv_iadd hx hb dX5_isFit_125 ?_
              obtain ⟨⟨r21, c_firsts_21, c_seconds_21, c_count_21⟩, hz21, hm⟩ := mr_bind hm
              try dsimp only at hm
              refine mr_wVi (As := [.int r19, .int r20, .int (x3 + 1)]) (rest := []) (sr_okZ adK adV) ⟨hx, hb, hml, hown, hts⟩ (ihd w_letterCount w_slotCount v_letterCount v_slotCount c_count w_plain w_kinds w_meant w_firsts w_nexts w_names w_amounts v_plain v_kinds v_meant v_firsts v_nexts v_names v_amounts v_enumDefaults c_firsts c_seconds _ r19 r20 (x3 + 1) _ hz21) (cwV 3 hts (g5_56 _) rfl rfl rfl (by decide +kernel) ⟨(by show 2 * d + 5 + 1 ≤ 2 * (d + 1) + 5; omega), (by show 8 + (6 + 11) + (50 * d + 116) ≤ 50 * (d + 1) + 116; omega)⟩) hS hA hP hD hK hz0 (wr := []) (w1 := [(obP, .inr (7, [.ref obW, .ref obV, .ref obC])), (obW, .inr (8, [.ref wq_plain, .ref wq_kinds, .ref wq_meant, .ref wq_firsts, .ref wq_nexts, .ref wq_names, .ref wq_fieldNames, .ref wq_amounts, .ref wq_fieldDefaults, .ref wq_enumDefaults, .int w_letterCount, .int w_slotCount])), (wq_plain, .inl (cB, 4096, .inl w_plain)), (wq_kinds, .inl (cI, 128, .inl w_kinds)), (wq_meant, .inl (cI, 128, .inl w_meant)), (wq_firsts, .inl (cI, 128, .inl w_firsts)), (wq_nexts, .inl (cI, 128, .inl w_nexts)), (wq_names, .inl (cI, 128, .inl w_names)), (wq_amounts, .inl (cI, 128, .inl w_amounts)), (obV, .inr (8, [.ref vq_plain, .ref vq_kinds, .ref vq_meant, .ref vq_firsts, .ref vq_nexts, .ref vq_names, .ref vq_fieldNames, .ref vq_amounts, .ref vq_fieldDefaults, .ref vq_enumDefaults, .int v_letterCount, .int v_slotCount])), (vq_plain, .inl (cB, 4096, .inl v_plain)), (vq_kinds, .inl (cI, 128, .inl v_kinds)), (vq_meant, .inl (cI, 128, .inl v_meant)), (vq_firsts, .inl (cI, 128, .inl v_firsts)), (vq_nexts, .inl (cI, 128, .inl v_nexts)), (vq_names, .inl (cI, 128, .inl v_names)), (vq_amounts, .inl (cI, 128, .inl v_amounts)), (vq_enumDefaults, .inl (cZ, 128, .inl v_enumDefaults)), (obC, .inr (3, [.ref cq_firsts, .ref cq_seconds, .int c_count_21])), (cq_firsts, .inl (cI, 128, .inl c_firsts_21)), (cq_seconds, .inl (cI, 128, .inl c_seconds_21))]) [0, 1, 2, 3, 4, 5, 6, 7, 8, 9, 10, 11, 12, 13, 14, 15, 16, 17, 18, 19, 20] [] [0, 1, 2, 3, 4, 5, 6, 7, 8, 9, 10, 11, 12, 13, 14, 15, 16, 17, 18, 19, 20] rfl rfl rfl rfl rfl (by decide) rfl rfl rfl (va_recv hK hP (ci := 7) (q0 := 0) rfl rfl) rfl rfl hl.1 (Nat.le_of_ble_eq_true rfl) dX5_isFit_126 ⟨Nat.zero_le _, Nat.zero_le _⟩ (fun H locs hP hD hS => ?_)
              obtain ⟨h22, hm⟩ := mr_bz hm
              obtain rfl := Option.some.inj hm
              subst hQ0
              exact W.zret (v := r21) hx hb hr h22 (fun t ht hW => ⟨⟨r21, (c_firsts_21, c_seconds_21, c_count_21), rfl, ⟨rfl, rfl⟩, by rw [ht]; exact hP, va_K.moved hW.alike hK, hD⟩, hS.F ht⟩) hS.2.2 dX5_isFit_129
            refine lv_icmp_eq (tgt := 106) hx hb dX5_isFit_96 (by decide) (fun c23 => ?_) (fun c23 => ?_)
            · have hm := mr_if c23 hm
              exact j106 c_firsts c_seconds c_count a0 a1 a2 _ _ ls hP hD hS (lv_sub hl [1, 2, 3, 4] rfl) hm
            · have hm := mr_un c23 hm
              refine lv_iload hx hb dX5_isFit_99 (lv_at hl 0 rfl) ?_
              refine lv_bipush (v := 7) hx hb dX5_isFit_101 (by decide) ?_
              refine lv_icmp_ne (tgt := 130) hx hb dX5_isFit_103 (by decide) (fun c24 => ?_) (fun c24 => ?_)
              · have hm := mr_un c24 hm
                exact j130 c_firsts c_seconds c_count a0 a1 r2 _ _ ls hP hD hS (lv_sub hl [1, 2, 3, 0] rfl) hm
              · have hm := mr_if c24 hm
                exact j106 c_firsts c_seconds c_count a0 a1 a2 _ _ ls hP hD hS (lv_sub hl [1, 2, 3, 4] rfl) hm
        · have hm := mr_if c5 hm
          refine lv_aload_n hx hb dX5_isFit_46 rfl (lv_at hl 1 rfl) ?_
          refine lv_iload_n hx hb dX5_isFit_47 rfl (lv_at hl 2 rfl) ?_
          refine lv_iload_n hx hb dX5_isFit_48 rfl (lv_at hl 3 rfl) ?_
          obtain ⟨r25, hz25, hm⟩ := mr_bind hm
          refine mr_pV (As := [.int a0, .int a1]) (rest := []) (sr_okZ adK adV) ⟨hx, hb, hml, hown, hts⟩ (kX5_firstMatch l htr dC dI adK adV cI cB cJ cZ cQ obP obW obV obC wq_plain wq_kinds wq_meant wq_firsts wq_nexts wq_names wq_fieldNames wq_amounts wq_fieldDefaults wq_enumDefaults vq_plain vq_kinds vq_meant vq_firsts vq_nexts vq_names vq_fieldNames vq_amounts vq_fieldDefaults vq_enumDefaults w_letterCount w_slotCount v_letterCount v_slotCount w_plain w_kinds w_meant w_firsts w_names w_amounts v_plain v_kinds v_meant v_firsts v_nexts v_names v_amounts a0 a1 r25 hz25) (cwV 2 hts (g5_74 _) rfl rfl rfl (by decide +kernel) ⟨(by show 4 + 1 ≤ 2 * (d + 1) + 5; omega), (by show 8 + (5 + 11) + (92) ≤ 50 * (d + 1) + 116; omega)⟩) hS hP hK hz0 [0, 1, 2, 3, 4, 5, 7, 8, 9, 10, 11, 12, 13, 14, 15, 16] rfl (va_recv hK hP (ci := 7) (q0 := 0) rfl rfl) rfl rfl hl.1 (Nat.le_of_ble_eq_true rfl) dX5_isFit_49 ⟨Nat.zero_le _, Nat.zero_le _⟩ ?_
          refine lv_istore (lv' := [(5, .int r25), (4, .int r2), (0, .ref obP), (1, .int a0), (2, .int a1), (3, .int a2)]) hx hb dX5_isFit_52 hl (by decide) rfl (fun ls hl => ?_)
          refine lv_iload hx hb dX5_isFit_54 (lv_at hl 0 rfl) ?_
          refine lv_iconst (v := -1) hx hb dX5_isFit_56 (by decide) ?_
          refine lv_icmp_eq (tgt := 77) hx hb dX5_isFit_57 (by decide) (fun c26 => ?_) (fun c26 => ?_)
          · have hm := mr_if c26 hm
            refine lv_iconst (v := 0) hx hb dX5_isFit_77 (by decide) ?_
            obtain rfl := Option.some.inj hm
            subst hQ0
            exact W.zret (v := 0) hx hb hr rfl (fun t ht hW => ⟨⟨0, (c_firsts, c_seconds, c_count), rfl, ⟨rfl, rfl⟩, by rw [ht]; exact hP, va_K.moved hW.alike hK, hD⟩, hS.F ht⟩) hS.2.2 dX5_isFit_78
          · have hm := mr_un c26 hm
            refine lv_aload_n hx hb dX5_isFit_60 rfl (lv_at hl 2 rfl) ?_
            refine lv_iload_n hx hb dX5_isFit_61 rfl (lv_at hl 3 rfl) ?_
            refine lv_iload hx hb dX5_isFit_62 (lv_at hl 0 rfl) ?_
            refine lv_iload_n hx hb dX5_isFit_64 rfl (lv_at hl 5 rfl) ?_
            refine lv_iconst (v := 1) hx hb dX5_isFit_65 (by decide) ?_
            refine lv_iadd hx hb dX5_isFit_66 ?_
            obtain ⟨⟨r27, c_firsts_27, c_seconds_27, c_count_27⟩, hz27, hm⟩ := mr_bind hm
            try dsimp only at hm
            refine mr_wVi (As := [.int a0, .int r25, .int (a2 + 1)]) (rest := []) (sr_okZ adK adV) ⟨hx, hb, hml, hown, hts⟩ (ihd w_letterCount w_slotCount v_letterCount v_slotCount c_count w_plain w_kinds w_meant w_firsts w_nexts w_names w_amounts v_plain v_kinds v_meant v_firsts v_nexts v_names v_amounts v_enumDefaults c_firsts c_seconds _ a0 r25 (a2 + 1) _ hz27) (cwV 3 hts (g5_56 _) rfl rfl rfl (by decide +kernel) ⟨(by show 2 * d + 5 + 1 ≤ 2 * (d + 1) + 5; omega), (by show 8 + (6 + 11) + (50 * d + 116) ≤ 50 * (d + 1) + 116; omega)⟩) hS hA hP hD hK hz0 (wr := []) (w1 := [(obP, .inr (7, [.ref obW, .ref obV, .ref obC])), (obW, .inr (8, [.ref wq_plain, .ref wq_kinds, .ref wq_meant, .ref wq_firsts, .ref wq_nexts, .ref wq_names, .ref wq_fieldNames, .ref wq_amounts, .ref wq_fieldDefaults, .ref wq_enumDefaults, .int w_letterCount, .int w_slotCount])), (wq_plain, .inl (cB, 4096, .inl w_plain)), (wq_kinds, .inl (cI, 128, .inl w_kinds)), (wq_meant, .inl (cI, 128, .inl w_meant)), (wq_firsts, .inl (cI, 128, .inl w_firsts)), (wq_nexts, .inl (cI, 128, .inl w_nexts)), (wq_names, .inl (cI, 128, .inl w_names)), (wq_amounts, .inl (cI, 128, .inl w_amounts)), (obV, .inr (8, [.ref vq_plain, .ref vq_kinds, .ref vq_meant, .ref vq_firsts, .ref vq_nexts, .ref vq_names, .ref vq_fieldNames, .ref vq_amounts, .ref vq_fieldDefaults, .ref vq_enumDefaults, .int v_letterCount, .int v_slotCount])), (vq_plain, .inl (cB, 4096, .inl v_plain)), (vq_kinds, .inl (cI, 128, .inl v_kinds)), (vq_meant, .inl (cI, 128, .inl v_meant)), (vq_firsts, .inl (cI, 128, .inl v_firsts)), (vq_nexts, .inl (cI, 128, .inl v_nexts)), (vq_names, .inl (cI, 128, .inl v_names)), (vq_amounts, .inl (cI, 128, .inl v_amounts)), (vq_enumDefaults, .inl (cZ, 128, .inl v_enumDefaults)), (obC, .inr (3, [.ref cq_firsts, .ref cq_seconds, .int c_count_27])), (cq_firsts, .inl (cI, 128, .inl c_firsts_27)), (cq_seconds, .inl (cI, 128, .inl c_seconds_27))]) [0, 1, 2, 3, 4, 5, 6, 7, 8, 9, 10, 11, 12, 13, 14, 15, 16, 17, 18, 19, 20] [] [0, 1, 2, 3, 4, 5, 6, 7, 8, 9, 10, 11, 12, 13, 14, 15, 16, 17, 18, 19, 20] rfl rfl rfl rfl rfl (by decide) rfl rfl rfl (va_recv hK hP (ci := 7) (q0 := 0) rfl rfl) rfl rfl hl.1 (Nat.le_of_ble_eq_true rfl) dX5_isFit_67 ⟨Nat.zero_le _, Nat.zero_le _⟩ (fun H locs hP hD hS => ?_)
            refine lv_if_eq (tgt := 77) hx hb dX5_isFit_70 (by decide) (fun c28 => ?_) (fun c28 => ?_)
            · have hm := mr_if c28 hm
              refine lv_iconst (v := 0) hx hb dX5_isFit_77 (by decide) ?_
              obtain rfl := Option.some.inj hm
              subst hQ0
              exact W.zret (v := 0) hx hb hr rfl (fun t ht hW => ⟨⟨0, (c_firsts_27, c_seconds_27, c_count_27), rfl, ⟨rfl, rfl⟩, by rw [ht]; exact hP, va_K.moved hW.alike hK, hD⟩, hS.F ht⟩) hS.2.2 dX5_isFit_78
            · have hm := mr_un c28 hm
              refine lv_iconst (v := 1) hx hb dX5_isFit_73 (by decide) ?_
              refine lv_goto (tgt := 78) hx hb dX5_isFit_74 (by decide) ?_
              obtain rfl := Option.some.inj hm
              subst hQ0
              exact W.zret (v := 1) hx hb hr rfl (fun t ht hW => ⟨⟨1, (c_firsts_27, c_seconds_27, c_count_27), rfl, ⟨rfl, rfl⟩, by rw [ht]; exact hP, va_K.moved hW.alike hK, hD⟩, hS.F ht⟩) hS.2.2 dX5_isFit_78
      · have hm := mr_if c3 hm
        refine lv_aload_n hx hb dX5_isFit_25 rfl (lv_at hl 1 rfl) ?_
        refine lv_iload_n hx hb dX5_isFit_26 rfl (lv_at hl 2 rfl) ?_
        refine lv_iload_n hx hb dX5_isFit_27 rfl (lv_at hl 3 rfl) ?_
        refine lv_iload_n hx hb dX5_isFit_28 rfl (lv_at hl 4 rfl) ?_
        obtain ⟨⟨r29, c_firsts_29, c_seconds_29, c_count_29⟩, hz29, hm⟩ := mr_bind hm
        try dsimp only at hm
        refine mr_wVi (As := [.int a0, .int a1, .int a2]) (rest := []) (sr_okZ adK adV) ⟨hx, hb, hml, hown, hts⟩ (kX5_isEveryBranchFit l htr dC dI adK adV cI cB cJ cZ cQ obP obW obV obC wq_plain wq_kinds wq_meant wq_firsts wq_nexts wq_names wq_fieldNames wq_amounts wq_fieldDefaults wq_enumDefaults vq_plain vq_kinds vq_meant vq_firsts vq_nexts vq_names vq_fieldNames vq_amounts vq_fieldDefaults vq_enumDefaults cq_firsts cq_seconds (m_X5_isFit d) d ihd w_letterCount w_slotCount v_letterCount v_slotCount c_count w_plain w_kinds w_meant w_firsts w_nexts w_names w_amounts v_plain v_kinds v_meant v_firsts v_nexts v_names v_amounts v_enumDefaults c_firsts c_seconds _ a0 a1 a2 _ hz29) (cwV 3 hts (g5_71 _) rfl rfl rfl (by decide +kernel) ⟨(by show 2 * d + 6 + 1 ≤ 2 * (d + 1) + 5; omega), (by show 8 + (6 + 11) + (50 * d + 141) ≤ 50 * (d + 1) + 116; omega)⟩) hS hA hP hD hK hz0 (wr := []) (w1 := [(obP, .inr (7, [.ref obW, .ref obV, .ref obC])), (obW, .inr (8, [.ref wq_plain, .ref wq_kinds, .ref wq_meant, .ref wq_firsts, .ref wq_nexts, .ref wq_names, .ref wq_fieldNames, .ref wq_amounts, .ref wq_fieldDefaults, .ref wq_enumDefaults, .int w_letterCount, .int w_slotCount])), (wq_plain, .inl (cB, 4096, .inl w_plain)), (wq_kinds, .inl (cI, 128, .inl w_kinds)), (wq_meant, .inl (cI, 128, .inl w_meant)), (wq_firsts, .inl (cI, 128, .inl w_firsts)), (wq_nexts, .inl (cI, 128, .inl w_nexts)), (wq_names, .inl (cI, 128, .inl w_names)), (wq_amounts, .inl (cI, 128, .inl w_amounts)), (obV, .inr (8, [.ref vq_plain, .ref vq_kinds, .ref vq_meant, .ref vq_firsts, .ref vq_nexts, .ref vq_names, .ref vq_fieldNames, .ref vq_amounts, .ref vq_fieldDefaults, .ref vq_enumDefaults, .int v_letterCount, .int v_slotCount])), (vq_plain, .inl (cB, 4096, .inl v_plain)), (vq_kinds, .inl (cI, 128, .inl v_kinds)), (vq_meant, .inl (cI, 128, .inl v_meant)), (vq_firsts, .inl (cI, 128, .inl v_firsts)), (vq_nexts, .inl (cI, 128, .inl v_nexts)), (vq_names, .inl (cI, 128, .inl v_names)), (vq_amounts, .inl (cI, 128, .inl v_amounts)), (vq_enumDefaults, .inl (cZ, 128, .inl v_enumDefaults)), (obC, .inr (3, [.ref cq_firsts, .ref cq_seconds, .int c_count_29])), (cq_firsts, .inl (cI, 128, .inl c_firsts_29)), (cq_seconds, .inl (cI, 128, .inl c_seconds_29))]) [0, 1, 2, 3, 4, 5, 6, 7, 8, 9, 10, 11, 12, 13, 14, 15, 16, 17, 18, 19, 20] [] [0, 1, 2, 3, 4, 5, 6, 7, 8, 9, 10, 11, 12, 13, 14, 15, 16, 17, 18, 19, 20] rfl rfl rfl rfl rfl (by decide) rfl rfl rfl (va_recv hK hP (ci := 7) (q0 := 0) rfl rfl) rfl rfl hl.1 (Nat.le_of_ble_eq_true rfl) dX5_isFit_29 ⟨Nat.zero_le _, Nat.zero_le _⟩ (fun H locs hP hD hS => ?_)
        obtain ⟨h30, hm⟩ := mr_bz hm
        obtain rfl := Option.some.inj hm
        subst hQ0
        exact W.zret (v := r29) hx hb hr h30 (fun t ht hW => ⟨⟨r29, (c_firsts_29, c_seconds_29, c_count_29), rfl, ⟨rfl, rfl⟩, by rw [ht]; exact hP, va_K.moved hW.alike hK, hD⟩, hS.F ht⟩) hS.2.2 dX5_isFit_32
    · have hm := mr_un c1 hm
      refine lv_iconst (v := 0) hx hb dX5_isFit_6 (by decide) ?_
      obtain rfl := Option.some.inj hm
      subst hQ0
      exact W.zret (v := 0) hx hb hr rfl (fun t ht hW => ⟨⟨0, (c_firsts, c_seconds, c_count), rfl, ⟨rfl, rfl⟩, by rw [ht]; exact hP, va_K.moved hW.alike hK, hD⟩, hS.F ht⟩) hS.2.2 dX5_isFit_7
set_option maxHeartbeats 4000000 in
set_option maxRecDepth 100000 in
theorem kX5_isFieldsFit (l : Launch) (htr : l.stackTraces = false) (dC : Nat → ClassId) (dI : Nat → Nat → Nat) (adK adV : Nat → Nat) (cI cB cJ cZ cQ : ClassId) (obP obW obV obC wq_plain wq_kinds wq_meant wq_firsts wq_nexts wq_names wq_fieldNames wq_amounts wq_fieldDefaults wq_enumDefaults vq_plain vq_kinds vq_meant vq_firsts vq_nexts vq_names vq_fieldNames vq_amounts vq_fieldDefaults vq_enumDefaults cq_firsts cq_seconds : Nat) (w_letterCount : Int32) (w_slotCount : Int32) (v_letterCount : Int32) (v_slotCount : Int32) (c_count : Int32) (w_plain : Nat → Int32) (w_kinds : Nat → Int32) (w_meant : Nat → Int32) (w_firsts : Nat → Int32) (w_nexts : Nat → Int32) (w_names : Nat → Int32) (w_fieldNames : Nat → Int32) (w_amounts : Nat → Int32) (v_plain : Nat → Int32) (v_kinds : Nat → Int32) (v_meant : Nat → Int32) (v_firsts : Nat → Int32) (v_nexts : Nat → Int32) (v_names : Nat → Int32) (v_fieldNames : Nat → Int32) (v_amounts : Nat → Int32) (v_fieldDefaults : Nat → Int32) (v_enumDefaults : Nat → Int32) (c_firsts : Nat → Int32) (c_seconds : Nat → Int32) (sz : Nat) (a0 : Int32) (a1 : Int32) (res : Int32 × (Nat → Int32) × (Nat → Int32) × Int32) (hm : m_X5_isFieldsFit w_plain w_kinds w_meant w_firsts w_nexts w_names w_fieldNames w_amounts w_letterCount v_plain v_kinds v_meant v_firsts v_nexts v_names v_fieldNames v_amounts v_fieldDefaults v_enumDefaults v_letterCount c_firsts c_seconds c_count a0 a1 = some res) : Met l yX5_isFieldsFit wsX5_isFieldsFit (rmX5_isFieldsFit 0 0) (pcW (sr_Z adK adV) (dC, dI) srCl [(cI, .int), (cB, .byte), (cJ, .long), (cZ, .boolean), (cQ, .object "SchemaReader$Schema")] [.ref obP, .int a0, .int a1] [(obP, .inr (7, [.ref obW, .ref obV, .ref obC])), (obW, .inr (8, [.ref wq_plain, .ref wq_kinds, .ref wq_meant, .ref wq_firsts, .ref wq_nexts, .ref wq_names, .ref wq_fieldNames, .ref wq_amounts, .ref wq_fieldDefaults, .ref wq_enumDefaults, .int w_letterCount, .int w_slotCount])), (wq_plain, .inl (cB, 4096, .inl w_plain)), (wq_kinds, .inl (cI, 128, .inl w_kinds)), (wq_meant, .inl (cI, 128, .inl w_meant)), (wq_firsts, .inl (cI, 128, .inl w_firsts)), (wq_nexts, .inl (cI, 128, .inl w_nexts)), (wq_names, .inl (cI, 128, .inl w_names)), (wq_fieldNames, .inl (cI, 128, .inl w_fieldNames)), (wq_amounts, .inl (cI, 128, .inl w_amounts)), (obV, .inr (8, [.ref vq_plain, .ref vq_kinds, .ref vq_meant, .ref vq_firsts, .ref vq_nexts, .ref vq_names, .ref vq_fieldNames, .ref vq_amounts, .ref vq_fieldDefaults, .ref vq_enumDefaults, .int v_letterCount, .int v_slotCount])), (vq_plain, .inl (cB, 4096, .inl v_plain)), (vq_kinds, .inl (cI, 128, .inl v_kinds)), (vq_meant, .inl (cI, 128, .inl v_meant)), (vq_firsts, .inl (cI, 128, .inl v_firsts)), (vq_nexts, .inl (cI, 128, .inl v_nexts)), (vq_names, .inl (cI, 128, .inl v_names)), (vq_fieldNames, .inl (cI, 128, .inl v_fieldNames)), (vq_amounts, .inl (cI, 128, .inl v_amounts)), (vq_fieldDefaults, .inl (cZ, 128, .inl v_fieldDefaults)), (vq_enumDefaults, .inl (cZ, 128, .inl v_enumDefaults)), (obC, .inr (3, [.ref cq_firsts, .ref cq_seconds, .int c_count])), (cq_firsts, .inl (cI, 128, .inl c_firsts)), (cq_seconds, .inl (cI, 128, .inl c_seconds))] sz) (va_Qi (fun r' u' => r' = res.1 ∧ u' = res.2) (pcB (dC, dI) srCl [(cI, .int), (cB, .byte), (cJ, .long), (cZ, .boolean), (cQ, .object "SchemaReader$Schema")] (fun u : (Nat → Int32) × (Nat → Int32) × Int32 => [(obP, .inr (7, [.ref obW, .ref obV, .ref obC])), (obW, .inr (8, [.ref wq_plain, .ref wq_kinds, .ref wq_meant, .ref wq_firsts, .ref wq_nexts, .ref wq_names, .ref wq_fieldNames, .ref wq_amounts, .ref wq_fieldDefaults, .ref wq_enumDefaults, .int w_letterCount, .int w_slotCount])), (wq_plain, .inl (cB, 4096, .inl w_plain)), (wq_kinds, .inl (cI, 128, .inl w_kinds)), (wq_meant, .inl (cI, 128, .inl w_meant)), (wq_firsts, .inl (cI, 128, .inl w_firsts)), (wq_nexts, .inl (cI, 128, .inl w_nexts)), (wq_names, .inl (cI, 128, .inl w_names)), (wq_fieldNames, .inl (cI, 128, .inl w_fieldNames)), (wq_amounts, .inl (cI, 128, .inl w_amounts)), (obV, .inr (8, [.ref vq_plain, .ref vq_kinds, .ref vq_meant, .ref vq_firsts, .ref vq_nexts, .ref vq_names, .ref vq_fieldNames, .ref vq_amounts, .ref vq_fieldDefaults, .ref vq_enumDefaults, .int v_letterCount, .int v_slotCount])), (vq_plain, .inl (cB, 4096, .inl v_plain)), (vq_kinds, .inl (cI, 128, .inl v_kinds)), (vq_meant, .inl (cI, 128, .inl v_meant)), (vq_firsts, .inl (cI, 128, .inl v_firsts)), (vq_nexts, .inl (cI, 128, .inl v_nexts)), (vq_names, .inl (cI, 128, .inl v_names)), (vq_fieldNames, .inl (cI, 128, .inl v_fieldNames)), (vq_amounts, .inl (cI, 128, .inl v_amounts)), (vq_fieldDefaults, .inl (cZ, 128, .inl v_fieldDefaults)), (vq_enumDefaults, .inl (cZ, 128, .inl v_enumDefaults)), (obC, .inr (3, [.ref cq_firsts, .ref cq_seconds, .int u.2.2])), (cq_firsts, .inl (cI, 128, .inl u.1)), (cq_seconds, .inl (cI, 128, .inl u.2.1))]) (va_A [(obP, .inr (7, [.ref obW, .ref obV, .ref obC])), (obW, .inr (8, [.ref wq_plain, .ref wq_kinds, .ref wq_meant, .ref wq_firsts, .ref wq_nexts, .ref wq_names, .ref wq_fieldNames, .ref wq_amounts, .ref wq_fieldDefaults, .ref wq_enumDefaults, .int w_letterCount, .int w_slotCount])), (wq_plain, .inl (cB, 4096, .inl w_plain)), (wq_kinds, .inl (cI, 128, .inl w_kinds)), (wq_meant, .inl (cI, 128, .inl w_meant)), (wq_firsts, .inl (cI, 128, .inl w_firsts)), (wq_nexts, .inl (cI, 128, .inl w_nexts)), (wq_names, .inl (cI, 128, .inl w_names)), (wq_fieldNames, .inl (cI, 128, .inl w_fieldNames)), (wq_amounts, .inl (cI, 128, .inl w_amounts)), (obV, .inr (8, [.ref vq_plain, .ref vq_kinds, .ref vq_meant, .ref vq_firsts, .ref vq_nexts, .ref vq_names, .ref vq_fieldNames, .ref vq_amounts, .ref vq_fieldDefaults, .ref vq_enumDefaults, .int v_letterCount, .int v_slotCount])), (vq_plain, .inl (cB, 4096, .inl v_plain)), (vq_kinds, .inl (cI, 128, .inl v_kinds)), (vq_meant, .inl (cI, 128, .inl v_meant)), (vq_firsts, .inl (cI, 128, .inl v_firsts)), (vq_nexts, .inl (cI, 128, .inl v_nexts)), (vq_names, .inl (cI, 128, .inl v_names)), (vq_fieldNames, .inl (cI, 128, .inl v_fieldNames)), (vq_amounts, .inl (cI, 128, .inl v_amounts)), (vq_fieldDefaults, .inl (cZ, 128, .inl v_fieldDefaults)), (vq_enumDefaults, .inl (cZ, 128, .inl v_enumDefaults)), (obC, .inr (3, [.ref cq_firsts, .ref cq_seconds, .int c_count])), (cq_firsts, .inl (cI, 128, .inl c_firsts)), (cq_seconds, .inl (cI, 128, .inl c_seconds))] sz)) (va_A [(obP, .inr (7, [.ref obW, .ref obV, .ref obC])), (obW, .inr (8, [.ref wq_plain, .ref wq_kinds, .ref wq_meant, .ref wq_firsts, .ref wq_nexts, .ref wq_names, .ref wq_fieldNames, .ref wq_amounts, .ref wq_fieldDefaults, .ref wq_enumDefaults, .int w_letterCount, .int w_slotCount])), (wq_plain, .inl (cB, 4096, .inl w_plain)), (wq_kinds, .inl (cI, 128, .inl w_kinds)), (wq_meant, .inl (cI, 128, .inl w_meant)), (wq_firsts, .inl (cI, 128, .inl w_firsts)), (wq_nexts, .inl (cI, 128, .inl w_nexts)), (wq_names, .inl (cI, 128, .inl w_names)), (wq_fieldNames, .inl (cI, 128, .inl w_fieldNames)), (wq_amounts, .inl (cI, 128, .inl w_amounts)), (obV, .inr (8, [.ref vq_plain, .ref vq_kinds, .ref vq_meant, .ref vq_firsts, .ref vq_nexts, .ref vq_names, .ref vq_fieldNames, .ref vq_amounts, .ref vq_fieldDefaults, .ref vq_enumDefaults, .int v_letterCount, .int v_slotCount])), (vq_plain, .inl (cB, 4096, .inl v_plain)), (vq_kinds, .inl (cI, 128, .inl v_kinds)), (vq_meant, .inl (cI, 128, .inl v_meant)), (vq_firsts, .inl (cI, 128, .inl v_firsts)), (vq_nexts, .inl (cI, 128, .inl v_nexts)), (vq_names, .inl (cI, 128, .inl v_names)), (vq_fieldNames, .inl (cI, 128, .inl v_fieldNames)), (vq_amounts, .inl (cI, 128, .inl v_amounts)), (vq_fieldDefaults, .inl (cZ, 128, .inl v_fieldDefaults)), (vq_enumDefaults, .inl (cZ, 128, .inl v_enumDefaults)), (obC, .inr (3, [.ref cq_firsts, .ref cq_seconds, .int c_count])), (cq_firsts, .inl (cI, 128, .inl c_firsts)), (cq_seconds, .inl (cI, 128, .inl c_seconds))] sz)) 0 0 (va_A [(obP, .inr (7, [.ref obW, .ref obV, .ref obC])), (obW, .inr (8, [.ref wq_plain, .ref wq_kinds, .ref wq_meant, .ref wq_firsts, .ref wq_nexts, .ref wq_names, .ref wq_fieldNames, .ref wq_amounts, .ref wq_fieldDefaults, .ref wq_enumDefaults, .int w_letterCount, .int w_slotCount])), (wq_plain, .inl (cB, 4096, .inl w_plain)), (wq_kinds, .inl (cI, 128, .inl w_kinds)), (wq_meant, .inl (cI, 128, .inl w_meant)), (wq_firsts, .inl (cI, 128, .inl w_firsts)), (wq_nexts, .inl (cI, 128, .inl w_nexts)), (wq_names, .inl (cI, 128, .inl w_names)), (wq_fieldNames, .inl (cI, 128, .inl w_fieldNames)), (wq_amounts, .inl (cI, 128, .inl w_amounts)), (obV, .inr (8, [.ref vq_plain, .ref vq_kinds, .ref vq_meant, .ref vq_firsts, .ref vq_nexts, .ref vq_names, .ref vq_fieldNames, .ref vq_amounts, .ref vq_fieldDefaults, .ref vq_enumDefaults, .int v_letterCount, .int v_slotCount])), (vq_plain, .inl (cB, 4096, .inl v_plain)), (vq_kinds, .inl (cI, 128, .inl v_kinds)), (vq_meant, .inl (cI, 128, .inl v_meant)), (vq_firsts, .inl (cI, 128, .inl v_firsts)), (vq_nexts, .inl (cI, 128, .inl v_nexts)), (vq_names, .inl (cI, 128, .inl v_names)), (vq_fieldNames, .inl (cI, 128, .inl v_fieldNames)), (vq_amounts, .inl (cI, 128, .inl v_amounts)), (vq_fieldDefaults, .inl (cZ, 128, .inl v_fieldDefaults)), (vq_enumDefaults, .inl (cZ, 128, .inl v_enumDefaults)), (obC, .inr (3, [.ref cq_firsts, .ref cq_seconds, .int c_count])), (cq_firsts, .inl (cI, 128, .inl c_firsts)), (cq_seconds, .inl (cI, 128, .inl c_seconds))] sz) := by
  refine Met.ofW (cc := cX5_isFieldsFit) (maxL := 6) (ret := (some .boolean)) (by decide) rfl ?_
  intro p e s m args below meth c s₁ B hml hv
  obtain ⟨rfl, hsz, hP, hK, hD0, hz0⟩ := hv
  have hx := B.exec
  have hb := B.bytes
  have hr := B.returns
  have hts := atoms_spec (ws := wsX5_isFieldsFit) B.pre
  have hown : s.vm.findClass RX5 = some m.cls := findClass_of_methodNamed B.named
  have hlocks := B.notSynchronized
  subst hsz
  have hD := hD0.self (sz := s.heap.size)
  generalize hAe : va_A [(obP, .inr (7, [.ref obW, .ref obV, .ref obC])), (obW, .inr (8, [.ref wq_plain, .ref wq_kinds, .ref wq_meant, .ref wq_firsts, .ref wq_nexts, .ref wq_names, .ref wq_fieldNames, .ref wq_amounts, .ref wq_fieldDefaults, .ref wq_enumDefaults, .int w_letterCount, .int w_slotCount])), (wq_plain, .inl (cB, 4096, .inl w_plain)), (wq_kinds, .inl (cI, 128, .inl w_kinds)), (wq_meant, .inl (cI, 128, .inl w_meant)), (wq_firsts, .inl (cI, 128, .inl w_firsts)), (wq_nexts, .inl (cI, 128, .inl w_nexts)), (wq_names, .inl (cI, 128, .inl w_names)), (wq_fieldNames, .inl (cI, 128, .inl w_fieldNames)), (wq_amounts, .inl (cI, 128, .inl w_amounts)), (obV, .inr (8, [.ref vq_plain, .ref vq_kinds, .ref vq_meant, .ref vq_firsts, .ref vq_nexts, .ref vq_names, .ref vq_fieldNames, .ref vq_amounts, .ref vq_fieldDefaults, .ref vq_enumDefaults, .int v_letterCount, .int v_slotCount])), (vq_plain, .inl (cB, 4096, .inl v_plain)), (vq_kinds, .inl (cI, 128, .inl v_kinds)), (vq_meant, .inl (cI, 128, .inl v_meant)), (vq_firsts, .inl (cI, 128, .inl v_firsts)), (vq_nexts, .inl (cI, 128, .inl v_nexts)), (vq_names, .inl (cI, 128, .inl v_names)), (vq_fieldNames, .inl (cI, 128, .inl v_fieldNames)), (vq_amounts, .inl (cI, 128, .inl v_amounts)), (vq_fieldDefaults, .inl (cZ, 128, .inl v_fieldDefaults)), (vq_enumDefaults, .inl (cZ, 128, .inl v_enumDefaults)), (obC, .inr (3, [.ref cq_firsts, .ref cq_seconds, .int c_count])), (cq_firsts, .inl (cI, 128, .inl c_firsts)), (cq_seconds, .inl (cI, 128, .inl c_seconds))] s.heap.size = A at hD hz0 ⊢
  have hA : ∀ q : Nat, s.heap.size ≤ q → A q := fun q h => by rw [← hAe]; exact Or.inr h
  have hS : va_S A s.heap s.heap [] := va_S.rf
  generalize hQ0 : MQ below (va_Qi (fun r' u' => r' = res.1 ∧ u' = res.2) (pcB (dC, dI) srCl [(cI, .int), (cB, .byte), (cJ, .long), (cZ, .boolean), (cQ, .object "SchemaReader$Schema")] (fun u : (Nat → Int32) × (Nat → Int32) × Int32 => [(obP, .inr (7, [.ref obW, .ref obV, .ref obC])), (obW, .inr (8, [.ref wq_plain, .ref wq_kinds, .ref wq_meant, .ref wq_firsts, .ref wq_nexts, .ref wq_names, .ref wq_fieldNames, .ref wq_amounts, .ref wq_fieldDefaults, .ref wq_enumDefaults, .int w_letterCount, .int w_slotCount])), (wq_plain, .inl (cB, 4096, .inl w_plain)), (wq_kinds, .inl (cI, 128, .inl w_kinds)), (wq_meant, .inl (cI, 128, .inl w_meant)), (wq_firsts, .inl (cI, 128, .inl w_firsts)), (wq_nexts, .inl (cI, 128, .inl w_nexts)), (wq_names, .inl (cI, 128, .inl w_names)), (wq_fieldNames, .inl (cI, 128, .inl w_fieldNames)), (wq_amounts, .inl (cI, 128, .inl w_amounts)), (obV, .inr (8, [.ref vq_plain, .ref vq_kinds, .ref vq_meant, .ref vq_firsts, .ref vq_nexts, .ref vq_names, .ref vq_fieldNames, .ref vq_amounts, .ref vq_fieldDefaults, .ref vq_enumDefaults, .int v_letterCount, .int v_slotCount])), (vq_plain, .inl (cB, 4096, .inl v_plain)), (vq_kinds, .inl (cI, 128, .inl v_kinds)), (vq_meant, .inl (cI, 128, .inl v_meant)), (vq_firsts, .inl (cI, 128, .inl v_firsts)), (vq_nexts, .inl (cI, 128, .inl v_nexts)), (vq_names, .inl (cI, 128, .inl v_names)), (vq_fieldNames, .inl (cI, 128, .inl v_fieldNames)), (vq_amounts, .inl (cI, 128, .inl v_amounts)), (vq_fieldDefaults, .inl (cZ, 128, .inl v_fieldDefaults)), (vq_enumDefaults, .inl (cZ, 128, .inl v_enumDefaults)), (obC, .inr (3, [.ref cq_firsts, .ref cq_seconds, .int u.2.2])), (cq_firsts, .inl (cI, 128, .inl u.1)), (cq_seconds, .inl (cI, 128, .inl u.2.1))]) A) A) [.ref obP, .int a0, .int a1].toArray s 0 0 A = Q0
  have hl := lv_entry [.ref obP, .int a0, .int a1] (n := 6) (Nat.le_of_ble_eq_true rfl)
  rw [lg_entry_eq]
  generalize (lg_sl [.ref obP, .int a0, .int a1] ++ List.replicate (6 - (lg_sl [.ref obP, .int a0, .int a1]).length) Slot.unset).toArray = ls at hl ⊢
  have hl : lv_has ls 6 [(0, .ref obP), (1, .int a0), (2, .int a1)] := hl
  unfold m_X5_isFieldsFit at hm
  refine lv_aload_n hx hb dX5_isFieldsFit_0 rfl (lv_at hl 0 rfl) ?_
  refine va_get (D := (dC, dI)) (ci := 7) (v := .ref obV) (C := RX5) (T := TX5) (N := 3) hx hb hts (inX5 _) hown hK hP 0 rfl rfl 1 (by decide) (hts _ (List.mem_cons_of_mem _ wf5_17)) (fun _ h9 => h9) rfl dX5_isFieldsFit_1 ?_
  refine lv_iload_n hx hb dX5_isFieldsFit_4 rfl (lv_at hl 2 rfl) ?_
  obtain ⟨r1, hz1, hm⟩ := mr_bind hm
  refine mr_pV (As := [.int a1]) (rest := []) (sr_okZ adK adV) ⟨hx, hb, hml, hown, hts⟩ (kX6_first l htr dC dI adK adV cI cB cJ cZ cQ obV vq_plain vq_kinds vq_meant vq_firsts vq_nexts vq_names vq_fieldNames vq_amounts vq_fieldDefaults vq_enumDefaults v_letterCount v_slotCount v_meant v_firsts a1 r1 hz1) (cwV 1 hts (g5_34 _) rfl rfl rfl (by decide +kernel) ⟨(by show 1 + 1 ≤ 80; omega), (by show 8 + (2 + 11) + (21) ≤ 1991; omega)⟩) hS hP hK hz0 [10, 13, 14] rfl (va_recv hK hP (ci := 8) (q0 := 10) rfl rfl) rfl rfl hl.1 (Nat.le_of_ble_eq_true rfl) dX5_isFieldsFit_5 ⟨Nat.zero_le _, Nat.zero_le _⟩ ?_
  refine lv_istore_n (lv' := [(3, .int r1), (0, .ref obP), (1, .int a0), (2, .int a1)]) hx hb dX5_isFieldsFit_8 rfl hl (by decide) rfl (fun ls hl => ?_)
  refine lv_iconst (v := 0) hx hb dX5_isFieldsFit_9 (by decide) ?_
  have j12 : ∀ (n12 : Nat) (c_firsts : Nat → Int32) (c_seconds : Nat → Int32) (c_count : Int32) (x1 : Int32) (x2 : Int32) (x3 : Int32) (x4 : Int32) (H : Heap) (locs : List Loc) (ls : Array Slot), va_P (dC, dI) srCl [(obP, .inr (7, [.ref obW, .ref obV, .ref obC])), (obW, .inr (8, [.ref wq_plain, .ref wq_kinds, .ref wq_meant, .ref wq_firsts, .ref wq_nexts, .ref wq_names, .ref wq_fieldNames, .ref wq_amounts, .ref wq_fieldDefaults, .ref wq_enumDefaults, .int w_letterCount, .int w_slotCount])), (wq_plain, .inl (cB, 4096, .inl w_plain)), (wq_kinds, .inl (cI, 128, .inl w_kinds)), (wq_meant, .inl (cI, 128, .inl w_meant)), (wq_firsts, .inl (cI, 128, .inl w_firsts)), (wq_nexts, .inl (cI, 128, .inl w_nexts)), (wq_names, .inl (cI, 128, .inl w_names)), (wq_fieldNames, .inl (cI, 128, .inl w_fieldNames)), (wq_amounts, .inl (cI, 128, .inl w_amounts)), (obV, .inr (8, [.ref vq_plain, .ref vq_kinds, .ref vq_meant, .ref vq_firsts, .ref vq_nexts, .ref vq_names, .ref vq_fieldNames, .ref vq_amounts, .ref vq_fieldDefaults, .ref vq_enumDefaults, .int v_letterCount, .int v_slotCount])), (vq_plain, .inl (cB, 4096, .inl v_plain)), (vq_kinds, .inl (cI, 128, .inl v_kinds)), (vq_meant, .inl (cI, 128, .inl v_meant)), (vq_firsts, .inl (cI, 128, .inl v_firsts)), (vq_nexts, .inl (cI, 128, .inl v_nexts)), (vq_names, .inl (cI, 128, .inl v_names)), (vq_fieldNames, .inl (cI, 128, .inl v_fieldNames)), (vq_amounts, .inl (cI, 128, .inl v_amounts)), (vq_fieldDefaults, .inl (cZ, 128, .inl v_fieldDefaults)), (vq_enumDefaults, .inl (cZ, 128, .inl v_enumDefaults)), (obC, .inr (3, [.ref cq_firsts, .ref cq_seconds, .int c_count])), (cq_firsts, .inl (cI, 128, .inl c_firsts)), (cq_seconds, .inl (cI, 128, .inl c_seconds))] H → va_D A [(obP, .inr (7, [.ref obW, .ref obV, .ref obC])), (obW, .inr (8, [.ref wq_plain, .ref wq_kinds, .ref wq_meant, .ref wq_firsts, .ref wq_nexts, .ref wq_names, .ref wq_fieldNames, .ref wq_amounts, .ref wq_fieldDefaults, .ref wq_enumDefaults, .int w_letterCount, .int w_slotCount])), (wq_plain, .inl (cB, 4096, .inl w_plain)), (wq_kinds, .inl (cI, 128, .inl w_kinds)), (wq_meant, .inl (cI, 128, .inl w_meant)), (wq_firsts, .inl (cI, 128, .inl w_firsts)), (wq_nexts, .inl (cI, 128, .inl w_nexts)), (wq_names, .inl (cI, 128, .inl w_names)), (wq_fieldNames, .inl (cI, 128, .inl w_fieldNames)), (wq_amounts, .inl (cI, 128, .inl w_amounts)), (obV, .inr (8, [.ref vq_plain, .ref vq_kinds, .ref vq_meant, .ref vq_firsts, .ref vq_nexts, .ref vq_names, .ref vq_fieldNames, .ref vq_amounts, .ref vq_fieldDefaults, .ref vq_enumDefaults, .int v_letterCount, .int v_slotCount])), (vq_plain, .inl (cB, 4096, .inl v_plain)), (vq_kinds, .inl (cI, 128, .inl v_kinds)), (vq_meant, .inl (cI, 128, .inl v_meant)), (vq_firsts, .inl (cI, 128, .inl v_firsts)), (vq_nexts, .inl (cI, 128, .inl v_nexts)), (vq_names, .inl (cI, 128, .inl v_names)), (vq_fieldNames, .inl (cI, 128, .inl v_fieldNames)), (vq_amounts, .inl (cI, 128, .inl v_amounts)), (vq_fieldDefaults, .inl (cZ, 128, .inl v_fieldDefaults)), (vq_enumDefaults, .inl (cZ, 128, .inl v_enumDefaults)), (obC, .inr (3, [.ref cq_firsts, .ref cq_seconds, .int c_count])), (cq_firsts, .inl (cI, 128, .inl c_firsts)), (cq_seconds, .inl (cI, 128, .inl c_seconds))] → va_S A s.heap H locs → lv_has ls 6 [(0, .ref obP), (1, .int x1), (2, .int x2), (3, .int x3), (4, .int x4)] → m_X5_isFieldsFit_12 w_plain w_kinds w_meant w_firsts w_nexts w_names w_fieldNames w_amounts w_letterCount v_plain v_kinds v_meant v_firsts v_nexts v_names v_fieldNames v_amounts v_fieldDefaults v_enumDefaults v_letterCount n12 c_firsts c_seconds c_count x1 x2 x3 x4 = some res → W p l e (headSpec wsX5_isFieldsFit (rmX5_isFieldsFit 0 0)).room s m [.ref obP, .int a0, .int a1].toArray below meth c H locs 0 0 Q0 (F0 m 12 ls []) := by
    intro n12
    induction n12 with
    | zero => intro c_firsts c_seconds c_count x1 x2 x3 x4 H locs ls hP hD hS hl hm; exact nomatch (show (none : Option _) = some res from hm)
    | succ n12 ih12 =>
      intro c_firsts c_seconds c_count x1 x2 x3 x4 H locs ls hP hD hS hl hm
      rw [m_X5_isFieldsFit_12] at hm
      refine lv_iload hx hb dX5_isFieldsFit_12 (lv_at hl 4 rfl) ?_
      refine lv_aload_n hx hb dX5_isFieldsFit_14 rfl (lv_at hl 0 rfl) ?_
      refine va_get (D := (dC, dI)) (ci := 7) (v := .ref obV) (C := RX5) (T := TX5) (N := 3) hx hb hts (inX5 _) hown hK hP 0 rfl rfl 1 (by decide) (hts _ (List.mem_cons_of_mem _ wf5_17)) (fun _ h9 => h9) rfl dX5_isFieldsFit_15 ?_
      refine lv_iload_n hx hb dX5_isFieldsFit_18 rfl (lv_at hl 2 rfl) ?_
      obtain ⟨r2, hz2, hm⟩ := mr_bind hm
      refine mr_pV (As := [.int x2]) (rest := [.int x4]) (sr_okZ adK adV) ⟨hx, hb, hml, hown, hts⟩ (kX6_amount l htr dC dI adK adV cI cB cJ cZ cQ obV vq_plain vq_kinds vq_meant vq_firsts vq_nexts vq_names vq_fieldNames vq_amounts vq_fieldDefaults vq_enumDefaults v_letterCount v_slotCount v_meant v_amounts x2 r2 hz2) (cwV 1 hts (g5_41 _) rfl rfl rfl (by decide +kernel) ⟨(by show 1 + 1 ≤ 80; omega), (by show 8 + (2 + 11) + (21) ≤ 1991; omega)⟩) hS hP hK hz0 [10, 13, 18] rfl (va_recv hK hP (ci := 8) (q0 := 10) rfl rfl) rfl rfl hl.1 (Nat.le_of_ble_eq_true rfl) dX5_isFieldsFit_19 ⟨Nat.zero_le _, Nat.zero_le _⟩ ?_
      refine lv_icmp_ge (tgt := 85) hx hb dX5_isFieldsFit_22 (by decide) (fun c3 => ?_) (fun c3 => ?_)
      · have hm := mr_if c3 hm
        refine lv_iconst (v := 1) hx hb dX5_isFieldsFit_85 (by decide) ?_
        obtain rfl := Option.some.inj hm
        subst hQ0
        exact W.zret (v := 1) hx hb hr rfl (fun t ht hW => ⟨⟨1, (c_firsts, c_seconds, c_count), rfl, ⟨rfl, rfl⟩, by rw [ht]; exact hP, va_K.moved hW.alike hK, hD⟩, hS.F ht⟩) hS.2.2 dX5_isFieldsFit_86
      · have hm := mr_un c3 hm
        refine lv_aload_n hx hb dX5_isFieldsFit_25 rfl (lv_at hl 0 rfl) ?_
        refine va_get (D := (dC, dI)) (ci := 7) (v := .ref obV) (C := RX5) (T := TX5) (N := 3) hx hb hts (inX5 _) hown hK hP 0 rfl rfl 1 (by decide) (hts _ (List.mem_cons_of_mem _ wf5_17)) (fun _ h9 => h9) rfl dX5_isFieldsFit_26 ?_
        refine lv_iload_n hx hb dX5_isFieldsFit_29 rfl (lv_at hl 3 rfl) ?_
        obtain ⟨r4, hz4, hm⟩ := mr_bind hm
        refine mr_pV (As := [.int x3]) (rest := []) (sr_okZ adK adV) ⟨hx, hb, hml, hown, hts⟩ (kX6_hasFieldDefault l htr dC dI adK adV cI cB cJ cZ cQ obV vq_plain vq_kinds vq_meant vq_firsts vq_nexts vq_names vq_fieldNames vq_amounts vq_fieldDefaults vq_enumDefaults v_letterCount v_slotCount v_fieldDefaults x3 r4 hz4) (cwV 1 hts (g5_109 _) rfl rfl rfl (by decide +kernel) ⟨(by show 1 + 1 ≤ 80; omega), (by show 8 + (2 + 11) + (20) ≤ 1991; omega)⟩) hS hP hK hz0 [10, 19] rfl (va_recv hK hP (ci := 8) (q0 := 10) rfl rfl) rfl rfl hl.1 (Nat.le_of_ble_eq_true rfl) dX5_isFieldsFit_30 ⟨Nat.zero_le _, Nat.zero_le _⟩ ?_
        have j70 : ∀ (c_firsts : Nat → Int32) (c_seconds : Nat → Int32) (c_count : Int32) (x1 : Int32) (x2 : Int32) (x3 : Int32) (x4 : Int32) (H : Heap) (locs : List Loc) (ls : Array Slot), va_P (dC, dI) srCl [(obP, .inr (7, [.ref obW, .ref obV, .ref obC])), (obW, .inr (8, [.ref wq_plain, .ref wq_kinds, .ref wq_meant, .ref wq_firsts, .ref wq_nexts, .ref wq_names, .ref wq_fieldNames, .ref wq_amounts, .ref wq_fieldDefaults, .ref wq_enumDefaults, .int w_letterCount, .int w_slotCount])), (wq_plain, .inl (cB, 4096, .inl w_plain)), (wq_kinds, .inl (cI, 128, .inl w_kinds)), (wq_meant, .inl (cI, 128, .inl w_meant)), (wq_firsts, .inl (cI, 128, .inl w_firsts)), (wq_nexts, .inl (cI, 128, .inl w_nexts)), (wq_names, .inl (cI, 128, .inl w_names)), (wq_fieldNames, .inl (cI, 128, .inl w_fieldNames)), (wq_amounts, .inl (cI, 128, .inl w_amounts)), (obV, .inr (8, [.ref vq_plain, .ref vq_kinds, .ref vq_meant, .ref vq_firsts, .ref vq_nexts, .ref vq_names, .ref vq_fieldNames, .ref vq_amounts, .ref vq_fieldDefaults, .ref vq_enumDefaults, .int v_letterCount, .int v_slotCount])), (vq_plain, .inl (cB, 4096, .inl v_plain)), (vq_kinds, .inl (cI, 128, .inl v_kinds)), (vq_meant, .inl (cI, 128, .inl v_meant)), (vq_firsts, .inl (cI, 128, .inl v_firsts)), (vq_nexts, .inl (cI, 128, .inl v_nexts)), (vq_names, .inl (cI, 128, .inl v_names)), (vq_fieldNames, .inl (cI, 128, .inl v_fieldNames)), (vq_amounts, .inl (cI, 128, .inl v_amounts)), (vq_fieldDefaults, .inl (cZ, 128, .inl v_fieldDefaults)), (vq_enumDefaults, .inl (cZ, 128, .inl v_enumDefaults)), (obC, .inr (3, [.ref cq_firsts, .ref cq_seconds, .int c_count])), (cq_firsts, .inl (cI, 128, .inl c_firsts)), (cq_seconds, .inl (cI, 128, .inl c_seconds))] H → va_D A [(obP, .inr (7, [.ref obW, .ref obV, .ref obC])), (obW, .inr (8, [.ref wq_plain, .ref wq_kinds, .ref wq_meant, .ref wq_firsts, .ref wq_nexts, .ref wq_names, .ref wq_fieldNames, .ref wq_amounts, .ref wq_fieldDefaults, .ref wq_enumDefaults, .int w_letterCount, .int w_slotCount])), (wq_plain, .inl (cB, 4096, .inl w_plain)), (wq_kinds, .inl (cI, 128, .inl w_kinds)), (wq_meant, .inl (cI, 128, .inl w_meant)), (wq_firsts, .inl (cI, 128, .inl w_firsts)), (wq_nexts, .inl (cI, 128, .inl w_nexts)), (wq_names, .inl (cI, 128, .inl w_names)), (wq_fieldNames, .inl (cI, 128, .inl w_fieldNames)), (wq_amounts, .inl (cI, 128, .inl w_amounts)), (obV, .inr (8, [.ref vq_plain, .ref vq_kinds, .ref vq_meant, .ref vq_firsts, .ref vq_nexts, .ref vq_names, .ref vq_fieldNames, .ref vq_amounts, .ref vq_fieldDefaults, .ref vq_enumDefaults, .int v_letterCount, .int v_slotCount])), (vq_plain, .inl (cB, 4096, .inl v_plain)), (vq_kinds, .inl (cI, 128, .inl v_kinds)), (vq_meant, .inl (cI, 128, .inl v_meant)), (vq_firsts, .inl (cI, 128, .inl v_firsts)), (vq_nexts, .inl (cI, 128, .inl v_nexts)), (vq_names, .inl (cI, 128, .inl v_names)), (vq_fieldNames, .inl (cI, 128, .inl v_fieldNames)), (vq_amounts, .inl (cI, 128, .inl v_amounts)), (vq_fieldDefaults, .inl (cZ, 128, .inl v_fieldDefaults)), (vq_enumDefaults, .inl (cZ, 128, .inl v_enumDefaults)), (obC, .inr (3, [.ref cq_firsts, .ref cq_seconds, .int c_count])), (cq_firsts, .inl (cI, 128, .inl c_firsts)), (cq_seconds, .inl (cI, 128, .inl c_seconds))] → va_S A s.heap H locs → lv_has ls 6 [(0, .ref obP), (1, .int x1), (2, .int x2), (3, .int x3), (4, .int x4)] → m_X5_isFieldsFit_70 w_plain w_kinds w_meant w_firsts w_nexts w_names w_fieldNames w_amounts w_letterCount v_plain v_kinds v_meant v_firsts v_nexts v_names v_fieldNames v_amounts v_fieldDefaults v_enumDefaults v_letterCount (m_X5_isFieldsFit_12 w_plain w_kinds w_meant w_firsts w_nexts w_names w_fieldNames w_amounts w_letterCount v_plain v_kinds v_meant v_firsts v_nexts v_names v_fieldNames v_amounts v_fieldDefaults v_enumDefaults v_letterCount n12) c_firsts c_seconds c_count x1 x2 x3 x4 = some res → W p l e (headSpec wsX5_isFieldsFit (rmX5_isFieldsFit 0 0)).room s m [.ref obP, .int a0, .int a1].toArray below meth c H locs 0 0 Q0 (F0 m 70 ls []) := by
          intro c_firsts c_seconds c_count x1 x2 x3 x4 H locs ls hP hD hS hl hm
          unfold m_X5_isFieldsFit_70 at hm
          refine lv_aload_n hx hb dX5_isFieldsFit_70 rfl (lv_at hl 0 rfl) ?_
          refine va_get (D := (dC, dI)) (ci := 7) (v := .ref obV) (C := RX5) (T := TX5) (N := 3) hx hb hts (inX5 _) hown hK hP 0 rfl rfl 1 (by decide) (hts _ (List.mem_cons_of_mem _ wf5_17)) (fun _ h9 => h9) rfl dX5_isFieldsFit_71 ?_
          refine lv_iload_n hx hb dX5_isFieldsFit_74 rfl (lv_at hl 3 rfl) ?_
          obtain ⟨r5, hz5, hm⟩ := mr_bind hm
          refine mr_pV (As := [.int x3]) (rest := []) (sr_okZ adK adV) ⟨hx, hb, hml, hown, hts⟩ (kX6_next l htr dC dI adK adV cI cB cJ cZ cQ obV vq_plain vq_kinds vq_meant vq_firsts vq_nexts vq_names vq_fieldNames vq_amounts vq_fieldDefaults vq_enumDefaults v_letterCount v_slotCount v_nexts x3 r5 hz5) (cwV 1 hts (g5_91 _) rfl rfl rfl (by decide +kernel) ⟨(by show 1 + 1 ≤ 80; omega), (by show 8 + (2 + 11) + (21) ≤ 1991; omega)⟩) hS hP hK hz0 [10, 15] rfl (va_recv hK hP (ci := 8) (q0 := 10) rfl rfl) rfl rfl hl.1 (Nat.le_of_ble_eq_true rfl) dX5_isFieldsFit_75 ⟨Nat.zero_le _, Nat.zero_le _⟩ ?_
          refine lv_istore_n (lv' := [(3, .int r5), (0, .ref obP), (1, .int x1), (2, .int x2), (4, .int x4)]) hx hb dX5_isFieldsFit_78 rfl hl (by decide) rfl (fun ls hl => ?_)
          refine lv_iinc (v := x4 + 1) (lv' := [(4, .int (x4 + 1)), (3, .int r5), (0, .ref obP), (1, .int x1), (2, .int x2)]) hx hb dX5_isFieldsFit_79 hl (k := 4) rfl rfl (by decide) rfl (fun ls hl => ?_)
          refine lv_goto (tgt := 12) hx hb dX5_isFieldsFit_82 (by decide) ?_
          exact ih12 c_firsts c_seconds c_count x1 x2 r5 (x4 + 1) _ _ ls hP hD hS (lv_sub hl [2, 3, 4, 1, 0] rfl) hm
        refine lv_if_ne (tgt := 70) hx hb dX5_isFieldsFit_33 (by decide) (fun c6 => ?_) (fun c6 => ?_)
        · have hm := mr_un c6 hm
          exact j70 c_firsts c_seconds c_count x1 x2 x3 x4 _ _ ls hP hD hS (lv_sub hl [0, 1, 2, 3, 4] rfl) hm
        · have hm := mr_if c6 hm
          refine lv_aload_n hx hb dX5_isFieldsFit_36 rfl (lv_at hl 0 rfl) ?_
          refine lv_iload_n hx hb dX5_isFieldsFit_37 rfl (lv_at hl 1 rfl) ?_
          refine lv_aload_n hx hb dX5_isFieldsFit_38 rfl (lv_at hl 0 rfl) ?_
          refine va_get (D := (dC, dI)) (ci := 7) (v := .ref obV) (C := RX5) (T := TX5) (N := 3) hx hb hts (inX5 _) hown hK hP 0 rfl rfl 1 (by decide) (hts _ (List.mem_cons_of_mem _ wf5_17)) (fun _ h9 => h9) rfl dX5_isFieldsFit_39 ?_
          refine lv_iload_n hx hb dX5_isFieldsFit_42 rfl (lv_at hl 3 rfl) ?_
          obtain ⟨r7, hz7, hm⟩ := mr_bind hm
          refine mr_pV (As := [.int x3]) (rest := [.int x1, .ref obP]) (sr_okZ adK adV) ⟨hx, hb, hml, hown, hts⟩ (kX6_fieldName l htr dC dI adK adV cI cB cJ cZ cQ obV vq_plain vq_kinds vq_meant vq_firsts vq_nexts vq_names vq_fieldNames vq_amounts vq_fieldDefaults vq_enumDefaults v_letterCount v_slotCount v_fieldNames x3 r7 hz7) (cwV 1 hts (g5_112 _) rfl rfl rfl (by decide +kernel) ⟨(by show 1 + 1 ≤ 80; omega), (by show 8 + (2 + 11) + (21) ≤ 1991; omega)⟩) hS hP hK hz0 [10, 17] rfl (va_recv hK hP (ci := 8) (q0 := 10) rfl rfl) rfl rfl hl.1 (Nat.le_of_ble_eq_true rfl) dX5_isFieldsFit_43 ⟨Nat.zero_le _, Nat.zero_le _⟩ ?_
          obtain ⟨r8, hz8, hm⟩ := mr_bind hm
          refine mr_pV (As := [.int x1, .int r7]) (rest := []) (sr_okZ adK adV) ⟨hx, hb, hml, hown, hts⟩ (kX5_writerField l htr dC dI adK adV cI cB cJ cZ cQ obP obW obV obC wq_plain wq_kinds wq_meant wq_firsts wq_nexts wq_names wq_fieldNames wq_amounts wq_fieldDefaults wq_enumDefaults vq_plain vq_kinds vq_meant vq_firsts vq_nexts vq_names vq_fieldNames vq_amounts vq_fieldDefaults vq_enumDefaults w_letterCount w_slotCount v_letterCount v_slotCount w_plain w_meant w_firsts w_nexts w_fieldNames w_amounts v_plain x1 r7 r8 hz8) (cwV 2 hts (g5_115 _) rfl rfl rfl (by decide +kernel) ⟨(by show 2 + 1 ≤ 80; omega), (by show 8 + (5 + 11) + (42) ≤ 1991; omega)⟩) hS hP hK hz0 [0, 1, 2, 4, 5, 6, 8, 9, 10, 11] rfl (va_recv hK hP (ci := 7) (q0 := 0) rfl rfl) rfl rfl hl.1 (Nat.le_of_ble_eq_true rfl) dX5_isFieldsFit_46 ⟨Nat.zero_le _, Nat.zero_le _⟩ ?_
          refine lv_istore (lv' := [(5, .int r8), (0, .ref obP), (1, .int x1), (2, .int x2), (3, .int x3), (4, .int x4)]) hx hb dX5_isFieldsFit_49 hl (by decide) rfl (fun ls hl => ?_)
          refine lv_iload hx hb dX5_isFieldsFit_51 (lv_at hl 0 rfl) ?_
          refine lv_iconst (v := -1) hx hb dX5_isFieldsFit_53 (by decide) ?_
          refine lv_icmp_eq (tgt := 68) hx hb dX5_isFieldsFit_54 (by decide) (fun c9 => ?_) (fun c9 => ?_)
          · have hm := mr_if c9 hm
            refine lv_iconst (v := 0) hx hb dX5_isFieldsFit_68 (by decide) ?_
            obtain rfl := Option.some.inj hm
            subst hQ0
            exact W.zret (v := 0) hx hb hr rfl (fun t ht hW => ⟨⟨0, (c_firsts, c_seconds, c_count), rfl, ⟨rfl, rfl⟩, by rw [ht]; exact hP, va_K.moved hW.alike hK, hD⟩, hS.F ht⟩) hS.2.2 dX5_isFieldsFit_69
          · have hm := mr_un c9 hm
            refine lv_aload_n hx hb dX5_isFieldsFit_57 rfl (lv_at hl 1 rfl) ?_
            refine lv_iload hx hb dX5_isFieldsFit_58 (lv_at hl 0 rfl) ?_
            refine lv_iload_n hx hb dX5_isFieldsFit_60 rfl (lv_at hl 4 rfl) ?_
            refine lv_iconst (v := 0) hx hb dX5_isFieldsFit_61 (by decide) ?_
            obtain ⟨⟨r10, c_firsts_10, c_seconds_10, c_count_10⟩, hz10, hm⟩ := mr_bind hm
            try dsimp only at hm
            refine mr_wVi (As := [.int r8, .int x3, .int 0]) (rest := []) (sr_okZ adK adV) ⟨hx, hb, hml, hown, hts⟩ (kX5_isFit l htr dC dI adK adV cI cB cJ cZ cQ obP obW obV obC wq_plain wq_kinds wq_meant wq_firsts wq_nexts wq_names wq_fieldNames wq_amounts wq_fieldDefaults wq_enumDefaults vq_plain vq_kinds vq_meant vq_firsts vq_nexts vq_names vq_fieldNames vq_amounts vq_fieldDefaults vq_enumDefaults cq_firsts cq_seconds 37 w_letterCount w_slotCount v_letterCount v_slotCount c_count w_plain w_kinds w_meant w_firsts w_nexts w_names w_amounts v_plain v_kinds v_meant v_firsts v_nexts v_names v_amounts v_enumDefaults c_firsts c_seconds _ r8 x3 0 _ hz10) (cwV 3 hts (g5_56 _) rfl rfl rfl (by decide +kernel) ⟨(by show 2 * 37 + 5 + 1 ≤ 80; omega), (by show 8 + (6 + 11) + (50 * 37 + 116) ≤ 1991; omega)⟩) hS hA hP hD hK hz0 (wr := [(wq_fieldNames, .inl (cI, 128, .inl w_fieldNames)), (vq_fieldNames, .inl (cI, 128, .inl v_fieldNames)), (vq_fieldDefaults, .inl (cZ, 128, .inl v_fieldDefaults))]) (w1 := [(obP, .inr (7, [.ref obW, .ref obV, .ref obC])), (obW, .inr (8, [.ref wq_plain, .ref wq_kinds, .ref wq_meant, .ref wq_firsts, .ref wq_nexts, .ref wq_names, .ref wq_fieldNames, .ref wq_amounts, .ref wq_fieldDefaults, .ref wq_enumDefaults, .int w_letterCount, .int w_slotCount])), (wq_plain, .inl (cB, 4096, .inl w_plain)), (wq_kinds, .inl (cI, 128, .inl w_kinds)), (wq_meant, .inl (cI, 128, .inl w_meant)), (wq_firsts, .inl (cI, 128, .inl w_firsts)), (wq_nexts, .inl (cI, 128, .inl w_nexts)), (wq_names, .inl (cI, 128, .inl w_names)), (wq_fieldNames, .inl (cI, 128, .inl w_fieldNames)), (wq_amounts, .inl (cI, 128, .inl w_amounts)), (obV, .inr (8, [.ref vq_plain, .ref vq_kinds, .ref vq_meant, .ref vq_firsts, .ref vq_nexts, .ref vq_names, .ref vq_fieldNames, .ref vq_amounts, .ref vq_fieldDefaults, .ref vq_enumDefaults, .int v_letterCount, .int v_slotCount])), (vq_plain, .inl (cB, 4096, .inl v_plain)), (vq_kinds, .inl (cI, 128, .inl v_kinds)), (vq_meant, .inl (cI, 128, .inl v_meant)), (vq_firsts, .inl (cI, 128, .inl v_firsts)), (vq_nexts, .inl (cI, 128, .inl v_nexts)), (vq_names, .inl (cI, 128, .inl v_names)), (vq_fieldNames, .inl (cI, 128, .inl v_fieldNames)), (vq_amounts, .inl (cI, 128, .inl v_amounts)), (vq_fieldDefaults, .inl (cZ, 128, .inl v_fieldDefaults)), (vq_enumDefaults, .inl (cZ, 128, .inl v_enumDefaults)), (obC, .inr (3, [.ref cq_firsts, .ref cq_seconds, .int c_count_10])), (cq_firsts, .inl (cI, 128, .inl c_firsts_10)), (cq_seconds, .inl (cI, 128, .inl c_seconds_10))]) [0, 1, 2, 3, 4, 5, 6, 7, 9, 10, 11, 12, 13, 14, 15, 16, 18, 20, 21, 22, 23] [8, 17, 19] [3, 4, 5, 6, 7, 8, 9, 10, 0, 11, 12, 13, 14, 15, 16, 17, 18, 1, 19, 2, 20, 21, 22, 23] rfl rfl rfl rfl rfl (by decide) rfl rfl rfl (va_recv hK hP (ci := 7) (q0 := 0) rfl rfl) rfl rfl hl.1 (Nat.le_of_ble_eq_true rfl) dX5_isFieldsFit_62 ⟨Nat.zero_le _, Nat.zero_le _⟩ (fun H locs hP hD hS => ?_)
            refine lv_if_ne (tgt := 70) hx hb dX5_isFieldsFit_65 (by decide) (fun c11 => ?_) (fun c11 => ?_)
            · have hm := mr_un c11 hm
              exact j70 c_firsts_10 c_seconds_10 c_count_10 x1 x2 x3 x4 _ _ ls hP hD hS (lv_sub hl [1, 2, 3, 4, 5] rfl) hm
            · have hm := mr_if c11 hm
              refine lv_iconst (v := 0) hx hb dX5_isFieldsFit_68 (by decide) ?_
              obtain rfl := Option.some.inj hm
              subst hQ0
              exact W.zret (v := 0) hx hb hr rfl (fun t ht hW => ⟨⟨0, (c_firsts_10, c_seconds_10, c_count_10), rfl, ⟨rfl, rfl⟩, by rw [ht]; exact hP, va_K.moved hW.alike hK, hD⟩, hS.F ht⟩) hS.2.2 dX5_isFieldsFit_69
  refine lv_istore (lv' := [(4, .int 0), (3, .int r1), (0, .ref obP), (1, .int a0), (2, .int a1)]) hx hb dX5_isFieldsFit_10 hl (by decide) rfl (fun ls hl => ?_)
  exact j12 sr_fuel c_firsts c_seconds c_count a0 a1 r1 0 _ _ ls hP hD hS (lv_sub hl [2, 3, 4, 1, 0] rfl) hm
set_option maxHeartbeats 4000000 in
set_option maxRecDepth 100000 in
theorem kX5_isWholeFit (l : Launch) (htr : l.stackTraces = false) (dC : Nat → ClassId) (dI : Nat → Nat → Nat) (adK adV : Nat → Nat) (cI cB cJ cZ cQ : ClassId) (obP obW obV obC wq_plain wq_kinds wq_meant wq_firsts wq_nexts wq_names wq_fieldNames wq_amounts wq_fieldDefaults wq_enumDefaults vq_plain vq_kinds vq_meant vq_firsts vq_nexts vq_names vq_fieldNames vq_amounts vq_fieldDefaults vq_enumDefaults cq_firsts cq_seconds : Nat) (w_letterCount : Int32) (w_slotCount : Int32) (v_letterCount : Int32) (v_slotCount : Int32) (c_count : Int32) (w_plain : Nat → Int32) (w_kinds : Nat → Int32) (w_meant : Nat → Int32) (w_firsts : Nat → Int32) (w_nexts : Nat → Int32) (w_names : Nat → Int32) (w_fieldNames : Nat → Int32) (w_amounts : Nat → Int32) (v_plain : Nat → Int32) (v_kinds : Nat → Int32) (v_meant : Nat → Int32) (v_firsts : Nat → Int32) (v_nexts : Nat → Int32) (v_names : Nat → Int32) (v_fieldNames : Nat → Int32) (v_amounts : Nat → Int32) (v_fieldDefaults : Nat → Int32) (v_enumDefaults : Nat → Int32) (c_firsts : Nat → Int32) (c_seconds : Nat → Int32) (sz : Nat) (res : Int32 × (Nat → Int32) × (Nat → Int32) × Int32) (hm : m_X5_isWholeFit w_plain w_kinds w_meant w_firsts w_nexts w_names w_fieldNames w_amounts w_letterCount v_plain v_kinds v_meant v_firsts v_nexts v_names v_fieldNames v_amounts v_fieldDefaults v_enumDefaults v_letterCount c_firsts c_seconds c_count = some res) : Met l yX5_isWholeFit wsX5_isWholeFit (rmX5_isWholeFit 0 0) (pcW (sr_Z adK adV) (dC, dI) srCl [(cI, .int), (cB, .byte), (cJ, .long), (cZ, .boolean), (cQ, .object "SchemaReader$Schema")] [.ref obP] [(obP, .inr (7, [.ref obW, .ref obV, .ref obC])), (obW, .inr (8, [.ref wq_plain, .ref wq_kinds, .ref wq_meant, .ref wq_firsts, .ref wq_nexts, .ref wq_names, .ref wq_fieldNames, .ref wq_amounts, .ref wq_fieldDefaults, .ref wq_enumDefaults, .int w_letterCount, .int w_slotCount])), (wq_plain, .inl (cB, 4096, .inl w_plain)), (wq_kinds, .inl (cI, 128, .inl w_kinds)), (wq_meant, .inl (cI, 128, .inl w_meant)), (wq_firsts, .inl (cI, 128, .inl w_firsts)), (wq_nexts, .inl (cI, 128, .inl w_nexts)), (wq_names, .inl (cI, 128, .inl w_names)), (wq_fieldNames, .inl (cI, 128, .inl w_fieldNames)), (wq_amounts, .inl (cI, 128, .inl w_amounts)), (obV, .inr (8, [.ref vq_plain, .ref vq_kinds, .ref vq_meant, .ref vq_firsts, .ref vq_nexts, .ref vq_names, .ref vq_fieldNames, .ref vq_amounts, .ref vq_fieldDefaults, .ref vq_enumDefaults, .int v_letterCount, .int v_slotCount])), (vq_plain, .inl (cB, 4096, .inl v_plain)), (vq_kinds, .inl (cI, 128, .inl v_kinds)), (vq_meant, .inl (cI, 128, .inl v_meant)), (vq_firsts, .inl (cI, 128, .inl v_firsts)), (vq_nexts, .inl (cI, 128, .inl v_nexts)), (vq_names, .inl (cI, 128, .inl v_names)), (vq_fieldNames, .inl (cI, 128, .inl v_fieldNames)), (vq_amounts, .inl (cI, 128, .inl v_amounts)), (vq_fieldDefaults, .inl (cZ, 128, .inl v_fieldDefaults)), (vq_enumDefaults, .inl (cZ, 128, .inl v_enumDefaults)), (obC, .inr (3, [.ref cq_firsts, .ref cq_seconds, .int c_count])), (cq_firsts, .inl (cI, 128, .inl c_firsts)), (cq_seconds, .inl (cI, 128, .inl c_seconds))] sz) (va_Qi (fun r' u' => r' = res.1 ∧ u' = res.2) (pcB (dC, dI) srCl [(cI, .int), (cB, .byte), (cJ, .long), (cZ, .boolean), (cQ, .object "SchemaReader$Schema")] (fun u : (Nat → Int32) × (Nat → Int32) × Int32 => [(obP, .inr (7, [.ref obW, .ref obV, .ref obC])), (obW, .inr (8, [.ref wq_plain, .ref wq_kinds, .ref wq_meant, .ref wq_firsts, .ref wq_nexts, .ref wq_names, .ref wq_fieldNames, .ref wq_amounts, .ref wq_fieldDefaults, .ref wq_enumDefaults, .int w_letterCount, .int w_slotCount])), (wq_plain, .inl (cB, 4096, .inl w_plain)), (wq_kinds, .inl (cI, 128, .inl w_kinds)), (wq_meant, .inl (cI, 128, .inl w_meant)), (wq_firsts, .inl (cI, 128, .inl w_firsts)), (wq_nexts, .inl (cI, 128, .inl w_nexts)), (wq_names, .inl (cI, 128, .inl w_names)), (wq_fieldNames, .inl (cI, 128, .inl w_fieldNames)), (wq_amounts, .inl (cI, 128, .inl w_amounts)), (obV, .inr (8, [.ref vq_plain, .ref vq_kinds, .ref vq_meant, .ref vq_firsts, .ref vq_nexts, .ref vq_names, .ref vq_fieldNames, .ref vq_amounts, .ref vq_fieldDefaults, .ref vq_enumDefaults, .int v_letterCount, .int v_slotCount])), (vq_plain, .inl (cB, 4096, .inl v_plain)), (vq_kinds, .inl (cI, 128, .inl v_kinds)), (vq_meant, .inl (cI, 128, .inl v_meant)), (vq_firsts, .inl (cI, 128, .inl v_firsts)), (vq_nexts, .inl (cI, 128, .inl v_nexts)), (vq_names, .inl (cI, 128, .inl v_names)), (vq_fieldNames, .inl (cI, 128, .inl v_fieldNames)), (vq_amounts, .inl (cI, 128, .inl v_amounts)), (vq_fieldDefaults, .inl (cZ, 128, .inl v_fieldDefaults)), (vq_enumDefaults, .inl (cZ, 128, .inl v_enumDefaults)), (obC, .inr (3, [.ref cq_firsts, .ref cq_seconds, .int u.2.2])), (cq_firsts, .inl (cI, 128, .inl u.1)), (cq_seconds, .inl (cI, 128, .inl u.2.1))]) (va_A [(obP, .inr (7, [.ref obW, .ref obV, .ref obC])), (obW, .inr (8, [.ref wq_plain, .ref wq_kinds, .ref wq_meant, .ref wq_firsts, .ref wq_nexts, .ref wq_names, .ref wq_fieldNames, .ref wq_amounts, .ref wq_fieldDefaults, .ref wq_enumDefaults, .int w_letterCount, .int w_slotCount])), (wq_plain, .inl (cB, 4096, .inl w_plain)), (wq_kinds, .inl (cI, 128, .inl w_kinds)), (wq_meant, .inl (cI, 128, .inl w_meant)), (wq_firsts, .inl (cI, 128, .inl w_firsts)), (wq_nexts, .inl (cI, 128, .inl w_nexts)), (wq_names, .inl (cI, 128, .inl w_names)), (wq_fieldNames, .inl (cI, 128, .inl w_fieldNames)), (wq_amounts, .inl (cI, 128, .inl w_amounts)), (obV, .inr (8, [.ref vq_plain, .ref vq_kinds, .ref vq_meant, .ref vq_firsts, .ref vq_nexts, .ref vq_names, .ref vq_fieldNames, .ref vq_amounts, .ref vq_fieldDefaults, .ref vq_enumDefaults, .int v_letterCount, .int v_slotCount])), (vq_plain, .inl (cB, 4096, .inl v_plain)), (vq_kinds, .inl (cI, 128, .inl v_kinds)), (vq_meant, .inl (cI, 128, .inl v_meant)), (vq_firsts, .inl (cI, 128, .inl v_firsts)), (vq_nexts, .inl (cI, 128, .inl v_nexts)), (vq_names, .inl (cI, 128, .inl v_names)), (vq_fieldNames, .inl (cI, 128, .inl v_fieldNames)), (vq_amounts, .inl (cI, 128, .inl v_amounts)), (vq_fieldDefaults, .inl (cZ, 128, .inl v_fieldDefaults)), (vq_enumDefaults, .inl (cZ, 128, .inl v_enumDefaults)), (obC, .inr (3, [.ref cq_firsts, .ref cq_seconds, .int c_count])), (cq_firsts, .inl (cI, 128, .inl c_firsts)), (cq_seconds, .inl (cI, 128, .inl c_seconds))] sz)) (va_A [(obP, .inr (7, [.ref obW, .ref obV, .ref obC])), (obW, .inr (8, [.ref wq_plain, .ref wq_kinds, .ref wq_meant, .ref wq_firsts, .ref wq_nexts, .ref wq_names, .ref wq_fieldNames, .ref wq_amounts, .ref wq_fieldDefaults, .ref wq_enumDefaults, .int w_letterCount, .int w_slotCount])), (wq_plain, .inl (cB, 4096, .inl w_plain)), (wq_kinds, .inl (cI, 128, .inl w_kinds)), (wq_meant, .inl (cI, 128, .inl w_meant)), (wq_firsts, .inl (cI, 128, .inl w_firsts)), (wq_nexts, .inl (cI, 128, .inl w_nexts)), (wq_names, .inl (cI, 128, .inl w_names)), (wq_fieldNames, .inl (cI, 128, .inl w_fieldNames)), (wq_amounts, .inl (cI, 128, .inl w_amounts)), (obV, .inr (8, [.ref vq_plain, .ref vq_kinds, .ref vq_meant, .ref vq_firsts, .ref vq_nexts, .ref vq_names, .ref vq_fieldNames, .ref vq_amounts, .ref vq_fieldDefaults, .ref vq_enumDefaults, .int v_letterCount, .int v_slotCount])), (vq_plain, .inl (cB, 4096, .inl v_plain)), (vq_kinds, .inl (cI, 128, .inl v_kinds)), (vq_meant, .inl (cI, 128, .inl v_meant)), (vq_firsts, .inl (cI, 128, .inl v_firsts)), (vq_nexts, .inl (cI, 128, .inl v_nexts)), (vq_names, .inl (cI, 128, .inl v_names)), (vq_fieldNames, .inl (cI, 128, .inl v_fieldNames)), (vq_amounts, .inl (cI, 128, .inl v_amounts)), (vq_fieldDefaults, .inl (cZ, 128, .inl v_fieldDefaults)), (vq_enumDefaults, .inl (cZ, 128, .inl v_enumDefaults)), (obC, .inr (3, [.ref cq_firsts, .ref cq_seconds, .int c_count])), (cq_firsts, .inl (cI, 128, .inl c_firsts)), (cq_seconds, .inl (cI, 128, .inl c_seconds))] sz)) 0 0 (va_A [(obP, .inr (7, [.ref obW, .ref obV, .ref obC])), (obW, .inr (8, [.ref wq_plain, .ref wq_kinds, .ref wq_meant, .ref wq_firsts, .ref wq_nexts, .ref wq_names, .ref wq_fieldNames, .ref wq_amounts, .ref wq_fieldDefaults, .ref wq_enumDefaults, .int w_letterCount, .int w_slotCount])), (wq_plain, .inl (cB, 4096, .inl w_plain)), (wq_kinds, .inl (cI, 128, .inl w_kinds)), (wq_meant, .inl (cI, 128, .inl w_meant)), (wq_firsts, .inl (cI, 128, .inl w_firsts)), (wq_nexts, .inl (cI, 128, .inl w_nexts)), (wq_names, .inl (cI, 128, .inl w_names)), (wq_fieldNames, .inl (cI, 128, .inl w_fieldNames)), (wq_amounts, .inl (cI, 128, .inl w_amounts)), (obV, .inr (8, [.ref vq_plain, .ref vq_kinds, .ref vq_meant, .ref vq_firsts, .ref vq_nexts, .ref vq_names, .ref vq_fieldNames, .ref vq_amounts, .ref vq_fieldDefaults, .ref vq_enumDefaults, .int v_letterCount, .int v_slotCount])), (vq_plain, .inl (cB, 4096, .inl v_plain)), (vq_kinds, .inl (cI, 128, .inl v_kinds)), (vq_meant, .inl (cI, 128, .inl v_meant)), (vq_firsts, .inl (cI, 128, .inl v_firsts)), (vq_nexts, .inl (cI, 128, .inl v_nexts)), (vq_names, .inl (cI, 128, .inl v_names)), (vq_fieldNames, .inl (cI, 128, .inl v_fieldNames)), (vq_amounts, .inl (cI, 128, .inl v_amounts)), (vq_fieldDefaults, .inl (cZ, 128, .inl v_fieldDefaults)), (vq_enumDefaults, .inl (cZ, 128, .inl v_enumDefaults)), (obC, .inr (3, [.ref cq_firsts, .ref cq_seconds, .int c_count])), (cq_firsts, .inl (cI, 128, .inl c_firsts)), (cq_seconds, .inl (cI, 128, .inl c_seconds))] sz) := by
  refine Met.ofW (cc := cX5_isWholeFit) (maxL := 2) (ret := (some .boolean)) (by decide) rfl ?_
  intro p e s m args below meth c s₁ B hml hv
  obtain ⟨rfl, hsz, hP, hK, hD0, hz0⟩ := hv
  have hx := B.exec
  have hb := B.bytes
  have hr := B.returns
  have hts := atoms_spec (ws := wsX5_isWholeFit) B.pre
  have hown : s.vm.findClass RX5 = some m.cls := findClass_of_methodNamed B.named
  have hlocks := B.notSynchronized
  subst hsz
  have hD := hD0.self (sz := s.heap.size)
  generalize hAe : va_A [(obP, .inr (7, [.ref obW, .ref obV, .ref obC])), (obW, .inr (8, [.ref wq_plain, .ref wq_kinds, .ref wq_meant, .ref wq_firsts, .ref wq_nexts, .ref wq_names, .ref wq_fieldNames, .ref wq_amounts, .ref wq_fieldDefaults, .ref wq_enumDefaults, .int w_letterCount, .int w_slotCount])), (wq_plain, .inl (cB, 4096, .inl w_plain)), (wq_kinds, .inl (cI, 128, .inl w_kinds)), (wq_meant, .inl (cI, 128, .inl w_meant)), (wq_firsts, .inl (cI, 128, .inl w_firsts)), (wq_nexts, .inl (cI, 128, .inl w_nexts)), (wq_names, .inl (cI, 128, .inl w_names)), (wq_fieldNames, .inl (cI, 128, .inl w_fieldNames)), (wq_amounts, .inl (cI, 128, .inl w_amounts)), (obV, .inr (8, [.ref vq_plain, .ref vq_kinds, .ref vq_meant, .ref vq_firsts, .ref vq_nexts, .ref vq_names, .ref vq_fieldNames, .ref vq_amounts, .ref vq_fieldDefaults, .ref vq_enumDefaults, .int v_letterCount, .int v_slotCount])), (vq_plain, .inl (cB, 4096, .inl v_plain)), (vq_kinds, .inl (cI, 128, .inl v_kinds)), (vq_meant, .inl (cI, 128, .inl v_meant)), (vq_firsts, .inl (cI, 128, .inl v_firsts)), (vq_nexts, .inl (cI, 128, .inl v_nexts)), (vq_names, .inl (cI, 128, .inl v_names)), (vq_fieldNames, .inl (cI, 128, .inl v_fieldNames)), (vq_amounts, .inl (cI, 128, .inl v_amounts)), (vq_fieldDefaults, .inl (cZ, 128, .inl v_fieldDefaults)), (vq_enumDefaults, .inl (cZ, 128, .inl v_enumDefaults)), (obC, .inr (3, [.ref cq_firsts, .ref cq_seconds, .int c_count])), (cq_firsts, .inl (cI, 128, .inl c_firsts)), (cq_seconds, .inl (cI, 128, .inl c_seconds))] s.heap.size = A at hD hz0 ⊢
  have hA : ∀ q : Nat, s.heap.size ≤ q → A q := fun q h => by rw [← hAe]; exact Or.inr h
  have hS : va_S A s.heap s.heap [] := va_S.rf
  generalize hQ0 : MQ below (va_Qi (fun r' u' => r' = res.1 ∧ u' = res.2) (pcB (dC, dI) srCl [(cI, .int), (cB, .byte), (cJ, .long), (cZ, .boolean), (cQ, .object "SchemaReader$Schema")] (fun u : (Nat → Int32) × (Nat → Int32) × Int32 => [(obP, .inr (7, [.ref obW, .ref obV, .ref obC])), (obW, .inr (8, [.ref wq_plain, .ref wq_kinds, .ref wq_meant, .ref wq_firsts, .ref wq_nexts, .ref wq_names, .ref wq_fieldNames, .ref wq_amounts, .ref wq_fieldDefaults, .ref wq_enumDefaults, .int w_letterCount, .int w_slotCount])), (wq_plain, .inl (cB, 4096, .inl w_plain)), (wq_kinds, .inl (cI, 128, .inl w_kinds)), (wq_meant, .inl (cI, 128, .inl w_meant)), (wq_firsts, .inl (cI, 128, .inl w_firsts)), (wq_nexts, .inl (cI, 128, .inl w_nexts)), (wq_names, .inl (cI, 128, .inl w_names)), (wq_fieldNames, .inl (cI, 128, .inl w_fieldNames)), (wq_amounts, .inl (cI, 128, .inl w_amounts)), (obV, .inr (8, [.ref vq_plain, .ref vq_kinds, .ref vq_meant, .ref vq_firsts, .ref vq_nexts, .ref vq_names, .ref vq_fieldNames, .ref vq_amounts, .ref vq_fieldDefaults, .ref vq_enumDefaults, .int v_letterCount, .int v_slotCount])), (vq_plain, .inl (cB, 4096, .inl v_plain)), (vq_kinds, .inl (cI, 128, .inl v_kinds)), (vq_meant, .inl (cI, 128, .inl v_meant)), (vq_firsts, .inl (cI, 128, .inl v_firsts)), (vq_nexts, .inl (cI, 128, .inl v_nexts)), (vq_names, .inl (cI, 128, .inl v_names)), (vq_fieldNames, .inl (cI, 128, .inl v_fieldNames)), (vq_amounts, .inl (cI, 128, .inl v_amounts)), (vq_fieldDefaults, .inl (cZ, 128, .inl v_fieldDefaults)), (vq_enumDefaults, .inl (cZ, 128, .inl v_enumDefaults)), (obC, .inr (3, [.ref cq_firsts, .ref cq_seconds, .int u.2.2])), (cq_firsts, .inl (cI, 128, .inl u.1)), (cq_seconds, .inl (cI, 128, .inl u.2.1))]) A) A) [.ref obP].toArray s 0 0 A = Q0
  have hl := lv_entry [.ref obP] (n := 2) (Nat.le_of_ble_eq_true rfl)
  rw [lg_entry_eq]
  generalize (lg_sl [.ref obP] ++ List.replicate (2 - (lg_sl [.ref obP]).length) Slot.unset).toArray = ls at hl ⊢
  have hl : lv_has ls 2 [(0, .ref obP)] := hl
  unfold m_X5_isWholeFit at hm
  refine lv_aload_n hx hb dX5_isWholeFit_0 rfl (lv_at hl 0 rfl) ?_
  refine va_get (D := (dC, dI)) (ci := 7) (v := .ref obC) (C := RX5) (T := TX5) (N := 3) hx hb hts (inX5 _) hown hK hP 0 rfl rfl 2 (by decide) (hts _ (List.mem_cons_of_mem _ wf5_20)) (fun _ h9 => h9) rfl dX5_isWholeFit_1 ?_
  obtain ⟨c_count_1, hz1, hm⟩ := mr_bind hm
  try dsimp only at hm
  refine mr_wVv (As := []) (rest := []) (sr_okZ adK adV) ⟨hx, hb, hml, hown, hts⟩ (kX11_clear l htr dC dI adK adV cI cB cJ cZ cQ obC cq_firsts cq_seconds c_count _ _ hz1) (cwV 0 hts (g5_51 _) rfl rfl rfl (by decide +kernel) ⟨(by show 0 + 1 ≤ 81; omega), (by show 8 + (1 + 11) + (0) ≤ 2016; omega)⟩) hS hA hP hD hK hz0 (wr := [(obP, .inr (7, [.ref obW, .ref obV, .ref obC])), (obW, .inr (8, [.ref wq_plain, .ref wq_kinds, .ref wq_meant, .ref wq_firsts, .ref wq_nexts, .ref wq_names, .ref wq_fieldNames, .ref wq_amounts, .ref wq_fieldDefaults, .ref wq_enumDefaults, .int w_letterCount, .int w_slotCount])), (wq_plain, .inl (cB, 4096, .inl w_plain)), (wq_kinds, .inl (cI, 128, .inl w_kinds)), (wq_meant, .inl (cI, 128, .inl w_meant)), (wq_firsts, .inl (cI, 128, .inl w_firsts)), (wq_nexts, .inl (cI, 128, .inl w_nexts)), (wq_names, .inl (cI, 128, .inl w_names)), (wq_fieldNames, .inl (cI, 128, .inl w_fieldNames)), (wq_amounts, .inl (cI, 128, .inl w_amounts)), (obV, .inr (8, [.ref vq_plain, .ref vq_kinds, .ref vq_meant, .ref vq_firsts, .ref vq_nexts, .ref vq_names, .ref vq_fieldNames, .ref vq_amounts, .ref vq_fieldDefaults, .ref vq_enumDefaults, .int v_letterCount, .int v_slotCount])), (vq_plain, .inl (cB, 4096, .inl v_plain)), (vq_kinds, .inl (cI, 128, .inl v_kinds)), (vq_meant, .inl (cI, 128, .inl v_meant)), (vq_firsts, .inl (cI, 128, .inl v_firsts)), (vq_nexts, .inl (cI, 128, .inl v_nexts)), (vq_names, .inl (cI, 128, .inl v_names)), (vq_fieldNames, .inl (cI, 128, .inl v_fieldNames)), (vq_amounts, .inl (cI, 128, .inl v_amounts)), (vq_fieldDefaults, .inl (cZ, 128, .inl v_fieldDefaults)), (vq_enumDefaults, .inl (cZ, 128, .inl v_enumDefaults)), (cq_firsts, .inl (cI, 128, .inl c_firsts)), (cq_seconds, .inl (cI, 128, .inl c_seconds))]) (w1 := [(obP, .inr (7, [.ref obW, .ref obV, .ref obC])), (obW, .inr (8, [.ref wq_plain, .ref wq_kinds, .ref wq_meant, .ref wq_firsts, .ref wq_nexts, .ref wq_names, .ref wq_fieldNames, .ref wq_amounts, .ref wq_fieldDefaults, .ref wq_enumDefaults, .int w_letterCount, .int w_slotCount])), (wq_plain, .inl (cB, 4096, .inl w_plain)), (wq_kinds, .inl (cI, 128, .inl w_kinds)), (wq_meant, .inl (cI, 128, .inl w_meant)), (wq_firsts, .inl (cI, 128, .inl w_firsts)), (wq_nexts, .inl (cI, 128, .inl w_nexts)), (wq_names, .inl (cI, 128, .inl w_names)), (wq_fieldNames, .inl (cI, 128, .inl w_fieldNames)), (wq_amounts, .inl (cI, 128, .inl w_amounts)), (obV, .inr (8, [.ref vq_plain, .ref vq_kinds, .ref vq_meant, .ref vq_firsts, .ref vq_nexts, .ref vq_names, .ref vq_fieldNames, .ref vq_amounts, .ref vq_fieldDefaults, .ref vq_enumDefaults, .int v_letterCount, .int v_slotCount])), (vq_plain, .inl (cB, 4096, .inl v_plain)), (vq_kinds, .inl (cI, 128, .inl v_kinds)), (vq_meant, .inl (cI, 128, .inl v_meant)), (vq_firsts, .inl (cI, 128, .inl v_firsts)), (vq_nexts, .inl (cI, 128, .inl v_nexts)), (vq_names, .inl (cI, 128, .inl v_names)), (vq_fieldNames, .inl (cI, 128, .inl v_fieldNames)), (vq_amounts, .inl (cI, 128, .inl v_amounts)), (vq_fieldDefaults, .inl (cZ, 128, .inl v_fieldDefaults)), (vq_enumDefaults, .inl (cZ, 128, .inl v_enumDefaults)), (obC, .inr (3, [.ref cq_firsts, .ref cq_seconds, .int c_count_1])), (cq_firsts, .inl (cI, 128, .inl c_firsts)), (cq_seconds, .inl (cI, 128, .inl c_seconds))]) [21] [0, 1, 2, 3, 4, 5, 6, 7, 8, 9, 10, 11, 12, 13, 14, 15, 16, 17, 18, 19, 20, 22, 23] [0, 1, 2, 3, 4, 5, 6, 7, 8, 9, 10, 11, 12, 13, 14, 15, 16, 17, 18, 19, 20, 23, 21, 22] rfl rfl rfl rfl rfl (by decide) rfl rfl rfl (va_recv hK hP (ci := 3) (q0 := 21) rfl rfl) rfl rfl hl.1 (Nat.le_of_ble_eq_true rfl) dX5_isWholeFit_4 ⟨Nat.zero_le _, Nat.zero_le _⟩ (fun H locs hP hD hS => ?_)
  refine lv_aload_n hx hb dX5_isWholeFit_7 rfl (lv_at hl 0 rfl) ?_
  refine lv_iconst (v := 0) hx hb dX5_isWholeFit_8 (by decide) ?_
  refine lv_iconst (v := 0) hx hb dX5_isWholeFit_9 (by decide) ?_
  refine lv_iconst (v := 0) hx hb dX5_isWholeFit_10 (by decide) ?_
  obtain ⟨⟨r2, c_firsts_2, c_seconds_2, c_count_2⟩, hz2, hm⟩ := mr_bind hm
  try dsimp only at hm
  refine mr_wVi (As := [.int 0, .int 0, .int 0]) (rest := []) (sr_okZ adK adV) ⟨hx, hb, hml, hown, hts⟩ (kX5_isFit l htr dC dI adK adV cI cB cJ cZ cQ obP obW obV obC wq_plain wq_kinds wq_meant wq_firsts wq_nexts wq_names wq_fieldNames wq_amounts wq_fieldDefaults wq_enumDefaults vq_plain vq_kinds vq_meant vq_firsts vq_nexts vq_names vq_fieldNames vq_amounts vq_fieldDefaults vq_enumDefaults cq_firsts cq_seconds 37 w_letterCount w_slotCount v_letterCount v_slotCount c_count_1 w_plain w_kinds w_meant w_firsts w_nexts w_names w_amounts v_plain v_kinds v_meant v_firsts v_nexts v_names v_amounts v_enumDefaults c_firsts c_seconds _ 0 0 0 _ hz2) (cwV 3 hts (g5_56 _) rfl rfl rfl (by decide +kernel) ⟨(by show 2 * 37 + 5 + 1 ≤ 81; omega), (by show 8 + (6 + 11) + (50 * 37 + 116) ≤ 2016; omega)⟩) hS hA hP hD hK hz0 (wr := [(wq_fieldNames, .inl (cI, 128, .inl w_fieldNames)), (vq_fieldNames, .inl (cI, 128, .inl v_fieldNames)), (vq_fieldDefaults, .inl (cZ, 128, .inl v_fieldDefaults))]) (w1 := [(obP, .inr (7, [.ref obW, .ref obV, .ref obC])), (obW, .inr (8, [.ref wq_plain, .ref wq_kinds, .ref wq_meant, .ref wq_firsts, .ref wq_nexts, .ref wq_names, .ref wq_fieldNames, .ref wq_amounts, .ref wq_fieldDefaults, .ref wq_enumDefaults, .int w_letterCount, .int w_slotCount])), (wq_plain, .inl (cB, 4096, .inl w_plain)), (wq_kinds, .inl (cI, 128, .inl w_kinds)), (wq_meant, .inl (cI, 128, .inl w_meant)), (wq_firsts, .inl (cI, 128, .inl w_firsts)), (wq_nexts, .inl (cI, 128, .inl w_nexts)), (wq_names, .inl (cI, 128, .inl w_names)), (wq_fieldNames, .inl (cI, 128, .inl w_fieldNames)), (wq_amounts, .inl (cI, 128, .inl w_amounts)), (obV, .inr (8, [.ref vq_plain, .ref vq_kinds, .ref vq_meant, .ref vq_firsts, .ref vq_nexts, .ref vq_names, .ref vq_fieldNames, .ref vq_amounts, .ref vq_fieldDefaults, .ref vq_enumDefaults, .int v_letterCount, .int v_slotCount])), (vq_plain, .inl (cB, 4096, .inl v_plain)), (vq_kinds, .inl (cI, 128, .inl v_kinds)), (vq_meant, .inl (cI, 128, .inl v_meant)), (vq_firsts, .inl (cI, 128, .inl v_firsts)), (vq_nexts, .inl (cI, 128, .inl v_nexts)), (vq_names, .inl (cI, 128, .inl v_names)), (vq_fieldNames, .inl (cI, 128, .inl v_fieldNames)), (vq_amounts, .inl (cI, 128, .inl v_amounts)), (vq_fieldDefaults, .inl (cZ, 128, .inl v_fieldDefaults)), (vq_enumDefaults, .inl (cZ, 128, .inl v_enumDefaults)), (obC, .inr (3, [.ref cq_firsts, .ref cq_seconds, .int c_count_2])), (cq_firsts, .inl (cI, 128, .inl c_firsts_2)), (cq_seconds, .inl (cI, 128, .inl c_seconds_2))]) [0, 1, 2, 3, 4, 5, 6, 7, 9, 10, 11, 12, 13, 14, 15, 16, 18, 20, 21, 22, 23] [8, 17, 19] [3, 4, 5, 6, 7, 8, 9, 10, 0, 11, 12, 13, 14, 15, 16, 17, 18, 1, 19, 2, 20, 21, 22, 23] rfl rfl rfl rfl rfl (by decide) rfl rfl rfl (va_recv hK hP (ci := 7) (q0 := 0) rfl rfl) rfl rfl hl.1 (Nat.le_of_ble_eq_true rfl) dX5_isWholeFit_11 ⟨Nat.zero_le _, Nat.zero_le _⟩ (fun H locs hP hD hS => ?_)
  refine lv_if_ne (tgt := 19) hx hb dX5_isWholeFit_14 (by decide) (fun c3 => ?_) (fun c3 => ?_)
  · have hm := mr_un c3 hm
    refine lv_iconst (v := 0) hx hb dX5_isWholeFit_19 (by decide) ?_
    have j21 : ∀ (n21 : Nat) (c_firsts : Nat → Int32) (c_seconds : Nat → Int32) (c_count : Int32) (x1 : Int32) (H : Heap) (locs : List Loc) (ls : Array Slot), va_P (dC, dI) srCl [(obP, .inr (7, [.ref obW, .ref obV, .ref obC])), (obW, .inr (8, [.ref wq_plain, .ref wq_kinds, .ref wq_meant, .ref wq_firsts, .ref wq_nexts, .ref wq_names, .ref wq_fieldNames, .ref wq_amounts, .ref wq_fieldDefaults, .ref wq_enumDefaults, .int w_letterCount, .int w_slotCount])), (wq_plain, .inl (cB, 4096, .inl w_plain)), (wq_kinds, .inl (cI, 128, .inl w_kinds)), (wq_meant, .inl (cI, 128, .inl w_meant)), (wq_firsts, .inl (cI, 128, .inl w_firsts)), (wq_nexts, .inl (cI, 128, .inl w_nexts)), (wq_names, .inl (cI, 128, .inl w_names)), (wq_fieldNames, .inl (cI, 128, .inl w_fieldNames)), (wq_amounts, .inl (cI, 128, .inl w_amounts)), (obV, .inr (8, [.ref vq_plain, .ref vq_kinds, .ref vq_meant, .ref vq_firsts, .ref vq_nexts, .ref vq_names, .ref vq_fieldNames, .ref vq_amounts, .ref vq_fieldDefaults, .ref vq_enumDefaults, .int v_letterCount, .int v_slotCount])), (vq_plain, .inl (cB, 4096, .inl v_plain)), (vq_kinds, .inl (cI, 128, .inl v_kinds)), (vq_meant, .inl (cI, 128, .inl v_meant)), (vq_firsts, .inl (cI, 128, .inl v_firsts)), (vq_nexts, .inl (cI, 128, .inl v_nexts)), (vq_names, .inl (cI, 128, .inl v_names)), (vq_fieldNames, .inl (cI, 128, .inl v_fieldNames)), (vq_amounts, .inl (cI, 128, .inl v_amounts)), (vq_fieldDefaults, .inl (cZ, 128, .inl v_fieldDefaults)), (vq_enumDefaults, .inl (cZ, 128, .inl v_enumDefaults)), (obC, .inr (3, [.ref cq_firsts, .ref cq_seconds, .int c_count])), (cq_firsts, .inl (cI, 128, .inl c_firsts)), (cq_seconds, .inl (cI, 128, .inl c_seconds))] H → va_D A [(obP, .inr (7, [.ref obW, .ref obV, .ref obC])), (obW, .inr (8, [.ref wq_plain, .ref wq_kinds, .ref wq_meant, .ref wq_firsts, .ref wq_nexts, .ref wq_names, .ref wq_fieldNames, .ref wq_amounts, .ref wq_fieldDefaults, .ref wq_enumDefaults, .int w_letterCount, .int w_slotCount])), (wq_plain, .inl (cB, 4096, .inl w_plain)), (wq_kinds, .inl (cI, 128, .inl w_kinds)), (wq_meant, .inl (cI, 128, .inl w_meant)), (wq_firsts, .inl (cI, 128, .inl w_firsts)), (wq_nexts, .inl (cI, 128, .inl w_nexts)), (wq_names, .inl (cI, 128, .inl w_names)), (wq_fieldNames, .inl (cI, 128, .inl w_fieldNames)), (wq_amounts, .inl (cI, 128, .inl w_amounts)), (obV, .inr (8, [.ref vq_plain, .ref vq_kinds, .ref vq_meant, .ref vq_firsts, .ref vq_nexts, .ref vq_names, .ref vq_fieldNames, .ref vq_amounts, .ref vq_fieldDefaults, .ref vq_enumDefaults, .int v_letterCount, .int v_slotCount])), (vq_plain, .inl (cB, 4096, .inl v_plain)), (vq_kinds, .inl (cI, 128, .inl v_kinds)), (vq_meant, .inl (cI, 128, .inl v_meant)), (vq_firsts, .inl (cI, 128, .inl v_firsts)), (vq_nexts, .inl (cI, 128, .inl v_nexts)), (vq_names, .inl (cI, 128, .inl v_names)), (vq_fieldNames, .inl (cI, 128, .inl v_fieldNames)), (vq_amounts, .inl (cI, 128, .inl v_amounts)), (vq_fieldDefaults, .inl (cZ, 128, .inl v_fieldDefaults)), (vq_enumDefaults, .inl (cZ, 128, .inl v_enumDefaults)), (obC, .inr (3, [.ref cq_firsts, .ref cq_seconds, .int c_count])), (cq_firsts, .inl (cI, 128, .inl c_firsts)), (cq_seconds, .inl (cI, 128, .inl c_seconds))] → va_S A s.heap H locs → lv_has ls 2 [(0, .ref obP), (1, .int x1)] → m_X5_isWholeFit_21 w_plain w_kinds w_meant w_firsts w_nexts w_names w_fieldNames w_amounts w_letterCount v_plain v_kinds v_meant v_firsts v_nexts v_names v_fieldNames v_amounts v_fieldDefaults v_enumDefaults v_letterCount n21 c_firsts c_seconds c_count x1 = some res → W p l e (headSpec wsX5_isWholeFit (rmX5_isWholeFit 0 0)).room s m [.ref obP].toArray below meth c H locs 0 0 Q0 (F0 m 21 ls []) := by
      intro n21
      induction n21 with
      | zero => intro c_firsts c_seconds c_count x1 H locs ls hP hD hS hl hm; exact nomatch (show (none : Option _) = some res from hm)
      | succ n21 ih21 =>
        intro c_firsts c_seconds c_count x1 H locs ls hP hD hS hl hm
        rw [m_X5_isWholeFit_21] at hm
        refine lv_iload_n hx hb dX5_isWholeFit_21 rfl (lv_at hl 1 rfl) ?_
        refine lv_aload_n hx hb dX5_isWholeFit_22 rfl (lv_at hl 0 rfl) ?_
        refine va_get (D := (dC, dI)) (ci := 7) (v := .ref obC) (C := RX5) (T := TX5) (N := 3) hx hb hts (inX5 _) hown hK hP 0 rfl rfl 2 (by decide) (hts _ (List.mem_cons_of_mem _ wf5_20)) (fun _ h9 => h9) rfl dX5_isWholeFit_23 ?_
        obtain ⟨r4, hz4, hm⟩ := mr_bind hm
        refine mr_pV (As := []) (rest := [.int x1]) (sr_okZ adK adV) ⟨hx, hb, hml, hown, hts⟩ (kX11_count l htr dC dI adK adV cI cB cJ cZ cQ obC cq_firsts cq_seconds c_count r4 hz4) (cwV 0 hts (g5_60 _) rfl rfl rfl (by decide +kernel) ⟨(by show 0 + 1 ≤ 81; omega), (by show 8 + (1 + 11) + (0) ≤ 2016; omega)⟩) hS hP hK hz0 [21] rfl (va_recv hK hP (ci := 3) (q0 := 21) rfl rfl) rfl rfl hl.1 (Nat.le_of_ble_eq_true rfl) dX5_isWholeFit_26 ⟨Nat.zero_le _, Nat.zero_le _⟩ ?_
        refine lv_icmp_ge (tgt := 70) hx hb dX5_isWholeFit_29 (by decide) (fun c5 => ?_) (fun c5 => ?_)
        · have hm := mr_if c5 hm
          refine lv_iconst (v := 1) hx hb dX5_isWholeFit_70 (by decide) ?_
          obtain rfl := Option.some.inj hm
          subst hQ0
          exact W.zret (v := 1) hx hb hr rfl (fun t ht hW => ⟨⟨1, (c_firsts, c_seconds, c_count), rfl, ⟨rfl, rfl⟩, by rw [ht]; exact hP, va_K.moved hW.alike hK, hD⟩, hS.F ht⟩) hS.2.2 dX5_isWholeFit_71
        · have hm := mr_un c5 hm
          refine lv_iload_n hx hb dX5_isWholeFit_32 rfl (lv_at hl 1 rfl) ?_
          refine lv_sipush (v := 128) hx hb dX5_isWholeFit_33 (by decide) ?_
          refine lv_icmp_ge (tgt := 70) hx hb dX5_isWholeFit_36 (by decide) (fun c6 => ?_) (fun c6 => ?_)
          · have hm := mr_if c6 hm
            refine lv_iconst (v := 1) hx hb dX5_isWholeFit_70 (by decide) ?_
            obtain rfl := Option.some.inj hm
            subst hQ0
            exact W.zret (v := 1) hx hb hr rfl (fun t ht hW => ⟨⟨1, (c_firsts, c_seconds, c_count), rfl, ⟨rfl, rfl⟩, by rw [ht]; exact hP, va_K.moved hW.alike hK, hD⟩, hS.F ht⟩) hS.2.2 dX5_isWholeFit_71
          · have hm := mr_un c6 hm
            refine lv_aload_n hx hb dX5_isWholeFit_39 rfl (lv_at hl 0 rfl) ?_
            refine lv_aload_n hx hb dX5_isWholeFit_40 rfl (lv_at hl 0 rfl) ?_
            refine va_get (D := (dC, dI)) (ci := 7) (v := .ref obC) (C := RX5) (T := TX5) (N := 3) hx hb hts (inX5 _) hown hK hP 0 rfl rfl 2 (by decide) (hts _ (List.mem_cons_of_mem _ wf5_20)) (fun _ h9 => h9) rfl dX5_isWholeFit_41 ?_
            refine lv_iload_n hx hb dX5_isWholeFit_44 rfl (lv_at hl 1 rfl) ?_
            obtain ⟨r7, hz7, hm⟩ := mr_bind hm
            refine mr_pV (As := [.int x1]) (rest := [.ref obP]) (sr_okZ adK adV) ⟨hx, hb, hml, hown, hts⟩ (kX11_first l htr dC dI adK adV cI cB cJ cZ cQ obC cq_firsts cq_seconds c_count c_firsts x1 r7 hz7) (cwV 1 hts (g5_64 _) rfl rfl rfl (by decide +kernel) ⟨(by show 1 + 1 ≤ 81; omega), (by show 8 + (2 + 11) + (21) ≤ 2016; omega)⟩) hS hP hK hz0 [21, 22] rfl (va_recv hK hP (ci := 3) (q0 := 21) rfl rfl) rfl rfl hl.1 (Nat.le_of_ble_eq_true rfl) dX5_isWholeFit_45 ⟨Nat.zero_le _, Nat.zero_le _⟩ ?_
            refine lv_aload_n hx hb dX5_isWholeFit_48 rfl (lv_at hl 0 rfl) ?_
            refine va_get (D := (dC, dI)) (ci := 7) (v := .ref obC) (C := RX5) (T := TX5) (N := 3) hx hb hts (inX5 _) hown hK hP 0 rfl rfl 2 (by decide) (hts _ (List.mem_cons_of_mem _ wf5_20)) (fun _ h9 => h9) rfl dX5_isWholeFit_49 ?_
            refine lv_iload_n hx hb dX5_isWholeFit_52 rfl (lv_at hl 1 rfl) ?_
            obtain ⟨r8, hz8, hm⟩ := mr_bind hm
            refine mr_pV (As := [.int x1]) (rest := [.int r7, .ref obP]) (sr_okZ adK adV) ⟨hx, hb, hml, hown, hts⟩ (kX11_second l htr dC dI adK adV cI cB cJ cZ cQ obC cq_firsts cq_seconds c_count c_seconds x1 r8 hz8) (cwV 1 hts (g5_65 _) rfl rfl rfl (by decide +kernel) ⟨(by show 1 + 1 ≤ 81; omega), (by show 8 + (2 + 11) + (21) ≤ 2016; omega)⟩) hS hP hK hz0 [21, 23] rfl (va_recv hK hP (ci := 3) (q0 := 21) rfl rfl) rfl rfl hl.1 (Nat.le_of_ble_eq_true rfl) dX5_isWholeFit_53 ⟨Nat.zero_le _, Nat.zero_le _⟩ ?_
            obtain ⟨⟨r9, c_firsts_9, c_seconds_9, c_count_9⟩, hz9, hm⟩ := mr_bind hm
            try dsimp only at hm
            refine mr_wVi (As := [.int r7, .int r8]) (rest := []) (sr_okZ adK adV) ⟨hx, hb, hml, hown, hts⟩ (kX5_isFieldsFit l htr dC dI adK adV cI cB cJ cZ cQ obP obW obV obC wq_plain wq_kinds wq_meant wq_firsts wq_nexts wq_names wq_fieldNames wq_amounts wq_fieldDefaults wq_enumDefaults vq_plain vq_kinds vq_meant vq_firsts vq_nexts vq_names vq_fieldNames vq_amounts vq_fieldDefaults vq_enumDefaults cq_firsts cq_seconds w_letterCount w_slotCount v_letterCount v_slotCount c_count w_plain w_kinds w_meant w_firsts w_nexts w_names w_fieldNames w_amounts v_plain v_kinds v_meant v_firsts v_nexts v_names v_fieldNames v_amounts v_fieldDefaults v_enumDefaults c_firsts c_seconds _ r7 r8 _ hz9) (cwV 2 hts (g5_68 _) rfl rfl rfl (by decide +kernel) ⟨(by show 80 + 1 ≤ 81; omega), (by show 8 + (6 + 11) + (1991) ≤ 2016; omega)⟩) hS hA hP hD hK hz0 (wr := []) (w1 := [(obP, .inr (7, [.ref obW, .ref obV, .ref obC])), (obW, .inr (8, [.ref wq_plain, .ref wq_kinds, .ref wq_meant, .ref wq_firsts, .ref wq_nexts, .ref wq_names, .ref wq_fieldNames, .ref wq_amounts, .ref wq_fieldDefaults, .ref wq_enumDefaults, .int w_letterCount, .int w_slotCount])), (wq_plain, .inl (cB, 4096, .inl w_plain)), (wq_kinds, .inl (cI, 128, .inl w_kinds)), (wq_meant, .inl (cI, 128, .inl w_meant)), (wq_firsts, .inl (cI, 128, .inl w_firsts)), (wq_nexts, .inl (cI, 128, .inl w_nexts)), (wq_names, .inl (cI, 128, .inl w_names)), (wq_fieldNames, .inl (cI, 128, .inl w_fieldNames)), (wq_amounts, .inl (cI, 128, .inl w_amounts)), (obV, .inr (8, [.ref vq_plain, .ref vq_kinds, .ref vq_meant, .ref vq_firsts, .ref vq_nexts, .ref vq_names, .ref vq_fieldNames, .ref vq_amounts, .ref vq_fieldDefaults, .ref vq_enumDefaults, .int v_letterCount, .int v_slotCount])), (vq_plain, .inl (cB, 4096, .inl v_plain)), (vq_kinds, .inl (cI, 128, .inl v_kinds)), (vq_meant, .inl (cI, 128, .inl v_meant)), (vq_firsts, .inl (cI, 128, .inl v_firsts)), (vq_nexts, .inl (cI, 128, .inl v_nexts)), (vq_names, .inl (cI, 128, .inl v_names)), (vq_fieldNames, .inl (cI, 128, .inl v_fieldNames)), (vq_amounts, .inl (cI, 128, .inl v_amounts)), (vq_fieldDefaults, .inl (cZ, 128, .inl v_fieldDefaults)), (vq_enumDefaults, .inl (cZ, 128, .inl v_enumDefaults)), (obC, .inr (3, [.ref cq_firsts, .ref cq_seconds, .int c_count_9])), (cq_firsts, .inl (cI, 128, .inl c_firsts_9)), (cq_seconds, .inl (cI, 128, .inl c_seconds_9))]) [0, 1, 2, 3, 4, 5, 6, 7, 8, 9, 10, 11, 12, 13, 14, 15, 16, 17, 18, 19, 20, 21, 22, 23] [] [0, 1, 2, 3, 4, 5, 6, 7, 8, 9, 10, 11, 12, 13, 14, 15, 16, 17, 18, 19, 20, 21, 22, 23] rfl rfl rfl rfl rfl (by decide) rfl rfl rfl (va_recv hK hP (ci := 7) (q0 := 0) rfl rfl) rfl rfl hl.1 (Nat.le_of_ble_eq_true rfl) dX5_isWholeFit_56 ⟨Nat.zero_le _, Nat.zero_le _⟩ (fun H locs hP hD hS => ?_)
            refine lv_if_ne (tgt := 64) hx hb dX5_isWholeFit_59 (by decide) (fun c10 => ?_) (fun c10 => ?_)
            · have hm := mr_un c10 hm
              refine lv_iinc (v := x1 + 1) (lv' := [(1, .int (x1 + 1)), (0, .ref obP)]) hx hb dX5_isWholeFit_64 hl (k := 1) rfl rfl (by decide) rfl (fun ls hl => ?_)
              refine lv_goto (tgt := 21) hx hb dX5_isWholeFit_67 (by decide) ?_
              exact ih21 c_firsts_9 c_seconds_9 c_count_9 (x1 + 1) _ _ ls hP hD hS (lv_sub hl [1, 0] rfl) hm
            · have hm := mr_if c10 hm
              refine lv_iconst (v := 0) hx hb dX5_isWholeFit_62 (by decide) ?_
              obtain rfl := Option.some.inj hm
              subst hQ0
              exact W.zret (v := 0) hx hb hr rfl (fun t ht hW => ⟨⟨0, (c_firsts_9, c_seconds_9, c_count_9), rfl, ⟨rfl, rfl⟩, by rw [ht]; exact hP, va_K.moved hW.alike hK, hD⟩, hS.F ht⟩) hS.2.2 dX5_isWholeFit_63
    refine lv_istore_n (lv' := [(1, .int 0), (0, .ref obP)]) hx hb dX5_isWholeFit_20 rfl hl (by decide) rfl (fun ls hl => ?_)
    exact j21 sr_fuel c_firsts_2 c_seconds_2 c_count_2 0 _ _ ls hP hD hS (lv_sub hl [1, 0] rfl) hm
  · have hm := mr_if c3 hm
    refine lv_iconst (v := 0) hx hb dX5_isWholeFit_17 (by decide) ?_
    obtain rfl := Option.some.inj hm
    subst hQ0
    exact W.zret (v := 0) hx hb hr rfl (fun t ht hW => ⟨⟨0, (c_firsts_2, c_seconds_2, c_count_2), rfl, ⟨rfl, rfl⟩, by rw [ht]; exact hP, va_K.moved hW.alike hK, hD⟩, hS.F ht⟩) hS.2.2 dX5_isWholeFit_18
end
section
abbrev cX5_isSame1 : ByteArray := cX5_isSame
abbrev yX5_isSame1 : MethodName := yX5_isSame
abbrev wsX5_isSame1 : List Cond := wsX5_isSame
def rmX5_isSame1 (mc ms : Nat) : Room := { frames := 2, cells := mc, slots := ms, locals := 42 }
abbrev cX5_isMatch1 : ByteArray := cX5_isMatch
abbrev yX5_isMatch1 : MethodName := yX5_isMatch
abbrev wsX5_isMatch1 : List Cond := wsX5_isMatch
def rmX5_isMatch1 (mc ms : Nat) : Room := { frames := 3, cells := mc, slots := ms, locals := 66 }
abbrev cX5_firstMatch1 : ByteArray := cX5_firstMatch
abbrev yX5_firstMatch1 : MethodName := yX5_firstMatch
abbrev wsX5_firstMatch1 : List Cond := wsX5_firstMatch
def rmX5_firstMatch1 (mc ms : Nat) : Room := { frames := 4, cells := mc, slots := ms, locals := 92 }
abbrev cX5_hasSymbol1 : ByteArray := cX5_hasSymbol
abbrev yX5_hasSymbol1 : MethodName := yX5_hasSymbol
abbrev wsX5_hasSymbol1 : List Cond := wsX5_hasSymbol
def rmX5_hasSymbol1 (mc ms : Nat) : Room := { frames := 2, cells := mc, slots := ms, locals := 43 }
abbrev cX5_hasAllSymbols1 : ByteArray := cX5_hasAllSymbols
abbrev yX5_hasAllSymbols1 : MethodName := yX5_hasAllSymbols
abbrev wsX5_hasAllSymbols1 : List Cond := wsX5_hasAllSymbols
def rmX5_hasAllSymbols1 (mc ms : Nat) : Room := { frames := 3, cells := mc, slots := ms, locals := 67 }
abbrev cX5_ask1 : ByteArray := cX5_ask
abbrev yX5_ask1 : MethodName := yX5_ask
abbrev wsX5_ask1 : List Cond := wsX5_ask
def rmX5_ask1 (mc ms : Nat) : Room := { frames := 2, cells := mc, slots := ms, locals := 44 }
abbrev cX5_writerField1 : ByteArray := cX5_writerField
abbrev yX5_writerField1 : MethodName := yX5_writerField
abbrev wsX5_writerField1 : List Cond := wsX5_writerField
def rmX5_writerField1 (mc ms : Nat) : Room := { frames := 2, cells := mc, slots := ms, locals := 42 }
abbrev cX5_isEveryBranchFit1 : ByteArray := cX5_isEveryBranchFit
abbrev yX5_isEveryBranchFit1 : MethodName := yX5_isEveryBranchFit
abbrev wsX5_isEveryBranchFit1 : List Cond := wsX5_isEveryBranchFit
def rmX5_isEveryBranchFit1 (d : Nat) (mc ms : Nat) : Room := { frames := 2 * d + 6, cells := mc, slots := ms, locals := 50 * d + 141 }
abbrev cX5_isFit1 : ByteArray := cX5_isFit
abbrev yX5_isFit1 : MethodName := yX5_isFit
abbrev wsX5_isFit1 : List Cond := wsX5_isFit
def rmX5_isFit1 (d : Nat) (mc ms : Nat) : Room := { frames := 2 * d + 5, cells := mc, slots := ms, locals := 50 * d + 116 }
abbrev cX5_isFieldsFit1 : ByteArray := cX5_isFieldsFit
abbrev yX5_isFieldsFit1 : MethodName := yX5_isFieldsFit
abbrev wsX5_isFieldsFit1 : List Cond := wsX5_isFieldsFit
def rmX5_isFieldsFit1 (mc ms : Nat) : Room := { frames := 80, cells := mc, slots := ms, locals := 1991 }
abbrev cX5_isWholeFit1 : ByteArray := cX5_isWholeFit
abbrev yX5_isWholeFit1 : MethodName := yX5_isWholeFit
abbrev wsX5_isWholeFit1 : List Cond := wsX5_isWholeFit
def rmX5_isWholeFit1 (mc ms : Nat) : Room := { frames := 81, cells := mc, slots := ms, locals := 2016 }
end
section
set_option maxHeartbeats 4000000 in
set_option maxRecDepth 100000 in
theorem kX5_isSame1 (l : Launch) (htr : l.stackTraces = false) (dC : Nat → ClassId) (dI : Nat → Nat → Nat) (adK adV : Nat → Nat) (cI cB cJ cZ cQ : ClassId) (obP obW obC wq_plain wq_kinds wq_meant wq_firsts wq_nexts wq_names wq_fieldNames wq_amounts wq_fieldDefaults wq_enumDefaults : Nat) (w_letterCount : Int32) (w_slotCount : Int32) (w_plain : Nat → Int32) (w_kinds : Nat → Int32) (w_meant : Nat → Int32) (w_names : Nat → Int32) (w_amounts : Nat → Int32) (a0 : Int32) (a1 : Int32) (res : Int32) (hm : m_X5_isSame1 w_plain w_kinds w_meant w_names w_amounts w_letterCount a0 a1 = some res) : Met l yX5_isSame1 wsX5_isSame1 (rmX5_isSame1 0 0) (pcR (sr_Z adK adV) (dC, dI) srCl [(cI, .int), (cB, .byte), (cJ, .long), (cZ, .boolean), (cQ, .object "SchemaReader$Schema")] [.ref obP, .int a0, .int a1] [(obP, .inr (7, [.ref obW, .ref obW, .ref obC])), (obW, .inr (8, [.ref wq_plain, .ref wq_kinds, .ref wq_meant, .ref wq_firsts, .ref wq_nexts, .ref wq_names, .ref wq_fieldNames, .ref wq_amounts, .ref wq_fieldDefaults, .ref wq_enumDefaults, .int w_letterCount, .int w_slotCount])), (wq_plain, .inl (cB, 4096, .inl w_plain)), (wq_kinds, .inl (cI, 128, .inl w_kinds)), (wq_meant, .inl (cI, 128, .inl w_meant)), (wq_names, .inl (cI, 128, .inl w_names)), (wq_amounts, .inl (cI, 128, .inl w_amounts))]) (k2_QcV (.int res)) 0 0 (fun _ => False) := by
  refine Met.ofW (cc := cX5_isSame1) (maxL := 5) (ret := (some .boolean)) (by decide) rfl ?_
  intro p e s m args below meth c s₁ B hml hv
  obtain ⟨rfl, hP, hK, hz0⟩ := hv
  have hx := B.exec
  have hb := B.bytes
  have hr := B.returns
  have hts := atoms_spec (ws := wsX5_isSame1) B.pre
  have hown : s.vm.findClass RX5 = some m.cls := findClass_of_methodNamed B.named
  have hlocks := B.notSynchronized
  have hS : va_S (fun _ => False) s.heap s.heap [] := va_S.rf
  generalize hQ0 : MQ below (k2_QcV (.int res)) [.ref obP, .int a0, .int a1].toArray s 0 0 (fun _ => False) = Q0
  have hl := lv_entry [.ref obP, .int a0, .int a1] (n := 5) (Nat.le_of_ble_eq_true rfl)
  rw [lg_entry_eq]
  generalize (lg_sl [.ref obP, .int a0, .int a1] ++ List.replicate (5 - (lg_sl [.ref obP, .int a0, .int a1]).length) Slot.unset).toArray = ls at hl ⊢
  have hl : lv_has ls 5 [(0, .ref obP), (1, .int a0), (2, .int a1)] := hl
  unfold m_X5_isSame1 at hm
  refine lv_aload_n hx hb dX5_isSame_0 rfl (lv_at hl 0 rfl) ?_
  refine va_get (D := (dC, dI)) (ci := 7) (v := .ref obW) (C := RX5) (T := TX5) (N := 3) hx hb hts (inX5 _) hown hK hP 0 rfl rfl 0 (by decide) (hts _ (List.mem_cons_of_mem _ wf5_11)) (fun _ h9 => h9) rfl dX5_isSame_1 ?_
  refine lv_iload_n hx hb dX5_isSame_4 rfl (lv_at hl 1 rfl) ?_
  obtain ⟨r1, hz1, hm⟩ := mr_bind hm
  refine mr_pV (As := [.int a0]) (rest := []) (sr_okZ adK adV) ⟨hx, hb, hml, hown, hts⟩ (kX6_kind l htr dC dI adK adV cI cB cJ cZ cQ obW wq_plain wq_kinds wq_meant wq_firsts wq_nexts wq_names wq_fieldNames wq_amounts wq_fieldDefaults wq_enumDefaults w_letterCount w_slotCount w_kinds w_meant a0 r1 hz1) (cwV 1 hts (g5_24 _) rfl rfl rfl (by decide +kernel) ⟨(by show 1 + 1 ≤ 2; omega), (by show 8 + (2 + 11) + (21) ≤ 42; omega)⟩) hS hP hK hz0 [1, 3, 4] rfl (va_recv hK hP (ci := 8) (q0 := 1) rfl rfl) rfl rfl hl.1 (Nat.le_of_ble_eq_true rfl) dX5_isSame_5 ⟨Nat.zero_le _, Nat.zero_le _⟩ ?_
  refine lv_istore_n (lv' := [(3, .int r1), (0, .ref obP), (1, .int a0), (2, .int a1)]) hx hb dX5_isSame_8 rfl hl (by decide) rfl (fun ls hl => ?_)
  refine lv_aload_n hx hb dX5_isSame_9 rfl (lv_at hl 1 rfl) ?_
  refine va_get (D := (dC, dI)) (ci := 7) (v := .ref obW) (C := RX5) (T := TX5) (N := 3) hx hb hts (inX5 _) hown hK hP 0 rfl rfl 1 (by decide) (hts _ (List.mem_cons_of_mem _ wf5_17)) (fun _ h9 => h9) rfl dX5_isSame_10 ?_
  refine lv_iload_n hx hb dX5_isSame_13 rfl (lv_at hl 3 rfl) ?_
  obtain ⟨r2, hz2, hm⟩ := mr_bind hm
  refine mr_pV (As := [.int a1]) (rest := []) (sr_okZ adK adV) ⟨hx, hb, hml, hown, hts⟩ (kX6_kind l htr dC dI adK adV cI cB cJ cZ cQ obW wq_plain wq_kinds wq_meant wq_firsts wq_nexts wq_names wq_fieldNames wq_amounts wq_fieldDefaults wq_enumDefaults w_letterCount w_slotCount w_kinds w_meant a1 r2 hz2) (cwV 1 hts (g5_24 _) rfl rfl rfl (by decide +kernel) ⟨(by show 1 + 1 ≤ 2; omega), (by show 8 + (2 + 11) + (21) ≤ 42; omega)⟩) hS hP hK hz0 [1, 3, 4] rfl (va_recv hK hP (ci := 8) (q0 := 1) rfl rfl) rfl rfl hl.1 (Nat.le_of_ble_eq_true rfl) dX5_isSame_14 ⟨Nat.zero_le _, Nat.zero_le _⟩ ?_
  refine lv_istore (lv' := [(4, .int r2), (3, .int r1), (0, .ref obP), (1, .int a0), (2, .int a1)]) hx hb dX5_isSame_17 hl (by decide) rfl (fun ls hl => ?_)
  refine lv_iload_n hx hb dX5_isSame_19 rfl (lv_at hl 1 rfl) ?_
  refine lv_iload hx hb dX5_isSame_20 (lv_at hl 0 rfl) ?_
  refine lv_icmp_eq (tgt := 64) hx hb dX5_isSame_22 (by decide) (fun c3 => ?_) (fun c3 => ?_)
  · have hm := mr_if c3 hm
    refine lv_iload_n hx hb dX5_isSame_64 rfl (lv_at hl 1 rfl) ?_
    obtain ⟨r4, hz4, hm⟩ := mr_bind hm
    refine mr_pS (As := [.int r1]) (rest := []) (sr_okZ adK adV) ⟨hx, hb, hml, hown, hts⟩ (kX3_isNamed l htr dC dI adK adV cI cB cJ cZ cQ  r1 r4 hz4) (va_cwS 1 hts (g5_37 _) rfl rfl rfl (by decide +kernel) ⟨(by show 0 + 1 ≤ 2; omega), (by show 8 + (1 + 11) + (0) ≤ 42; omega)⟩) hS hP hK hz0 [] rfl rfl rfl hl.1 (Nat.le_of_ble_eq_true rfl) dX5_isSame_65 ⟨Nat.zero_le _, Nat.zero_le _⟩ ?_
    refine lv_if_ne (tgt := 73) hx hb dX5_isSame_68 (by decide) (fun c5 => ?_) (fun c5 => ?_)
    · have hm := mr_un c5 hm
      refine lv_iload_n hx hb dX5_isSame_73 rfl (lv_at hl 1 rfl) ?_
      refine lv_bipush (v := 8) hx hb dX5_isSame_74 (by decide) ?_
      have j100 : ∀ (x1 : Int32) (x2 : Int32) (ls : Array Slot), lv_has ls 5 [(0, .ref obP), (1, .int x1), (2, .int x2)] → m_X5_isSame1_100 w_plain w_kinds w_meant w_names w_amounts w_letterCount x1 x2 = some res → W p l e (headSpec wsX5_isSame1 (rmX5_isSame1 0 0)).room s m [.ref obP, .int a0, .int a1].toArray below meth c s.heap [] 0 0 Q0 (F0 m 100 ls []) := by
        intro x1 x2 ls hl hm
        unfold m_X5_isSame1_100 at hm
        refine lv_aload_n hx hb dX5_isSame_100 rfl (lv_at hl 0 rfl) ?_
        refine va_get (D := (dC, dI)) (ci := 7) (v := .ref obW) (C := RX5) (T := TX5) (N := 3) hx hb hts (inX5 _) hown hK hP 0 rfl rfl 0 (by decide) (hts _ (List.mem_cons_of_mem _ wf5_11)) (fun _ h9 => h9) rfl dX5_isSame_101 ?_
        refine lv_aload_n hx hb dX5_isSame_104 rfl (lv_at hl 0 rfl) ?_
        refine va_get (D := (dC, dI)) (ci := 7) (v := .ref obW) (C := RX5) (T := TX5) (N := 3) hx hb hts (inX5 _) hown hK hP 0 rfl rfl 0 (by decide) (hts _ (List.mem_cons_of_mem _ wf5_11)) (fun _ h9 => h9) rfl dX5_isSame_105 ?_
        refine lv_iload_n hx hb dX5_isSame_108 rfl (lv_at hl 1 rfl) ?_
        obtain ⟨r6, hz6, hm⟩ := mr_bind hm
        refine mr_pV (As := [.int x1]) (rest := [.ref obW]) (sr_okZ adK adV) ⟨hx, hb, hml, hown, hts⟩ (kX6_name l htr dC dI adK adV cI cB cJ cZ cQ obW wq_plain wq_kinds wq_meant wq_firsts wq_nexts wq_names wq_fieldNames wq_amounts wq_fieldDefaults wq_enumDefaults w_letterCount w_slotCount w_meant w_names x1 r6 hz6) (cwV 1 hts (g5_44 _) rfl rfl rfl (by decide +kernel) ⟨(by show 1 + 1 ≤ 2; omega), (by show 8 + (2 + 11) + (21) ≤ 42; omega)⟩) hS hP hK hz0 [1, 4, 5] rfl (va_recv hK hP (ci := 8) (q0 := 1) rfl rfl) rfl rfl hl.1 (Nat.le_of_ble_eq_true rfl) dX5_isSame_109 ⟨Nat.zero_le _, Nat.zero_le _⟩ ?_
        refine lv_aload_n hx hb dX5_isSame_112 rfl (lv_at hl 0 rfl) ?_
        refine va_get (D := (dC, dI)) (ci := 7) (v := .ref obW) (C := RX5) (T := TX5) (N := 3) hx hb hts (inX5 _) hown hK hP 0 rfl rfl 1 (by decide) (hts _ (List.mem_cons_of_mem _ wf5_17)) (fun _ h9 => h9) rfl dX5_isSame_113 ?_
        refine lv_aload_n hx hb dX5_isSame_116 rfl (lv_at hl 0 rfl) ?_
        refine va_get (D := (dC, dI)) (ci := 7) (v := .ref obW) (C := RX5) (T := TX5) (N := 3) hx hb hts (inX5 _) hown hK hP 0 rfl rfl 1 (by decide) (hts _ (List.mem_cons_of_mem _ wf5_17)) (fun _ h9 => h9) rfl dX5_isSame_117 ?_
        refine lv_iload_n hx hb dX5_isSame_120 rfl (lv_at hl 2 rfl) ?_
        obtain ⟨r7, hz7, hm⟩ := mr_bind hm
        refine mr_pV (As := [.int x2]) (rest := [.ref obW, .int r6, .ref obW]) (sr_okZ adK adV) ⟨hx, hb, hml, hown, hts⟩ (kX6_name l htr dC dI adK adV cI cB cJ cZ cQ obW wq_plain wq_kinds wq_meant wq_firsts wq_nexts wq_names wq_fieldNames wq_amounts wq_fieldDefaults wq_enumDefaults w_letterCount w_slotCount w_meant w_names x2 r7 hz7) (cwV 1 hts (g5_44 _) rfl rfl rfl (by decide +kernel) ⟨(by show 1 + 1 ≤ 2; omega), (by show 8 + (2 + 11) + (21) ≤ 42; omega)⟩) hS hP hK hz0 [1, 4, 5] rfl (va_recv hK hP (ci := 8) (q0 := 1) rfl rfl) rfl rfl hl.1 (Nat.le_of_ble_eq_true rfl) dX5_isSame_121 ⟨Nat.zero_le _, Nat.zero_le _⟩ ?_
        obtain ⟨r8, hz8, hm⟩ := mr_bind hm
        refine mr_pS (As := [.ref obW, .int r6, .ref obW, .int r7]) (rest := []) (sr_okZ adK adV) ⟨hx, hb, hml, hown, hts⟩ (kX6_isSameName l htr dC dI adK adV cI cB cJ cZ cQ obW wq_plain wq_kinds wq_meant wq_firsts wq_nexts wq_names wq_fieldNames wq_amounts wq_fieldDefaults wq_enumDefaults obW wq_plain wq_kinds wq_meant wq_firsts wq_nexts wq_names wq_fieldNames wq_amounts wq_fieldDefaults wq_enumDefaults w_letterCount w_slotCount w_letterCount w_slotCount w_plain w_plain r6 r7 r8 hz8) (va_cwS 4 hts (g5_47 _) rfl rfl rfl (by decide +kernel) ⟨(by show 0 + 1 ≤ 2; omega), (by show 8 + (7 + 11) + (0) ≤ 42; omega)⟩) hS hP hK hz0 [1, 2, 1, 2] rfl rfl rfl hl.1 (Nat.le_of_ble_eq_true rfl) dX5_isSame_124 ⟨Nat.zero_le _, Nat.zero_le _⟩ ?_
        obtain ⟨h9, hm⟩ := mr_bz hm
        obtain rfl := Option.some.inj hm
        subst hQ0
        exact W.zret (v := r8) hx hb hr h9 (fun t ht hW => ⟨rfl, ht⟩) (fun q h => by cases h) dX5_isSame_127
      refine lv_icmp_ne (tgt := 100) hx hb dX5_isSame_76 (by decide) (fun c10 => ?_) (fun c10 => ?_)
      · have hm := mr_un c10 hm
        exact j100 a0 a1 ls (lv_sub hl [2, 3, 4] rfl) hm
      · have hm := mr_if c10 hm
        refine lv_aload_n hx hb dX5_isSame_79 rfl (lv_at hl 2 rfl) ?_
        refine va_get (D := (dC, dI)) (ci := 7) (v := .ref obW) (C := RX5) (T := TX5) (N := 3) hx hb hts (inX5 _) hown hK hP 0 rfl rfl 0 (by decide) (hts _ (List.mem_cons_of_mem _ wf5_11)) (fun _ h9 => h9) rfl dX5_isSame_80 ?_
        refine lv_iload_n hx hb dX5_isSame_83 rfl (lv_at hl 3 rfl) ?_
        obtain ⟨r11, hz11, hm⟩ := mr_bind hm
        refine mr_pV (As := [.int a0]) (rest := []) (sr_okZ adK adV) ⟨hx, hb, hml, hown, hts⟩ (kX6_amount l htr dC dI adK adV cI cB cJ cZ cQ obW wq_plain wq_kinds wq_meant wq_firsts wq_nexts wq_names wq_fieldNames wq_amounts wq_fieldDefaults wq_enumDefaults w_letterCount w_slotCount w_meant w_amounts a0 r11 hz11) (cwV 1 hts (g5_41 _) rfl rfl rfl (by decide +kernel) ⟨(by show 1 + 1 ≤ 2; omega), (by show 8 + (2 + 11) + (21) ≤ 42; omega)⟩) hS hP hK hz0 [1, 4, 6] rfl (va_recv hK hP (ci := 8) (q0 := 1) rfl rfl) rfl rfl hl.1 (Nat.le_of_ble_eq_true rfl) dX5_isSame_84 ⟨Nat.zero_le _, Nat.zero_le _⟩ ?_
        refine lv_aload_n hx hb dX5_isSame_87 rfl (lv_at hl 2 rfl) ?_
        refine va_get (D := (dC, dI)) (ci := 7) (v := .ref obW) (C := RX5) (T := TX5) (N := 3) hx hb hts (inX5 _) hown hK hP 0 rfl rfl 1 (by decide) (hts _ (List.mem_cons_of_mem _ wf5_17)) (fun _ h9 => h9) rfl dX5_isSame_88 ?_
        refine lv_iload_n hx hb dX5_isSame_91 rfl (lv_at hl 4 rfl) ?_
        obtain ⟨r12, hz12, hm⟩ := mr_bind hm
        refine mr_pV (As := [.int a1]) (rest := [.int r11]) (sr_okZ adK adV) ⟨hx, hb, hml, hown, hts⟩ (kX6_amount l htr dC dI adK adV cI cB cJ cZ cQ obW wq_plain wq_kinds wq_meant wq_firsts wq_nexts wq_names wq_fieldNames wq_amounts wq_fieldDefaults wq_enumDefaults w_letterCount w_slotCount w_meant w_amounts a1 r12 hz12) (cwV 1 hts (g5_41 _) rfl rfl rfl (by decide +kernel) ⟨(by show 1 + 1 ≤ 2; omega), (by show 8 + (2 + 11) + (21) ≤ 42; omega)⟩) hS hP hK hz0 [1, 4, 6] rfl (va_recv hK hP (ci := 8) (q0 := 1) rfl rfl) rfl rfl hl.1 (Nat.le_of_ble_eq_true rfl) dX5_isSame_92 ⟨Nat.zero_le _, Nat.zero_le _⟩ ?_
        refine lv_icmp_eq (tgt := 100) hx hb dX5_isSame_95 (by decide) (fun c13 => ?_) (fun c13 => ?_)
        · have hm := mr_if c13 hm
          exact j100 a0 a1 ls (lv_sub hl [2, 3, 4] rfl) hm
        · have hm := mr_un c13 hm
          refine lv_iconst (v := 0) hx hb dX5_isSame_98 (by decide) ?_
          obtain rfl := Option.some.inj hm
          subst hQ0
          exact W.zret (v := 0) hx hb hr rfl (fun t ht hW => ⟨rfl, ht⟩) (fun q h => by cases h) dX5_isSame_99
    · have hm := mr_if c5 hm
      refine lv_iconst (v := 1) hx hb dX5_isSame_71 (by decide) ?_
      obtain rfl := Option.some.inj hm
      subst hQ0
      exact W.zret (v := 1) hx hb hr rfl (fun t ht hW => ⟨rfl, ht⟩) (fun q h => by cases h) dX5_isSame_72
  · have hm := mr_un c3 hm
    refine lv_iload_n hx hb dX5_isSame_25 rfl (lv_at hl 1 rfl) ?_
    refine lv_iconst (v := 2) hx hb dX5_isSame_26 (by decide) ?_
    have j36 : ∀ (x3 : Int32) (x4 : Int32) (ls : Array Slot), lv_has ls 5 [(3, .int x3), (4, .int x4)] → m_X5_isSame1_36 w_plain w_kinds w_meant w_names w_amounts w_letterCount x3 x4 = some res → W p l e (headSpec wsX5_isSame1 (rmX5_isSame1 0 0)).room s m [.ref obP, .int a0, .int a1].toArray below meth c s.heap [] 0 0 Q0 (F0 m 36 ls []) := by
      intro x3 x4 ls hl hm
      unfold m_X5_isSame1_36 at hm
      refine lv_iload_n hx hb dX5_isSame_36 rfl (lv_at hl 0 rfl) ?_
      refine lv_iconst (v := 4) hx hb dX5_isSame_37 (by decide) ?_
      refine lv_icmp_ne (tgt := 47) hx hb dX5_isSame_38 (by decide) (fun c14 => ?_) (fun c14 => ?_)
      · have hm := mr_un c14 hm
        refine lv_iload_n hx hb dX5_isSame_47 rfl (lv_at hl 0 rfl) ?_
        refine lv_iconst (v := 5) hx hb dX5_isSame_48 (by decide) ?_
        refine lv_icmp_ne (tgt := 62) hx hb dX5_isSame_49 (by decide) (fun c15 => ?_) (fun c15 => ?_)
        · have hm := mr_un c15 hm
          refine lv_iconst (v := 0) hx hb dX5_isSame_62 (by decide) ?_
          obtain rfl := Option.some.inj hm
          subst hQ0
          exact W.zret (v := 0) hx hb hr rfl (fun t ht hW => ⟨rfl, ht⟩) (fun q h => by cases h) dX5_isSame_63
        · have hm := mr_if c15 hm
          refine lv_iload hx hb dX5_isSame_52 (lv_at hl 1 rfl) ?_
          refine lv_iconst (v := 4) hx hb dX5_isSame_54 (by decide) ?_
          refine lv_icmp_ne (tgt := 62) hx hb dX5_isSame_55 (by decide) (fun c16 => ?_) (fun c16 => ?_)
          · have hm := mr_un c16 hm
            refine lv_iconst (v := 0) hx hb dX5_isSame_62 (by decide) ?_
            obtain rfl := Option.some.inj hm
            subst hQ0
            exact W.zret (v := 0) hx hb hr rfl (fun t ht hW => ⟨rfl, ht⟩) (fun q h => by cases h) dX5_isSame_63
          · have hm := mr_if c16 hm
            refine lv_iconst (v := 1) hx hb dX5_isSame_58 (by decide) ?_
            refine lv_goto (tgt := 63) hx hb dX5_isSame_59 (by decide) ?_
            obtain rfl := Option.some.inj hm
            subst hQ0
            exact W.zret (v := 1) hx hb hr rfl (fun t ht hW => ⟨rfl, ht⟩) (fun q h => by cases h) dX5_isSame_63
      · have hm := mr_if c14 hm
        refine lv_iload hx hb dX5_isSame_41 (lv_at hl 1 rfl) ?_
        refine lv_iconst (v := 5) hx hb dX5_isSame_43 (by decide) ?_
        refine lv_icmp_eq (tgt := 58) hx hb dX5_isSame_44 (by decide) (fun c17 => ?_) (fun c17 => ?_)
        · have hm := mr_if c17 hm
          refine lv_iconst (v := 1) hx hb dX5_isSame_58 (by decide) ?_
          refine lv_goto (tgt := 63) hx hb dX5_isSame_59 (by decide) ?_
          obtain rfl := Option.some.inj hm
          subst hQ0
          exact W.zret (v := 1) hx hb hr rfl (fun t ht hW => ⟨rfl, ht⟩) (fun q h => by cases h) dX5_isSame_63
        · have hm := mr_un c17 hm
          refine lv_iload_n hx hb dX5_isSame_47 rfl (lv_at hl 0 rfl) ?_
          refine lv_iconst (v := 5) hx hb dX5_isSame_48 (by decide) ?_
          refine lv_icmp_ne (tgt := 62) hx hb dX5_isSame_49 (by decide) (fun c18 => ?_) (fun c18 => ?_)
          · have hm := mr_un c18 hm
            refine lv_iconst (v := 0) hx hb dX5_isSame_62 (by decide) ?_
            obtain rfl := Option.some.inj hm
            subst hQ0
            exact W.zret (v := 0) hx hb hr rfl (fun t ht hW => ⟨rfl, ht⟩) (fun q h => by cases h) dX5_isSame_63
          · have hm := mr_if c18 hm
            refine lv_iload hx hb dX5_isSame_52 (lv_at hl 1 rfl) ?_
            refine lv_iconst (v := 4) hx hb dX5_isSame_54 (by decide) ?_
            refine lv_icmp_ne (tgt := 62) hx hb dX5_isSame_55 (by decide) (fun c19 => ?_) (fun c19 => ?_)
            · have hm := mr_un c19 hm
              refine lv_iconst (v := 0) hx hb dX5_isSame_62 (by decide) ?_
              obtain rfl := Option.some.inj hm
              subst hQ0
              exact W.zret (v := 0) hx hb hr rfl (fun t ht hW => ⟨rfl, ht⟩) (fun q h => by cases h) dX5_isSame_63
            · have hm := mr_if c19 hm
              refine lv_iconst (v := 1) hx hb dX5_isSame_58 (by decide) ?_
              refine lv_goto (tgt := 63) hx hb dX5_isSame_59 (by decide) ?_
              obtain rfl := Option.some.inj hm
              subst hQ0
              exact W.zret (v := 1) hx hb hr rfl (fun t ht hW => ⟨rfl, ht⟩) (fun q h => by cases h) dX5_isSame_63
    refine lv_icmp_ne (tgt := 36) hx hb dX5_isSame_27 (by decide) (fun c20 => ?_) (fun c20 => ?_)
    · have hm := mr_un c20 hm
      exact j36 r1 r2 ls (lv_sub hl [1, 0] rfl) hm
    · have hm := mr_if c20 hm
      refine lv_iload hx hb dX5_isSame_30 (lv_at hl 0 rfl) ?_
      refine lv_iconst (v := 3) hx hb dX5_isSame_32 (by decide) ?_
      refine lv_icmp_eq (tgt := 58) hx hb dX5_isSame_33 (by decide) (fun c21 => ?_) (fun c21 => ?_)
      · have hm := mr_if c21 hm
        refine lv_iconst (v := 1) hx hb dX5_isSame_58 (by decide) ?_
        refine lv_goto (tgt := 63) hx hb dX5_isSame_59 (by decide) ?_
        obtain rfl := Option.some.inj hm
        subst hQ0
        exact W.zret (v := 1) hx hb hr rfl (fun t ht hW => ⟨rfl, ht⟩) (fun q h => by cases h) dX5_isSame_63
      · have hm := mr_un c21 hm
        exact j36 r1 r2 ls (lv_sub hl [1, 0] rfl) hm
set_option maxHeartbeats 4000000 in
set_option maxRecDepth 100000 in
theorem kX5_isMatch1 (l : Launch) (htr : l.stackTraces = false) (dC : Nat → ClassId) (dI : Nat → Nat → Nat) (adK adV : Nat → Nat) (cI cB cJ cZ cQ : ClassId) (obP obW obC wq_plain wq_kinds wq_meant wq_firsts wq_nexts wq_names wq_fieldNames wq_amounts wq_fieldDefaults wq_enumDefaults : Nat) (w_letterCount : Int32) (w_slotCount : Int32) (w_plain : Nat → Int32) (w_kinds : Nat → Int32) (w_meant : Nat → Int32) (w_firsts : Nat → Int32) (w_names : Nat → Int32) (w_amounts : Nat → Int32) (a0 : Int32) (a1 : Int32) (res : Int32) (hm : m_X5_isMatch1 w_plain w_kinds w_meant w_firsts w_names w_amounts w_letterCount a0 a1 = some res) : Met l yX5_isMatch1 wsX5_isMatch1 (rmX5_isMatch1 0 0) (pcR (sr_Z adK adV) (dC, dI) srCl [(cI, .int), (cB, .byte), (cJ, .long), (cZ, .boolean), (cQ, .object "SchemaReader$Schema")] [.ref obP, .int a0, .int a1] [(obP, .inr (7, [.ref obW, .ref obW, .ref obC])), (obW, .inr (8, [.ref wq_plain, .ref wq_kinds, .ref wq_meant, .ref wq_firsts, .ref wq_nexts, .ref wq_names, .ref wq_fieldNames, .ref wq_amounts, .ref wq_fieldDefaults, .ref wq_enumDefaults, .int w_letterCount, .int w_slotCount])), (wq_plain, .inl (cB, 4096, .inl w_plain)), (wq_kinds, .inl (cI, 128, .inl w_kinds)), (wq_meant, .inl (cI, 128, .inl w_meant)), (wq_firsts, .inl (cI, 128, .inl w_firsts)), (wq_names, .inl (cI, 128, .inl w_names)), (wq_amounts, .inl (cI, 128, .inl w_amounts))]) (k2_QcV (.int res)) 0 0 (fun _ => False) := by
  refine Met.ofW (cc := cX5_isMatch1) (maxL := 7) (ret := (some .boolean)) (by decide) rfl ?_
  intro p e s m args below meth c s₁ B hml hv
  obtain ⟨rfl, hP, hK, hz0⟩ := hv
  have hx := B.exec
  have hb := B.bytes
  have hr := B.returns
  have hts := atoms_spec (ws := wsX5_isMatch1) B.pre
  have hown : s.vm.findClass RX5 = some m.cls := findClass_of_methodNamed B.named
  have hlocks := B.notSynchronized
  have hS : va_S (fun _ => False) s.heap s.heap [] := va_S.rf
  generalize hQ0 : MQ below (k2_QcV (.int res)) [.ref obP, .int a0, .int a1].toArray s 0 0 (fun _ => False) = Q0
  have hl := lv_entry [.ref obP, .int a0, .int a1] (n := 7) (Nat.le_of_ble_eq_true rfl)
  rw [lg_entry_eq]
  generalize (lg_sl [.ref obP, .int a0, .int a1] ++ List.replicate (7 - (lg_sl [.ref obP, .int a0, .int a1]).length) Slot.unset).toArray = ls at hl ⊢
  have hl : lv_has ls 7 [(0, .ref obP), (1, .int a0), (2, .int a1)] := hl
  unfold m_X5_isMatch1 at hm
  refine lv_iload_n hx hb dX5_isMatch_0 rfl (lv_at hl 1 rfl) ?_
  refine lv_istore_n (lv' := [(3, .int a0), (0, .ref obP), (1, .int a0), (2, .int a1)]) hx hb dX5_isMatch_1 rfl hl (by decide) rfl (fun ls hl => ?_)
  refine lv_iload_n hx hb dX5_isMatch_2 rfl (lv_at hl 3 rfl) ?_
  refine lv_istore (lv' := [(4, .int a1), (3, .int a0), (0, .ref obP), (1, .int a0), (2, .int a1)]) hx hb dX5_isMatch_3 hl (by decide) rfl (fun ls hl => ?_)
  refine lv_iconst (v := 0) hx hb dX5_isMatch_5 (by decide) ?_
  have j8 : ∀ (n8 : Nat) (x3 : Int32) (x4 : Int32) (x5 : Int32) (ls : Array Slot), lv_has ls 7 [(0, .ref obP), (3, .int x3), (4, .int x4), (5, .int x5)] → m_X5_isMatch1_8 w_plain w_kinds w_meant w_firsts w_names w_amounts w_letterCount n8 x3 x4 x5 = some res → W p l e (headSpec wsX5_isMatch1 (rmX5_isMatch1 0 0)).room s m [.ref obP, .int a0, .int a1].toArray below meth c s.heap [] 0 0 Q0 (F0 m 8 ls []) := by
    intro n8
    induction n8 with
    | zero => intro x3 x4 x5 ls hl hm; exact nomatch (show (none : Option _) = some res from hm)
    | succ n8 ih8 =>
      intro x3 x4 x5 ls hl hm
      rw [m_X5_isMatch1_8] at hm
      refine lv_iload hx hb dX5_isMatch_8 (lv_at hl 3 rfl) ?_
      refine lv_bipush (v := 16) hx hb dX5_isMatch_10 (by decide) ?_
      refine lv_icmp_gt (tgt := 110) hx hb dX5_isMatch_12 (by decide) (fun c1 => ?_) (fun c1 => ?_)
      · have hm := mr_if c1 hm
        refine lv_iconst (v := 0) hx hb dX5_isMatch_110 (by decide) ?_
        obtain rfl := Option.some.inj hm
        subst hQ0
        exact W.zret (v := 0) hx hb hr rfl (fun t ht hW => ⟨rfl, ht⟩) (fun q h => by cases h) dX5_isMatch_111
      · have hm := mr_un c1 hm
        refine lv_aload_n hx hb dX5_isMatch_15 rfl (lv_at hl 0 rfl) ?_
        refine va_get (D := (dC, dI)) (ci := 7) (v := .ref obW) (C := RX5) (T := TX5) (N := 3) hx hb hts (inX5 _) hown hK hP 0 rfl rfl 0 (by decide) (hts _ (List.mem_cons_of_mem _ wf5_11)) (fun _ h9 => h9) rfl dX5_isMatch_16 ?_
        refine lv_iload_n hx hb dX5_isMatch_19 rfl (lv_at hl 1 rfl) ?_
        obtain ⟨r2, hz2, hm⟩ := mr_bind hm
        refine mr_pV (As := [.int x3]) (rest := []) (sr_okZ adK adV) ⟨hx, hb, hml, hown, hts⟩ (kX6_kind l htr dC dI adK adV cI cB cJ cZ cQ obW wq_plain wq_kinds wq_meant wq_firsts wq_nexts wq_names wq_fieldNames wq_amounts wq_fieldDefaults wq_enumDefaults w_letterCount w_slotCount w_kinds w_meant x3 r2 hz2) (cwV 1 hts (g5_24 _) rfl rfl rfl (by decide +kernel) ⟨(by show 1 + 1 ≤ 3; omega), (by show 8 + (2 + 11) + (21) ≤ 66; omega)⟩) hS hP hK hz0 [1, 3, 4] rfl (va_recv hK hP (ci := 8) (q0 := 1) rfl rfl) rfl rfl hl.1 (Nat.le_of_ble_eq_true rfl) dX5_isMatch_20 ⟨Nat.zero_le _, Nat.zero_le _⟩ ?_
        refine lv_istore (lv' := [(6, .int r2), (0, .ref obP), (3, .int x3), (4, .int x4), (5, .int x5)]) hx hb dX5_isMatch_23 hl (by decide) rfl (fun ls hl => ?_)
        refine lv_iload hx hb dX5_isMatch_25 (lv_at hl 0 rfl) ?_
        refine lv_bipush (v := 11) hx hb dX5_isMatch_27 (by decide) ?_
        refine lv_icmp_eq (tgt := 46) hx hb dX5_isMatch_29 (by decide) (fun c3 => ?_) (fun c3 => ?_)
        · have hm := mr_if c3 hm
          refine lv_iconst (v := 1) hx hb dX5_isMatch_46 (by decide) ?_
          obtain rfl := Option.some.inj hm
          subst hQ0
          exact W.zret (v := 1) hx hb hr rfl (fun t ht hW => ⟨rfl, ht⟩) (fun q h => by cases h) dX5_isMatch_47
        · have hm := mr_un c3 hm
          refine lv_aload_n hx hb dX5_isMatch_32 rfl (lv_at hl 1 rfl) ?_
          refine va_get (D := (dC, dI)) (ci := 7) (v := .ref obW) (C := RX5) (T := TX5) (N := 3) hx hb hts (inX5 _) hown hK hP 0 rfl rfl 1 (by decide) (hts _ (List.mem_cons_of_mem _ wf5_17)) (fun _ h9 => h9) rfl dX5_isMatch_33 ?_
          refine lv_iload hx hb dX5_isMatch_36 (lv_at hl 3 rfl) ?_
          obtain ⟨r4, hz4, hm⟩ := mr_bind hm
          refine mr_pV (As := [.int x4]) (rest := []) (sr_okZ adK adV) ⟨hx, hb, hml, hown, hts⟩ (kX6_kind l htr dC dI adK adV cI cB cJ cZ cQ obW wq_plain wq_kinds wq_meant wq_firsts wq_nexts wq_names wq_fieldNames wq_amounts wq_fieldDefaults wq_enumDefaults w_letterCount w_slotCount w_kinds w_meant x4 r4 hz4) (cwV 1 hts (g5_24 _) rfl rfl rfl (by decide +kernel) ⟨(by show 1 + 1 ≤ 3; omega), (by show 8 + (2 + 11) + (21) ≤ 66; omega)⟩) hS hP hK hz0 [1, 3, 4] rfl (va_recv hK hP (ci := 8) (q0 := 1) rfl rfl) rfl rfl hl.1 (Nat.le_of_ble_eq_true rfl) dX5_isMatch_38 ⟨Nat.zero_le _, Nat.zero_le _⟩ ?_
          refine lv_bipush (v := 11) hx hb dX5_isMatch_41 (by decide) ?_
          refine lv_icmp_ne (tgt := 48) hx hb dX5_isMatch_43 (by decide) (fun c5 => ?_) (fun c5 => ?_)
          · have hm := mr_un c5 hm
            refine lv_iload hx hb dX5_isMatch_48 (lv_at hl 0 rfl) ?_
            refine lv_aload_n hx hb dX5_isMatch_50 rfl (lv_at hl 1 rfl) ?_
            refine va_get (D := (dC, dI)) (ci := 7) (v := .ref obW) (C := RX5) (T := TX5) (N := 3) hx hb hts (inX5 _) hown hK hP 0 rfl rfl 1 (by decide) (hts _ (List.mem_cons_of_mem _ wf5_17)) (fun _ h9 => h9) rfl dX5_isMatch_51 ?_
            refine lv_iload hx hb dX5_isMatch_54 (lv_at hl 3 rfl) ?_
            obtain ⟨r6, hz6, hm⟩ := mr_bind hm
            refine mr_pV (As := [.int x4]) (rest := [.int r2]) (sr_okZ adK adV) ⟨hx, hb, hml, hown, hts⟩ (kX6_kind l htr dC dI adK adV cI cB cJ cZ cQ obW wq_plain wq_kinds wq_meant wq_firsts wq_nexts wq_names wq_fieldNames wq_amounts wq_fieldDefaults wq_enumDefaults w_letterCount w_slotCount w_kinds w_meant x4 r6 hz6) (cwV 1 hts (g5_24 _) rfl rfl rfl (by decide +kernel) ⟨(by show 1 + 1 ≤ 3; omega), (by show 8 + (2 + 11) + (21) ≤ 66; omega)⟩) hS hP hK hz0 [1, 3, 4] rfl (va_recv hK hP (ci := 8) (q0 := 1) rfl rfl) rfl rfl hl.1 (Nat.le_of_ble_eq_true rfl) dX5_isMatch_56 ⟨Nat.zero_le _, Nat.zero_le _⟩ ?_
            have j76 : ∀ (x3 : Int32) (x4 : Int32) (ls : Array Slot), lv_has ls 7 [(0, .ref obP), (3, .int x3), (4, .int x4)] → m_X5_isMatch1_76 w_plain w_kinds w_meant w_firsts w_names w_amounts w_letterCount x3 x4 = some res → W p l e (headSpec wsX5_isMatch1 (rmX5_isMatch1 0 0)).room s m [.ref obP, .int a0, .int a1].toArray below meth c s.heap [] 0 0 Q0 (F0 m 76 ls []) := by
              intro x3 x4 ls hl hm
              unfold m_X5_isMatch1_76 at hm
              refine lv_aload_n hx hb dX5_isMatch_76 rfl (lv_at hl 0 rfl) ?_
              refine lv_iload_n hx hb dX5_isMatch_77 rfl (lv_at hl 1 rfl) ?_
              refine lv_iload hx hb dX5_isMatch_78 (lv_at hl 2 rfl) ?_
              obtain ⟨r7, hz7, hm⟩ := mr_bind hm
              refine mr_pV (As := [.int x3, .int x4]) (rest := []) (sr_okZ adK adV) ⟨hx, hb, hml, hown, hts⟩ (kX5_isSame1 l htr dC dI adK adV cI cB cJ cZ cQ obP obW obC wq_plain wq_kinds wq_meant wq_firsts wq_nexts wq_names wq_fieldNames wq_amounts wq_fieldDefaults wq_enumDefaults w_letterCount w_slotCount w_plain w_kinds w_meant w_names w_amounts x3 x4 r7 hz7) (cwV 2 hts (g5_30 _) rfl rfl rfl (by decide +kernel) ⟨(by show 2 + 1 ≤ 3; omega), (by show 8 + (5 + 11) + (42) ≤ 66; omega)⟩) hS hP hK hz0 [0, 1, 2, 3, 4, 6, 7] rfl (va_recv hK hP (ci := 7) (q0 := 0) rfl rfl) rfl rfl hl.1 (Nat.le_of_ble_eq_true rfl) dX5_isMatch_80 ⟨Nat.zero_le _, Nat.zero_le _⟩ ?_
              obtain ⟨h8, hm⟩ := mr_bz hm
              obtain rfl := Option.some.inj hm
              subst hQ0
              exact W.zret (v := r7) hx hb hr h8 (fun t ht hW => ⟨rfl, ht⟩) (fun q h => by cases h) dX5_isMatch_83
            refine lv_icmp_ne (tgt := 76) hx hb dX5_isMatch_59 (by decide) (fun c9 => ?_) (fun c9 => ?_)
            · have hm := mr_un c9 hm
              exact j76 x3 x4 ls (lv_sub hl [1, 2, 3] rfl) hm
            · have hm := mr_if c9 hm
              refine lv_iload hx hb dX5_isMatch_62 (lv_at hl 0 rfl) ?_
              refine lv_bipush (v := 6) hx hb dX5_isMatch_64 (by decide) ?_
              have j84 : ∀ (x3 : Int32) (x4 : Int32) (x5 : Int32) (ls : Array Slot), lv_has ls 7 [(0, .ref obP), (3, .int x3), (4, .int x4), (5, .int x5)] → m_X5_isMatch1_84 w_plain w_kinds w_meant w_firsts w_names w_amounts w_letterCount (m_X5_isMatch1_8 w_plain w_kinds w_meant w_firsts w_names w_amounts w_letterCount n8) x3 x4 x5 = some res → W p l e (headSpec wsX5_isMatch1 (rmX5_isMatch1 0 0)).room s m [.ref obP, .int a0, .int a1].toArray below meth c s.heap [] 0 0 Q0 (F0 m 84 ls []) := by
                intro x3 x4 x5 ls hl hm
                unfold m_X5_isMatch1_84 at hm
                refine lv_aload_n hx hb dX5_isMatch_84 rfl (lv_at hl 0 rfl) ?_
                refine va_get (D := (dC, dI)) (ci := 7) (v := .ref obW) (C := RX5) (T := TX5) (N := 3) hx hb hts (inX5 _) hown hK hP 0 rfl rfl 0 (by decide) (hts _ (List.mem_cons_of_mem _ wf5_11)) (fun _ h9 => h9) rfl dX5_isMatch_85 ?_
                refine lv_iload_n hx hb dX5_isMatch_88 rfl (lv_at hl 1 rfl) ?_
                obtain ⟨r10, hz10, hm⟩ := mr_bind hm
                refine mr_pV (As := [.int x3]) (rest := []) (sr_okZ adK adV) ⟨hx, hb, hml, hown, hts⟩ (kX6_first l htr dC dI adK adV cI cB cJ cZ cQ obW wq_plain wq_kinds wq_meant wq_firsts wq_nexts wq_names wq_fieldNames wq_amounts wq_fieldDefaults wq_enumDefaults w_letterCount w_slotCount w_meant w_firsts x3 r10 hz10) (cwV 1 hts (g5_34 _) rfl rfl rfl (by decide +kernel) ⟨(by show 1 + 1 ≤ 3; omega), (by show 8 + (2 + 11) + (21) ≤ 66; omega)⟩) hS hP hK hz0 [1, 4, 5] rfl (va_recv hK hP (ci := 8) (q0 := 1) rfl rfl) rfl rfl hl.1 (Nat.le_of_ble_eq_true rfl) dX5_isMatch_89 ⟨Nat.zero_le _, Nat.zero_le _⟩ ?_
                refine lv_istore_n (lv' := [(3, .int r10), (0, .ref obP), (4, .int x4), (5, .int x5)]) hx hb dX5_isMatch_92 rfl hl (by decide) rfl (fun ls hl => ?_)
                refine lv_aload_n hx hb dX5_isMatch_93 rfl (lv_at hl 1 rfl) ?_
                refine va_get (D := (dC, dI)) (ci := 7) (v := .ref obW) (C := RX5) (T := TX5) (N := 3) hx hb hts (inX5 _) hown hK hP 0 rfl rfl 1 (by decide) (hts _ (List.mem_cons_of_mem _ wf5_17)) (fun _ h9 => h9) rfl dX5_isMatch_94 ?_
                refine lv_iload hx hb dX5_isMatch_97 (lv_at hl 2 rfl) ?_
                obtain ⟨r11, hz11, hm⟩ := mr_bind hm
                refine mr_pV (As := [.int x4]) (rest := []) (sr_okZ adK adV) ⟨hx, hb, hml, hown, hts⟩ (kX6_first l htr dC dI adK adV cI cB cJ cZ cQ obW wq_plain wq_kinds wq_meant wq_firsts wq_nexts wq_names wq_fieldNames wq_amounts wq_fieldDefaults wq_enumDefaults w_letterCount w_slotCount w_meant w_firsts x4 r11 hz11) (cwV 1 hts (g5_34 _) rfl rfl rfl (by decide +kernel) ⟨(by show 1 + 1 ≤ 3; omega), (by show 8 + (2 + 11) + (21) ≤ 66; omega)⟩) hS hP hK hz0 [1, 4, 5] rfl (va_recv hK hP (ci := 8) (q0 := 1) rfl rfl) rfl rfl hl.1 (Nat.le_of_ble_eq_true rfl) dX5_isMatch_99 ⟨Nat.zero_le _, Nat.zero_le _⟩ ?_
                refine lv_istore (lv' := [(4, .int r11), (3, .int r10), (0, .ref obP), (5, .int x5)]) hx hb dX5_isMatch_102 hl (by decide) rfl (fun ls hl => ?_)
                refine lv_iinc (v := x5 + 1) (lv' := [(5, .int (x5 + 1)), (4, .int r11), (3, .int r10), (0, .ref obP)]) hx hb dX5_isMatch_104 hl (k := 3) rfl rfl (by decide) rfl (fun ls hl => ?_)
                refine lv_goto (tgt := 8) hx hb dX5_isMatch_107 (by decide) ?_
                exact ih8 r10 r11 (x5 + 1) ls (lv_sub hl [3, 2, 1, 0] rfl) hm
              refine lv_icmp_eq (tgt := 84) hx hb dX5_isMatch_66 (by decide) (fun c12 => ?_) (fun c12 => ?_)
              · have hm := mr_if c12 hm
                exact j84 x3 x4 x5 ls (lv_sub hl [1, 2, 3, 4] rfl) hm
              · have hm := mr_un c12 hm
                refine lv_iload hx hb dX5_isMatch_69 (lv_at hl 0 rfl) ?_
                refine lv_bipush (v := 7) hx hb dX5_isMatch_71 (by decide) ?_
                refine lv_icmp_eq (tgt := 84) hx hb dX5_isMatch_73 (by decide) (fun c13 => ?_) (fun c13 => ?_)
                · have hm := mr_if c13 hm
                  exact j84 x3 x4 x5 ls (lv_sub hl [1, 2, 3, 4] rfl) hm
                · have hm := mr_un c13 hm
                  exact j76 x3 x4 ls (lv_sub hl [1, 2, 3] rfl) hm
          · have hm := mr_if c5 hm
            refine lv_iconst (v := 1) hx hb dX5_isMatch_46 (by decide) ?_
            obtain rfl := Option.some.inj hm
            subst hQ0
            exact W.zret (v := 1) hx hb hr rfl (fun t ht hW => ⟨rfl, ht⟩) (fun q h => by cases h) dX5_isMatch_47
  refine lv_istore (lv' := [(5, .int 0), (4, .int a1), (3, .int a0), (0, .ref obP), (1, .int a0), (2, .int a1)]) hx hb dX5_isMatch_6 hl (by decide) rfl (fun ls hl => ?_)
  exact j8 sr_fuel a0 a1 0 ls (lv_sub hl [3, 2, 1, 0] rfl) hm
set_option maxHeartbeats 4000000 in
set_option maxRecDepth 100000 in
theorem kX5_firstMatch1 (l : Launch) (htr : l.stackTraces = false) (dC : Nat → ClassId) (dI : Nat → Nat → Nat) (adK adV : Nat → Nat) (cI cB cJ cZ cQ : ClassId) (obP obW obC wq_plain wq_kinds wq_meant wq_firsts wq_nexts wq_names wq_fieldNames wq_amounts wq_fieldDefaults wq_enumDefaults : Nat) (w_letterCount : Int32) (w_slotCount : Int32) (w_plain : Nat → Int32) (w_kinds : Nat → Int32) (w_meant : Nat → Int32) (w_firsts : Nat → Int32) (w_nexts : Nat → Int32) (w_names : Nat → Int32) (w_amounts : Nat → Int32) (a0 : Int32) (a1 : Int32) (res : Int32) (hm : m_X5_firstMatch1 w_plain w_kinds w_meant w_firsts w_nexts w_names w_amounts w_letterCount a0 a1 = some res) : Met l yX5_firstMatch1 wsX5_firstMatch1 (rmX5_firstMatch1 0 0) (pcR (sr_Z adK adV) (dC, dI) srCl [(cI, .int), (cB, .byte), (cJ, .long), (cZ, .boolean), (cQ, .object "SchemaReader$Schema")] [.ref obP, .int a0, .int a1] [(obP, .inr (7, [.ref obW, .ref obW, .ref obC])), (obW, .inr (8, [.ref wq_plain, .ref wq_kinds, .ref wq_meant, .ref wq_firsts, .ref wq_nexts, .ref wq_names, .ref wq_fieldNames, .ref wq_amounts, .ref wq_fieldDefaults, .ref wq_enumDefaults, .int w_letterCount, .int w_slotCount])), (wq_plain, .inl (cB, 4096, .inl w_plain)), (wq_kinds, .inl (cI, 128, .inl w_kinds)), (wq_meant, .inl (cI, 128, .inl w_meant)), (wq_firsts, .inl (cI, 128, .inl w_firsts)), (wq_nexts, .inl (cI, 128, .inl w_nexts)), (wq_names, .inl (cI, 128, .inl w_names)), (wq_amounts, .inl (cI, 128, .inl w_amounts))]) (k2_QcV (.int res)) 0 0 (fun _ => False) := by
  refine Met.ofW (cc := cX5_firstMatch1) (maxL := 5) (ret := (some .int)) (by decide) rfl ?_
  intro p e s m args below meth c s₁ B hml hv
  obtain ⟨rfl, hP, hK, hz0⟩ := hv
  have hx := B.exec
  have hb := B.bytes
  have hr := B.returns
  have hts := atoms_spec (ws := wsX5_firstMatch1) B.pre
  have hown : s.vm.findClass RX5 = some m.cls := findClass_of_methodNamed B.named
  have hlocks := B.notSynchronized
  have hS : va_S (fun _ => False) s.heap s.heap [] := va_S.rf
  generalize hQ0 : MQ below (k2_QcV (.int res)) [.ref obP, .int a0, .int a1].toArray s 0 0 (fun _ => False) = Q0
  have hl := lv_entry [.ref obP, .int a0, .int a1] (n := 5) (Nat.le_of_ble_eq_true rfl)
  rw [lg_entry_eq]
  generalize (lg_sl [.ref obP, .int a0, .int a1] ++ List.replicate (5 - (lg_sl [.ref obP, .int a0, .int a1]).length) Slot.unset).toArray = ls at hl ⊢
  have hl : lv_has ls 5 [(0, .ref obP), (1, .int a0), (2, .int a1)] := hl
  unfold m_X5_firstMatch1 at hm
  refine lv_aload_n hx hb dX5_firstMatch_0 rfl (lv_at hl 0 rfl) ?_
  refine va_get (D := (dC, dI)) (ci := 7) (v := .ref obW) (C := RX5) (T := TX5) (N := 3) hx hb hts (inX5 _) hown hK hP 0 rfl rfl 1 (by decide) (hts _ (List.mem_cons_of_mem _ wf5_17)) (fun _ h9 => h9) rfl dX5_firstMatch_1 ?_
  refine lv_iload_n hx hb dX5_firstMatch_4 rfl (lv_at hl 2 rfl) ?_
  obtain ⟨r1, hz1, hm⟩ := mr_bind hm
  refine mr_pV (As := [.int a1]) (rest := []) (sr_okZ adK adV) ⟨hx, hb, hml, hown, hts⟩ (kX6_first l htr dC dI adK adV cI cB cJ cZ cQ obW wq_plain wq_kinds wq_meant wq_firsts wq_nexts wq_names wq_fieldNames wq_amounts wq_fieldDefaults wq_enumDefaults w_letterCount w_slotCount w_meant w_firsts a1 r1 hz1) (cwV 1 hts (g5_34 _) rfl rfl rfl (by decide +kernel) ⟨(by show 1 + 1 ≤ 4; omega), (by show 8 + (2 + 11) + (21) ≤ 92; omega)⟩) hS hP hK hz0 [1, 4, 5] rfl (va_recv hK hP (ci := 8) (q0 := 1) rfl rfl) rfl rfl hl.1 (Nat.le_of_ble_eq_true rfl) dX5_firstMatch_5 ⟨Nat.zero_le _, Nat.zero_le _⟩ ?_
  refine lv_istore_n (lv' := [(3, .int r1), (0, .ref obP), (1, .int a0), (2, .int a1)]) hx hb dX5_firstMatch_8 rfl hl (by decide) rfl (fun ls hl => ?_)
  refine lv_iconst (v := 0) hx hb dX5_firstMatch_9 (by decide) ?_
  have j12 : ∀ (n12 : Nat) (x1 : Int32) (x2 : Int32) (x3 : Int32) (x4 : Int32) (ls : Array Slot), lv_has ls 5 [(0, .ref obP), (1, .int x1), (2, .int x2), (3, .int x3), (4, .int x4)] → m_X5_firstMatch1_12 w_plain w_kinds w_meant w_firsts w_nexts w_names w_amounts w_letterCount n12 x1 x2 x3 x4 = some res → W p l e (headSpec wsX5_firstMatch1 (rmX5_firstMatch1 0 0)).room s m [.ref obP, .int a0, .int a1].toArray below meth c s.heap [] 0 0 Q0 (F0 m 12 ls []) := by
    intro n12
    induction n12 with
    | zero => intro x1 x2 x3 x4 ls hl hm; exact nomatch (show (none : Option _) = some res from hm)
    | succ n12 ih12 =>
      intro x1 x2 x3 x4 ls hl hm
      rw [m_X5_firstMatch1_12] at hm
      refine lv_iload hx hb dX5_firstMatch_12 (lv_at hl 4 rfl) ?_
      refine lv_aload_n hx hb dX5_firstMatch_14 rfl (lv_at hl 0 rfl) ?_
      refine va_get (D := (dC, dI)) (ci := 7) (v := .ref obW) (C := RX5) (T := TX5) (N := 3) hx hb hts (inX5 _) hown hK hP 0 rfl rfl 1 (by decide) (hts _ (List.mem_cons_of_mem _ wf5_17)) (fun _ h9 => h9) rfl dX5_firstMatch_15 ?_
      refine lv_iload_n hx hb dX5_firstMatch_18 rfl (lv_at hl 2 rfl) ?_
      obtain ⟨r2, hz2, hm⟩ := mr_bind hm
      refine mr_pV (As := [.int x2]) (rest := [.int x4]) (sr_okZ adK adV) ⟨hx, hb, hml, hown, hts⟩ (kX6_amount l htr dC dI adK adV cI cB cJ cZ cQ obW wq_plain wq_kinds wq_meant wq_firsts wq_nexts wq_names wq_fieldNames wq_amounts wq_fieldDefaults wq_enumDefaults w_letterCount w_slotCount w_meant w_amounts x2 r2 hz2) (cwV 1 hts (g5_41 _) rfl rfl rfl (by decide +kernel) ⟨(by show 1 + 1 ≤ 4; omega), (by show 8 + (2 + 11) + (21) ≤ 92; omega)⟩) hS hP hK hz0 [1, 4, 8] rfl (va_recv hK hP (ci := 8) (q0 := 1) rfl rfl) rfl rfl hl.1 (Nat.le_of_ble_eq_true rfl) dX5_firstMatch_19 ⟨Nat.zero_le _, Nat.zero_le _⟩ ?_
      refine lv_icmp_ge (tgt := 51) hx hb dX5_firstMatch_22 (by decide) (fun c3 => ?_) (fun c3 => ?_)
      · have hm := mr_if c3 hm
        refine lv_iconst (v := -1) hx hb dX5_firstMatch_51 (by decide) ?_
        obtain rfl := Option.some.inj hm
        subst hQ0
        exact W.iret (v := (-1)) hx hb hr (fun t ht hW => ⟨rfl, ht⟩) (fun q h => by cases h) dX5_firstMatch_52
      · have hm := mr_un c3 hm
        refine lv_aload_n hx hb dX5_firstMatch_25 rfl (lv_at hl 0 rfl) ?_
        refine lv_iload_n hx hb dX5_firstMatch_26 rfl (lv_at hl 1 rfl) ?_
        refine lv_iload_n hx hb dX5_firstMatch_27 rfl (lv_at hl 3 rfl) ?_
        obtain ⟨r4, hz4, hm⟩ := mr_bind hm
        refine mr_pV (As := [.int x1, .int x3]) (rest := []) (sr_okZ adK adV) ⟨hx, hb, hml, hown, hts⟩ (kX5_isMatch1 l htr dC dI adK adV cI cB cJ cZ cQ obP obW obC wq_plain wq_kinds wq_meant wq_firsts wq_nexts wq_names wq_fieldNames wq_amounts wq_fieldDefaults wq_enumDefaults w_letterCount w_slotCount w_plain w_kinds w_meant w_firsts w_names w_amounts x1 x3 r4 hz4) (cwV 2 hts (g5_94 _) rfl rfl rfl (by decide +kernel) ⟨(by show 3 + 1 ≤ 4; omega), (by show 8 + (7 + 11) + (66) ≤ 92; omega)⟩) hS hP hK hz0 [0, 1, 2, 3, 4, 5, 7, 8] rfl (va_recv hK hP (ci := 7) (q0 := 0) rfl rfl) rfl rfl hl.1 (Nat.le_of_ble_eq_true rfl) dX5_firstMatch_28 ⟨Nat.zero_le _, Nat.zero_le _⟩ ?_
        refine lv_if_eq (tgt := 36) hx hb dX5_firstMatch_31 (by decide) (fun c5 => ?_) (fun c5 => ?_)
        · have hm := mr_if c5 hm
          refine lv_aload_n hx hb dX5_firstMatch_36 rfl (lv_at hl 0 rfl) ?_
          refine va_get (D := (dC, dI)) (ci := 7) (v := .ref obW) (C := RX5) (T := TX5) (N := 3) hx hb hts (inX5 _) hown hK hP 0 rfl rfl 1 (by decide) (hts _ (List.mem_cons_of_mem _ wf5_17)) (fun _ h9 => h9) rfl dX5_firstMatch_37 ?_
          refine lv_iload_n hx hb dX5_firstMatch_40 rfl (lv_at hl 3 rfl) ?_
          obtain ⟨r6, hz6, hm⟩ := mr_bind hm
          refine mr_pV (As := [.int x3]) (rest := []) (sr_okZ adK adV) ⟨hx, hb, hml, hown, hts⟩ (kX6_next l htr dC dI adK adV cI cB cJ cZ cQ obW wq_plain wq_kinds wq_meant wq_firsts wq_nexts wq_names wq_fieldNames wq_amounts wq_fieldDefaults wq_enumDefaults w_letterCount w_slotCount w_nexts x3 r6 hz6) (cwV 1 hts (g5_91 _) rfl rfl rfl (by decide +kernel) ⟨(by show 1 + 1 ≤ 4; omega), (by show 8 + (2 + 11) + (21) ≤ 92; omega)⟩) hS hP hK hz0 [1, 6] rfl (va_recv hK hP (ci := 8) (q0 := 1) rfl rfl) rfl rfl hl.1 (Nat.le_of_ble_eq_true rfl) dX5_firstMatch_41 ⟨Nat.zero_le _, Nat.zero_le _⟩ ?_
          refine lv_istore_n (lv' := [(3, .int r6), (0, .ref obP), (1, .int x1), (2, .int x2), (4, .int x4)]) hx hb dX5_firstMatch_44 rfl hl (by decide) rfl (fun ls hl => ?_)
          refine lv_iinc (v := x4 + 1) (lv' := [(4, .int (x4 + 1)), (3, .int r6), (0, .ref obP), (1, .int x1), (2, .int x2)]) hx hb dX5_firstMatch_45 hl (k := 4) rfl rfl (by decide) rfl (fun ls hl => ?_)
          refine lv_goto (tgt := 12) hx hb dX5_firstMatch_48 (by decide) ?_
          exact ih12 x1 x2 r6 (x4 + 1) ls (lv_sub hl [2, 3, 4, 1, 0] rfl) hm
        · have hm := mr_un c5 hm
          refine lv_iload_n hx hb dX5_firstMatch_34 rfl (lv_at hl 3 rfl) ?_
          obtain rfl := Option.some.inj hm
          subst hQ0
          exact W.iret (v := x3) hx hb hr (fun t ht hW => ⟨rfl, ht⟩) (fun q h => by cases h) dX5_firstMatch_35
  refine lv_istore (lv' := [(4, .int 0), (3, .int r1), (0, .ref obP), (1, .int a0), (2, .int a1)]) hx hb dX5_firstMatch_10 hl (by decide) rfl (fun ls hl => ?_)
  exact j12 sr_fuel a0 a1 r1 0 ls (lv_sub hl [2, 3, 4, 1, 0] rfl) hm
set_option maxHeartbeats 4000000 in
set_option maxRecDepth 100000 in
theorem kX5_hasSymbol1 (l : Launch) (htr : l.stackTraces = false) (dC : Nat → ClassId) (dI : Nat → Nat → Nat) (adK adV : Nat → Nat) (cI cB cJ cZ cQ : ClassId) (obP obW obC wq_plain wq_kinds wq_meant wq_firsts wq_nexts wq_names wq_fieldNames wq_amounts wq_fieldDefaults wq_enumDefaults : Nat) (w_letterCount : Int32) (w_slotCount : Int32) (w_plain : Nat → Int32) (w_meant : Nat → Int32) (w_firsts : Nat → Int32) (w_amounts : Nat → Int32) (a0 : Int32) (a1 : Int32) (res : Int32) (hm : m_X5_hasSymbol1 w_plain w_meant w_firsts w_amounts w_letterCount a0 a1 = some res) : Met l yX5_hasSymbol1 wsX5_hasSymbol1 (rmX5_hasSymbol1 0 0) (pcR (sr_Z adK adV) (dC, dI) srCl [(cI, .int), (cB, .byte), (cJ, .long), (cZ, .boolean), (cQ, .object "SchemaReader$Schema")] [.ref obP, .int a0, .int a1] [(obP, .inr (7, [.ref obW, .ref obW, .ref obC])), (obW, .inr (8, [.ref wq_plain, .ref wq_kinds, .ref wq_meant, .ref wq_firsts, .ref wq_nexts, .ref wq_names, .ref wq_fieldNames, .ref wq_amounts, .ref wq_fieldDefaults, .ref wq_enumDefaults, .int w_letterCount, .int w_slotCount])), (wq_plain, .inl (cB, 4096, .inl w_plain)), (wq_meant, .inl (cI, 128, .inl w_meant)), (wq_firsts, .inl (cI, 128, .inl w_firsts)), (wq_amounts, .inl (cI, 128, .inl w_amounts))]) (k2_QcV (.int res)) 0 0 (fun _ => False) := by
  refine Met.ofW (cc := cX5_hasSymbol1) (maxL := 5) (ret := (some .boolean)) (by decide) rfl ?_
  intro p e s m args below meth c s₁ B hml hv
  obtain ⟨rfl, hP, hK, hz0⟩ := hv
  have hx := B.exec
  have hb := B.bytes
  have hr := B.returns
  have hts := atoms_spec (ws := wsX5_hasSymbol1) B.pre
  have hown : s.vm.findClass RX5 = some m.cls := findClass_of_methodNamed B.named
  have hlocks := B.notSynchronized
  have hS : va_S (fun _ => False) s.heap s.heap [] := va_S.rf
  generalize hQ0 : MQ below (k2_QcV (.int res)) [.ref obP, .int a0, .int a1].toArray s 0 0 (fun _ => False) = Q0
  have hl := lv_entry [.ref obP, .int a0, .int a1] (n := 5) (Nat.le_of_ble_eq_true rfl)
  rw [lg_entry_eq]
  generalize (lg_sl [.ref obP, .int a0, .int a1] ++ List.replicate (5 - (lg_sl [.ref obP, .int a0, .int a1]).length) Slot.unset).toArray = ls at hl ⊢
  have hl : lv_has ls 5 [(0, .ref obP), (1, .int a0), (2, .int a1)] := hl
  unfold m_X5_hasSymbol1 at hm
  refine lv_aload_n hx hb dX5_hasSymbol_0 rfl (lv_at hl 0 rfl) ?_
  refine va_get (D := (dC, dI)) (ci := 7) (v := .ref obW) (C := RX5) (T := TX5) (N := 3) hx hb hts (inX5 _) hown hK hP 0 rfl rfl 1 (by decide) (hts _ (List.mem_cons_of_mem _ wf5_17)) (fun _ h9 => h9) rfl dX5_hasSymbol_1 ?_
  refine lv_iload_n hx hb dX5_hasSymbol_4 rfl (lv_at hl 1 rfl) ?_
  obtain ⟨r1, hz1, hm⟩ := mr_bind hm
  refine mr_pV (As := [.int a0]) (rest := []) (sr_okZ adK adV) ⟨hx, hb, hml, hown, hts⟩ (kX6_first l htr dC dI adK adV cI cB cJ cZ cQ obW wq_plain wq_kinds wq_meant wq_firsts wq_nexts wq_names wq_fieldNames wq_amounts wq_fieldDefaults wq_enumDefaults w_letterCount w_slotCount w_meant w_firsts a0 r1 hz1) (cwV 1 hts (g5_34 _) rfl rfl rfl (by decide +kernel) ⟨(by show 1 + 1 ≤ 2; omega), (by show 8 + (2 + 11) + (21) ≤ 43; omega)⟩) hS hP hK hz0 [1, 3, 4] rfl (va_recv hK hP (ci := 8) (q0 := 1) rfl rfl) rfl rfl hl.1 (Nat.le_of_ble_eq_true rfl) dX5_hasSymbol_5 ⟨Nat.zero_le _, Nat.zero_le _⟩ ?_
  refine lv_istore_n (lv' := [(3, .int r1), (0, .ref obP), (1, .int a0), (2, .int a1)]) hx hb dX5_hasSymbol_8 rfl hl (by decide) rfl (fun ls hl => ?_)
  refine lv_iconst (v := 0) hx hb dX5_hasSymbol_9 (by decide) ?_
  have j12 : ∀ (n12 : Nat) (x1 : Int32) (x2 : Int32) (x3 : Int32) (x4 : Int32) (ls : Array Slot), lv_has ls 5 [(0, .ref obP), (1, .int x1), (2, .int x2), (3, .int x3), (4, .int x4)] → m_X5_hasSymbol1_12 w_plain w_meant w_firsts w_amounts w_letterCount n12 x1 x2 x3 x4 = some res → W p l e (headSpec wsX5_hasSymbol1 (rmX5_hasSymbol1 0 0)).room s m [.ref obP, .int a0, .int a1].toArray below meth c s.heap [] 0 0 Q0 (F0 m 12 ls []) := by
    intro n12
    induction n12 with
    | zero => intro x1 x2 x3 x4 ls hl hm; exact nomatch (show (none : Option _) = some res from hm)
    | succ n12 ih12 =>
      intro x1 x2 x3 x4 ls hl hm
      rw [m_X5_hasSymbol1_12] at hm
      refine lv_iload hx hb dX5_hasSymbol_12 (lv_at hl 4 rfl) ?_
      refine lv_aload_n hx hb dX5_hasSymbol_14 rfl (lv_at hl 0 rfl) ?_
      refine va_get (D := (dC, dI)) (ci := 7) (v := .ref obW) (C := RX5) (T := TX5) (N := 3) hx hb hts (inX5 _) hown hK hP 0 rfl rfl 1 (by decide) (hts _ (List.mem_cons_of_mem _ wf5_17)) (fun _ h9 => h9) rfl dX5_hasSymbol_15 ?_
      refine lv_iload_n hx hb dX5_hasSymbol_18 rfl (lv_at hl 1 rfl) ?_
      obtain ⟨r2, hz2, hm⟩ := mr_bind hm
      refine mr_pV (As := [.int x1]) (rest := [.int x4]) (sr_okZ adK adV) ⟨hx, hb, hml, hown, hts⟩ (kX6_amount l htr dC dI adK adV cI cB cJ cZ cQ obW wq_plain wq_kinds wq_meant wq_firsts wq_nexts wq_names wq_fieldNames wq_amounts wq_fieldDefaults wq_enumDefaults w_letterCount w_slotCount w_meant w_amounts x1 r2 hz2) (cwV 1 hts (g5_41 _) rfl rfl rfl (by decide +kernel) ⟨(by show 1 + 1 ≤ 2; omega), (by show 8 + (2 + 11) + (21) ≤ 43; omega)⟩) hS hP hK hz0 [1, 3, 5] rfl (va_recv hK hP (ci := 8) (q0 := 1) rfl rfl) rfl rfl hl.1 (Nat.le_of_ble_eq_true rfl) dX5_hasSymbol_19 ⟨Nat.zero_le _, Nat.zero_le _⟩ ?_
      refine lv_icmp_ge (tgt := 58) hx hb dX5_hasSymbol_22 (by decide) (fun c3 => ?_) (fun c3 => ?_)
      · have hm := mr_if c3 hm
        refine lv_iconst (v := 0) hx hb dX5_hasSymbol_58 (by decide) ?_
        obtain rfl := Option.some.inj hm
        subst hQ0
        exact W.zret (v := 0) hx hb hr rfl (fun t ht hW => ⟨rfl, ht⟩) (fun q h => by cases h) dX5_hasSymbol_59
      · have hm := mr_un c3 hm
        refine lv_aload_n hx hb dX5_hasSymbol_25 rfl (lv_at hl 0 rfl) ?_
        refine va_get (D := (dC, dI)) (ci := 7) (v := .ref obW) (C := RX5) (T := TX5) (N := 3) hx hb hts (inX5 _) hown hK hP 0 rfl rfl 0 (by decide) (hts _ (List.mem_cons_of_mem _ wf5_11)) (fun _ h9 => h9) rfl dX5_hasSymbol_26 ?_
        refine lv_iload_n hx hb dX5_hasSymbol_29 rfl (lv_at hl 2 rfl) ?_
        refine lv_aload_n hx hb dX5_hasSymbol_30 rfl (lv_at hl 0 rfl) ?_
        refine va_get (D := (dC, dI)) (ci := 7) (v := .ref obW) (C := RX5) (T := TX5) (N := 3) hx hb hts (inX5 _) hown hK hP 0 rfl rfl 1 (by decide) (hts _ (List.mem_cons_of_mem _ wf5_17)) (fun _ h9 => h9) rfl dX5_hasSymbol_31 ?_
        refine lv_iload_n hx hb dX5_hasSymbol_34 rfl (lv_at hl 3 rfl) ?_
        obtain ⟨r4, hz4, hm⟩ := mr_bind hm
        refine mr_pS (As := [.ref obW, .int x2, .ref obW, .int x3]) (rest := []) (sr_okZ adK adV) ⟨hx, hb, hml, hown, hts⟩ (kX6_isSameName l htr dC dI adK adV cI cB cJ cZ cQ obW wq_plain wq_kinds wq_meant wq_firsts wq_nexts wq_names wq_fieldNames wq_amounts wq_fieldDefaults wq_enumDefaults obW wq_plain wq_kinds wq_meant wq_firsts wq_nexts wq_names wq_fieldNames wq_amounts wq_fieldDefaults wq_enumDefaults w_letterCount w_slotCount w_letterCount w_slotCount w_plain w_plain x2 x3 r4 hz4) (va_cwS 4 hts (g5_47 _) rfl rfl rfl (by decide +kernel) ⟨(by show 0 + 1 ≤ 2; omega), (by show 8 + (7 + 11) + (0) ≤ 43; omega)⟩) hS hP hK hz0 [1, 2, 1, 2] rfl rfl rfl hl.1 (Nat.le_of_ble_eq_true rfl) dX5_hasSymbol_35 ⟨Nat.zero_le _, Nat.zero_le _⟩ ?_
        refine lv_if_eq (tgt := 43) hx hb dX5_hasSymbol_38 (by decide) (fun c5 => ?_) (fun c5 => ?_)
        · have hm := mr_if c5 hm
          refine lv_aload_n hx hb dX5_hasSymbol_43 rfl (lv_at hl 0 rfl) ?_
          refine va_get (D := (dC, dI)) (ci := 7) (v := .ref obW) (C := RX5) (T := TX5) (N := 3) hx hb hts (inX5 _) hown hK hP 0 rfl rfl 1 (by decide) (hts _ (List.mem_cons_of_mem _ wf5_17)) (fun _ h9 => h9) rfl dX5_hasSymbol_44 ?_
          refine lv_iload_n hx hb dX5_hasSymbol_47 rfl (lv_at hl 3 rfl) ?_
          obtain ⟨r6, hz6, hm⟩ := mr_bind hm
          refine mr_pV (As := [.int x3]) (rest := []) (sr_okZ adK adV) ⟨hx, hb, hml, hown, hts⟩ (kX6_nextSymbol l htr dC dI adK adV cI cB cJ cZ cQ obW wq_plain wq_kinds wq_meant wq_firsts wq_nexts wq_names wq_fieldNames wq_amounts wq_fieldDefaults wq_enumDefaults w_letterCount w_slotCount w_plain x3 r6 hz6) (cwV 1 hts (g5_100 _) rfl rfl rfl (by decide +kernel) ⟨(by show 1 + 1 ≤ 2; omega), (by show 8 + (3 + 11) + (21) ≤ 43; omega)⟩) hS hP hK hz0 [1, 2] rfl (va_recv hK hP (ci := 8) (q0 := 1) rfl rfl) rfl rfl hl.1 (Nat.le_of_ble_eq_true rfl) dX5_hasSymbol_48 ⟨Nat.zero_le _, Nat.zero_le _⟩ ?_
          refine lv_istore_n (lv' := [(3, .int r6), (0, .ref obP), (1, .int x1), (2, .int x2), (4, .int x4)]) hx hb dX5_hasSymbol_51 rfl hl (by decide) rfl (fun ls hl => ?_)
          refine lv_iinc (v := x4 + 1) (lv' := [(4, .int (x4 + 1)), (3, .int r6), (0, .ref obP), (1, .int x1), (2, .int x2)]) hx hb dX5_hasSymbol_52 hl (k := 4) rfl rfl (by decide) rfl (fun ls hl => ?_)
          refine lv_goto (tgt := 12) hx hb dX5_hasSymbol_55 (by decide) ?_
          exact ih12 x1 x2 r6 (x4 + 1) ls (lv_sub hl [2, 3, 4, 1, 0] rfl) hm
        · have hm := mr_un c5 hm
          refine lv_iconst (v := 1) hx hb dX5_hasSymbol_41 (by decide) ?_
          obtain rfl := Option.some.inj hm
          subst hQ0
          exact W.zret (v := 1) hx hb hr rfl (fun t ht hW => ⟨rfl, ht⟩) (fun q h => by cases h) dX5_hasSymbol_42
  refine lv_istore (lv' := [(4, .int 0), (3, .int r1), (0, .ref obP), (1, .int a0), (2, .int a1)]) hx hb dX5_hasSymbol_10 hl (by decide) rfl (fun ls hl => ?_)
  exact j12 sr_fuel a0 a1 r1 0 ls (lv_sub hl [2, 3, 4, 1, 0] rfl) hm
set_option maxHeartbeats 4000000 in
set_option maxRecDepth 100000 in
theorem kX5_hasAllSymbols1 (l : Launch) (htr : l.stackTraces = false) (dC : Nat → ClassId) (dI : Nat → Nat → Nat) (adK adV : Nat → Nat) (cI cB cJ cZ cQ : ClassId) (obP obW obC wq_plain wq_kinds wq_meant wq_firsts wq_nexts wq_names wq_fieldNames wq_amounts wq_fieldDefaults wq_enumDefaults : Nat) (w_letterCount : Int32) (w_slotCount : Int32) (w_plain : Nat → Int32) (w_meant : Nat → Int32) (w_firsts : Nat → Int32) (w_amounts : Nat → Int32) (a0 : Int32) (a1 : Int32) (res : Int32) (hm : m_X5_hasAllSymbols1 w_plain w_meant w_firsts w_amounts w_letterCount a0 a1 = some res) : Met l yX5_hasAllSymbols1 wsX5_hasAllSymbols1 (rmX5_hasAllSymbols1 0 0) (pcR (sr_Z adK adV) (dC, dI) srCl [(cI, .int), (cB, .byte), (cJ, .long), (cZ, .boolean), (cQ, .object "SchemaReader$Schema")] [.ref obP, .int a0, .int a1] [(obP, .inr (7, [.ref obW, .ref obW, .ref obC])), (obW, .inr (8, [.ref wq_plain, .ref wq_kinds, .ref wq_meant, .ref wq_firsts, .ref wq_nexts, .ref wq_names, .ref wq_fieldNames, .ref wq_amounts, .ref wq_fieldDefaults, .ref wq_enumDefaults, .int w_letterCount, .int w_slotCount])), (wq_plain, .inl (cB, 4096, .inl w_plain)), (wq_meant, .inl (cI, 128, .inl w_meant)), (wq_firsts, .inl (cI, 128, .inl w_firsts)), (wq_amounts, .inl (cI, 128, .inl w_amounts))]) (k2_QcV (.int res)) 0 0 (fun _ => False) := by
  refine Met.ofW (cc := cX5_hasAllSymbols1) (maxL := 5) (ret := (some .boolean)) (by decide) rfl ?_
  intro p e s m args below meth c s₁ B hml hv
  obtain ⟨rfl, hP, hK, hz0⟩ := hv
  have hx := B.exec
  have hb := B.bytes
  have hr := B.returns
  have hts := atoms_spec (ws := wsX5_hasAllSymbols1) B.pre
  have hown : s.vm.findClass RX5 = some m.cls := findClass_of_methodNamed B.named
  have hlocks := B.notSynchronized
  have hS : va_S (fun _ => False) s.heap s.heap [] := va_S.rf
  generalize hQ0 : MQ below (k2_QcV (.int res)) [.ref obP, .int a0, .int a1].toArray s 0 0 (fun _ => False) = Q0
  have hl := lv_entry [.ref obP, .int a0, .int a1] (n := 5) (Nat.le_of_ble_eq_true rfl)
  rw [lg_entry_eq]
  generalize (lg_sl [.ref obP, .int a0, .int a1] ++ List.replicate (5 - (lg_sl [.ref obP, .int a0, .int a1]).length) Slot.unset).toArray = ls at hl ⊢
  have hl : lv_has ls 5 [(0, .ref obP), (1, .int a0), (2, .int a1)] := hl
  unfold m_X5_hasAllSymbols1 at hm
  refine lv_aload_n hx hb dX5_hasAllSymbols_0 rfl (lv_at hl 0 rfl) ?_
  refine va_get (D := (dC, dI)) (ci := 7) (v := .ref obW) (C := RX5) (T := TX5) (N := 3) hx hb hts (inX5 _) hown hK hP 0 rfl rfl 0 (by decide) (hts _ (List.mem_cons_of_mem _ wf5_11)) (fun _ h9 => h9) rfl dX5_hasAllSymbols_1 ?_
  refine lv_iload_n hx hb dX5_hasAllSymbols_4 rfl (lv_at hl 1 rfl) ?_
  obtain ⟨r1, hz1, hm⟩ := mr_bind hm
  refine mr_pV (As := [.int a0]) (rest := []) (sr_okZ adK adV) ⟨hx, hb, hml, hown, hts⟩ (kX6_first l htr dC dI adK adV cI cB cJ cZ cQ obW wq_plain wq_kinds wq_meant wq_firsts wq_nexts wq_names wq_fieldNames wq_amounts wq_fieldDefaults wq_enumDefaults w_letterCount w_slotCount w_meant w_firsts a0 r1 hz1) (cwV 1 hts (g5_34 _) rfl rfl rfl (by decide +kernel) ⟨(by show 1 + 1 ≤ 3; omega), (by show 8 + (2 + 11) + (21) ≤ 67; omega)⟩) hS hP hK hz0 [1, 3, 4] rfl (va_recv hK hP (ci := 8) (q0 := 1) rfl rfl) rfl rfl hl.1 (Nat.le_of_ble_eq_true rfl) dX5_hasAllSymbols_5 ⟨Nat.zero_le _, Nat.zero_le _⟩ ?_
  refine lv_istore_n (lv' := [(3, .int r1), (0, .ref obP), (1, .int a0), (2, .int a1)]) hx hb dX5_hasAllSymbols_8 rfl hl (by decide) rfl (fun ls hl => ?_)
  refine lv_iconst (v := 0) hx hb dX5_hasAllSymbols_9 (by decide) ?_
  have j12 : ∀ (n12 : Nat) (x1 : Int32) (x2 : Int32) (x3 : Int32) (x4 : Int32) (ls : Array Slot), lv_has ls 5 [(0, .ref obP), (1, .int x1), (2, .int x2), (3, .int x3), (4, .int x4)] → m_X5_hasAllSymbols1_12 w_plain w_meant w_firsts w_amounts w_letterCount n12 x1 x2 x3 x4 = some res → W p l e (headSpec wsX5_hasAllSymbols1 (rmX5_hasAllSymbols1 0 0)).room s m [.ref obP, .int a0, .int a1].toArray below meth c s.heap [] 0 0 Q0 (F0 m 12 ls []) := by
    intro n12
    induction n12 with
    | zero => intro x1 x2 x3 x4 ls hl hm; exact nomatch (show (none : Option _) = some res from hm)
    | succ n12 ih12 =>
      intro x1 x2 x3 x4 ls hl hm
      rw [m_X5_hasAllSymbols1_12] at hm
      refine lv_iload hx hb dX5_hasAllSymbols_12 (lv_at hl 4 rfl) ?_
      refine lv_aload_n hx hb dX5_hasAllSymbols_14 rfl (lv_at hl 0 rfl) ?_
      refine va_get (D := (dC, dI)) (ci := 7) (v := .ref obW) (C := RX5) (T := TX5) (N := 3) hx hb hts (inX5 _) hown hK hP 0 rfl rfl 0 (by decide) (hts _ (List.mem_cons_of_mem _ wf5_11)) (fun _ h9 => h9) rfl dX5_hasAllSymbols_15 ?_
      refine lv_iload_n hx hb dX5_hasAllSymbols_18 rfl (lv_at hl 1 rfl) ?_
      obtain ⟨r2, hz2, hm⟩ := mr_bind hm
      refine mr_pV (As := [.int x1]) (rest := [.int x4]) (sr_okZ adK adV) ⟨hx, hb, hml, hown, hts⟩ (kX6_amount l htr dC dI adK adV cI cB cJ cZ cQ obW wq_plain wq_kinds wq_meant wq_firsts wq_nexts wq_names wq_fieldNames wq_amounts wq_fieldDefaults wq_enumDefaults w_letterCount w_slotCount w_meant w_amounts x1 r2 hz2) (cwV 1 hts (g5_41 _) rfl rfl rfl (by decide +kernel) ⟨(by show 1 + 1 ≤ 3; omega), (by show 8 + (2 + 11) + (21) ≤ 67; omega)⟩) hS hP hK hz0 [1, 3, 5] rfl (va_recv hK hP (ci := 8) (q0 := 1) rfl rfl) rfl rfl hl.1 (Nat.le_of_ble_eq_true rfl) dX5_hasAllSymbols_19 ⟨Nat.zero_le _, Nat.zero_le _⟩ ?_
      refine lv_icmp_ge (tgt := 51) hx hb dX5_hasAllSymbols_22 (by decide) (fun c3 => ?_) (fun c3 => ?_)
      · have hm := mr_if c3 hm
        refine lv_iconst (v := 1) hx hb dX5_hasAllSymbols_51 (by decide) ?_
        obtain rfl := Option.some.inj hm
        subst hQ0
        exact W.zret (v := 1) hx hb hr rfl (fun t ht hW => ⟨rfl, ht⟩) (fun q h => by cases h) dX5_hasAllSymbols_52
      · have hm := mr_un c3 hm
        refine lv_aload_n hx hb dX5_hasAllSymbols_25 rfl (lv_at hl 0 rfl) ?_
        refine lv_iload_n hx hb dX5_hasAllSymbols_26 rfl (lv_at hl 2 rfl) ?_
        refine lv_iload_n hx hb dX5_hasAllSymbols_27 rfl (lv_at hl 3 rfl) ?_
        obtain ⟨r4, hz4, hm⟩ := mr_bind hm
        refine mr_pV (As := [.int x2, .int x3]) (rest := []) (sr_okZ adK adV) ⟨hx, hb, hml, hown, hts⟩ (kX5_hasSymbol1 l htr dC dI adK adV cI cB cJ cZ cQ obP obW obC wq_plain wq_kinds wq_meant wq_firsts wq_nexts wq_names wq_fieldNames wq_amounts wq_fieldDefaults wq_enumDefaults w_letterCount w_slotCount w_plain w_meant w_firsts w_amounts x2 x3 r4 hz4) (cwV 2 hts (g5_97 _) rfl rfl rfl (by decide +kernel) ⟨(by show 2 + 1 ≤ 3; omega), (by show 8 + (5 + 11) + (43) ≤ 67; omega)⟩) hS hP hK hz0 [0, 1, 2, 3, 4, 5] rfl (va_recv hK hP (ci := 7) (q0 := 0) rfl rfl) rfl rfl hl.1 (Nat.le_of_ble_eq_true rfl) dX5_hasAllSymbols_28 ⟨Nat.zero_le _, Nat.zero_le _⟩ ?_
        refine lv_if_ne (tgt := 36) hx hb dX5_hasAllSymbols_31 (by decide) (fun c5 => ?_) (fun c5 => ?_)
        · have hm := mr_un c5 hm
          refine lv_aload_n hx hb dX5_hasAllSymbols_36 rfl (lv_at hl 0 rfl) ?_
          refine va_get (D := (dC, dI)) (ci := 7) (v := .ref obW) (C := RX5) (T := TX5) (N := 3) hx hb hts (inX5 _) hown hK hP 0 rfl rfl 0 (by decide) (hts _ (List.mem_cons_of_mem _ wf5_11)) (fun _ h9 => h9) rfl dX5_hasAllSymbols_37 ?_
          refine lv_iload_n hx hb dX5_hasAllSymbols_40 rfl (lv_at hl 3 rfl) ?_
          obtain ⟨r6, hz6, hm⟩ := mr_bind hm
          refine mr_pV (As := [.int x3]) (rest := []) (sr_okZ adK adV) ⟨hx, hb, hml, hown, hts⟩ (kX6_nextSymbol l htr dC dI adK adV cI cB cJ cZ cQ obW wq_plain wq_kinds wq_meant wq_firsts wq_nexts wq_names wq_fieldNames wq_amounts wq_fieldDefaults wq_enumDefaults w_letterCount w_slotCount w_plain x3 r6 hz6) (cwV 1 hts (g5_100 _) rfl rfl rfl (by decide +kernel) ⟨(by show 1 + 1 ≤ 3; omega), (by show 8 + (3 + 11) + (21) ≤ 67; omega)⟩) hS hP hK hz0 [1, 2] rfl (va_recv hK hP (ci := 8) (q0 := 1) rfl rfl) rfl rfl hl.1 (Nat.le_of_ble_eq_true rfl) dX5_hasAllSymbols_41 ⟨Nat.zero_le _, Nat.zero_le _⟩ ?_
          refine lv_istore_n (lv' := [(3, .int r6), (0, .ref obP), (1, .int x1), (2, .int x2), (4, .int x4)]) hx hb dX5_hasAllSymbols_44 rfl hl (by decide) rfl (fun ls hl => ?_)
          refine lv_iinc (v := x4 + 1) (lv' := [(4, .int (x4 + 1)), (3, .int r6), (0, .ref obP), (1, .int x1), (2, .int x2)]) hx hb dX5_hasAllSymbols_45 hl (k := 4) rfl rfl (by decide) rfl (fun ls hl => ?_)
          refine lv_goto (tgt := 12) hx hb dX5_hasAllSymbols_48 (by decide) ?_
          exact ih12 x1 x2 r6 (x4 + 1) ls (lv_sub hl [2, 3, 4, 1, 0] rfl) hm
        · have hm := mr_if c5 hm
          refine lv_iconst (v := 0) hx hb dX5_hasAllSymbols_34 (by decide) ?_
          obtain rfl := Option.some.inj hm
          subst hQ0
          exact W.zret (v := 0) hx hb hr rfl (fun t ht hW => ⟨rfl, ht⟩) (fun q h => by cases h) dX5_hasAllSymbols_35
  refine lv_istore (lv' := [(4, .int 0), (3, .int r1), (0, .ref obP), (1, .int a0), (2, .int a1)]) hx hb dX5_hasAllSymbols_10 hl (by decide) rfl (fun ls hl => ?_)
  exact j12 sr_fuel a0 a1 r1 0 ls (lv_sub hl [2, 3, 4, 1, 0] rfl) hm
set_option maxHeartbeats 4000000 in
set_option maxRecDepth 100000 in
theorem kX5_ask1 (l : Launch) (htr : l.stackTraces = false) (dC : Nat → ClassId) (dI : Nat → Nat → Nat) (adK adV : Nat → Nat) (cI cB cJ cZ cQ : ClassId) (obP obW obC cq_firsts cq_seconds : Nat) (c_count : Int32) (c_firsts : Nat → Int32) (c_seconds : Nat → Int32) (sz : Nat) (a0 : Int32) (a1 : Int32) (res : (Nat → Int32) × (Nat → Int32) × Int32) (hm : m_X5_ask1 c_firsts c_seconds c_count a0 a1 = some res) : Met l yX5_ask1 wsX5_ask1 (rmX5_ask1 0 0) (pcW (sr_Z adK adV) (dC, dI) srCl [(cI, .int), (cB, .byte), (cJ, .long), (cZ, .boolean), (cQ, .object "SchemaReader$Schema")] [.ref obP, .int a0, .int a1] [(obP, .inr (7, [.ref obW, .ref obW, .ref obC])), (obC, .inr (3, [.ref cq_firsts, .ref cq_seconds, .int c_count])), (cq_firsts, .inl (cI, 128, .inl c_firsts)), (cq_seconds, .inl (cI, 128, .inl c_seconds))] sz) (va_Qv (fun u' => u' = res) (pcB (dC, dI) srCl [(cI, .int), (cB, .byte), (cJ, .long), (cZ, .boolean), (cQ, .object "SchemaReader$Schema")] (fun u : (Nat → Int32) × (Nat → Int32) × Int32 => [(obP, .inr (7, [.ref obW, .ref obW, .ref obC])), (obC, .inr (3, [.ref cq_firsts, .ref cq_seconds, .int u.2.2])), (cq_firsts, .inl (cI, 128, .inl u.1)), (cq_seconds, .inl (cI, 128, .inl u.2.1))]) (va_A [(obP, .inr (7, [.ref obW, .ref obW, .ref obC])), (obC, .inr (3, [.ref cq_firsts, .ref cq_seconds, .int c_count])), (cq_firsts, .inl (cI, 128, .inl c_firsts)), (cq_seconds, .inl (cI, 128, .inl c_seconds))] sz)) (va_A [(obP, .inr (7, [.ref obW, .ref obW, .ref obC])), (obC, .inr (3, [.ref cq_firsts, .ref cq_seconds, .int c_count])), (cq_firsts, .inl (cI, 128, .inl c_firsts)), (cq_seconds, .inl (cI, 128, .inl c_seconds))] sz)) 0 0 (va_A [(obP, .inr (7, [.ref obW, .ref obW, .ref obC])), (obC, .inr (3, [.ref cq_firsts, .ref cq_seconds, .int c_count])), (cq_firsts, .inl (cI, 128, .inl c_firsts)), (cq_seconds, .inl (cI, 128, .inl c_seconds))] sz) := by
  refine Met.ofW (cc := cX5_ask1) (maxL := 3) (ret := none) (by decide) rfl ?_
  intro p e s m args below meth c s₁ B hml hv
  obtain ⟨rfl, hsz, hP, hK, hD0, hz0⟩ := hv
  have hx := B.exec
  have hb := B.bytes
  have hr := B.returns
  have hts := atoms_spec (ws := wsX5_ask1) B.pre
  have hown : s.vm.findClass RX5 = some m.cls := findClass_of_methodNamed B.named
  have hlocks := B.notSynchronized
  subst hsz
  have hD := hD0.self (sz := s.heap.size)
  generalize hAe : va_A [(obP, .inr (7, [.ref obW, .ref obW, .ref obC])), (obC, .inr (3, [.ref cq_firsts, .ref cq_seconds, .int c_count])), (cq_firsts, .inl (cI, 128, .inl c_firsts)), (cq_seconds, .inl (cI, 128, .inl c_seconds))] s.heap.size = A at hD hz0 ⊢
  have hA : ∀ q : Nat, s.heap.size ≤ q → A q := fun q h => by rw [← hAe]; exact Or.inr h
  have hS : va_S A s.heap s.heap [] := va_S.rf
  generalize hQ0 : MQ below (va_Qv (fun u' => u' = res) (pcB (dC, dI) srCl [(cI, .int), (cB, .byte), (cJ, .long), (cZ, .boolean), (cQ, .object "SchemaReader$Schema")] (fun u : (Nat → Int32) × (Nat → Int32) × Int32 => [(obP, .inr (7, [.ref obW, .ref obW, .ref obC])), (obC, .inr (3, [.ref cq_firsts, .ref cq_seconds, .int u.2.2])), (cq_firsts, .inl (cI, 128, .inl u.1)), (cq_seconds, .inl (cI, 128, .inl u.2.1))]) A) A) [.ref obP, .int a0, .int a1].toArray s 0 0 A = Q0
  have hl := lv_entry [.ref obP, .int a0, .int a1] (n := 3) (Nat.le_of_ble_eq_true rfl)
  rw [lg_entry_eq]
  generalize (lg_sl [.ref obP, .int a0, .int a1] ++ List.replicate (3 - (lg_sl [.ref obP, .int a0, .int a1]).length) Slot.unset).toArray = ls at hl ⊢
  have hl : lv_has ls 3 [(0, .ref obP), (1, .int a0), (2, .int a1)] := hl
  unfold m_X5_ask1 at hm
  refine lv_aload_n hx hb dX5_ask_0 rfl (lv_at hl 0 rfl) ?_
  refine va_get (D := (dC, dI)) (ci := 7) (v := .ref obC) (C := RX5) (T := TX5) (N := 3) hx hb hts (inX5 _) hown hK hP 0 rfl rfl 2 (by decide) (hts _ (List.mem_cons_of_mem _ wf5_20)) (fun _ h9 => h9) rfl dX5_ask_1 ?_
  refine lv_iload_n hx hb dX5_ask_4 rfl (lv_at hl 1 rfl) ?_
  refine lv_iload_n hx hb dX5_ask_5 rfl (lv_at hl 2 rfl) ?_
  obtain ⟨r1, hz1, hm⟩ := mr_bind hm
  refine mr_pV (As := [.int a0, .int a1]) (rest := []) (sr_okZ adK adV) ⟨hx, hb, hml, hown, hts⟩ (kX11_has l htr dC dI adK adV cI cB cJ cZ cQ obC cq_firsts cq_seconds c_count c_firsts c_seconds a0 a1 r1 hz1) (cwV 2 hts (g5_103 _) rfl rfl rfl (by decide +kernel) ⟨(by show 1 + 1 ≤ 2; omega), (by show 8 + (4 + 11) + (21) ≤ 44; omega)⟩) hS hP hK hz0 [1, 2, 3] rfl (va_recv hK hP (ci := 3) (q0 := 1) rfl rfl) rfl rfl hl.1 (Nat.le_of_ble_eq_true rfl) dX5_ask_6 ⟨Nat.zero_le _, Nat.zero_le _⟩ ?_
  refine lv_if_ne (tgt := 21) hx hb dX5_ask_9 (by decide) (fun c2 => ?_) (fun c2 => ?_)
  · have hm := mr_un c2 hm
    obtain rfl := Option.some.inj hm
    subst hQ0
    exact W.vret hx hb hr (fun t ht hW => ⟨⟨(c_firsts, c_seconds, c_count), rfl, rfl, by rw [ht]; exact hP, va_K.moved hW.alike hK, hD⟩, hS.F ht⟩) hS.2.2 dX5_ask_21
  · have hm := mr_if c2 hm
    refine lv_aload_n hx hb dX5_ask_12 rfl (lv_at hl 0 rfl) ?_
    refine va_get (D := (dC, dI)) (ci := 7) (v := .ref obC) (C := RX5) (T := TX5) (N := 3) hx hb hts (inX5 _) hown hK hP 0 rfl rfl 2 (by decide) (hts _ (List.mem_cons_of_mem _ wf5_20)) (fun _ h9 => h9) rfl dX5_ask_13 ?_
    refine lv_iload_n hx hb dX5_ask_16 rfl (lv_at hl 1 rfl) ?_
    refine lv_iload_n hx hb dX5_ask_17 rfl (lv_at hl 2 rfl) ?_
    obtain ⟨⟨c_firsts_3, c_seconds_3, c_count_3⟩, hz3, hm⟩ := mr_bind hm
    try dsimp only at hm
    refine mr_wVv (As := [.int a0, .int a1]) (rest := []) (sr_okZ adK adV) ⟨hx, hb, hml, hown, hts⟩ (kX11_add l htr dC dI adK adV cI cB cJ cZ cQ obC cq_firsts cq_seconds c_count c_firsts c_seconds _ a0 a1 _ hz3) (cwV 2 hts (g5_106 _) rfl rfl rfl (by decide +kernel) ⟨(by show 1 + 1 ≤ 2; omega), (by show 8 + (3 + 11) + (22) ≤ 44; omega)⟩) hS hA hP hD hK hz0 (wr := [(obP, .inr (7, [.ref obW, .ref obW, .ref obC]))]) (w1 := [(obP, .inr (7, [.ref obW, .ref obW, .ref obC])), (obC, .inr (3, [.ref cq_firsts, .ref cq_seconds, .int c_count_3])), (cq_firsts, .inl (cI, 128, .inl c_firsts_3)), (cq_seconds, .inl (cI, 128, .inl c_seconds_3))]) [1, 2, 3] [0] [0, 1, 2, 3] rfl rfl rfl rfl rfl (by decide) rfl rfl rfl (va_recv hK hP (ci := 3) (q0 := 1) rfl rfl) rfl rfl hl.1 (Nat.le_of_ble_eq_true rfl) dX5_ask_18 ⟨Nat.zero_le _, Nat.zero_le _⟩ (fun H locs hP hD hS => ?_)
    obtain rfl := Option.some.inj hm
    subst hQ0
    exact W.vret hx hb hr (fun t ht hW => ⟨⟨(c_firsts_3, c_seconds_3, c_count_3), rfl, rfl, by rw [ht]; exact hP, va_K.moved hW.alike hK, hD⟩, hS.F ht⟩) hS.2.2 dX5_ask_21
set_option maxHeartbeats 4000000 in
set_option maxRecDepth 100000 in
theorem kX5_writerField1 (l : Launch) (htr : l.stackTraces = false) (dC : Nat → ClassId) (dI : Nat → Nat → Nat) (adK adV : Nat → Nat) (cI cB cJ cZ cQ : ClassId) (obP obW obC wq_plain wq_kinds wq_meant wq_firsts wq_nexts wq_names wq_fieldNames wq_amounts wq_fieldDefaults wq_enumDefaults : Nat) (w_letterCount : Int32) (w_slotCount : Int32) (w_plain : Nat → Int32) (w_meant : Nat → Int32) (w_firsts : Nat → Int32) (w_nexts : Nat → Int32) (w_fieldNames : Nat → Int32) (w_amounts : Nat → Int32) (a0 : Int32) (a1 : Int32) (res : Int32) (hm : m_X5_writerField1 w_plain w_meant w_firsts w_nexts w_fieldNames w_amounts w_letterCount a0 a1 = some res) : Met l yX5_writerField1 wsX5_writerField1 (rmX5_writerField1 0 0) (pcR (sr_Z adK adV) (dC, dI) srCl [(cI, .int), (cB, .byte), (cJ, .long), (cZ, .boolean), (cQ, .object "SchemaReader$Schema")] [.ref obP, .int a0, .int a1] [(obP, .inr (7, [.ref obW, .ref obW, .ref obC])), (obW, .inr (8, [.ref wq_plain, .ref wq_kinds, .ref wq_meant, .ref wq_firsts, .ref wq_nexts, .ref wq_names, .ref wq_fieldNames, .ref wq_amounts, .ref wq_fieldDefaults, .ref wq_enumDefaults, .int w_letterCount, .int w_slotCount])), (wq_plain, .inl (cB, 4096, .inl w_plain)), (wq_meant, .inl (cI, 128, .inl w_meant)), (wq_firsts, .inl (cI, 128, .inl w_firsts)), (wq_nexts, .inl (cI, 128, .inl w_nexts)), (wq_fieldNames, .inl (cI, 128, .inl w_fieldNames)), (wq_amounts, .inl (cI, 128, .inl w_amounts))]) (k2_QcV (.int res)) 0 0 (fun _ => False) := by
  refine Met.ofW (cc := cX5_writerField1) (maxL := 5) (ret := (some .int)) (by decide) rfl ?_
  intro p e s m args below meth c s₁ B hml hv
  obtain ⟨rfl, hP, hK, hz0⟩ := hv
  have hx := B.exec
  have hb := B.bytes
  have hr := B.returns
  have hts := atoms_spec (ws := wsX5_writerField1) B.pre
  have hown : s.vm.findClass RX5 = some m.cls := findClass_of_methodNamed B.named
  have hlocks := B.notSynchronized
  have hS : va_S (fun _ => False) s.heap s.heap [] := va_S.rf
  generalize hQ0 : MQ below (k2_QcV (.int res)) [.ref obP, .int a0, .int a1].toArray s 0 0 (fun _ => False) = Q0
  have hl := lv_entry [.ref obP, .int a0, .int a1] (n := 5) (Nat.le_of_ble_eq_true rfl)
  rw [lg_entry_eq]
  generalize (lg_sl [.ref obP, .int a0, .int a1] ++ List.replicate (5 - (lg_sl [.ref obP, .int a0, .int a1]).length) Slot.unset).toArray = ls at hl ⊢
  have hl : lv_has ls 5 [(0, .ref obP), (1, .int a0), (2, .int a1)] := hl
  unfold m_X5_writerField1 at hm
  refine lv_aload_n hx hb dX5_writerField_0 rfl (lv_at hl 0 rfl) ?_
  refine va_get (D := (dC, dI)) (ci := 7) (v := .ref obW) (C := RX5) (T := TX5) (N := 3) hx hb hts (inX5 _) hown hK hP 0 rfl rfl 0 (by decide) (hts _ (List.mem_cons_of_mem _ wf5_11)) (fun _ h9 => h9) rfl dX5_writerField_1 ?_
  refine lv_iload_n hx hb dX5_writerField_4 rfl (lv_at hl 1 rfl) ?_
  obtain ⟨r1, hz1, hm⟩ := mr_bind hm
  refine mr_pV (As := [.int a0]) (rest := []) (sr_okZ adK adV) ⟨hx, hb, hml, hown, hts⟩ (kX6_first l htr dC dI adK adV cI cB cJ cZ cQ obW wq_plain wq_kinds wq_meant wq_firsts wq_nexts wq_names wq_fieldNames wq_amounts wq_fieldDefaults wq_enumDefaults w_letterCount w_slotCount w_meant w_firsts a0 r1 hz1) (cwV 1 hts (g5_34 _) rfl rfl rfl (by decide +kernel) ⟨(by show 1 + 1 ≤ 2; omega), (by show 8 + (2 + 11) + (21) ≤ 42; omega)⟩) hS hP hK hz0 [1, 3, 4] rfl (va_recv hK hP (ci := 8) (q0 := 1) rfl rfl) rfl rfl hl.1 (Nat.le_of_ble_eq_true rfl) dX5_writerField_5 ⟨Nat.zero_le _, Nat.zero_le _⟩ ?_
  refine lv_istore_n (lv' := [(3, .int r1), (0, .ref obP), (1, .int a0), (2, .int a1)]) hx hb dX5_writerField_8 rfl hl (by decide) rfl (fun ls hl => ?_)
  refine lv_iconst (v := 0) hx hb dX5_writerField_9 (by decide) ?_
  have j12 : ∀ (n12 : Nat) (x1 : Int32) (x2 : Int32) (x3 : Int32) (x4 : Int32) (ls : Array Slot), lv_has ls 5 [(0, .ref obP), (1, .int x1), (2, .int x2), (3, .int x3), (4, .int x4)] → m_X5_writerField1_12 w_plain w_meant w_firsts w_nexts w_fieldNames w_amounts w_letterCount n12 x1 x2 x3 x4 = some res → W p l e (headSpec wsX5_writerField1 (rmX5_writerField1 0 0)).room s m [.ref obP, .int a0, .int a1].toArray below meth c s.heap [] 0 0 Q0 (F0 m 12 ls []) := by
    intro n12
    induction n12 with
    | zero => intro x1 x2 x3 x4 ls hl hm; exact nomatch (show (none : Option _) = some res from hm)
    | succ n12 ih12 =>
      intro x1 x2 x3 x4 ls hl hm
      rw [m_X5_writerField1_12] at hm
      refine lv_iload hx hb dX5_writerField_12 (lv_at hl 4 rfl) ?_
      refine lv_aload_n hx hb dX5_writerField_14 rfl (lv_at hl 0 rfl) ?_
      refine va_get (D := (dC, dI)) (ci := 7) (v := .ref obW) (C := RX5) (T := TX5) (N := 3) hx hb hts (inX5 _) hown hK hP 0 rfl rfl 0 (by decide) (hts _ (List.mem_cons_of_mem _ wf5_11)) (fun _ h9 => h9) rfl dX5_writerField_15 ?_
      refine lv_iload_n hx hb dX5_writerField_18 rfl (lv_at hl 1 rfl) ?_
      obtain ⟨r2, hz2, hm⟩ := mr_bind hm
      refine mr_pV (As := [.int x1]) (rest := [.int x4]) (sr_okZ adK adV) ⟨hx, hb, hml, hown, hts⟩ (kX6_amount l htr dC dI adK adV cI cB cJ cZ cQ obW wq_plain wq_kinds wq_meant wq_firsts wq_nexts wq_names wq_fieldNames wq_amounts wq_fieldDefaults wq_enumDefaults w_letterCount w_slotCount w_meant w_amounts x1 r2 hz2) (cwV 1 hts (g5_41 _) rfl rfl rfl (by decide +kernel) ⟨(by show 1 + 1 ≤ 2; omega), (by show 8 + (2 + 11) + (21) ≤ 42; omega)⟩) hS hP hK hz0 [1, 3, 7] rfl (va_recv hK hP (ci := 8) (q0 := 1) rfl rfl) rfl rfl hl.1 (Nat.le_of_ble_eq_true rfl) dX5_writerField_19 ⟨Nat.zero_le _, Nat.zero_le _⟩ ?_
      refine lv_icmp_ge (tgt := 65) hx hb dX5_writerField_22 (by decide) (fun c3 => ?_) (fun c3 => ?_)
      · have hm := mr_if c3 hm
        refine lv_iconst (v := -1) hx hb dX5_writerField_65 (by decide) ?_
        obtain rfl := Option.some.inj hm
        subst hQ0
        exact W.iret (v := (-1)) hx hb hr (fun t ht hW => ⟨rfl, ht⟩) (fun q h => by cases h) dX5_writerField_66
      · have hm := mr_un c3 hm
        refine lv_aload_n hx hb dX5_writerField_25 rfl (lv_at hl 0 rfl) ?_
        refine va_get (D := (dC, dI)) (ci := 7) (v := .ref obW) (C := RX5) (T := TX5) (N := 3) hx hb hts (inX5 _) hown hK hP 0 rfl rfl 0 (by decide) (hts _ (List.mem_cons_of_mem _ wf5_11)) (fun _ h9 => h9) rfl dX5_writerField_26 ?_
        refine lv_aload_n hx hb dX5_writerField_29 rfl (lv_at hl 0 rfl) ?_
        refine va_get (D := (dC, dI)) (ci := 7) (v := .ref obW) (C := RX5) (T := TX5) (N := 3) hx hb hts (inX5 _) hown hK hP 0 rfl rfl 0 (by decide) (hts _ (List.mem_cons_of_mem _ wf5_11)) (fun _ h9 => h9) rfl dX5_writerField_30 ?_
        refine lv_iload_n hx hb dX5_writerField_33 rfl (lv_at hl 3 rfl) ?_
        obtain ⟨r4, hz4, hm⟩ := mr_bind hm
        refine mr_pV (As := [.int x3]) (rest := [.ref obW]) (sr_okZ adK adV) ⟨hx, hb, hml, hown, hts⟩ (kX6_fieldName l htr dC dI adK adV cI cB cJ cZ cQ obW wq_plain wq_kinds wq_meant wq_firsts wq_nexts wq_names wq_fieldNames wq_amounts wq_fieldDefaults wq_enumDefaults w_letterCount w_slotCount w_fieldNames x3 r4 hz4) (cwV 1 hts (g5_112 _) rfl rfl rfl (by decide +kernel) ⟨(by show 1 + 1 ≤ 2; omega), (by show 8 + (2 + 11) + (21) ≤ 42; omega)⟩) hS hP hK hz0 [1, 6] rfl (va_recv hK hP (ci := 8) (q0 := 1) rfl rfl) rfl rfl hl.1 (Nat.le_of_ble_eq_true rfl) dX5_writerField_34 ⟨Nat.zero_le _, Nat.zero_le _⟩ ?_
        refine lv_aload_n hx hb dX5_writerField_37 rfl (lv_at hl 0 rfl) ?_
        refine va_get (D := (dC, dI)) (ci := 7) (v := .ref obW) (C := RX5) (T := TX5) (N := 3) hx hb hts (inX5 _) hown hK hP 0 rfl rfl 1 (by decide) (hts _ (List.mem_cons_of_mem _ wf5_17)) (fun _ h9 => h9) rfl dX5_writerField_38 ?_
        refine lv_iload_n hx hb dX5_writerField_41 rfl (lv_at hl 2 rfl) ?_
        obtain ⟨r5, hz5, hm⟩ := mr_bind hm
        refine mr_pS (As := [.ref obW, .int r4, .ref obW, .int x2]) (rest := []) (sr_okZ adK adV) ⟨hx, hb, hml, hown, hts⟩ (kX6_isSameName l htr dC dI adK adV cI cB cJ cZ cQ obW wq_plain wq_kinds wq_meant wq_firsts wq_nexts wq_names wq_fieldNames wq_amounts wq_fieldDefaults wq_enumDefaults obW wq_plain wq_kinds wq_meant wq_firsts wq_nexts wq_names wq_fieldNames wq_amounts wq_fieldDefaults wq_enumDefaults w_letterCount w_slotCount w_letterCount w_slotCount w_plain w_plain r4 x2 r5 hz5) (va_cwS 4 hts (g5_47 _) rfl rfl rfl (by decide +kernel) ⟨(by show 0 + 1 ≤ 2; omega), (by show 8 + (7 + 11) + (0) ≤ 42; omega)⟩) hS hP hK hz0 [1, 2, 1, 2] rfl rfl rfl hl.1 (Nat.le_of_ble_eq_true rfl) dX5_writerField_42 ⟨Nat.zero_le _, Nat.zero_le _⟩ ?_
        refine lv_if_eq (tgt := 50) hx hb dX5_writerField_45 (by decide) (fun c6 => ?_) (fun c6 => ?_)
        · have hm := mr_if c6 hm
          refine lv_aload_n hx hb dX5_writerField_50 rfl (lv_at hl 0 rfl) ?_
          refine va_get (D := (dC, dI)) (ci := 7) (v := .ref obW) (C := RX5) (T := TX5) (N := 3) hx hb hts (inX5 _) hown hK hP 0 rfl rfl 0 (by decide) (hts _ (List.mem_cons_of_mem _ wf5_11)) (fun _ h9 => h9) rfl dX5_writerField_51 ?_
          refine lv_iload_n hx hb dX5_writerField_54 rfl (lv_at hl 3 rfl) ?_
          obtain ⟨r7, hz7, hm⟩ := mr_bind hm
          refine mr_pV (As := [.int x3]) (rest := []) (sr_okZ adK adV) ⟨hx, hb, hml, hown, hts⟩ (kX6_next l htr dC dI adK adV cI cB cJ cZ cQ obW wq_plain wq_kinds wq_meant wq_firsts wq_nexts wq_names wq_fieldNames wq_amounts wq_fieldDefaults wq_enumDefaults w_letterCount w_slotCount w_nexts x3 r7 hz7) (cwV 1 hts (g5_91 _) rfl rfl rfl (by decide +kernel) ⟨(by show 1 + 1 ≤ 2; omega), (by show 8 + (2 + 11) + (21) ≤ 42; omega)⟩) hS hP hK hz0 [1, 5] rfl (va_recv hK hP (ci := 8) (q0 := 1) rfl rfl) rfl rfl hl.1 (Nat.le_of_ble_eq_true rfl) dX5_writerField_55 ⟨Nat.zero_le _, Nat.zero_le _⟩ ?_
          refine lv_istore_n (lv' := [(3, .int r7), (0, .ref obP), (1, .int x1), (2, .int x2), (4, .int x4)]) hx hb dX5_writerField_58 rfl hl (by decide) rfl (fun ls hl => ?_)
          refine lv_iinc (v := x4 + 1) (lv' := [(4, .int (x4 + 1)), (3, .int r7), (0, .ref obP), (1, .int x1), (2, .int x2)]) hx hb dX5_writerField_59 hl (k := 4) rfl rfl (by decide) rfl (fun ls hl => ?_)
          refine lv_goto (tgt := 12) hx hb dX5_writerField_62 (by decide) ?_
          exact ih12 x1 x2 r7 (x4 + 1) ls (lv_sub hl [2, 3, 4, 1, 0] rfl) hm
        · have hm := mr_un c6 hm
          refine lv_iload_n hx hb dX5_writerField_48 rfl (lv_at hl 3 rfl) ?_
          obtain rfl := Option.some.inj hm
          subst hQ0
          exact W.iret (v := x3) hx hb hr (fun t ht hW => ⟨rfl, ht⟩) (fun q h => by cases h) dX5_writerField_49
  refine lv_istore (lv' := [(4, .int 0), (3, .int r1), (0, .ref obP), (1, .int a0), (2, .int a1)]) hx hb dX5_writerField_10 hl (by decide) rfl (fun ls hl => ?_)
  exact j12 sr_fuel a0 a1 r1 0 ls (lv_sub hl [2, 3, 4, 1, 0] rfl) hm
set_option maxHeartbeats 4000000 in
set_option maxRecDepth 100000 in
theorem kX5_isEveryBranchFit1 (l : Launch) (htr : l.stackTraces = false) (dC : Nat → ClassId) (dI : Nat → Nat → Nat) (adK adV : Nat → Nat) (cI cB cJ cZ cQ : ClassId) (obP obW obC wq_plain wq_kinds wq_meant wq_firsts wq_nexts wq_names wq_fieldNames wq_amounts wq_fieldDefaults wq_enumDefaults cq_firsts cq_seconds : Nat) (f_isFit1 : (Nat → Int32) → (Nat → Int32) → (Nat → Int32) → (Nat → Int32) → (Nat → Int32) → (Nat → Int32) → (Nat → Int32) → (Nat → Int32) → Int32 → (Nat → Int32) → (Nat → Int32) → Int32 → Int32 → Int32 → Int32 → Option (Int32 × (Nat → Int32) × (Nat → Int32) × Int32)) (d : Nat) (hrec : ∀ (w_letterCount : Int32) (w_slotCount : Int32) (c_count : Int32) (w_plain : Nat → Int32) (w_kinds : Nat → Int32) (w_meant : Nat → Int32) (w_firsts : Nat → Int32) (w_nexts : Nat → Int32) (w_names : Nat → Int32) (w_amounts : Nat → Int32) (w_enumDefaults : Nat → Int32) (c_firsts : Nat → Int32) (c_seconds : Nat → Int32) (sz : Nat) (a0 : Int32) (a1 : Int32) (a2 : Int32) (res : Int32 × (Nat → Int32) × (Nat → Int32) × Int32), f_isFit1 w_plain w_kinds w_meant w_firsts w_nexts w_names w_amounts w_enumDefaults w_letterCount c_firsts c_seconds c_count a0 a1 a2 = some res → Met l yX5_isFit1 wsX5_isFit1 (rmX5_isFit1 d 0 0) (pcW (sr_Z adK adV) (dC, dI) srCl [(cI, .int), (cB, .byte), (cJ, .long), (cZ, .boolean), (cQ, .object "SchemaReader$Schema")] [.ref obP, .int a0, .int a1, .int a2] [(obP, .inr (7, [.ref obW, .ref obW, .ref obC])), (obW, .inr (8, [.ref wq_plain, .ref wq_kinds, .ref wq_meant, .ref wq_firsts, .ref wq_nexts, .ref wq_names, .ref wq_fieldNames, .ref wq_amounts, .ref wq_fieldDefaults, .ref wq_enumDefaults, .int w_letterCount, .int w_slotCount])), (wq_plain, .inl (cB, 4096, .inl w_plain)), (wq_kinds, .inl (cI, 128, .inl w_kinds)), (wq_meant, .inl (cI, 128, .inl w_meant)), (wq_firsts, .inl (cI, 128, .inl w_firsts)), (wq_nexts, .inl (cI, 128, .inl w_nexts)), (wq_names, .inl (cI, 128, .inl w_names)), (wq_amounts, .inl (cI, 128, .inl w_amounts)), (wq_enumDefaults, .inl (cZ, 128, .inl w_enumDefaults)), (obC, .inr (3, [.ref cq_firsts, .ref cq_seconds, .int c_count])), (cq_firsts, .inl (cI, 128, .inl c_firsts)), (cq_seconds, .inl (cI, 128, .inl c_seconds))] sz) (va_Qi (fun r' u' => r' = res.1 ∧ u' = res.2) (pcB (dC, dI) srCl [(cI, .int), (cB, .byte), (cJ, .long), (cZ, .boolean), (cQ, .object "SchemaReader$Schema")] (fun u : (Nat → Int32) × (Nat → Int32) × Int32 => [(obP, .inr (7, [.ref obW, .ref obW, .ref obC])), (obW, .inr (8, [.ref wq_plain, .ref wq_kinds, .ref wq_meant, .ref wq_firsts, .ref wq_nexts, .ref wq_names, .ref wq_fieldNames, .ref wq_amounts, .ref wq_fieldDefaults, .ref wq_enumDefaults, .int w_letterCount, .int w_slotCount])), (wq_plain, .inl (cB, 4096, .inl w_plain)), (wq_kinds, .inl (cI, 128, .inl w_kinds)), (wq_meant, .inl (cI, 128, .inl w_meant)), (wq_firsts, .inl (cI, 128, .inl w_firsts)), (wq_nexts, .inl (cI, 128, .inl w_nexts)), (wq_names, .inl (cI, 128, .inl w_names)), (wq_amounts, .inl (cI, 128, .inl w_amounts)), (wq_enumDefaults, .inl (cZ, 128, .inl w_enumDefaults)), (obC, .inr (3, [.ref cq_firsts, .ref cq_seconds, .int u.2.2])), (cq_firsts, .inl (cI, 128, .inl u.1)), (cq_seconds, .inl (cI, 128, .inl u.2.1))]) (va_A [(obP, .inr (7, [.ref obW, .ref obW, .ref obC])), (obW, .inr (8, [.ref wq_plain, .ref wq_kinds, .ref wq_meant, .ref wq_firsts, .ref wq_nexts, .ref wq_names, .ref wq_fieldNames, .ref wq_amounts, .ref wq_fieldDefaults, .ref wq_enumDefaults, .int w_letterCount, .int w_slotCount])), (wq_plain, .inl (cB, 4096, .inl w_plain)), (wq_kinds, .inl (cI, 128, .inl w_kinds)), (wq_meant, .inl (cI, 128, .inl w_meant)), (wq_firsts, .inl (cI, 128, .inl w_firsts)), (wq_nexts, .inl (cI, 128, .inl w_nexts)), (wq_names, .inl (cI, 128, .inl w_names)), (wq_amounts, .inl (cI, 128, .inl w_amounts)), (wq_enumDefaults, .inl (cZ, 128, .inl w_enumDefaults)), (obC, .inr (3, [.ref cq_firsts, .ref cq_seconds, .int c_count])), (cq_firsts, .inl (cI, 128, .inl c_firsts)), (cq_seconds, .inl (cI, 128, .inl c_seconds))] sz)) (va_A [(obP, .inr (7, [.ref obW, .ref obW, .ref obC])), (obW, .inr (8, [.ref wq_plain, .ref wq_kinds, .ref wq_meant, .ref wq_firsts, .ref wq_nexts, .ref wq_names, .ref wq_fieldNames, .ref wq_amounts, .ref wq_fieldDefaults, .ref wq_enumDefaults, .int w_letterCount, .int w_slotCount])), (wq_plain, .inl (cB, 4096, .inl w_plain)), (wq_kinds, .inl (cI, 128, .inl w_kinds)), (wq_meant, .inl (cI, 128, .inl w_meant)), (wq_firsts, .inl (cI, 128, .inl w_firsts)), (wq_nexts, .inl (cI, 128, .inl w_nexts)), (wq_names, .inl (cI, 128, .inl w_names)), (wq_amounts, .inl (cI, 128, .inl w_amounts)), (wq_enumDefaults, .inl (cZ, 128, .inl w_enumDefaults)), (obC, .inr (3, [.ref cq_firsts, .ref cq_seconds, .int c_count])), (cq_firsts, .inl (cI, 128, .inl c_firsts)), (cq_seconds, .inl (cI, 128, .inl c_seconds))] sz)) 0 0 (va_A [(obP, .inr (7, [.ref obW, .ref obW, .ref obC])), (obW, .inr (8, [.ref wq_plain, .ref wq_kinds, .ref wq_meant, .ref wq_firsts, .ref wq_nexts, .ref wq_names, .ref wq_fieldNames, .ref wq_amounts, .ref wq_fieldDefaults, .ref wq_enumDefaults, .int w_letterCount, .int w_slotCount])), (wq_plain, .inl (cB, 4096, .inl w_plain)), (wq_kinds, .inl (cI, 128, .inl w_kinds)), (wq_meant, .inl (cI, 128, .inl w_meant)), (wq_firsts, .inl (cI, 128, .inl w_firsts)), (wq_nexts, .inl (cI, 128, .inl w_nexts)), (wq_names, .inl (cI, 128, .inl w_names)), (wq_amounts, .inl (cI, 128, .inl w_amounts)), (wq_enumDefaults, .inl (cZ, 128, .inl w_enumDefaults)), (obC, .inr (3, [.ref cq_firsts, .ref cq_seconds, .int c_count])), (cq_firsts, .inl (cI, 128, .inl c_firsts)), (cq_seconds, .inl (cI, 128, .inl c_seconds))] sz)) (w_letterCount : Int32) (w_slotCount : Int32) (c_count : Int32) (w_plain : Nat → Int32) (w_kinds : Nat → Int32) (w_meant : Nat → Int32) (w_firsts : Nat → Int32) (w_nexts : Nat → Int32) (w_names : Nat → Int32) (w_amounts : Nat → Int32) (w_enumDefaults : Nat → Int32) (c_firsts : Nat → Int32) (c_seconds : Nat → Int32) (sz : Nat) (a0 : Int32) (a1 : Int32) (a2 : Int32) (res : Int32 × (Nat → Int32) × (Nat → Int32) × Int32) (hm : m_X5_isEveryBranchFit1 f_isFit1 w_plain w_kinds w_meant w_firsts w_nexts w_names w_amounts w_enumDefaults w_letterCount c_firsts c_seconds c_count a0 a1 a2 = some res) : Met l yX5_isEveryBranchFit1 wsX5_isEveryBranchFit1 (rmX5_isEveryBranchFit1 d 0 0) (pcW (sr_Z adK adV) (dC, dI) srCl [(cI, .int), (cB, .byte), (cJ, .long), (cZ, .boolean), (cQ, .object "SchemaReader$Schema")] [.ref obP, .int a0, .int a1, .int a2] [(obP, .inr (7, [.ref obW, .ref obW, .ref obC])), (obW, .inr (8, [.ref wq_plain, .ref wq_kinds, .ref wq_meant, .ref wq_firsts, .ref wq_nexts, .ref wq_names, .ref wq_fieldNames, .ref wq_amounts, .ref wq_fieldDefaults, .ref wq_enumDefaults, .int w_letterCount, .int w_slotCount])), (wq_plain, .inl (cB, 4096, .inl w_plain)), (wq_kinds, .inl (cI, 128, .inl w_kinds)), (wq_meant, .inl (cI, 128, .inl w_meant)), (wq_firsts, .inl (cI, 128, .inl w_firsts)), (wq_nexts, .inl (cI, 128, .inl w_nexts)), (wq_names, .inl (cI, 128, .inl w_names)), (wq_amounts, .inl (cI, 128, .inl w_amounts)), (wq_enumDefaults, .inl (cZ, 128, .inl w_enumDefaults)), (obC, .inr (3, [.ref cq_firsts, .ref cq_seconds, .int c_count])), (cq_firsts, .inl (cI, 128, .inl c_firsts)), (cq_seconds, .inl (cI, 128, .inl c_seconds))] sz) (va_Qi (fun r' u' => r' = res.1 ∧ u' = res.2) (pcB (dC, dI) srCl [(cI, .int), (cB, .byte), (cJ, .long), (cZ, .boolean), (cQ, .object "SchemaReader$Schema")] (fun u : (Nat → Int32) × (Nat → Int32) × Int32 => [(obP, .inr (7, [.ref obW, .ref obW, .ref obC])), (obW, .inr (8, [.ref wq_plain, .ref wq_kinds, .ref wq_meant, .ref wq_firsts, .ref wq_nexts, .ref wq_names, .ref wq_fieldNames, .ref wq_amounts, .ref wq_fieldDefaults, .ref wq_enumDefaults, .int w_letterCount, .int w_slotCount])), (wq_plain, .inl (cB, 4096, .inl w_plain)), (wq_kinds, .inl (cI, 128, .inl w_kinds)), (wq_meant, .inl (cI, 128, .inl w_meant)), (wq_firsts, .inl (cI, 128, .inl w_firsts)), (wq_nexts, .inl (cI, 128, .inl w_nexts)), (wq_names, .inl (cI, 128, .inl w_names)), (wq_amounts, .inl (cI, 128, .inl w_amounts)), (wq_enumDefaults, .inl (cZ, 128, .inl w_enumDefaults)), (obC, .inr (3, [.ref cq_firsts, .ref cq_seconds, .int u.2.2])), (cq_firsts, .inl (cI, 128, .inl u.1)), (cq_seconds, .inl (cI, 128, .inl u.2.1))]) (va_A [(obP, .inr (7, [.ref obW, .ref obW, .ref obC])), (obW, .inr (8, [.ref wq_plain, .ref wq_kinds, .ref wq_meant, .ref wq_firsts, .ref wq_nexts, .ref wq_names, .ref wq_fieldNames, .ref wq_amounts, .ref wq_fieldDefaults, .ref wq_enumDefaults, .int w_letterCount, .int w_slotCount])), (wq_plain, .inl (cB, 4096, .inl w_plain)), (wq_kinds, .inl (cI, 128, .inl w_kinds)), (wq_meant, .inl (cI, 128, .inl w_meant)), (wq_firsts, .inl (cI, 128, .inl w_firsts)), (wq_nexts, .inl (cI, 128, .inl w_nexts)), (wq_names, .inl (cI, 128, .inl w_names)), (wq_amounts, .inl (cI, 128, .inl w_amounts)), (wq_enumDefaults, .inl (cZ, 128, .inl w_enumDefaults)), (obC, .inr (3, [.ref cq_firsts, .ref cq_seconds, .int c_count])), (cq_firsts, .inl (cI, 128, .inl c_firsts)), (cq_seconds, .inl (cI, 128, .inl c_seconds))] sz)) (va_A [(obP, .inr (7, [.ref obW, .ref obW, .ref obC])), (obW, .inr (8, [.ref wq_plain, .ref wq_kinds, .ref wq_meant, .ref wq_firsts, .ref wq_nexts, .ref wq_names, .ref wq_fieldNames, .ref wq_amounts, .ref wq_fieldDefaults, .ref wq_enumDefaults, .int w_letterCount, .int w_slotCount])), (wq_plain, .inl (cB, 4096, .inl w_plain)), (wq_kinds, .inl (cI, 128, .inl w_kinds)), (wq_meant, .inl (cI, 128, .inl w_meant)), (wq_firsts, .inl (cI, 128, .inl w_firsts)), (wq_nexts, .inl (cI, 128, .inl w_nexts)), (wq_names, .inl (cI, 128, .inl w_names)), (wq_amounts, .inl (cI, 128, .inl w_amounts)), (wq_enumDefaults, .inl (cZ, 128, .inl w_enumDefaults)), (obC, .inr (3, [.ref cq_firsts, .ref cq_seconds, .int c_count])), (cq_firsts, .inl (cI, 128, .inl c_firsts)), (cq_seconds, .inl (cI, 128, .inl c_seconds))] sz)) 0 0 (va_A [(obP, .inr (7, [.ref obW, .ref obW, .ref obC])), (obW, .inr (8, [.ref wq_plain, .ref wq_kinds, .ref wq_meant, .ref wq_firsts, .ref wq_nexts, .ref wq_names, .ref wq_fieldNames, .ref wq_amounts, .ref wq_fieldDefaults, .ref wq_enumDefaults, .int w_letterCount, .int w_slotCount])), (wq_plain, .inl (cB, 4096, .inl w_plain)), (wq_kinds, .inl (cI, 128, .inl w_kinds)), (wq_meant, .inl (cI, 128, .inl w_meant)), (wq_firsts, .inl (cI, 128, .inl w_firsts)), (wq_nexts, .inl (cI, 128, .inl w_nexts)), (wq_names, .inl (cI, 128, .inl w_names)), (wq_amounts, .inl (cI, 128, .inl w_amounts)), (wq_enumDefaults, .inl (cZ, 128, .inl w_enumDefaults)), (obC, .inr (3, [.ref cq_firsts, .ref cq_seconds, .int c_count])), (cq_firsts, .inl (cI, 128, .inl c_firsts)), (cq_seconds, .inl (cI, 128, .inl c_seconds))] sz) := by
  refine Met.ofW (cc := cX5_isEveryBranchFit1) (maxL := 6) (ret := (some .boolean)) (by decide) rfl ?_
  intro p e s m args below meth c s₁ B hml hv
  obtain ⟨rfl, hsz, hP, hK, hD0, hz0⟩ := hv
  have hx := B.exec
  have hb := B.bytes
  have hr := B.returns
  have hts := atoms_spec (ws := wsX5_isEveryBranchFit1) B.pre
  have hown : s.vm.findClass RX5 = some m.cls := findClass_of_methodNamed B.named
  have hlocks := B.notSynchronized
  subst hsz
  have hD := hD0.self (sz := s.heap.size)
  generalize hAe : va_A [(obP, .inr (7, [.ref obW, .ref obW, .ref obC])), (obW, .inr (8, [.ref wq_plain, .ref wq_kinds, .ref wq_meant, .ref wq_firsts, .ref wq_nexts, .ref wq_names, .ref wq_fieldNames, .ref wq_amounts, .ref wq_fieldDefaults, .ref wq_enumDefaults, .int w_letterCount, .int w_slotCount])), (wq_plain, .inl (cB, 4096, .inl w_plain)), (wq_kinds, .inl (cI, 128, .inl w_kinds)), (wq_meant, .inl (cI, 128, .inl w_meant)), (wq_firsts, .inl (cI, 128, .inl w_firsts)), (wq_nexts, .inl (cI, 128, .inl w_nexts)), (wq_names, .inl (cI, 128, .inl w_names)), (wq_amounts, .inl (cI, 128, .inl w_amounts)), (wq_enumDefaults, .inl (cZ, 128, .inl w_enumDefaults)), (obC, .inr (3, [.ref cq_firsts, .ref cq_seconds, .int c_count])), (cq_firsts, .inl (cI, 128, .inl c_firsts)), (cq_seconds, .inl (cI, 128, .inl c_seconds))] s.heap.size = A at hD hz0 ⊢
  have hA : ∀ q : Nat, s.heap.size ≤ q → A q := fun q h => by rw [← hAe]; exact Or.inr h
  have hS : va_S A s.heap s.heap [] := va_S.rf
  generalize hQ0 : MQ below (va_Qi (fun r' u' => r' = res.1 ∧ u' = res.2) (pcB (dC, dI) srCl [(cI, .int), (cB, .byte), (cJ, .long), (cZ, .boolean), (cQ, .object "SchemaReader$Schema")] (fun u : (Nat → Int32) × (Nat → Int32) × Int32 => [(obP, .inr (7, [.ref obW, .ref obW, .ref obC])), (obW, .inr (8, [.ref wq_plain, .ref wq_kinds, .ref wq_meant, .ref wq_firsts, .ref wq_nexts, .ref wq_names, .ref wq_fieldNames, .ref wq_amounts, .ref wq_fieldDefaults, .ref wq_enumDefaults, .int w_letterCount, .int w_slotCount])), (wq_plain, .inl (cB, 4096, .inl w_plain)), (wq_kinds, .inl (cI, 128, .inl w_kinds)), (wq_meant, .inl (cI, 128, .inl w_meant)), (wq_firsts, .inl (cI, 128, .inl w_firsts)), (wq_nexts, .inl (cI, 128, .inl w_nexts)), (wq_names, .inl (cI, 128, .inl w_names)), (wq_amounts, .inl (cI, 128, .inl w_amounts)), (wq_enumDefaults, .inl (cZ, 128, .inl w_enumDefaults)), (obC, .inr (3, [.ref cq_firsts, .ref cq_seconds, .int u.2.2])), (cq_firsts, .inl (cI, 128, .inl u.1)), (cq_seconds, .inl (cI, 128, .inl u.2.1))]) A) A) [.ref obP, .int a0, .int a1, .int a2].toArray s 0 0 A = Q0
  have hl := lv_entry [.ref obP, .int a0, .int a1, .int a2] (n := 6) (Nat.le_of_ble_eq_true rfl)
  rw [lg_entry_eq]
  generalize (lg_sl [.ref obP, .int a0, .int a1, .int a2] ++ List.replicate (6 - (lg_sl [.ref obP, .int a0, .int a1, .int a2]).length) Slot.unset).toArray = ls at hl ⊢
  have hl : lv_has ls 6 [(0, .ref obP), (1, .int a0), (2, .int a1), (3, .int a2)] := hl
  unfold m_X5_isEveryBranchFit1 at hm
  refine lv_aload_n hx hb dX5_isEveryBranchFit_0 rfl (lv_at hl 0 rfl) ?_
  refine va_get (D := (dC, dI)) (ci := 7) (v := .ref obW) (C := RX5) (T := TX5) (N := 3) hx hb hts (inX5 _) hown hK hP 0 rfl rfl 0 (by decide) (hts _ (List.mem_cons_of_mem _ wf5_11)) (fun _ h9 => h9) rfl dX5_isEveryBranchFit_1 ?_
  refine lv_iload_n hx hb dX5_isEveryBranchFit_4 rfl (lv_at hl 1 rfl) ?_
  obtain ⟨r1, hz1, hm⟩ := mr_bind hm
  refine mr_pV (As := [.int a0]) (rest := []) (sr_okZ adK adV) ⟨hx, hb, hml, hown, hts⟩ (kX6_first l htr dC dI adK adV cI cB cJ cZ cQ obW wq_plain wq_kinds wq_meant wq_firsts wq_nexts wq_names wq_fieldNames wq_amounts wq_fieldDefaults wq_enumDefaults w_letterCount w_slotCount w_meant w_firsts a0 r1 hz1) (cwV 1 hts (g5_34 _) rfl rfl rfl (by decide +kernel) ⟨(by show 1 + 1 ≤ 2 * d + 6; omega), (by show 8 + (2 + 11) + (21) ≤ 50 * d + 141; omega)⟩) hS hP hK hz0 [1, 4, 5] rfl (va_recv hK hP (ci := 8) (q0 := 1) rfl rfl) rfl rfl hl.1 (Nat.le_of_ble_eq_true rfl) dX5_isEveryBranchFit_5 ⟨Nat.zero_le _, Nat.zero_le _⟩ ?_
  refine lv_istore (lv' := [(4, .int r1), (0, .ref obP), (1, .int a0), (2, .int a1), (3, .int a2)]) hx hb dX5_isEveryBranchFit_8 hl (by decide) rfl (fun ls hl => ?_)
  refine lv_iconst (v := 0) hx hb dX5_isEveryBranchFit_10 (by decide) ?_
  have j13 : ∀ (n13 : Nat) (c_firsts : Nat → Int32) (c_seconds : Nat → Int32) (c_count : Int32) (x1 : Int32) (x2 : Int32) (x3 : Int32) (x4 : Int32) (x5 : Int32) (H : Heap) (locs : List Loc) (ls : Array Slot), va_P (dC, dI) srCl [(obP, .inr (7, [.ref obW, .ref obW, .ref obC])), (obW, .inr (8, [.ref wq_plain, .ref wq_kinds, .ref wq_meant, .ref wq_firsts, .ref wq_nexts, .ref wq_names, .ref wq_fieldNames, .ref wq_amounts, .ref wq_fieldDefaults, .ref wq_enumDefaults, .int w_letterCount, .int w_slotCount])), (wq_plain, .inl (cB, 4096, .inl w_plain)), (wq_kinds, .inl (cI, 128, .inl w_kinds)), (wq_meant, .inl (cI, 128, .inl w_meant)), (wq_firsts, .inl (cI, 128, .inl w_firsts)), (wq_nexts, .inl (cI, 128, .inl w_nexts)), (wq_names, .inl (cI, 128, .inl w_names)), (wq_amounts, .inl (cI, 128, .inl w_amounts)), (wq_enumDefaults, .inl (cZ, 128, .inl w_enumDefaults)), (obC, .inr (3, [.ref cq_firsts, .ref cq_seconds, .int c_count])), (cq_firsts, .inl (cI, 128, .inl c_firsts)), (cq_seconds, .inl (cI, 128, .inl c_seconds))] H → va_D A [(obP, .inr (7, [.ref obW, .ref obW, .ref obC])), (obW, .inr (8, [.ref wq_plain, .ref wq_kinds, .ref wq_meant, .ref wq_firsts, .ref wq_nexts, .ref wq_names, .ref wq_fieldNames, .ref wq_amounts, .ref wq_fieldDefaults, .ref wq_enumDefaults, .int w_letterCount, .int w_slotCount])), (wq_plain, .inl (cB, 4096, .inl w_plain)), (wq_kinds, .inl (cI, 128, .inl w_kinds)), (wq_meant, .inl (cI, 128, .inl w_meant)), (wq_firsts, .inl (cI, 128, .inl w_firsts)), (wq_nexts, .inl (cI, 128, .inl w_nexts)), (wq_names, .inl (cI, 128, .inl w_names)), (wq_amounts, .inl (cI, 128, .inl w_amounts)), (wq_enumDefaults, .inl (cZ, 128, .inl w_enumDefaults)), (obC, .inr (3, [.ref cq_firsts, .ref cq_seconds, .int c_count])), (cq_firsts, .inl (cI, 128, .inl c_firsts)), (cq_seconds, .inl (cI, 128, .inl c_seconds))] → va_S A s.heap H locs → lv_has ls 6 [(0, .ref obP), (1, .int x1), (2, .int x2), (3, .int x3), (4, .int x4), (5, .int x5)] → m_X5_isEveryBranchFit1_13 f_isFit1 w_plain w_kinds w_meant w_firsts w_nexts w_names w_amounts w_enumDefaults w_letterCount n13 c_firsts c_seconds c_count x1 x2 x3 x4 x5 = some res → W p l e (headSpec wsX5_isEveryBranchFit1 (rmX5_isEveryBranchFit1 d 0 0)).room s m [.ref obP, .int a0, .int a1, .int a2].toArray below meth c H locs 0 0 Q0 (F0 m 13 ls []) := by
    intro n13
    induction n13 with
    | zero => intro c_firsts c_seconds c_count x1 x2 x3 x4 x5 H locs ls hP hD hS hl hm; exact nomatch (show (none : Option _) = some res from hm)
    | succ n13 ih13 =>
      intro c_firsts c_seconds c_count x1 x2 x3 x4 x5 H locs ls hP hD hS hl hm
      rw [m_X5_isEveryBranchFit1_13] at hm
      refine lv_iload hx hb dX5_isEveryBranchFit_13 (lv_at hl 5 rfl) ?_
      refine lv_aload_n hx hb dX5_isEveryBranchFit_15 rfl (lv_at hl 0 rfl) ?_
      refine va_get (D := (dC, dI)) (ci := 7) (v := .ref obW) (C := RX5) (T := TX5) (N := 3) hx hb hts (inX5 _) hown hK hP 0 rfl rfl 0 (by decide) (hts _ (List.mem_cons_of_mem _ wf5_11)) (fun _ h9 => h9) rfl dX5_isEveryBranchFit_16 ?_
      refine lv_iload_n hx hb dX5_isEveryBranchFit_19 rfl (lv_at hl 1 rfl) ?_
      obtain ⟨r2, hz2, hm⟩ := mr_bind hm
      refine mr_pV (As := [.int x1]) (rest := [.int x5]) (sr_okZ adK adV) ⟨hx, hb, hml, hown, hts⟩ (kX6_amount l htr dC dI adK adV cI cB cJ cZ cQ obW wq_plain wq_kinds wq_meant wq_firsts wq_nexts wq_names wq_fieldNames wq_amounts wq_fieldDefaults wq_enumDefaults w_letterCount w_slotCount w_meant w_amounts x1 r2 hz2) (cwV 1 hts (g5_41 _) rfl rfl rfl (by decide +kernel) ⟨(by show 1 + 1 ≤ 2 * d + 6; omega), (by show 8 + (2 + 11) + (21) ≤ 50 * d + 141; omega)⟩) hS hP hK hz0 [1, 4, 8] rfl (va_recv hK hP (ci := 8) (q0 := 1) rfl rfl) rfl rfl hl.1 (Nat.le_of_ble_eq_true rfl) dX5_isEveryBranchFit_20 ⟨Nat.zero_le _, Nat.zero_le _⟩ ?_
      refine lv_icmp_ge (tgt := 58) hx hb dX5_isEveryBranchFit_23 (by decide) (fun c3 => ?_) (fun c3 => ?_)
      · have hm := mr_if c3 hm
        refine lv_iconst (v := 1) hx hb dX5_isEveryBranchFit_58 (by decide) ?_
        obtain rfl := Option.some.inj hm
        subst hQ0
        exact W.zret (v := 1) hx hb hr rfl (fun t ht hW => ⟨⟨1, (c_firsts, c_seconds, c_count), rfl, ⟨rfl, rfl⟩, by rw [ht]; exact hP, va_K.moved hW.alike hK, hD⟩, hS.F ht⟩) hS.2.2 dX5_isEveryBranchFit_59
      · have hm := mr_un c3 hm
        refine lv_aload_n hx hb dX5_isEveryBranchFit_26 rfl (lv_at hl 0 rfl) ?_
        refine lv_iload hx hb dX5_isEveryBranchFit_27 (lv_at hl 4 rfl) ?_
        refine lv_iload_n hx hb dX5_isEveryBranchFit_29 rfl (lv_at hl 2 rfl) ?_
        refine lv_iload_n hx hb dX5_isEveryBranchFit_30 rfl (lv_at hl 3 rfl) ?_
        refine lv_iconst (v := 1) hx hb dX5_isEveryBranchFit_31 (by decide) ?_
        refine lv_iadd hx hb dX5_isEveryBranchFit_32 ?_
        obtain ⟨⟨r4, c_firsts_4, c_seconds_4, c_count_4⟩, hz4, hm⟩ := mr_bind hm
        try dsimp only at hm
        refine mr_wVi (As := [.int x4, .int x2, .int (x3 + 1)]) (rest := []) (sr_okZ adK adV) ⟨hx, hb, hml, hown, hts⟩ (hrec w_letterCount w_slotCount c_count w_plain w_kinds w_meant w_firsts w_nexts w_names w_amounts w_enumDefaults c_firsts c_seconds _ x4 x2 (x3 + 1) _ hz4) (cwV 3 hts (g5_56 _) rfl rfl rfl (by decide +kernel) ⟨(by show 2 * d + 5 + 1 ≤ 2 * d + 6; omega), (by show 8 + (6 + 11) + (50 * d + 116) ≤ 50 * d + 141; omega)⟩) hS hA hP hD hK hz0 (wr := []) (w1 := [(obP, .inr (7, [.ref obW, .ref obW, .ref obC])), (obW, .inr (8, [.ref wq_plain, .ref wq_kinds, .ref wq_meant, .ref wq_firsts, .ref wq_nexts, .ref wq_names, .ref wq_fieldNames, .ref wq_amounts, .ref wq_fieldDefaults, .ref wq_enumDefaults, .int w_letterCount, .int w_slotCount])), (wq_plain, .inl (cB, 4096, .inl w_plain)), (wq_kinds, .inl (cI, 128, .inl w_kinds)), (wq_meant, .inl (cI, 128, .inl w_meant)), (wq_firsts, .inl (cI, 128, .inl w_firsts)), (wq_nexts, .inl (cI, 128, .inl w_nexts)), (wq_names, .inl (cI, 128, .inl w_names)), (wq_amounts, .inl (cI, 128, .inl w_amounts)), (wq_enumDefaults, .inl (cZ, 128, .inl w_enumDefaults)), (obC, .inr (3, [.ref cq_firsts, .ref cq_seconds, .int c_count_4])), (cq_firsts, .inl (cI, 128, .inl c_firsts_4)), (cq_seconds, .inl (cI, 128, .inl c_seconds_4))]) [0, 1, 2, 3, 4, 5, 6, 7, 8, 9, 10, 11, 12] [] [0, 1, 2, 3, 4, 5, 6, 7, 8, 9, 10, 11, 12] rfl rfl rfl rfl rfl (by decide) rfl rfl rfl (va_recv hK hP (ci := 7) (q0 := 0) rfl rfl) rfl rfl hl.1 (Nat.le_of_ble_eq_true rfl) dX5_isEveryBranchFit_33 ⟨Nat.zero_le _, Nat.zero_le _⟩ (fun H locs hP hD hS => ?_)
        refine lv_if_ne (tgt := 41) hx hb dX5_isEveryBranchFit_36 (by decide) (fun c5 => ?_) (fun c5 => ?_)
        · have hm := mr_un c5 hm
          refine lv_aload_n hx hb dX5_isEveryBranchFit_41 rfl (lv_at hl 0 rfl) ?_
          refine va_get (D := (dC, dI)) (ci := 7) (v := .ref obW) (C := RX5) (T := TX5) (N := 3) hx hb hts (inX5 _) hown hK hP 0 rfl rfl 0 (by decide) (hts _ (List.mem_cons_of_mem _ wf5_11)) (fun _ h9 => h9) rfl dX5_isEveryBranchFit_42 ?_
          refine lv_iload hx hb dX5_isEveryBranchFit_45 (lv_at hl 4 rfl) ?_
          obtain ⟨r6, hz6, hm⟩ := mr_bind hm
          refine mr_pV (As := [.int x4]) (rest := []) (sr_okZ adK adV) ⟨hx, hb, hml, hown, hts⟩ (kX6_next l htr dC dI adK adV cI cB cJ cZ cQ obW wq_plain wq_kinds wq_meant wq_firsts wq_nexts wq_names wq_fieldNames wq_amounts wq_fieldDefaults wq_enumDefaults w_letterCount w_slotCount w_nexts x4 r6 hz6) (cwV 1 hts (g5_91 _) rfl rfl rfl (by decide +kernel) ⟨(by show 1 + 1 ≤ 2 * d + 6; omega), (by show 8 + (2 + 11) + (21) ≤ 50 * d + 141; omega)⟩) hS hP hK hz0 [1, 6] rfl (va_recv hK hP (ci := 8) (q0 := 1) rfl rfl) rfl rfl hl.1 (Nat.le_of_ble_eq_true rfl) dX5_isEveryBranchFit_47 ⟨Nat.zero_le _, Nat.zero_le _⟩ ?_
          refine lv_istore (lv' := [(4, .int r6), (0, .ref obP), (1, .int x1), (2, .int x2), (3, .int x3), (5, .int x5)]) hx hb dX5_isEveryBranchFit_50 hl (by decide) rfl (fun ls hl => ?_)
          refine lv_iinc (v := x5 + 1) (lv' := [(5, .int (x5 + 1)), (4, .int r6), (0, .ref obP), (1, .int x1), (2, .int x2), (3, .int x3)]) hx hb dX5_isEveryBranchFit_52 hl (k := 5) rfl rfl (by decide) rfl (fun ls hl => ?_)
          refine lv_goto (tgt := 13) hx hb dX5_isEveryBranchFit_55 (by decide) ?_
          exact ih13 c_firsts_4 c_seconds_4 c_count_4 x1 x2 x3 r6 (x5 + 1) _ _ ls hP hD hS (lv_sub hl [2, 3, 4, 5, 1, 0] rfl) hm
        · have hm := mr_if c5 hm
          refine lv_iconst (v := 0) hx hb dX5_isEveryBranchFit_39 (by decide) ?_
          obtain rfl := Option.some.inj hm
          subst hQ0
          exact W.zret (v := 0) hx hb hr rfl (fun t ht hW => ⟨⟨0, (c_firsts_4, c_seconds_4, c_count_4), rfl, ⟨rfl, rfl⟩, by rw [ht]; exact hP, va_K.moved hW.alike hK, hD⟩, hS.F ht⟩) hS.2.2 dX5_isEveryBranchFit_40
  refine lv_istore (lv' := [(5, .int 0), (4, .int r1), (0, .ref obP), (1, .int a0), (2, .int a1), (3, .int a2)]) hx hb dX5_isEveryBranchFit_11 hl (by decide) rfl (fun ls hl => ?_)
  exact j13 sr_fuel c_firsts c_seconds c_count a0 a1 a2 r1 0 _ _ ls hP hD hS (lv_sub hl [2, 3, 4, 5, 1, 0] rfl) hm
set_option maxHeartbeats 4000000 in
set_option maxRecDepth 100000 in
theorem kX5_isFit1 (l : Launch) (htr : l.stackTraces = false) (dC : Nat → ClassId) (dI : Nat → Nat → Nat) (adK adV : Nat → Nat) (cI cB cJ cZ cQ : ClassId) (obP obW obC wq_plain wq_kinds wq_meant wq_firsts wq_nexts wq_names wq_fieldNames wq_amounts wq_fieldDefaults wq_enumDefaults cq_firsts cq_seconds : Nat) : ∀ (d : Nat) (w_letterCount : Int32) (w_slotCount : Int32) (c_count : Int32) (w_plain : Nat → Int32) (w_kinds : Nat → Int32) (w_meant : Nat → Int32) (w_firsts : Nat → Int32) (w_nexts : Nat → Int32) (w_names : Nat → Int32) (w_amounts : Nat → Int32) (w_enumDefaults : Nat → Int32) (c_firsts : Nat → Int32) (c_seconds : Nat → Int32) (sz : Nat) (a0 : Int32) (a1 : Int32) (a2 : Int32) (res : Int32 × (Nat → Int32) × (Nat → Int32) × Int32), m_X5_isFit1 d w_plain w_kinds w_meant w_firsts w_nexts w_names w_amounts w_enumDefaults w_letterCount c_firsts c_seconds c_count a0 a1 a2 = some res → Met l yX5_isFit1 wsX5_isFit1 (rmX5_isFit1 d 0 0) (pcW (sr_Z adK adV) (dC, dI) srCl [(cI, .int), (cB, .byte), (cJ, .long), (cZ, .boolean), (cQ, .object "SchemaReader$Schema")] [.ref obP, .int a0, .int a1, .int a2] [(obP, .inr (7, [.ref obW, .ref obW, .ref obC])), (obW, .inr (8, [.ref wq_plain, .ref wq_kinds, .ref wq_meant, .ref wq_firsts, .ref wq_nexts, .ref wq_names, .ref wq_fieldNames, .ref wq_amounts, .ref wq_fieldDefaults, .ref wq_enumDefaults, .int w_letterCount, .int w_slotCount])), (wq_plain, .inl (cB, 4096, .inl w_plain)), (wq_kinds, .inl (cI, 128, .inl w_kinds)), (wq_meant, .inl (cI, 128, .inl w_meant)), (wq_firsts, .inl (cI, 128, .inl w_firsts)), (wq_nexts, .inl (cI, 128, .inl w_nexts)), (wq_names, .inl (cI, 128, .inl w_names)), (wq_amounts, .inl (cI, 128, .inl w_amounts)), (wq_enumDefaults, .inl (cZ, 128, .inl w_enumDefaults)), (obC, .inr (3, [.ref cq_firsts, .ref cq_seconds, .int c_count])), (cq_firsts, .inl (cI, 128, .inl c_firsts)), (cq_seconds, .inl (cI, 128, .inl c_seconds))] sz) (va_Qi (fun r' u' => r' = res.1 ∧ u' = res.2) (pcB (dC, dI) srCl [(cI, .int), (cB, .byte), (cJ, .long), (cZ, .boolean), (cQ, .object "SchemaReader$Schema")] (fun u : (Nat → Int32) × (Nat → Int32) × Int32 => [(obP, .inr (7, [.ref obW, .ref obW, .ref obC])), (obW, .inr (8, [.ref wq_plain, .ref wq_kinds, .ref wq_meant, .ref wq_firsts, .ref wq_nexts, .ref wq_names, .ref wq_fieldNames, .ref wq_amounts, .ref wq_fieldDefaults, .ref wq_enumDefaults, .int w_letterCount, .int w_slotCount])), (wq_plain, .inl (cB, 4096, .inl w_plain)), (wq_kinds, .inl (cI, 128, .inl w_kinds)), (wq_meant, .inl (cI, 128, .inl w_meant)), (wq_firsts, .inl (cI, 128, .inl w_firsts)), (wq_nexts, .inl (cI, 128, .inl w_nexts)), (wq_names, .inl (cI, 128, .inl w_names)), (wq_amounts, .inl (cI, 128, .inl w_amounts)), (wq_enumDefaults, .inl (cZ, 128, .inl w_enumDefaults)), (obC, .inr (3, [.ref cq_firsts, .ref cq_seconds, .int u.2.2])), (cq_firsts, .inl (cI, 128, .inl u.1)), (cq_seconds, .inl (cI, 128, .inl u.2.1))]) (va_A [(obP, .inr (7, [.ref obW, .ref obW, .ref obC])), (obW, .inr (8, [.ref wq_plain, .ref wq_kinds, .ref wq_meant, .ref wq_firsts, .ref wq_nexts, .ref wq_names, .ref wq_fieldNames, .ref wq_amounts, .ref wq_fieldDefaults, .ref wq_enumDefaults, .int w_letterCount, .int w_slotCount])), (wq_plain, .inl (cB, 4096, .inl w_plain)), (wq_kinds, .inl (cI, 128, .inl w_kinds)), (wq_meant, .inl (cI, 128, .inl w_meant)), (wq_firsts, .inl (cI, 128, .inl w_firsts)), (wq_nexts, .inl (cI, 128, .inl w_nexts)), (wq_names, .inl (cI, 128, .inl w_names)), (wq_amounts, .inl (cI, 128, .inl w_amounts)), (wq_enumDefaults, .inl (cZ, 128, .inl w_enumDefaults)), (obC, .inr (3, [.ref cq_firsts, .ref cq_seconds, .int c_count])), (cq_firsts, .inl (cI, 128, .inl c_firsts)), (cq_seconds, .inl (cI, 128, .inl c_seconds))] sz)) (va_A [(obP, .inr (7, [.ref obW, .ref obW, .ref obC])), (obW, .inr (8, [.ref wq_plain, .ref wq_kinds, .ref wq_meant, .ref wq_firsts, .ref wq_nexts, .ref wq_names, .ref wq_fieldNames, .ref wq_amounts, .ref wq_fieldDefaults, .ref wq_enumDefaults, .int w_letterCount, .int w_slotCount])), (wq_plain, .inl (cB, 4096, .inl w_plain)), (wq_kinds, .inl (cI, 128, .inl w_kinds)), (wq_meant, .inl (cI, 128, .inl w_meant)), (wq_firsts, .inl (cI, 128, .inl w_firsts)), (wq_nexts, .inl (cI, 128, .inl w_nexts)), (wq_names, .inl (cI, 128, .inl w_names)), (wq_amounts, .inl (cI, 128, .inl w_amounts)), (wq_enumDefaults, .inl (cZ, 128, .inl w_enumDefaults)), (obC, .inr (3, [.ref cq_firsts, .ref cq_seconds, .int c_count])), (cq_firsts, .inl (cI, 128, .inl c_firsts)), (cq_seconds, .inl (cI, 128, .inl c_seconds))] sz)) 0 0 (va_A [(obP, .inr (7, [.ref obW, .ref obW, .ref obC])), (obW, .inr (8, [.ref wq_plain, .ref wq_kinds, .ref wq_meant, .ref wq_firsts, .ref wq_nexts, .ref wq_names, .ref wq_fieldNames, .ref wq_amounts, .ref wq_fieldDefaults, .ref wq_enumDefaults, .int w_letterCount, .int w_slotCount])), (wq_plain, .inl (cB, 4096, .inl w_plain)), (wq_kinds, .inl (cI, 128, .inl w_kinds)), (wq_meant, .inl (cI, 128, .inl w_meant)), (wq_firsts, .inl (cI, 128, .inl w_firsts)), (wq_nexts, .inl (cI, 128, .inl w_nexts)), (wq_names, .inl (cI, 128, .inl w_names)), (wq_amounts, .inl (cI, 128, .inl w_amounts)), (wq_enumDefaults, .inl (cZ, 128, .inl w_enumDefaults)), (obC, .inr (3, [.ref cq_firsts, .ref cq_seconds, .int c_count])), (cq_firsts, .inl (cI, 128, .inl c_firsts)), (cq_seconds, .inl (cI, 128, .inl c_seconds))] sz) := by
  intro d
  induction d with
  | zero => intro w_letterCount w_slotCount c_count w_plain w_kinds w_meant w_firsts w_nexts w_names w_amounts w_enumDefaults c_firsts c_seconds sz a0 a1 a2 res hm; exact nomatch (show (none : Option _) = some res from hm)
  | succ d ihd =>
    intro w_letterCount w_slotCount c_count w_plain w_kinds w_meant w_firsts w_nexts w_names w_amounts w_enumDefaults c_firsts c_seconds sz a0 a1 a2 res hm
    refine Met.ofW (cc := cX5_isFit1) (maxL := 6) (ret := (some .boolean)) (by decide) rfl ?_
    intro p e s m args below meth c s₁ B hml hv
    obtain ⟨rfl, hsz, hP, hK, hD0, hz0⟩ := hv
    have hx := B.exec
    have hb := B.bytes
    have hr := B.returns
    have hts := atoms_spec (ws := wsX5_isFit1) B.pre
    have hown : s.vm.findClass RX5 = some m.cls := findClass_of_methodNamed B.named
    have hlocks := B.notSynchronized
    subst hsz
    have hD := hD0.self (sz := s.heap.size)
    generalize hAe : va_A [(obP, .inr (7, [.ref obW, .ref obW, .ref obC])), (obW, .inr (8, [.ref wq_plain, .ref wq_kinds, .ref wq_meant, .ref wq_firsts, .ref wq_nexts, .ref wq_names, .ref wq_fieldNames, .ref wq_amounts, .ref wq_fieldDefaults, .ref wq_enumDefaults, .int w_letterCount, .int w_slotCount])), (wq_plain, .inl (cB, 4096, .inl w_plain)), (wq_kinds, .inl (cI, 128, .inl w_kinds)), (wq_meant, .inl (cI, 128, .inl w_meant)), (wq_firsts, .inl (cI, 128, .inl w_firsts)), (wq_nexts, .inl (cI, 128, .inl w_nexts)), (wq_names, .inl (cI, 128, .inl w_names)), (wq_amounts, .inl (cI, 128, .inl w_amounts)), (wq_enumDefaults, .inl (cZ, 128, .inl w_enumDefaults)), (obC, .inr (3, [.ref cq_firsts, .ref cq_seconds, .int c_count])), (cq_firsts, .inl (cI, 128, .inl c_firsts)), (cq_seconds, .inl (cI, 128, .inl c_seconds))] s.heap.size = A at hD hz0 ⊢
    have hA : ∀ q : Nat, s.heap.size ≤ q → A q := fun q h => by rw [← hAe]; exact Or.inr h
    have hS : va_S A s.heap s.heap [] := va_S.rf
    generalize hQ0 : MQ below (va_Qi (fun r' u' => r' = res.1 ∧ u' = res.2) (pcB (dC, dI) srCl [(cI, .int), (cB, .byte), (cJ, .long), (cZ, .boolean), (cQ, .object "SchemaReader$Schema")] (fun u : (Nat → Int32) × (Nat → Int32) × Int32 => [(obP, .inr (7, [.ref obW, .ref obW, .ref obC])), (obW, .inr (8, [.ref wq_plain, .ref wq_kinds, .ref wq_meant, .ref wq_firsts, .ref wq_nexts, .ref wq_names, .ref wq_fieldNames, .ref wq_amounts, .ref wq_fieldDefaults, .ref wq_enumDefaults, .int w_letterCount, .int w_slotCount])), (wq_plain, .inl (cB, 4096, .inl w_plain)), (wq_kinds, .inl (cI, 128, .inl w_kinds)), (wq_meant, .inl (cI, 128, .inl w_meant)), (wq_firsts, .inl (cI, 128, .inl w_firsts)), (wq_nexts, .inl (cI, 128, .inl w_nexts)), (wq_names, .inl (cI, 128, .inl w_names)), (wq_amounts, .inl (cI, 128, .inl w_amounts)), (wq_enumDefaults, .inl (cZ, 128, .inl w_enumDefaults)), (obC, .inr (3, [.ref cq_firsts, .ref cq_seconds, .int u.2.2])), (cq_firsts, .inl (cI, 128, .inl u.1)), (cq_seconds, .inl (cI, 128, .inl u.2.1))]) A) A) [.ref obP, .int a0, .int a1, .int a2].toArray s 0 0 A = Q0
    have hl := lv_entry [.ref obP, .int a0, .int a1, .int a2] (n := 6) (Nat.le_of_ble_eq_true rfl)
    rw [lg_entry_eq]
    generalize (lg_sl [.ref obP, .int a0, .int a1, .int a2] ++ List.replicate (6 - (lg_sl [.ref obP, .int a0, .int a1, .int a2]).length) Slot.unset).toArray = ls at hl ⊢
    have hl : lv_has ls 6 [(0, .ref obP), (1, .int a0), (2, .int a1), (3, .int a2)] := hl
    rw [m_X5_isFit1] at hm
    refine lv_iload_n hx hb dX5_isFit_0 rfl (lv_at hl 3 rfl) ?_
    refine lv_bipush (v := 34) hx hb dX5_isFit_1 (by decide) ?_
    refine lv_icmp_le (tgt := 8) hx hb dX5_isFit_3 (by decide) (fun c1 => ?_) (fun c1 => ?_)
    · have hm := mr_if c1 hm
      refine lv_aload_n hx hb dX5_isFit_8 rfl (lv_at hl 0 rfl) ?_
      refine va_get (D := (dC, dI)) (ci := 7) (v := .ref obW) (C := RX5) (T := TX5) (N := 3) hx hb hts (inX5 _) hown hK hP 0 rfl rfl 0 (by decide) (hts _ (List.mem_cons_of_mem _ wf5_11)) (fun _ h9 => h9) rfl dX5_isFit_9 ?_
      refine lv_iload_n hx hb dX5_isFit_12 rfl (lv_at hl 1 rfl) ?_
      obtain ⟨r2, hz2, hm⟩ := mr_bind hm
      refine mr_pV (As := [.int a0]) (rest := []) (sr_okZ adK adV) ⟨hx, hb, hml, hown, hts⟩ (kX6_kind l htr dC dI adK adV cI cB cJ cZ cQ obW wq_plain wq_kinds wq_meant wq_firsts wq_nexts wq_names wq_fieldNames wq_amounts wq_fieldDefaults wq_enumDefaults w_letterCount w_slotCount w_kinds w_meant a0 r2 hz2) (cwV 1 hts (g5_24 _) rfl rfl rfl (by decide +kernel) ⟨(by show 1 + 1 ≤ 2 * (d + 1) + 5; omega), (by show 8 + (2 + 11) + (21) ≤ 50 * (d + 1) + 116; omega)⟩) hS hP hK hz0 [1, 3, 4] rfl (va_recv hK hP (ci := 8) (q0 := 1) rfl rfl) rfl rfl hl.1 (Nat.le_of_ble_eq_true rfl) dX5_isFit_13 ⟨Nat.zero_le _, Nat.zero_le _⟩ ?_
      refine lv_istore (lv' := [(4, .int r2), (0, .ref obP), (1, .int a0), (2, .int a1), (3, .int a2)]) hx hb dX5_isFit_16 hl (by decide) rfl (fun ls hl => ?_)
      refine lv_iload hx hb dX5_isFit_18 (lv_at hl 0 rfl) ?_
      refine lv_bipush (v := 11) hx hb dX5_isFit_20 (by decide) ?_
      refine lv_icmp_ne (tgt := 33) hx hb dX5_isFit_22 (by decide) (fun c3 => ?_) (fun c3 => ?_)
      · have hm := mr_un c3 hm
        refine lv_aload_n hx hb dX5_isFit_33 rfl (lv_at hl 1 rfl) ?_
        refine va_get (D := (dC, dI)) (ci := 7) (v := .ref obW) (C := RX5) (T := TX5) (N := 3) hx hb hts (inX5 _) hown hK hP 0 rfl rfl 1 (by decide) (hts _ (List.mem_cons_of_mem _ wf5_17)) (fun _ h9 => h9) rfl dX5_isFit_34 ?_
        refine lv_iload_n hx hb dX5_isFit_37 rfl (lv_at hl 3 rfl) ?_
        obtain ⟨r4, hz4, hm⟩ := mr_bind hm
        refine mr_pV (As := [.int a1]) (rest := []) (sr_okZ adK adV) ⟨hx, hb, hml, hown, hts⟩ (kX6_kind l htr dC dI adK adV cI cB cJ cZ cQ obW wq_plain wq_kinds wq_meant wq_firsts wq_nexts wq_names wq_fieldNames wq_amounts wq_fieldDefaults wq_enumDefaults w_letterCount w_slotCount w_kinds w_meant a1 r4 hz4) (cwV 1 hts (g5_24 _) rfl rfl rfl (by decide +kernel) ⟨(by show 1 + 1 ≤ 2 * (d + 1) + 5; omega), (by show 8 + (2 + 11) + (21) ≤ 50 * (d + 1) + 116; omega)⟩) hS hP hK hz0 [1, 3, 4] rfl (va_recv hK hP (ci := 8) (q0 := 1) rfl rfl) rfl rfl hl.1 (Nat.le_of_ble_eq_true rfl) dX5_isFit_38 ⟨Nat.zero_le _, Nat.zero_le _⟩ ?_
        refine lv_bipush (v := 11) hx hb dX5_isFit_41 (by decide) ?_
        refine lv_icmp_ne (tgt := 79) hx hb dX5_isFit_43 (by decide) (fun c5 => ?_) (fun c5 => ?_)
        · have hm := mr_un c5 hm
          refine lv_iload hx hb dX5_isFit_79 (lv_at hl 0 rfl) ?_
          refine lv_aload_n hx hb dX5_isFit_81 rfl (lv_at hl 1 rfl) ?_
          refine va_get (D := (dC, dI)) (ci := 7) (v := .ref obW) (C := RX5) (T := TX5) (N := 3) hx hb hts (inX5 _) hown hK hP 0 rfl rfl 1 (by decide) (hts _ (List.mem_cons_of_mem _ wf5_17)) (fun _ h9 => h9) rfl dX5_isFit_82 ?_
          refine lv_iload_n hx hb dX5_isFit_85 rfl (lv_at hl 3 rfl) ?_
          obtain ⟨r6, hz6, hm⟩ := mr_bind hm
          refine mr_pV (As := [.int a1]) (rest := [.int r2]) (sr_okZ adK adV) ⟨hx, hb, hml, hown, hts⟩ (kX6_kind l htr dC dI adK adV cI cB cJ cZ cQ obW wq_plain wq_kinds wq_meant wq_firsts wq_nexts wq_names wq_fieldNames wq_amounts wq_fieldDefaults wq_enumDefaults w_letterCount w_slotCount w_kinds w_meant a1 r6 hz6) (cwV 1 hts (g5_24 _) rfl rfl rfl (by decide +kernel) ⟨(by show 1 + 1 ≤ 2 * (d + 1) + 5; omega), (by show 8 + (2 + 11) + (21) ≤ 50 * (d + 1) + 116; omega)⟩) hS hP hK hz0 [1, 3, 4] rfl (va_recv hK hP (ci := 8) (q0 := 1) rfl rfl) rfl rfl hl.1 (Nat.le_of_ble_eq_true rfl) dX5_isFit_86 ⟨Nat.zero_le _, Nat.zero_le _⟩ ?_
          have j130 : ∀ (c_firsts : Nat → Int32) (c_seconds : Nat → Int32) (c_count : Int32) (x1 : Int32) (x2 : Int32) (x4 : Int32) (H : Heap) (locs : List Loc) (ls : Array Slot), va_P (dC, dI) srCl [(obP, .inr (7, [.ref obW, .ref obW, .ref obC])), (obW, .inr (8, [.ref wq_plain, .ref wq_kinds, .ref wq_meant, .ref wq_firsts, .ref wq_nexts, .ref wq_names, .ref wq_fieldNames, .ref wq_amounts, .ref wq_fieldDefaults, .ref wq_enumDefaults, .int w_letterCount, .int w_slotCount])), (wq_plain, .inl (cB, 4096, .inl w_plain)), (wq_kinds, .inl (cI, 128, .inl w_kinds)), (wq_meant, .inl (cI, 128, .inl w_meant)), (wq_firsts, .inl (cI, 128, .inl w_firsts)), (wq_nexts, .inl (cI, 128, .inl w_nexts)), (wq_names, .inl (cI, 128, .inl w_names)), (wq_amounts, .inl (cI, 128, .inl w_amounts)), (wq_enumDefaults, .inl (cZ, 128, .inl w_enumDefaults)), (obC, .inr (3, [.ref cq_firsts, .ref cq_seconds, .int c_count])), (cq_firsts, .inl (cI, 128, .inl c_firsts)), (cq_seconds, .inl (cI, 128, .inl c_seconds))] H → va_D A [(obP, .inr (7, [.ref obW, .ref obW, .ref obC])), (obW, .inr (8, [.ref wq_plain, .ref wq_kinds, .ref wq_meant, .ref wq_firsts, .ref wq_nexts, .ref wq_names, .ref wq_fieldNames, .ref wq_amounts, .ref wq_fieldDefaults, .ref wq_enumDefaults, .int w_letterCount, .int w_slotCount])), (wq_plain, .inl (cB, 4096, .inl w_plain)), (wq_kinds, .inl (cI, 128, .inl w_kinds)), (wq_meant, .inl (cI, 128, .inl w_meant)), (wq_firsts, .inl (cI, 128, .inl w_firsts)), (wq_nexts, .inl (cI, 128, .inl w_nexts)), (wq_names, .inl (cI, 128, .inl w_names)), (wq_amounts, .inl (cI, 128, .inl w_amounts)), (wq_enumDefaults, .inl (cZ, 128, .inl w_enumDefaults)), (obC, .inr (3, [.ref cq_firsts, .ref cq_seconds, .int c_count])), (cq_firsts, .inl (cI, 128, .inl c_firsts)), (cq_seconds, .inl (cI, 128, .inl c_seconds))] → va_S A s.heap H locs → lv_has ls 6 [(0, .ref obP), (1, .int x1), (2, .int x2), (4, .int x4)] → m_X5_isFit1_130 (m_X5_isFit1 d) w_plain w_kinds w_meant w_firsts w_nexts w_names w_amounts w_enumDefaults w_letterCount c_firsts c_seconds c_count x1 x2 x4 = some res → W p l e (headSpec wsX5_isFit1 (rmX5_isFit1 (d + 1) 0 0)).room s m [.ref obP, .int a0, .int a1, .int a2].toArray below meth c H locs 0 0 Q0 (F0 m 130 ls []) := by
            intro c_firsts c_seconds c_count x1 x2 x4 H locs ls hP hD hS hl hm
            unfold m_X5_isFit1_130 at hm
            refine lv_aload_n hx hb dX5_isFit_130 rfl (lv_at hl 0 rfl) ?_
            refine lv_iload_n hx hb dX5_isFit_131 rfl (lv_at hl 1 rfl) ?_
            refine lv_iload_n hx hb dX5_isFit_132 rfl (lv_at hl 2 rfl) ?_
            obtain ⟨r7, hz7, hm⟩ := mr_bind hm
            refine mr_pV (As := [.int x1, .int x2]) (rest := []) (sr_okZ adK adV) ⟨hx, hb, hml, hown, hts⟩ (kX5_isSame1 l htr dC dI adK adV cI cB cJ cZ cQ obP obW obC wq_plain wq_kinds wq_meant wq_firsts wq_nexts wq_names wq_fieldNames wq_amounts wq_fieldDefaults wq_enumDefaults w_letterCount w_slotCount w_plain w_kinds w_meant w_names w_amounts x1 x2 r7 hz7) (cwV 2 hts (g5_30 _) rfl rfl rfl (by decide +kernel) ⟨(by show 2 + 1 ≤ 2 * (d + 1) + 5; omega), (by show 8 + (5 + 11) + (42) ≤ 50 * (d + 1) + 116; omega)⟩) hS hP hK hz0 [0, 1, 2, 3, 4, 7, 8] rfl (va_recv hK hP (ci := 7) (q0 := 0) rfl rfl) rfl rfl hl.1 (Nat.le_of_ble_eq_true rfl) dX5_isFit_133 ⟨Nat.zero_le _, Nat.zero_le _⟩ ?_
            refine lv_if_ne (tgt := 141) hx hb dX5_isFit_136 (by decide) (fun c8 => ?_) (fun c8 => ?_)
            · have hm := mr_un c8 hm
              refine lv_iload hx hb dX5_isFit_141 (lv_at hl 3 rfl) ?_
              refine lv_bipush (v := 10) hx hb dX5_isFit_143 (by decide) ?_
              have j168 : ∀ (c_firsts : Nat → Int32) (c_seconds : Nat → Int32) (c_count : Int32) (x1 : Int32) (x2 : Int32) (x4 : Int32) (H : Heap) (locs : List Loc) (ls : Array Slot), va_P (dC, dI) srCl [(obP, .inr (7, [.ref obW, .ref obW, .ref obC])), (obW, .inr (8, [.ref wq_plain, .ref wq_kinds, .ref wq_meant, .ref wq_firsts, .ref wq_nexts, .ref wq_names, .ref wq_fieldNames, .ref wq_amounts, .ref wq_fieldDefaults, .ref wq_enumDefaults, .int w_letterCount, .int w_slotCount])), (wq_plain, .inl (cB, 4096, .inl w_plain)), (wq_kinds, .inl (cI, 128, .inl w_kinds)), (wq_meant, .inl (cI, 128, .inl w_meant)), (wq_firsts, .inl (cI, 128, .inl w_firsts)), (wq_nexts, .inl (cI, 128, .inl w_nexts)), (wq_names, .inl (cI, 128, .inl w_names)), (wq_amounts, .inl (cI, 128, .inl w_amounts)), (wq_enumDefaults, .inl (cZ, 128, .inl w_enumDefaults)), (obC, .inr (3, [.ref cq_firsts, .ref cq_seconds, .int c_count])), (cq_firsts, .inl (cI, 128, .inl c_firsts)), (cq_seconds, .inl (cI, 128, .inl c_seconds))] H → va_D A [(obP, .inr (7, [.ref obW, .ref obW, .ref obC])), (obW, .inr (8, [.ref wq_plain, .ref wq_kinds, .ref wq_meant, .ref wq_firsts, .ref wq_nexts, .ref wq_names, .ref wq_fieldNames, .ref wq_amounts, .ref wq_fieldDefaults, .ref wq_enumDefaults, .int w_letterCount, .int w_slotCount])), (wq_plain, .inl (cB, 4096, .inl w_plain)), (wq_kinds, .inl (cI, 128, .inl w_kinds)), (wq_meant, .inl (cI, 128, .inl w_meant)), (wq_firsts, .inl (cI, 128, .inl w_firsts)), (wq_nexts, .inl (cI, 128, .inl w_nexts)), (wq_names, .inl (cI, 128, .inl w_names)), (wq_amounts, .inl (cI, 128, .inl w_amounts)), (wq_enumDefaults, .inl (cZ, 128, .inl w_enumDefaults)), (obC, .inr (3, [.ref cq_firsts, .ref cq_seconds, .int c_count])), (cq_firsts, .inl (cI, 128, .inl c_firsts)), (cq_seconds, .inl (cI, 128, .inl c_seconds))] → va_S A s.heap H locs → lv_has ls 6 [(0, .ref obP), (1, .int x1), (2, .int x2), (4, .int x4)] → m_X5_isFit1_168 (m_X5_isFit1 d) w_plain w_kinds w_meant w_firsts w_nexts w_names w_amounts w_enumDefaults w_letterCount c_firsts c_seconds c_count x1 x2 x4 = some res → W p l e (headSpec wsX5_isFit1 (rmX5_isFit1 (d + 1) 0 0)).room s m [.ref obP, .int a0, .int a1, .int a2].toArray below meth c H locs 0 0 Q0 (F0 m 168 ls []) := by
                intro c_firsts c_seconds c_count x1 x2 x4 H locs ls hP hD hS hl hm
                unfold m_X5_isFit1_168 at hm
                refine lv_iload hx hb dX5_isFit_168 (lv_at hl 3 rfl) ?_
                refine lv_bipush (v := 9) hx hb dX5_isFit_170 (by decide) ?_
                refine lv_icmp_ne (tgt := 195) hx hb dX5_isFit_172 (by decide) (fun c9 => ?_) (fun c9 => ?_)
                · have hm := mr_un c9 hm
                  refine lv_iconst (v := 1) hx hb dX5_isFit_195 (by decide) ?_
                  refine lv_goto (tgt := 200) hx hb dX5_isFit_196 (by decide) ?_
                  obtain rfl := Option.some.inj hm
                  subst hQ0
                  exact W.zret (v := 1) hx hb hr rfl (fun t ht hW => ⟨⟨1, (c_firsts, c_seconds, c_count), rfl, ⟨rfl, rfl⟩, by rw [ht]; exact hP, va_K.moved hW.alike hK, hD⟩, hS.F ht⟩) hS.2.2 dX5_isFit_200
                · have hm := mr_if c9 hm
                  refine lv_aload_n hx hb dX5_isFit_175 rfl (lv_at hl 0 rfl) ?_
                  refine va_get (D := (dC, dI)) (ci := 7) (v := .ref obW) (C := RX5) (T := TX5) (N := 3) hx hb hts (inX5 _) hown hK hP 0 rfl rfl 1 (by decide) (hts _ (List.mem_cons_of_mem _ wf5_17)) (fun _ h9 => h9) rfl dX5_isFit_176 ?_
                  refine lv_iload_n hx hb dX5_isFit_179 rfl (lv_at hl 2 rfl) ?_
                  obtain ⟨r10, hz10, hm⟩ := mr_bind hm
                  refine mr_pV (As := [.int x2]) (rest := []) (sr_okZ adK adV) ⟨hx, hb, hml, hown, hts⟩ (kX6_hasEnumDefault l htr dC dI adK adV cI cB cJ cZ cQ obW wq_plain wq_kinds wq_meant wq_firsts wq_nexts wq_names wq_fieldNames wq_amounts wq_fieldDefaults wq_enumDefaults w_letterCount w_slotCount w_meant w_enumDefaults x2 r10 hz10) (cwV 1 hts (g5_85 _) rfl rfl rfl (by decide +kernel) ⟨(by show 2 + 1 ≤ 2 * (d + 1) + 5; omega), (by show 8 + (3 + 11) + (42) ≤ 50 * (d + 1) + 116; omega)⟩) hS hP hK hz0 [1, 4, 9] rfl (va_recv hK hP (ci := 8) (q0 := 1) rfl rfl) rfl rfl hl.1 (Nat.le_of_ble_eq_true rfl) dX5_isFit_180 ⟨Nat.zero_le _, Nat.zero_le _⟩ ?_
                  refine lv_if_ne (tgt := 195) hx hb dX5_isFit_183 (by decide) (fun c11 => ?_) (fun c11 => ?_)
                  · have hm := mr_un c11 hm
                    refine lv_iconst (v := 1) hx hb dX5_isFit_195 (by decide) ?_
                    refine lv_goto (tgt := 200) hx hb dX5_isFit_196 (by decide) ?_
                    obtain rfl := Option.some.inj hm
                    subst hQ0
                    exact W.zret (v := 1) hx hb hr rfl (fun t ht hW => ⟨⟨1, (c_firsts, c_seconds, c_count), rfl, ⟨rfl, rfl⟩, by rw [ht]; exact hP, va_K.moved hW.alike hK, hD⟩, hS.F ht⟩) hS.2.2 dX5_isFit_200
                  · have hm := mr_if c11 hm
                    refine lv_aload_n hx hb dX5_isFit_186 rfl (lv_at hl 0 rfl) ?_
                    refine lv_iload_n hx hb dX5_isFit_187 rfl (lv_at hl 1 rfl) ?_
                    refine lv_iload_n hx hb dX5_isFit_188 rfl (lv_at hl 2 rfl) ?_
                    obtain ⟨r12, hz12, hm⟩ := mr_bind hm
                    refine mr_pV (As := [.int x1, .int x2]) (rest := []) (sr_okZ adK adV) ⟨hx, hb, hml, hown, hts⟩ (kX5_hasAllSymbols1 l htr dC dI adK adV cI cB cJ cZ cQ obP obW obC wq_plain wq_kinds wq_meant wq_firsts wq_nexts wq_names wq_fieldNames wq_amounts wq_fieldDefaults wq_enumDefaults w_letterCount w_slotCount w_plain w_meant w_firsts w_amounts x1 x2 r12 hz12) (cwV 2 hts (g5_88 _) rfl rfl rfl (by decide +kernel) ⟨(by show 3 + 1 ≤ 2 * (d + 1) + 5; omega), (by show 8 + (5 + 11) + (67) ≤ 50 * (d + 1) + 116; omega)⟩) hS hP hK hz0 [0, 1, 2, 4, 5, 8] rfl (va_recv hK hP (ci := 7) (q0 := 0) rfl rfl) rfl rfl hl.1 (Nat.le_of_ble_eq_true rfl) dX5_isFit_189 ⟨Nat.zero_le _, Nat.zero_le _⟩ ?_
                    refine lv_if_eq (tgt := 199) hx hb dX5_isFit_192 (by decide) (fun c13 => ?_) (fun c13 => ?_)
                    · have hm := mr_if c13 hm
                      refine lv_iconst (v := 0) hx hb dX5_isFit_199 (by decide) ?_
                      obtain rfl := Option.some.inj hm
                      subst hQ0
                      exact W.zret (v := 0) hx hb hr rfl (fun t ht hW => ⟨⟨0, (c_firsts, c_seconds, c_count), rfl, ⟨rfl, rfl⟩, by rw [ht]; exact hP, va_K.moved hW.alike hK, hD⟩, hS.F ht⟩) hS.2.2 dX5_isFit_200
                    · have hm := mr_un c13 hm
                      refine lv_iconst (v := 1) hx hb dX5_isFit_195 (by decide) ?_
                      refine lv_goto (tgt := 200) hx hb dX5_isFit_196 (by decide) ?_
                      obtain rfl := Option.some.inj hm
                      subst hQ0
                      exact W.zret (v := 1) hx hb hr rfl (fun t ht hW => ⟨⟨1, (c_firsts, c_seconds, c_count), rfl, ⟨rfl, rfl⟩, by rw [ht]; exact hP, va_K.moved hW.alike hK, hD⟩, hS.F ht⟩) hS.2.2 dX5_isFit_200
              refine lv_icmp_ne (tgt := 168) hx hb dX5_isFit_145 (by decide) (fun c14 => ?_) (fun c14 => ?_)
              · have hm := mr_un c14 hm
                exact j168 c_firsts c_seconds c_count x1 x2 x4 _ _ ls hP hD hS (lv_sub hl [0, 1, 2, 3] rfl) hm
              · have hm := mr_if c14 hm
                refine lv_aload_n hx hb dX5_isFit_148 rfl (lv_at hl 0 rfl) ?_
                refine lv_aload_n hx hb dX5_isFit_149 rfl (lv_at hl 0 rfl) ?_
                refine va_get (D := (dC, dI)) (ci := 7) (v := .ref obW) (C := RX5) (T := TX5) (N := 3) hx hb hts (inX5 _) hown hK hP 0 rfl rfl 0 (by decide) (hts _ (List.mem_cons_of_mem _ wf5_11)) (fun _ h9 => h9) rfl dX5_isFit_150 ?_
                refine lv_iload_n hx hb dX5_isFit_153 rfl (lv_at hl 1 rfl) ?_
                obtain ⟨r15, hz15, hm⟩ := mr_bind hm
                refine mr_pV (As := [.int x1]) (rest := [.ref obP]) (sr_okZ adK adV) ⟨hx, hb, hml, hown, hts⟩ (kX6_meant l htr dC dI adK adV cI cB cJ cZ cQ obW wq_plain wq_kinds wq_meant wq_firsts wq_nexts wq_names wq_fieldNames wq_amounts wq_fieldDefaults wq_enumDefaults w_letterCount w_slotCount w_meant x1 r15 hz15) (cwV 1 hts (g5_78 _) rfl rfl rfl (by decide +kernel) ⟨(by show 1 + 1 ≤ 2 * (d + 1) + 5; omega), (by show 8 + (2 + 11) + (21) ≤ 50 * (d + 1) + 116; omega)⟩) hS hP hK hz0 [1, 4] rfl (va_recv hK hP (ci := 8) (q0 := 1) rfl rfl) rfl rfl hl.1 (Nat.le_of_ble_eq_true rfl) dX5_isFit_154 ⟨Nat.zero_le _, Nat.zero_le _⟩ ?_
                refine lv_aload_n hx hb dX5_isFit_157 rfl (lv_at hl 0 rfl) ?_
                refine va_get (D := (dC, dI)) (ci := 7) (v := .ref obW) (C := RX5) (T := TX5) (N := 3) hx hb hts (inX5 _) hown hK hP 0 rfl rfl 1 (by decide) (hts _ (List.mem_cons_of_mem _ wf5_17)) (fun _ h9 => h9) rfl dX5_isFit_158 ?_
                refine lv_iload_n hx hb dX5_isFit_161 rfl (lv_at hl 2 rfl) ?_
                obtain ⟨r16, hz16, hm⟩ := mr_bind hm
                refine mr_pV (As := [.int x2]) (rest := [.int r15, .ref obP]) (sr_okZ adK adV) ⟨hx, hb, hml, hown, hts⟩ (kX6_meant l htr dC dI adK adV cI cB cJ cZ cQ obW wq_plain wq_kinds wq_meant wq_firsts wq_nexts wq_names wq_fieldNames wq_amounts wq_fieldDefaults wq_enumDefaults w_letterCount w_slotCount w_meant x2 r16 hz16) (cwV 1 hts (g5_78 _) rfl rfl rfl (by decide +kernel) ⟨(by show 1 + 1 ≤ 2 * (d + 1) + 5; omega), (by show 8 + (2 + 11) + (21) ≤ 50 * (d + 1) + 116; omega)⟩) hS hP hK hz0 [1, 4] rfl (va_recv hK hP (ci := 8) (q0 := 1) rfl rfl) rfl rfl hl.1 (Nat.le_of_ble_eq_true rfl) dX5_isFit_162 ⟨Nat.zero_le _, Nat.zero_le _⟩ ?_
                obtain ⟨⟨c_firsts_17, c_seconds_17, c_count_17⟩, hz17, hm⟩ := mr_bind hm
                try dsimp only at hm
                refine mr_wVv (As := [.int r15, .int r16]) (rest := []) (sr_okZ adK adV) ⟨hx, hb, hml, hown, hts⟩ (kX5_ask1 l htr dC dI adK adV cI cB cJ cZ cQ obP obW obC cq_firsts cq_seconds c_count c_firsts c_seconds _ r15 r16 _ hz17) (cwV 2 hts (g5_81 _) rfl rfl rfl (by decide +kernel) ⟨(by show 2 + 1 ≤ 2 * (d + 1) + 5; omega), (by show 8 + (3 + 11) + (44) ≤ 50 * (d + 1) + 116; omega)⟩) hS hA hP hD hK hz0 (wr := [(obW, .inr (8, [.ref wq_plain, .ref wq_kinds, .ref wq_meant, .ref wq_firsts, .ref wq_nexts, .ref wq_names, .ref wq_fieldNames, .ref wq_amounts, .ref wq_fieldDefaults, .ref wq_enumDefaults, .int w_letterCount, .int w_slotCount])), (wq_plain, .inl (cB, 4096, .inl w_plain)), (wq_kinds, .inl (cI, 128, .inl w_kinds)), (wq_meant, .inl (cI, 128, .inl w_meant)), (wq_firsts, .inl (cI, 128, .inl w_firsts)), (wq_nexts, .inl (cI, 128, .inl w_nexts)), (wq_names, .inl (cI, 128, .inl w_names)), (wq_amounts, .inl (cI, 128, .inl w_amounts)), (wq_enumDefaults, .inl (cZ, 128, .inl w_enumDefaults))]) (w1 := [(obP, .inr (7, [.ref obW, .ref obW, .ref obC])), (obW, .inr (8, [.ref wq_plain, .ref wq_kinds, .ref wq_meant, .ref wq_firsts, .ref wq_nexts, .ref wq_names, .ref wq_fieldNames, .ref wq_amounts, .ref wq_fieldDefaults, .ref wq_enumDefaults, .int w_letterCount, .int w_slotCount])), (wq_plain, .inl (cB, 4096, .inl w_plain)), (wq_kinds, .inl (cI, 128, .inl w_kinds)), (wq_meant, .inl (cI, 128, .inl w_meant)), (wq_firsts, .inl (cI, 128, .inl w_firsts)), (wq_nexts, .inl (cI, 128, .inl w_nexts)), (wq_names, .inl (cI, 128, .inl w_names)), (wq_amounts, .inl (cI, 128, .inl w_amounts)), (wq_enumDefaults, .inl (cZ, 128, .inl w_enumDefaults)), (obC, .inr (3, [.ref cq_firsts, .ref cq_seconds, .int c_count_17])), (cq_firsts, .inl (cI, 128, .inl c_firsts_17)), (cq_seconds, .inl (cI, 128, .inl c_seconds_17))]) [0, 10, 11, 12] [1, 2, 3, 4, 5, 6, 7, 8, 9] [9, 0, 1, 2, 3, 4, 5, 6, 7, 8, 10, 11, 12] rfl rfl rfl rfl rfl (by decide) rfl rfl rfl (va_recv hK hP (ci := 7) (q0 := 0) rfl rfl) rfl rfl hl.1 (Nat.le_of_ble_eq_true rfl) dX5_isFit_165 ⟨Nat.zero_le _, Nat.zero_le _⟩ (fun H locs hP hD hS => ?_)
                exact j168 c_firsts_17 c_seconds_17 c_count_17 x1 x2 x4 _ _ ls hP hD hS (lv_sub hl [0, 1, 2, 3] rfl) hm
            · have hm := mr_if c8 hm
              refine lv_iconst (v := 0) hx hb dX5_isFit_139 (by decide) ?_
              obtain rfl := Option.some.inj hm
              subst hQ0
              exact W.zret (v := 0) hx hb hr rfl (fun t ht hW => ⟨⟨0, (c_firsts, c_seconds, c_count), rfl, ⟨rfl, rfl⟩, by rw [ht]; exact hP, va_K.moved hW.alike hK, hD⟩, hS.F ht⟩) hS.2.2 dX5_isFit_140
          refine lv_icmp_ne (tgt := 130) hx hb dX5_isFit_89 (by decide) (fun c18 => ?_) (fun c18 => ?_)
          · have hm := mr_un c18 hm
            exact j130 c_firsts c_seconds c_count a0 a1 r2 _ _ ls hP hD hS (lv_sub hl [1, 2, 3, 0] rfl) hm
          · have hm := mr_if c18 hm
            refine lv_iload hx hb dX5_isFit_92 (lv_at hl 0 rfl) ?_
            refine lv_bipush (v := 6) hx hb dX5_isFit_94 (by decide) ?_
            have j106 : ∀ (c_firsts : Nat → Int32) (c_seconds : Nat → Int32) (c_count : Int32) (x1 : Int32) (x2 : Int32) (x3 : Int32) (H : Heap) (locs : List Loc) (ls : Array Slot), va_P (dC, dI) srCl [(obP, .inr (7, [.ref obW, .ref obW, .ref obC])), (obW, .inr (8, [.ref wq_plain, .ref wq_kinds, .ref wq_meant, .ref wq_firsts, .ref wq_nexts, .ref wq_names, .ref wq_fieldNames, .ref wq_amounts, .ref wq_fieldDefaults, .ref wq_enumDefaults, .int w_letterCount, .int w_slotCount])), (wq_plain, .inl (cB, 4096, .inl w_plain)), (wq_kinds, .inl (cI, 128, .inl w_kinds)), (wq_meant, .inl (cI, 128, .inl w_meant)), (wq_firsts, .inl (cI, 128, .inl w_firsts)), (wq_nexts, .inl (cI, 128, .inl w_nexts)), (wq_names, .inl (cI, 128, .inl w_names)), (wq_amounts, .inl (cI, 128, .inl w_amounts)), (wq_enumDefaults, .inl (cZ, 128, .inl w_enumDefaults)), (obC, .inr (3, [.ref cq_firsts, .ref cq_seconds, .int c_count])), (cq_firsts, .inl (cI, 128, .inl c_firsts)), (cq_seconds, .inl (cI, 128, .inl c_seconds))] H → va_D A [(obP, .inr (7, [.ref obW, .ref obW, .ref obC])), (obW, .inr (8, [.ref wq_plain, .ref wq_kinds, .ref wq_meant, .ref wq_firsts, .ref wq_nexts, .ref wq_names, .ref wq_fieldNames, .ref wq_amounts, .ref wq_fieldDefaults, .ref wq_enumDefaults, .int w_letterCount, .int w_slotCount])), (wq_plain, .inl (cB, 4096, .inl w_plain)), (wq_kinds, .inl (cI, 128, .inl w_kinds)), (wq_meant, .inl (cI, 128, .inl w_meant)), (wq_firsts, .inl (cI, 128, .inl w_firsts)), (wq_nexts, .inl (cI, 128, .inl w_nexts)), (wq_names, .inl (cI, 128, .inl w_names)), (wq_amounts, .inl (cI, 128, .inl w_amounts)), (wq_enumDefaults, .inl (cZ, 128, .inl w_enumDefaults)), (obC, .inr (3, [.ref cq_firsts, .ref cq_seconds, .int c_count])), (cq_firsts, .inl (cI, 128, .inl c_firsts)), (cq_seconds, .inl (cI, 128, .inl c_seconds))] → va_S A s.heap H locs → lv_has ls 6 [(0, .ref obP), (1, .int x1), (2, .int x2), (3, .int x3)] → m_X5_isFit1_106 (m_X5_isFit1 d) w_plain w_kinds w_meant w_firsts w_nexts w_names w_amounts w_enumDefaults w_letterCount c_firsts c_seconds c_count x1 x2 x3 = some res → W p l e (headSpec wsX5_isFit1 (rmX5_isFit1 (d + 1) 0 0)).room s m [.ref obP, .int a0, .int a1, .int a2].toArray below meth c H locs 0 0 Q0 (F0 m 106 ls []) := by
              intro c_firsts c_seconds c_count x1 x2 x3 H locs ls hP hD hS hl hm
              unfold m_X5_isFit1_106 at hm
              refine lv_aload_n hx hb dX5_isFit_106 rfl (lv_at hl 0 rfl) ?_
              refine lv_aload_n hx hb dX5_isFit_107 rfl (lv_at hl 0 rfl) ?_
              refine va_get (D := (dC, dI)) (ci := 7) (v := .ref obW) (C := RX5) (T := TX5) (N := 3) hx hb hts (inX5 _) hown hK hP 0 rfl rfl 0 (by decide) (hts _ (List.mem_cons_of_mem _ wf5_11)) (fun _ h9 => h9) rfl dX5_isFit_108 ?_
              refine lv_iload_n hx hb dX5_isFit_111 rfl (lv_at hl 1 rfl) ?_
              obtain ⟨r19, hz19, hm⟩ := mr_bind hm
              refine mr_pV (As := [.int x1]) (rest := [.ref obP]) (sr_okZ adK adV) ⟨hx, hb, hml, hown, hts⟩ (kX6_first l htr dC dI adK adV cI cB cJ cZ cQ obW wq_plain wq_kinds wq_meant wq_firsts wq_nexts wq_names wq_fieldNames wq_amounts wq_fieldDefaults wq_enumDefaults w_letterCount w_slotCount w_meant w_firsts x1 r19 hz19) (cwV 1 hts (g5_34 _) rfl rfl rfl (by decide +kernel) ⟨(by show 1 + 1 ≤ 2 * (d + 1) + 5; omega), (by show 8 + (2 + 11) + (21) ≤ 50 * (d + 1) + 116; omega)⟩) hS hP hK hz0 [1, 4, 5] rfl (va_recv hK hP (ci := 8) (q0 := 1) rfl rfl) rfl rfl hl.1 (Nat.le_of_ble_eq_true rfl) dX5_isFit_112 ⟨Nat.zero_le _, Nat.zero_le _⟩ ?_
              refine lv_aload_n hx hb dX5_isFit_115 rfl (lv_at hl 0 rfl) ?_
              refine va_get (D := (dC, dI)) (ci := 7) (v := .ref obW) (C := RX5) (T := TX5) (N := 3) hx hb hts (inX5 _) hown hK hP 0 rfl rfl 1 (by decide) (hts _ (List.mem_cons_of_mem _ wf5_17)) (fun _ h9 => h9) rfl dX5_isFit_116 ?_
              refine lv_iload_n hx hb dX5_isFit_119 rfl (lv_at hl 2 rfl) ?_
              obtain ⟨r20, hz20, hm⟩ := mr_bind hm
              refine mr_pV (As := [.int x2]) (rest := [.int r19, .ref obP]) (sr_okZ adK adV) ⟨hx, hb, hml, hown, hts⟩ (kX6_first l htr dC dI adK adV cI cB cJ cZ cQ obW wq_plain wq_kinds wq_meant wq_firsts wq_nexts wq_names wq_fieldNames wq_amounts wq_fieldDefaults wq_enumDefaults w_letterCount w_slotCount w_meant w_firsts x2 r20 hz20) (cwV 1 hts (g5_34 _) rfl rfl rfl (by decide +kernel) ⟨(by show 1 + 1 ≤ 2 * (d + 1) + 5; omega), (by show 8 + (2 + 11) + (21) ≤ 50 * (d + 1) + 116; omega)⟩) hS hP hK hz0 [1, 4, 5] rfl (va_recv hK hP (ci := 8) (q0 := 1) rfl rfl) rfl rfl hl.1 (Nat.le_of_ble_eq_true rfl) dX5_isFit_120 ⟨Nat.zero_le _, Nat.zero_le _⟩ ?_
              refine lv_iload_n hx hb dX5_isFit_123 rfl (lv_at hl 3 rfl) ?_
              refine lv_iconst (v := 1) hx hb dX5_isFit_124 (by decide) ?_
              refine lv_iadd hx hb dX5_isFit_125 ?_
              obtain ⟨⟨r21, c_firsts_21, c_seconds_21, c_count_21⟩, hz21, hm⟩ := mr_bind hm
              try dsimp only at hm
              refine mr_wVi (As := [.int r19, .int r20, .int (x3 + 1)]) (rest := []) (sr_okZ adK adV) ⟨hx, hb, hml, hown, hts⟩ (ihd w_letterCount w_slotCount c_count w_plain w_kinds w_meant w_firsts w_nexts w_names w_amounts w_enumDefaults c_firsts c_seconds _ r19 r20 (x3 + 1) _ hz21) (cwV 3 hts (g5_56 _) rfl rfl rfl (by decide +kernel) ⟨(by show 2 * d + 5 + 1 ≤ 2 * (d + 1) + 5; omega), (by show 8 + (6 + 11) + (50 * d + 116) ≤ 50 * (d + 1) + 116; omega)⟩) hS hA hP hD hK hz0 (wr := []) (w1 := [(obP, .inr (7, [.ref obW, .ref obW, .ref obC])), (obW, .inr (8, [.ref wq_plain, .ref wq_kinds, .ref wq_meant, .ref wq_firsts, .ref wq_nexts, .ref wq_names, .ref wq_fieldNames, .ref wq_amounts, .ref wq_fieldDefaults, .ref wq_enumDefaults, .int w_letterCount, .int w_slotCount])), (wq_plain, .inl (cB, 4096, .inl w_plain)), (wq_kinds, .inl (cI, 128, .inl w_kinds)), (wq_meant, .inl (cI, 128, .inl w_meant)), (wq_firsts, .inl (cI, 128, .inl w_firsts)), (wq_nexts, .inl (cI, 128, .inl w_nexts)), (wq_names, .inl (cI, 128, .inl w_names)), (wq_amounts, .inl (cI, 128, .inl w_amounts)), (wq_enumDefaults, .inl (cZ, 128, .inl w_enumDefaults)), (obC, .inr (3, [.ref cq_firsts, .ref cq_seconds, .int c_count_21])), (cq_firsts, .inl (cI, 128, .inl c_firsts_21)), (cq_seconds, .inl (cI, 128, .inl c_seconds_21))]) [0, 1, 2, 3, 4, 5, 6, 7, 8, 9, 10, 11, 12] [] [0, 1, 2, 3, 4, 5, 6, 7, 8, 9, 10, 11, 12] rfl rfl rfl rfl rfl (by decide) rfl rfl rfl (va_recv hK hP (ci := 7) (q0 := 0) rfl rfl) rfl rfl hl.1 (Nat.le_of_ble_eq_true rfl) dX5_isFit_126 ⟨Nat.zero_le _, Nat.zero_le _⟩ (fun H locs hP hD hS => ?_)
              obtain ⟨h22, hm⟩ := mr_bz hm
              obtain rfl := Option.some.inj hm
              subst hQ0
              exact W.zret (v := r21) hx hb hr h22 (fun t ht hW => ⟨⟨r21, (c_firsts_21, c_seconds_21, c_count_21), rfl, ⟨rfl, rfl⟩, by rw [ht]; exact hP, va_K.moved hW.alike hK, hD⟩, hS.F ht⟩) hS.2.2 dX5_isFit_129
            refine lv_icmp_eq (tgt := 106) hx hb dX5_isFit_96 (by decide) (fun c23 => ?_) (fun c23 => ?_)
            · have hm := mr_if c23 hm
              exact j106 c_firsts c_seconds c_count a0 a1 a2 _ _ ls hP hD hS (lv_sub hl [1, 2, 3, 4] rfl) hm
            · have hm := mr_un c23 hm
              refine lv_iload hx hb dX5_isFit_99 (lv_at hl 0 rfl) ?_
              refine lv_bipush (v := 7) hx hb dX5_isFit_101 (by decide) ?_
              refine lv_icmp_ne (tgt := 130) hx hb dX5_isFit_103 (by decide) (fun c24 => ?_) (fun c24 => ?_)
              · have hm := mr_un c24 hm
                exact j130 c_firsts c_seconds c_count a0 a1 r2 _ _ ls hP hD hS (lv_sub hl [1, 2, 3, 0] rfl) hm
              · have hm := mr_if c24 hm
                exact j106 c_firsts c_seconds c_count a0 a1 a2 _ _ ls hP hD hS (lv_sub hl [1, 2, 3, 4] rfl) hm
        · have hm := mr_if c5 hm
          refine lv_aload_n hx hb dX5_isFit_46 rfl (lv_at hl 1 rfl) ?_
          refine lv_iload_n hx hb dX5_isFit_47 rfl (lv_at hl 2 rfl) ?_
          refine lv_iload_n hx hb dX5_isFit_48 rfl (lv_at hl 3 rfl) ?_
          obtain ⟨r25, hz25, hm⟩ := mr_bind hm
          refine mr_pV (As := [.int a0, .int a1]) (rest := []) (sr_okZ adK adV) ⟨hx, hb, hml, hown, hts⟩ (kX5_firstMatch1 l htr dC dI adK adV cI cB cJ cZ cQ obP obW obC wq_plain wq_kinds wq_meant wq_firsts wq_nexts wq_names wq_fieldNames wq_amounts wq_fieldDefaults wq_enumDefaults w_letterCount w_slotCount w_plain w_kinds w_meant w_firsts w_nexts w_names w_amounts a0 a1 r25 hz25) (cwV 2 hts (g5_74 _) rfl rfl rfl (by decide +kernel) ⟨(by show 4 + 1 ≤ 2 * (d + 1) + 5; omega), (by show 8 + (5 + 11) + (92) ≤ 50 * (d + 1) + 116; omega)⟩) hS hP hK hz0 [0, 1, 2, 3, 4, 5, 6, 7, 8] rfl (va_recv hK hP (ci := 7) (q0 := 0) rfl rfl) rfl rfl hl.1 (Nat.le_of_ble_eq_true rfl) dX5_isFit_49 ⟨Nat.zero_le _, Nat.zero_le _⟩ ?_
          refine lv_istore (lv' := [(5, .int r25), (4, .int r2), (0, .ref obP), (1, .int a0), (2, .int a1), (3, .int a2)]) hx hb dX5_isFit_52 hl (by decide) rfl (fun ls hl => ?_)
          refine lv_iload hx hb dX5_isFit_54 (lv_at hl 0 rfl) ?_
          refine lv_iconst (v := -1) hx hb dX5_isFit_56 (by decide) ?_
          refine lv_icmp_eq (tgt := 77) hx hb dX5_isFit_57 (by decide) (fun c26 => ?_) (fun c26 => ?_)
          · have hm := mr_if c26 hm
            refine lv_iconst (v := 0) hx hb dX5_isFit_77 (by decide) ?_
            obtain rfl := Option.some.inj hm
            subst hQ0
            exact W.zret (v := 0) hx hb hr rfl (fun t ht hW => ⟨⟨0, (c_firsts, c_seconds, c_count), rfl, ⟨rfl, rfl⟩, by rw [ht]; exact hP, va_K.moved hW.alike hK, hD⟩, hS.F ht⟩) hS.2.2 dX5_isFit_78
          · have hm := mr_un c26 hm
            refine lv_aload_n hx hb dX5_isFit_60 rfl (lv_at hl 2 rfl) ?_
            refine lv_iload_n hx hb dX5_isFit_61 rfl (lv_at hl 3 rfl) ?_
            refine lv_iload hx hb dX5_isFit_62 (lv_at hl 0 rfl) ?_
            refine lv_iload_n hx hb dX5_isFit_64 rfl (lv_at hl 5 rfl) ?_
            refine lv_iconst (v := 1) hx hb dX5_isFit_65 (by decide) ?_
            refine lv_iadd hx hb dX5_isFit_66 ?_
            obtain ⟨⟨r27, c_firsts_27, c_seconds_27, c_count_27⟩, hz27, hm⟩ := mr_bind hm
            try dsimp only at hm
            refine mr_wVi (As := [.int a0, .int r25, .int (a2 + 1)]) (rest := []) (sr_okZ adK adV) ⟨hx, hb, hml, hown, hts⟩ (ihd w_letterCount w_slotCount c_count w_plain w_kinds w_meant w_firsts w_nexts w_names w_amounts w_enumDefaults c_firsts c_seconds _ a0 r25 (a2 + 1) _ hz27) (cwV 3 hts (g5_56 _) rfl rfl rfl (by decide +kernel) ⟨(by show 2 * d + 5 + 1 ≤ 2 * (d + 1) + 5; omega), (by show 8 + (6 + 11) + (50 * d + 116) ≤ 50 * (d + 1) + 116; omega)⟩) hS hA hP hD hK hz0 (wr := []) (w1 := [(obP, .inr (7, [.ref obW, .ref obW, .ref obC])), (obW, .inr (8, [.ref wq_plain, .ref wq_kinds, .ref wq_meant, .ref wq_firsts, .ref wq_nexts, .ref wq_names, .ref wq_fieldNames, .ref wq_amounts, .ref wq_fieldDefaults, .ref wq_enumDefaults, .int w_letterCount, .int w_slotCount])), (wq_plain, .inl (cB, 4096, .inl w_plain)), (wq_kinds, .inl (cI, 128, .inl w_kinds)), (wq_meant, .inl (cI, 128, .inl w_meant)), (wq_firsts, .inl (cI, 128, .inl w_firsts)), (wq_nexts, .inl (cI, 128, .inl w_nexts)), (wq_names, .inl (cI, 128, .inl w_names)), (wq_amounts, .inl (cI, 128, .inl w_amounts)), (wq_enumDefaults, .inl (cZ, 128, .inl w_enumDefaults)), (obC, .inr (3, [.ref cq_firsts, .ref cq_seconds, .int c_count_27])), (cq_firsts, .inl (cI, 128, .inl c_firsts_27)), (cq_seconds, .inl (cI, 128, .inl c_seconds_27))]) [0, 1, 2, 3, 4, 5, 6, 7, 8, 9, 10, 11, 12] [] [0, 1, 2, 3, 4, 5, 6, 7, 8, 9, 10, 11, 12] rfl rfl rfl rfl rfl (by decide) rfl rfl rfl (va_recv hK hP (ci := 7) (q0 := 0) rfl rfl) rfl rfl hl.1 (Nat.le_of_ble_eq_true rfl) dX5_isFit_67 ⟨Nat.zero_le _, Nat.zero_le _⟩ (fun H locs hP hD hS => ?_)
            refine lv_if_eq (tgt := 77) hx hb dX5_isFit_70 (by decide) (fun c28 => ?_) (fun c28 => ?_)
            · have hm := mr_if c28 hm
              refine lv_iconst (v := 0) hx hb dX5_isFit_77 (by decide) ?_
              obtain rfl := Option.some.inj hm
              subst hQ0
              exact W.zret (v := 0) hx hb hr rfl (fun t ht hW => ⟨⟨0, (c_firsts_27, c_seconds_27, c_count_27), rfl, ⟨rfl, rfl⟩, by rw [ht]; exact hP, va_K.moved hW.alike hK, hD⟩, hS.F ht⟩) hS.2.2 dX5_isFit_78
            · have hm := mr_un c28 hm
              refine lv_iconst (v := 1) hx hb dX5_isFit_73 (by decide) ?_
              refine lv_goto (tgt := 78) hx hb dX5_isFit_74 (by decide) ?_
              obtain rfl := Option.some.inj hm
              subst hQ0
              exact W.zret (v := 1) hx hb hr rfl (fun t ht hW => ⟨⟨1, (c_firsts_27, c_seconds_27, c_count_27), rfl, ⟨rfl, rfl⟩, by rw [ht]; exact hP, va_K.moved hW.alike hK, hD⟩, hS.F ht⟩) hS.2.2 dX5_isFit_78
      · have hm := mr_if c3 hm
        refine lv_aload_n hx hb dX5_isFit_25 rfl (lv_at hl 1 rfl) ?_
        refine lv_iload_n hx hb dX5_isFit_26 rfl (lv_at hl 2 rfl) ?_
        refine lv_iload_n hx hb dX5_isFit_27 rfl (lv_at hl 3 rfl) ?_
        refine lv_iload_n hx hb dX5_isFit_28 rfl (lv_at hl 4 rfl) ?_
        obtain ⟨⟨r29, c_firsts_29, c_seconds_29, c_count_29⟩, hz29, hm⟩ := mr_bind hm
        try dsimp only at hm
        refine mr_wVi (As := [.int a0, .int a1, .int a2]) (rest := []) (sr_okZ adK adV) ⟨hx, hb, hml, hown, hts⟩ (kX5_isEveryBranchFit1 l htr dC dI adK adV cI cB cJ cZ cQ obP obW obC wq_plain wq_kinds wq_meant wq_firsts wq_nexts wq_names wq_fieldNames wq_amounts wq_fieldDefaults wq_enumDefaults cq_firsts cq_seconds (m_X5_isFit1 d) d ihd w_letterCount w_slotCount c_count w_plain w_kinds w_meant w_firsts w_nexts w_names w_amounts w_enumDefaults c_firsts c_seconds _ a0 a1 a2 _ hz29) (cwV 3 hts (g5_71 _) rfl rfl rfl (by decide +kernel) ⟨(by show 2 * d + 6 + 1 ≤ 2 * (d + 1) + 5; omega), (by show 8 + (6 + 11) + (50 * d + 141) ≤ 50 * (d + 1) + 116; omega)⟩) hS hA hP hD hK hz0 (wr := []) (w1 := [(obP, .inr (7, [.ref obW, .ref obW, .ref obC])), (obW, .inr (8, [.ref wq_plain, .ref wq_kinds, .ref wq_meant, .ref wq_firsts, .ref wq_nexts, .ref wq_names, .ref wq_fieldNames, .ref wq_amounts, .ref wq_fieldDefaults, .ref wq_enumDefaults, .int w_letterCount, .int w_slotCount])), (wq_plain, .inl (cB, 4096, .inl w_plain)), (wq_kinds, .inl (cI, 128, .inl w_kinds)), (wq_meant, .inl (cI, 128, .inl w_meant)), (wq_firsts, .inl (cI, 128, .inl w_firsts)), (wq_nexts, .inl (cI, 128, .inl w_nexts)), (wq_names, .inl (cI, 128, .inl w_names)), (wq_amounts, .inl (cI, 128, .inl w_amounts)), (wq_enumDefaults, .inl (cZ, 128, .inl w_enumDefaults)), (obC, .inr (3, [.ref cq_firsts, .ref cq_seconds, .int c_count_29])), (cq_firsts, .inl (cI, 128, .inl c_firsts_29)), (cq_seconds, .inl (cI, 128, .inl c_seconds_29))]) [0, 1, 2, 3, 4, 5, 6, 7, 8, 9, 10, 11, 12] [] [0, 1, 2, 3, 4, 5, 6, 7, 8, 9, 10, 11, 12] rfl rfl rfl rfl rfl (by decide) rfl rfl rfl (va_recv hK hP (ci := 7) (q0 := 0) rfl rfl) rfl rfl hl.1 (Nat.le_of_ble_eq_true rfl) dX5_isFit_29 ⟨Nat.zero_le _, Nat.zero_le _⟩ (fun H locs hP hD hS => ?_)
        obtain ⟨h30, hm⟩ := mr_bz hm
        obtain rfl := Option.some.inj hm
        subst hQ0
        exact W.zret (v := r29) hx hb hr h30 (fun t ht hW => ⟨⟨r29, (c_firsts_29, c_seconds_29, c_count_29), rfl, ⟨rfl, rfl⟩, by rw [ht]; exact hP, va_K.moved hW.alike hK, hD⟩, hS.F ht⟩) hS.2.2 dX5_isFit_32
    · have hm := mr_un c1 hm
      refine lv_iconst (v := 0) hx hb dX5_isFit_6 (by decide) ?_
      obtain rfl := Option.some.inj hm
      subst hQ0
      exact W.zret (v := 0) hx hb hr rfl (fun t ht hW => ⟨⟨0, (c_firsts, c_seconds, c_count), rfl, ⟨rfl, rfl⟩, by rw [ht]; exact hP, va_K.moved hW.alike hK, hD⟩, hS.F ht⟩) hS.2.2 dX5_isFit_7
set_option maxHeartbeats 4000000 in
set_option maxRecDepth 100000 in
theorem kX5_isFieldsFit1 (l : Launch) (htr : l.stackTraces = false) (dC : Nat → ClassId) (dI : Nat → Nat → Nat) (adK adV : Nat → Nat) (cI cB cJ cZ cQ : ClassId) (obP obW obC wq_plain wq_kinds wq_meant wq_firsts wq_nexts wq_names wq_fieldNames wq_amounts wq_fieldDefaults wq_enumDefaults cq_firsts cq_seconds : Nat) (w_letterCount : Int32) (w_slotCount : Int32) (c_count : Int32) (w_plain : Nat → Int32) (w_kinds : Nat → Int32) (w_meant : Nat → Int32) (w_firsts : Nat → Int32) (w_nexts : Nat → Int32) (w_names : Nat → Int32) (w_fieldNames : Nat → Int32) (w_amounts : Nat → Int32) (w_fieldDefaults : Nat → Int32) (w_enumDefaults : Nat → Int32) (c_firsts : Nat → Int32) (c_seconds : Nat → Int32) (sz : Nat) (a0 : Int32) (a1 : Int32) (res : Int32 × (Nat → Int32) × (Nat → Int32) × Int32) (hm : m_X5_isFieldsFit1 w_plain w_kinds w_meant w_firsts w_nexts w_names w_fieldNames w_amounts w_fieldDefaults w_enumDefaults w_letterCount c_firsts c_seconds c_count a0 a1 = some res) : Met l yX5_isFieldsFit1 wsX5_isFieldsFit1 (rmX5_isFieldsFit1 0 0) (pcW (sr_Z adK adV) (dC, dI) srCl [(cI, .int), (cB, .byte), (cJ, .long), (cZ, .boolean), (cQ, .object "SchemaReader$Schema")] [.ref obP, .int a0, .int a1] [(obP, .inr (7, [.ref obW, .ref obW, .ref obC])), (obW, .inr (8, [.ref wq_plain, .ref wq_kinds, .ref wq_meant, .ref wq_firsts, .ref wq_nexts, .ref wq_names, .ref wq_fieldNames, .ref wq_amounts, .ref wq_fieldDefaults, .ref wq_enumDefaults, .int w_letterCount, .int w_slotCount])), (wq_plain, .inl (cB, 4096, .inl w_plain)), (wq_kinds, .inl (cI, 128, .inl w_kinds)), (wq_meant, .inl (cI, 128, .inl w_meant)), (wq_firsts, .inl (cI, 128, .inl w_firsts)), (wq_nexts, .inl (cI, 128, .inl w_nexts)), (wq_names, .inl (cI, 128, .inl w_names)), (wq_fieldNames, .inl (cI, 128, .inl w_fieldNames)), (wq_amounts, .inl (cI, 128, .inl w_amounts)), (wq_fieldDefaults, .inl (cZ, 128, .inl w_fieldDefaults)), (wq_enumDefaults, .inl (cZ, 128, .inl w_enumDefaults)), (obC, .inr (3, [.ref cq_firsts, .ref cq_seconds, .int c_count])), (cq_firsts, .inl (cI, 128, .inl c_firsts)), (cq_seconds, .inl (cI, 128, .inl c_seconds))] sz) (va_Qi (fun r' u' => r' = res.1 ∧ u' = res.2) (pcB (dC, dI) srCl [(cI, .int), (cB, .byte), (cJ, .long), (cZ, .boolean), (cQ, .object "SchemaReader$Schema")] (fun u : (Nat → Int32) × (Nat → Int32) × Int32 => [(obP, .inr (7, [.ref obW, .ref obW, .ref obC])), (obW, .inr (8, [.ref wq_plain, .ref wq_kinds, .ref wq_meant, .ref wq_firsts, .ref wq_nexts, .ref wq_names, .ref wq_fieldNames, .ref wq_amounts, .ref wq_fieldDefaults, .ref wq_enumDefaults, .int w_letterCount, .int w_slotCount])), (wq_plain, .inl (cB, 4096, .inl w_plain)), (wq_kinds, .inl (cI, 128, .inl w_kinds)), (wq_meant, .inl (cI, 128, .inl w_meant)), (wq_firsts, .inl (cI, 128, .inl w_firsts)), (wq_nexts, .inl (cI, 128, .inl w_nexts)), (wq_names, .inl (cI, 128, .inl w_names)), (wq_fieldNames, .inl (cI, 128, .inl w_fieldNames)), (wq_amounts, .inl (cI, 128, .inl w_amounts)), (wq_fieldDefaults, .inl (cZ, 128, .inl w_fieldDefaults)), (wq_enumDefaults, .inl (cZ, 128, .inl w_enumDefaults)), (obC, .inr (3, [.ref cq_firsts, .ref cq_seconds, .int u.2.2])), (cq_firsts, .inl (cI, 128, .inl u.1)), (cq_seconds, .inl (cI, 128, .inl u.2.1))]) (va_A [(obP, .inr (7, [.ref obW, .ref obW, .ref obC])), (obW, .inr (8, [.ref wq_plain, .ref wq_kinds, .ref wq_meant, .ref wq_firsts, .ref wq_nexts, .ref wq_names, .ref wq_fieldNames, .ref wq_amounts, .ref wq_fieldDefaults, .ref wq_enumDefaults, .int w_letterCount, .int w_slotCount])), (wq_plain, .inl (cB, 4096, .inl w_plain)), (wq_kinds, .inl (cI, 128, .inl w_kinds)), (wq_meant, .inl (cI, 128, .inl w_meant)), (wq_firsts, .inl (cI, 128, .inl w_firsts)), (wq_nexts, .inl (cI, 128, .inl w_nexts)), (wq_names, .inl (cI, 128, .inl w_names)), (wq_fieldNames, .inl (cI, 128, .inl w_fieldNames)), (wq_amounts, .inl (cI, 128, .inl w_amounts)), (wq_fieldDefaults, .inl (cZ, 128, .inl w_fieldDefaults)), (wq_enumDefaults, .inl (cZ, 128, .inl w_enumDefaults)), (obC, .inr (3, [.ref cq_firsts, .ref cq_seconds, .int c_count])), (cq_firsts, .inl (cI, 128, .inl c_firsts)), (cq_seconds, .inl (cI, 128, .inl c_seconds))] sz)) (va_A [(obP, .inr (7, [.ref obW, .ref obW, .ref obC])), (obW, .inr (8, [.ref wq_plain, .ref wq_kinds, .ref wq_meant, .ref wq_firsts, .ref wq_nexts, .ref wq_names, .ref wq_fieldNames, .ref wq_amounts, .ref wq_fieldDefaults, .ref wq_enumDefaults, .int w_letterCount, .int w_slotCount])), (wq_plain, .inl (cB, 4096, .inl w_plain)), (wq_kinds, .inl (cI, 128, .inl w_kinds)), (wq_meant, .inl (cI, 128, .inl w_meant)), (wq_firsts, .inl (cI, 128, .inl w_firsts)), (wq_nexts, .inl (cI, 128, .inl w_nexts)), (wq_names, .inl (cI, 128, .inl w_names)), (wq_fieldNames, .inl (cI, 128, .inl w_fieldNames)), (wq_amounts, .inl (cI, 128, .inl w_amounts)), (wq_fieldDefaults, .inl (cZ, 128, .inl w_fieldDefaults)), (wq_enumDefaults, .inl (cZ, 128, .inl w_enumDefaults)), (obC, .inr (3, [.ref cq_firsts, .ref cq_seconds, .int c_count])), (cq_firsts, .inl (cI, 128, .inl c_firsts)), (cq_seconds, .inl (cI, 128, .inl c_seconds))] sz)) 0 0 (va_A [(obP, .inr (7, [.ref obW, .ref obW, .ref obC])), (obW, .inr (8, [.ref wq_plain, .ref wq_kinds, .ref wq_meant, .ref wq_firsts, .ref wq_nexts, .ref wq_names, .ref wq_fieldNames, .ref wq_amounts, .ref wq_fieldDefaults, .ref wq_enumDefaults, .int w_letterCount, .int w_slotCount])), (wq_plain, .inl (cB, 4096, .inl w_plain)), (wq_kinds, .inl (cI, 128, .inl w_kinds)), (wq_meant, .inl (cI, 128, .inl w_meant)), (wq_firsts, .inl (cI, 128, .inl w_firsts)), (wq_nexts, .inl (cI, 128, .inl w_nexts)), (wq_names, .inl (cI, 128, .inl w_names)), (wq_fieldNames, .inl (cI, 128, .inl w_fieldNames)), (wq_amounts, .inl (cI, 128, .inl w_amounts)), (wq_fieldDefaults, .inl (cZ, 128, .inl w_fieldDefaults)), (wq_enumDefaults, .inl (cZ, 128, .inl w_enumDefaults)), (obC, .inr (3, [.ref cq_firsts, .ref cq_seconds, .int c_count])), (cq_firsts, .inl (cI, 128, .inl c_firsts)), (cq_seconds, .inl (cI, 128, .inl c_seconds))] sz) := by
  refine Met.ofW (cc := cX5_isFieldsFit1) (maxL := 6) (ret := (some .boolean)) (by decide) rfl ?_
  intro p e s m args below meth c s₁ B hml hv
  obtain ⟨rfl, hsz, hP, hK, hD0, hz0⟩ := hv
  have hx := B.exec
  have hb := B.bytes
  have hr := B.returns
  have hts := atoms_spec (ws := wsX5_isFieldsFit1) B.pre
  have hown : s.vm.findClass RX5 = some m.cls := findClass_of_methodNamed B.named
  have hlocks := B.notSynchronized
  subst hsz
  have hD := hD0.self (sz := s.heap.size)
  generalize hAe : va_A [(obP, .inr (7, [.ref obW, .ref obW, .ref obC])), (obW, .inr (8, [.ref wq_plain, .ref wq_kinds, .ref wq_meant, .ref wq_firsts, .ref wq_nexts, .ref wq_names, .ref wq_fieldNames, .ref wq_amounts, .ref wq_fieldDefaults, .ref wq_enumDefaults, .int w_letterCount, .int w_slotCount])), (wq_plain, .inl (cB, 4096, .inl w_plain)), (wq_kinds, .inl (cI, 128, .inl w_kinds)), (wq_meant, .inl (cI, 128, .inl w_meant)), (wq_firsts, .inl (cI, 128, .inl w_firsts)), (wq_nexts, .inl (cI, 128, .inl w_nexts)), (wq_names, .inl (cI, 128, .inl w_names)), (wq_fieldNames, .inl (cI, 128, .inl w_fieldNames)), (wq_amounts, .inl (cI, 128, .inl w_amounts)), (wq_fieldDefaults, .inl (cZ, 128, .inl w_fieldDefaults)), (wq_enumDefaults, .inl (cZ, 128, .inl w_enumDefaults)), (obC, .inr (3, [.ref cq_firsts, .ref cq_seconds, .int c_count])), (cq_firsts, .inl (cI, 128, .inl c_firsts)), (cq_seconds, .inl (cI, 128, .inl c_seconds))] s.heap.size = A at hD hz0 ⊢
  have hA : ∀ q : Nat, s.heap.size ≤ q → A q := fun q h => by rw [← hAe]; exact Or.inr h
  have hS : va_S A s.heap s.heap [] := va_S.rf
  generalize hQ0 : MQ below (va_Qi (fun r' u' => r' = res.1 ∧ u' = res.2) (pcB (dC, dI) srCl [(cI, .int), (cB, .byte), (cJ, .long), (cZ, .boolean), (cQ, .object "SchemaReader$Schema")] (fun u : (Nat → Int32) × (Nat → Int32) × Int32 => [(obP, .inr (7, [.ref obW, .ref obW, .ref obC])), (obW, .inr (8, [.ref wq_plain, .ref wq_kinds, .ref wq_meant, .ref wq_firsts, .ref wq_nexts, .ref wq_names, .ref wq_fieldNames, .ref wq_amounts, .ref wq_fieldDefaults, .ref wq_enumDefaults, .int w_letterCount, .int w_slotCount])), (wq_plain, .inl (cB, 4096, .inl w_plain)), (wq_kinds, .inl (cI, 128, .inl w_kinds)), (wq_meant, .inl (cI, 128, .inl w_meant)), (wq_firsts, .inl (cI, 128, .inl w_firsts)), (wq_nexts, .inl (cI, 128, .inl w_nexts)), (wq_names, .inl (cI, 128, .inl w_names)), (wq_fieldNames, .inl (cI, 128, .inl w_fieldNames)), (wq_amounts, .inl (cI, 128, .inl w_amounts)), (wq_fieldDefaults, .inl (cZ, 128, .inl w_fieldDefaults)), (wq_enumDefaults, .inl (cZ, 128, .inl w_enumDefaults)), (obC, .inr (3, [.ref cq_firsts, .ref cq_seconds, .int u.2.2])), (cq_firsts, .inl (cI, 128, .inl u.1)), (cq_seconds, .inl (cI, 128, .inl u.2.1))]) A) A) [.ref obP, .int a0, .int a1].toArray s 0 0 A = Q0
  have hl := lv_entry [.ref obP, .int a0, .int a1] (n := 6) (Nat.le_of_ble_eq_true rfl)
  rw [lg_entry_eq]
  generalize (lg_sl [.ref obP, .int a0, .int a1] ++ List.replicate (6 - (lg_sl [.ref obP, .int a0, .int a1]).length) Slot.unset).toArray = ls at hl ⊢
  have hl : lv_has ls 6 [(0, .ref obP), (1, .int a0), (2, .int a1)] := hl
  unfold m_X5_isFieldsFit1 at hm
  refine lv_aload_n hx hb dX5_isFieldsFit_0 rfl (lv_at hl 0 rfl) ?_
  refine va_get (D := (dC, dI)) (ci := 7) (v := .ref obW) (C := RX5) (T := TX5) (N := 3) hx hb hts (inX5 _) hown hK hP 0 rfl rfl 1 (by decide) (hts _ (List.mem_cons_of_mem _ wf5_17)) (fun _ h9 => h9) rfl dX5_isFieldsFit_1 ?_
  refine lv_iload_n hx hb dX5_isFieldsFit_4 rfl (lv_at hl 2 rfl) ?_
  obtain ⟨r1, hz1, hm⟩ := mr_bind hm
  refine mr_pV (As := [.int a1]) (rest := []) (sr_okZ adK adV) ⟨hx, hb, hml, hown, hts⟩ (kX6_first l htr dC dI adK adV cI cB cJ cZ cQ obW wq_plain wq_kinds wq_meant wq_firsts wq_nexts wq_names wq_fieldNames wq_amounts wq_fieldDefaults wq_enumDefaults w_letterCount w_slotCount w_meant w_firsts a1 r1 hz1) (cwV 1 hts (g5_34 _) rfl rfl rfl (by decide +kernel) ⟨(by show 1 + 1 ≤ 80; omega), (by show 8 + (2 + 11) + (21) ≤ 1991; omega)⟩) hS hP hK hz0 [1, 4, 5] rfl (va_recv hK hP (ci := 8) (q0 := 1) rfl rfl) rfl rfl hl.1 (Nat.le_of_ble_eq_true rfl) dX5_isFieldsFit_5 ⟨Nat.zero_le _, Nat.zero_le _⟩ ?_
  refine lv_istore_n (lv' := [(3, .int r1), (0, .ref obP), (1, .int a0), (2, .int a1)]) hx hb dX5_isFieldsFit_8 rfl hl (by decide) rfl (fun ls hl => ?_)
  refine lv_iconst (v := 0) hx hb dX5_isFieldsFit_9 (by decide) ?_
  have j12 : ∀ (n12 : Nat) (c_firsts : Nat → Int32) (c_seconds : Nat → Int32) (c_count : Int32) (x1 : Int32) (x2 : Int32) (x3 : Int32) (x4 : Int32) (H : Heap) (locs : List Loc) (ls : Array Slot), va_P (dC, dI) srCl [(obP, .inr (7, [.ref obW, .ref obW, .ref obC])), (obW, .inr (8, [.ref wq_plain, .ref wq_kinds, .ref wq_meant, .ref wq_firsts, .ref wq_nexts, .ref wq_names, .ref wq_fieldNames, .ref wq_amounts, .ref wq_fieldDefaults, .ref wq_enumDefaults, .int w_letterCount, .int w_slotCount])), (wq_plain, .inl (cB, 4096, .inl w_plain)), (wq_kinds, .inl (cI, 128, .inl w_kinds)), (wq_meant, .inl (cI, 128, .inl w_meant)), (wq_firsts, .inl (cI, 128, .inl w_firsts)), (wq_nexts, .inl (cI, 128, .inl w_nexts)), (wq_names, .inl (cI, 128, .inl w_names)), (wq_fieldNames, .inl (cI, 128, .inl w_fieldNames)), (wq_amounts, .inl (cI, 128, .inl w_amounts)), (wq_fieldDefaults, .inl (cZ, 128, .inl w_fieldDefaults)), (wq_enumDefaults, .inl (cZ, 128, .inl w_enumDefaults)), (obC, .inr (3, [.ref cq_firsts, .ref cq_seconds, .int c_count])), (cq_firsts, .inl (cI, 128, .inl c_firsts)), (cq_seconds, .inl (cI, 128, .inl c_seconds))] H → va_D A [(obP, .inr (7, [.ref obW, .ref obW, .ref obC])), (obW, .inr (8, [.ref wq_plain, .ref wq_kinds, .ref wq_meant, .ref wq_firsts, .ref wq_nexts, .ref wq_names, .ref wq_fieldNames, .ref wq_amounts, .ref wq_fieldDefaults, .ref wq_enumDefaults, .int w_letterCount, .int w_slotCount])), (wq_plain, .inl (cB, 4096, .inl w_plain)), (wq_kinds, .inl (cI, 128, .inl w_kinds)), (wq_meant, .inl (cI, 128, .inl w_meant)), (wq_firsts, .inl (cI, 128, .inl w_firsts)), (wq_nexts, .inl (cI, 128, .inl w_nexts)), (wq_names, .inl (cI, 128, .inl w_names)), (wq_fieldNames, .inl (cI, 128, .inl w_fieldNames)), (wq_amounts, .inl (cI, 128, .inl w_amounts)), (wq_fieldDefaults, .inl (cZ, 128, .inl w_fieldDefaults)), (wq_enumDefaults, .inl (cZ, 128, .inl w_enumDefaults)), (obC, .inr (3, [.ref cq_firsts, .ref cq_seconds, .int c_count])), (cq_firsts, .inl (cI, 128, .inl c_firsts)), (cq_seconds, .inl (cI, 128, .inl c_seconds))] → va_S A s.heap H locs → lv_has ls 6 [(0, .ref obP), (1, .int x1), (2, .int x2), (3, .int x3), (4, .int x4)] → m_X5_isFieldsFit1_12 w_plain w_kinds w_meant w_firsts w_nexts w_names w_fieldNames w_amounts w_fieldDefaults w_enumDefaults w_letterCount n12 c_firsts c_seconds c_count x1 x2 x3 x4 = some res → W p l e (headSpec wsX5_isFieldsFit1 (rmX5_isFieldsFit1 0 0)).room s m [.ref obP, .int a0, .int a1].toArray below meth c H locs 0 0 Q0 (F0 m 12 ls []) := by
    intro n12
    induction n12 with
    | zero => intro c_firsts c_seconds c_count x1 x2 x3 x4 H locs ls hP hD hS hl hm; exact nomatch (show (none : Option _) = some res from hm)
    | succ n12 ih12 =>
      intro c_firsts c_seconds c_count x1 x2 x3 x4 H locs ls hP hD hS hl hm
      rw [m_X5_isFieldsFit1_12] at hm
      refine lv_iload hx hb dX5_isFieldsFit_12 (lv_at hl 4 rfl) ?_
      refine lv_aload_n hx hb dX5_isFieldsFit_14 rfl (lv_at hl 0 rfl) ?_
      refine va_get (D := (dC, dI)) (ci := 7) (v := .ref obW) (C := RX5) (T := TX5) (N := 3) hx hb hts (inX5 _) hown hK hP 0 rfl rfl 1 (by decide) (hts _ (List.mem_cons_of_mem _ wf5_17)) (fun _ h9 => h9) rfl dX5_isFieldsFit_15 ?_
      refine lv_iload_n hx hb dX5_isFieldsFit_18 rfl (lv_at hl 2 rfl) ?_
      obtain ⟨r2, hz2, hm⟩ := mr_bind hm
      refine mr_pV (As := [.int x2]) (rest := [.int x4]) (sr_okZ adK adV) ⟨hx, hb, hml, hown, hts⟩ (kX6_amount l htr dC dI adK adV cI cB cJ cZ cQ obW wq_plain wq_kinds wq_meant wq_firsts wq_nexts wq_names wq_fieldNames wq_amounts wq_fieldDefaults wq_enumDefaults w_letterCount w_slotCount w_meant w_amounts x2 r2 hz2) (cwV 1 hts (g5_41 _) rfl rfl rfl (by decide +kernel) ⟨(by show 1 + 1 ≤ 80; omega), (by show 8 + (2 + 11) + (21) ≤ 1991; omega)⟩) hS hP hK hz0 [1, 4, 9] rfl (va_recv hK hP (ci := 8) (q0 := 1) rfl rfl) rfl rfl hl.1 (Nat.le_of_ble_eq_true rfl) dX5_isFieldsFit_19 ⟨Nat.zero_le _, Nat.zero_le _⟩ ?_
      refine lv_icmp_ge (tgt := 85) hx hb dX5_isFieldsFit_22 (by decide) (fun c3 => ?_) (fun c3 => ?_)
      · have hm := mr_if c3 hm
        refine lv_iconst (v := 1) hx hb dX5_isFieldsFit_85 (by decide) ?_
        obtain rfl := Option.some.inj hm
        subst hQ0
        exact W.zret (v := 1) hx hb hr rfl (fun t ht hW => ⟨⟨1, (c_firsts, c_seconds, c_count), rfl, ⟨rfl, rfl⟩, by rw [ht]; exact hP, va_K.moved hW.alike hK, hD⟩, hS.F ht⟩) hS.2.2 dX5_isFieldsFit_86
      · have hm := mr_un c3 hm
        refine lv_aload_n hx hb dX5_isFieldsFit_25 rfl (lv_at hl 0 rfl) ?_
        refine va_get (D := (dC, dI)) (ci := 7) (v := .ref obW) (C := RX5) (T := TX5) (N := 3) hx hb hts (inX5 _) hown hK hP 0 rfl rfl 1 (by decide) (hts _ (List.mem_cons_of_mem _ wf5_17)) (fun _ h9 => h9) rfl dX5_isFieldsFit_26 ?_
        refine lv_iload_n hx hb dX5_isFieldsFit_29 rfl (lv_at hl 3 rfl) ?_
        obtain ⟨r4, hz4, hm⟩ := mr_bind hm
        refine mr_pV (As := [.int x3]) (rest := []) (sr_okZ adK adV) ⟨hx, hb, hml, hown, hts⟩ (kX6_hasFieldDefault l htr dC dI adK adV cI cB cJ cZ cQ obW wq_plain wq_kinds wq_meant wq_firsts wq_nexts wq_names wq_fieldNames wq_amounts wq_fieldDefaults wq_enumDefaults w_letterCount w_slotCount w_fieldDefaults x3 r4 hz4) (cwV 1 hts (g5_109 _) rfl rfl rfl (by decide +kernel) ⟨(by show 1 + 1 ≤ 80; omega), (by show 8 + (2 + 11) + (20) ≤ 1991; omega)⟩) hS hP hK hz0 [1, 10] rfl (va_recv hK hP (ci := 8) (q0 := 1) rfl rfl) rfl rfl hl.1 (Nat.le_of_ble_eq_true rfl) dX5_isFieldsFit_30 ⟨Nat.zero_le _, Nat.zero_le _⟩ ?_
        have j70 : ∀ (c_firsts : Nat → Int32) (c_seconds : Nat → Int32) (c_count : Int32) (x1 : Int32) (x2 : Int32) (x3 : Int32) (x4 : Int32) (H : Heap) (locs : List Loc) (ls : Array Slot), va_P (dC, dI) srCl [(obP, .inr (7, [.ref obW, .ref obW, .ref obC])), (obW, .inr (8, [.ref wq_plain, .ref wq_kinds, .ref wq_meant, .ref wq_firsts, .ref wq_nexts, .ref wq_names, .ref wq_fieldNames, .ref wq_amounts, .ref wq_fieldDefaults, .ref wq_enumDefaults, .int w_letterCount, .int w_slotCount])), (wq_plain, .inl (cB, 4096, .inl w_plain)), (wq_kinds, .inl (cI, 128, .inl w_kinds)), (wq_meant, .inl (cI, 128, .inl w_meant)), (wq_firsts, .inl (cI, 128, .inl w_firsts)), (wq_nexts, .inl (cI, 128, .inl w_nexts)), (wq_names, .inl (cI, 128, .inl w_names)), (wq_fieldNames, .inl (cI, 128, .inl w_fieldNames)), (wq_amounts, .inl (cI, 128, .inl w_amounts)), (wq_fieldDefaults, .inl (cZ, 128, .inl w_fieldDefaults)), (wq_enumDefaults, .inl (cZ, 128, .inl w_enumDefaults)), (obC, .inr (3, [.ref cq_firsts, .ref cq_seconds, .int c_count])), (cq_firsts, .inl (cI, 128, .inl c_firsts)), (cq_seconds, .inl (cI, 128, .inl c_seconds))] H → va_D A [(obP, .inr (7, [.ref obW, .ref obW, .ref obC])), (obW, .inr (8, [.ref wq_plain, .ref wq_kinds, .ref wq_meant, .ref wq_firsts, .ref wq_nexts, .ref wq_names, .ref wq_fieldNames, .ref wq_amounts, .ref wq_fieldDefaults, .ref wq_enumDefaults, .int w_letterCount, .int w_slotCount])), (wq_plain, .inl (cB, 4096, .inl w_plain)), (wq_kinds, .inl (cI, 128, .inl w_kinds)), (wq_meant, .inl (cI, 128, .inl w_meant)), (wq_firsts, .inl (cI, 128, .inl w_firsts)), (wq_nexts, .inl (cI, 128, .inl w_nexts)), (wq_names, .inl (cI, 128, .inl w_names)), (wq_fieldNames, .inl (cI, 128, .inl w_fieldNames)), (wq_amounts, .inl (cI, 128, .inl w_amounts)), (wq_fieldDefaults, .inl (cZ, 128, .inl w_fieldDefaults)), (wq_enumDefaults, .inl (cZ, 128, .inl w_enumDefaults)), (obC, .inr (3, [.ref cq_firsts, .ref cq_seconds, .int c_count])), (cq_firsts, .inl (cI, 128, .inl c_firsts)), (cq_seconds, .inl (cI, 128, .inl c_seconds))] → va_S A s.heap H locs → lv_has ls 6 [(0, .ref obP), (1, .int x1), (2, .int x2), (3, .int x3), (4, .int x4)] → m_X5_isFieldsFit1_70 w_plain w_kinds w_meant w_firsts w_nexts w_names w_fieldNames w_amounts w_fieldDefaults w_enumDefaults w_letterCount (m_X5_isFieldsFit1_12 w_plain w_kinds w_meant w_firsts w_nexts w_names w_fieldNames w_amounts w_fieldDefaults w_enumDefaults w_letterCount n12) c_firsts c_seconds c_count x1 x2 x3 x4 = some res → W p l e (headSpec wsX5_isFieldsFit1 (rmX5_isFieldsFit1 0 0)).room s m [.ref obP, .int a0, .int a1].toArray below meth c H locs 0 0 Q0 (F0 m 70 ls []) := by
          intro c_firsts c_seconds c_count x1 x2 x3 x4 H locs ls hP hD hS hl hm
          unfold m_X5_isFieldsFit1_70 at hm
          refine lv_aload_n hx hb dX5_isFieldsFit_70 rfl (lv_at hl 0 rfl) ?_
          refine va_get (D := (dC, dI)) (ci := 7) (v := .ref obW) (C := RX5) (T := TX5) (N := 3) hx hb hts (inX5 _) hown hK hP 0 rfl rfl 1 (by decide) (hts _ (List.mem_cons_of_mem _ wf5_17)) (fun _ h9 => h9) rfl dX5_isFieldsFit_71 ?_
          refine lv_iload_n hx hb dX5_isFieldsFit_74 rfl (lv_at hl 3 rfl) ?_
          obtain ⟨r5, hz5, hm⟩ := mr_bind hm
          refine mr_pV (As := [.int x3]) (rest := []) (sr_okZ adK adV) ⟨hx, hb, hml, hown, hts⟩ (kX6_next l htr dC dI adK adV cI cB cJ cZ cQ obW wq_plain wq_kinds wq_meant wq_firsts wq_nexts wq_names wq_fieldNames wq_amounts wq_fieldDefaults wq_enumDefaults w_letterCount w_slotCount w_nexts x3 r5 hz5) (cwV 1 hts (g5_91 _) rfl rfl rfl (by decide +kernel) ⟨(by show 1 + 1 ≤ 80; omega), (by show 8 + (2 + 11) + (21) ≤ 1991; omega)⟩) hS hP hK hz0 [1, 6] rfl (va_recv hK hP (ci := 8) (q0 := 1) rfl rfl) rfl rfl hl.1 (Nat.le_of_ble_eq_true rfl) dX5_isFieldsFit_75 ⟨Nat.zero_le _, Nat.zero_le _⟩ ?_
          refine lv_istore_n (lv' := [(3, .int r5), (0, .ref obP), (1, .int x1), (2, .int x2), (4, .int x4)]) hx hb dX5_isFieldsFit_78 rfl hl (by decide) rfl (fun ls hl => ?_)
          refine lv_iinc (v := x4 + 1) (lv' := [(4, .int (x4 + 1)), (3, .int r5), (0, .ref obP), (1, .int x1), (2, .int x2)]) hx hb dX5_isFieldsFit_79 hl (k := 4) rfl rfl (by decide) rfl (fun ls hl => ?_)
          refine lv_goto (tgt := 12) hx hb dX5_isFieldsFit_82 (by decide) ?_
          exact ih12 c_firsts c_seconds c_count x1 x2 r5 (x4 + 1) _ _ ls hP hD hS (lv_sub hl [2, 3, 4, 1, 0] rfl) hm
        refine lv_if_ne (tgt := 70) hx hb dX5_isFieldsFit_33 (by decide) (fun c6 => ?_) (fun c6 => ?_)
        · have hm := mr_un c6 hm
          exact j70 c_firsts c_seconds c_count x1 x2 x3 x4 _ _ ls hP hD hS (lv_sub hl [0, 1, 2, 3, 4] rfl) hm
        · have hm := mr_if c6 hm
          refine lv_aload_n hx hb dX5_isFieldsFit_36 rfl (lv_at hl 0 rfl) ?_
          refine lv_iload_n hx hb dX5_isFieldsFit_37 rfl (lv_at hl 1 rfl) ?_
          refine lv_aload_n hx hb dX5_isFieldsFit_38 rfl (lv_at hl 0 rfl) ?_
          refine va_get (D := (dC, dI)) (ci := 7) (v := .ref obW) (C := RX5) (T := TX5) (N := 3) hx hb hts (inX5 _) hown hK hP 0 rfl rfl 1 (by decide) (hts _ (List.mem_cons_of_mem _ wf5_17)) (fun _ h9 => h9) rfl dX5_isFieldsFit_39 ?_
          refine lv_iload_n hx hb dX5_isFieldsFit_42 rfl (lv_at hl 3 rfl) ?_
          obtain ⟨r7, hz7, hm⟩ := mr_bind hm
          refine mr_pV (As := [.int x3]) (rest := [.int x1, .ref obP]) (sr_okZ adK adV) ⟨hx, hb, hml, hown, hts⟩ (kX6_fieldName l htr dC dI adK adV cI cB cJ cZ cQ obW wq_plain wq_kinds wq_meant wq_firsts wq_nexts wq_names wq_fieldNames wq_amounts wq_fieldDefaults wq_enumDefaults w_letterCount w_slotCount w_fieldNames x3 r7 hz7) (cwV 1 hts (g5_112 _) rfl rfl rfl (by decide +kernel) ⟨(by show 1 + 1 ≤ 80; omega), (by show 8 + (2 + 11) + (21) ≤ 1991; omega)⟩) hS hP hK hz0 [1, 8] rfl (va_recv hK hP (ci := 8) (q0 := 1) rfl rfl) rfl rfl hl.1 (Nat.le_of_ble_eq_true rfl) dX5_isFieldsFit_43 ⟨Nat.zero_le _, Nat.zero_le _⟩ ?_
          obtain ⟨r8, hz8, hm⟩ := mr_bind hm
          refine mr_pV (As := [.int x1, .int r7]) (rest := []) (sr_okZ adK adV) ⟨hx, hb, hml, hown, hts⟩ (kX5_writerField1 l htr dC dI adK adV cI cB cJ cZ cQ obP obW obC wq_plain wq_kinds wq_meant wq_firsts wq_nexts wq_names wq_fieldNames wq_amounts wq_fieldDefaults wq_enumDefaults w_letterCount w_slotCount w_plain w_meant w_firsts w_nexts w_fieldNames w_amounts x1 r7 r8 hz8) (cwV 2 hts (g5_115 _) rfl rfl rfl (by decide +kernel) ⟨(by show 2 + 1 ≤ 80; omega), (by show 8 + (5 + 11) + (42) ≤ 1991; omega)⟩) hS hP hK hz0 [0, 1, 2, 4, 5, 6, 8, 9] rfl (va_recv hK hP (ci := 7) (q0 := 0) rfl rfl) rfl rfl hl.1 (Nat.le_of_ble_eq_true rfl) dX5_isFieldsFit_46 ⟨Nat.zero_le _, Nat.zero_le _⟩ ?_
          refine lv_istore (lv' := [(5, .int r8), (0, .ref obP), (1, .int x1), (2, .int x2), (3, .int x3), (4, .int x4)]) hx hb dX5_isFieldsFit_49 hl (by decide) rfl (fun ls hl => ?_)
          refine lv_iload hx hb dX5_isFieldsFit_51 (lv_at hl 0 rfl) ?_
          refine lv_iconst (v := -1) hx hb dX5_isFieldsFit_53 (by decide) ?_
          refine lv_icmp_eq (tgt := 68) hx hb dX5_isFieldsFit_54 (by decide) (fun c9 => ?_) (fun c9 => ?_)
          · have hm := mr_if c9 hm
            refine lv_iconst (v := 0) hx hb dX5_isFieldsFit_68 (by decide) ?_
            obtain rfl := Option.some.inj hm
            subst hQ0
            exact W.zret (v := 0) hx hb hr rfl (fun t ht hW => ⟨⟨0, (c_firsts, c_seconds, c_count), rfl, ⟨rfl, rfl⟩, by rw [ht]; exact hP, va_K.moved hW.alike hK, hD⟩, hS.F ht⟩) hS.2.2 dX5_isFieldsFit_69
          · have hm := mr_un c9 hm
            refine lv_aload_n hx hb dX5_isFieldsFit_57 rfl (lv_at hl 1 rfl) ?_
            refine lv_iload hx hb dX5_isFieldsFit_58 (lv_at hl 0 rfl) ?_
            refine lv_iload_n hx hb dX5_isFieldsFit_60 rfl (lv_at hl 4 rfl) ?_
            refine lv_iconst (v := 0) hx hb dX5_isFieldsFit_61 (by decide) ?_
            obtain ⟨⟨r10, c_firsts_10, c_seconds_10, c_count_10⟩, hz10, hm⟩ := mr_bind hm
            try dsimp only at hm
            refine mr_wVi (As := [.int r8, .int x3, .int 0]) (rest := []) (sr_okZ adK adV) ⟨hx, hb, hml, hown, hts⟩ (kX5_isFit1 l htr dC dI adK adV cI cB cJ cZ cQ obP obW obC wq_plain wq_kinds wq_meant wq_firsts wq_nexts wq_names wq_fieldNames wq_amounts wq_fieldDefaults wq_enumDefaults cq_firsts cq_seconds 37 w_letterCount w_slotCount c_count w_plain w_kinds w_meant w_firsts w_nexts w_names w_amounts w_enumDefaults c_firsts c_seconds _ r8 x3 0 _ hz10) (cwV 3 hts (g5_56 _) rfl rfl rfl (by decide +kernel) ⟨(by show 2 * 37 + 5 + 1 ≤ 80; omega), (by show 8 + (6 + 11) + (50 * 37 + 116) ≤ 1991; omega)⟩) hS hA hP hD hK hz0 (wr := [(wq_fieldNames, .inl (cI, 128, .inl w_fieldNames)), (wq_fieldDefaults, .inl (cZ, 128, .inl w_fieldDefaults))]) (w1 := [(obP, .inr (7, [.ref obW, .ref obW, .ref obC])), (obW, .inr (8, [.ref wq_plain, .ref wq_kinds, .ref wq_meant, .ref wq_firsts, .ref wq_nexts, .ref wq_names, .ref wq_fieldNames, .ref wq_amounts, .ref wq_fieldDefaults, .ref wq_enumDefaults, .int w_letterCount, .int w_slotCount])), (wq_plain, .inl (cB, 4096, .inl w_plain)), (wq_kinds, .inl (cI, 128, .inl w_kinds)), (wq_meant, .inl (cI, 128, .inl w_meant)), (wq_firsts, .inl (cI, 128, .inl w_firsts)), (wq_nexts, .inl (cI, 128, .inl w_nexts)), (wq_names, .inl (cI, 128, .inl w_names)), (wq_fieldNames, .inl (cI, 128, .inl w_fieldNames)), (wq_amounts, .inl (cI, 128, .inl w_amounts)), (wq_fieldDefaults, .inl (cZ, 128, .inl w_fieldDefaults)), (wq_enumDefaults, .inl (cZ, 128, .inl w_enumDefaults)), (obC, .inr (3, [.ref cq_firsts, .ref cq_seconds, .int c_count_10])), (cq_firsts, .inl (cI, 128, .inl c_firsts_10)), (cq_seconds, .inl (cI, 128, .inl c_seconds_10))]) [0, 1, 2, 3, 4, 5, 6, 7, 9, 11, 12, 13, 14] [8, 10] [2, 3, 4, 5, 6, 7, 8, 9, 0, 10, 1, 11, 12, 13, 14] rfl rfl rfl rfl rfl (by decide) rfl rfl rfl (va_recv hK hP (ci := 7) (q0 := 0) rfl rfl) rfl rfl hl.1 (Nat.le_of_ble_eq_true rfl) dX5_isFieldsFit_62 ⟨Nat.zero_le _, Nat.zero_le _⟩ (fun H locs hP hD hS => ?_)
            refine lv_if_ne (tgt := 70) hx hb dX5_isFieldsFit_65 (by decide) (fun c11 => ?_) (fun c11 => ?_)
            · have hm := mr_un c11 hm
              exact j70 c_firsts_10 c_seconds_10 c_count_10 x1 x2 x3 x4 _ _ ls hP hD hS (lv_sub hl [1, 2, 3, 4, 5] rfl) hm
            · have hm := mr_if c11 hm
              refine lv_iconst (v := 0) hx hb dX5_isFieldsFit_68 (by decide) ?_
              obtain rfl := Option.some.inj hm
              subst hQ0
              exact W.zret (v := 0) hx hb hr rfl (fun t ht hW => ⟨⟨0, (c_firsts_10, c_seconds_10, c_count_10), rfl, ⟨rfl, rfl⟩, by rw [ht]; exact hP, va_K.moved hW.alike hK, hD⟩, hS.F ht⟩) hS.2.2 dX5_isFieldsFit_69
  refine lv_istore (lv' := [(4, .int 0), (3, .int r1), (0, .ref obP), (1, .int a0), (2, .int a1)]) hx hb dX5_isFieldsFit_10 hl (by decide) rfl (fun ls hl => ?_)
  exact j12 sr_fuel c_firsts c_seconds c_count a0 a1 r1 0 _ _ ls hP hD hS (lv_sub hl [2, 3, 4, 1, 0] rfl) hm
set_option maxHeartbeats 4000000 in
set_option maxRecDepth 100000 in
theorem kX5_isWholeFit1 (l : Launch) (htr : l.stackTraces = false) (dC : Nat → ClassId) (dI : Nat → Nat → Nat) (adK adV : Nat → Nat) (cI cB cJ cZ cQ : ClassId) (obP obW obC wq_plain wq_kinds wq_meant wq_firsts wq_nexts wq_names wq_fieldNames wq_amounts wq_fieldDefaults wq_enumDefaults cq_firsts cq_seconds : Nat) (w_letterCount : Int32) (w_slotCount : Int32) (c_count : Int32) (w_plain : Nat → Int32) (w_kinds : Nat → Int32) (w_meant : Nat → Int32) (w_firsts : Nat → Int32) (w_nexts : Nat → Int32) (w_names : Nat → Int32) (w_fieldNames : Nat → Int32) (w_amounts : Nat → Int32) (w_fieldDefaults : Nat → Int32) (w_enumDefaults : Nat → Int32) (c_firsts : Nat → Int32) (c_seconds : Nat → Int32) (sz : Nat) (res : Int32 × (Nat → Int32) × (Nat → Int32) × Int32) (hm : m_X5_isWholeFit1 w_plain w_kinds w_meant w_firsts w_nexts w_names w_fieldNames w_amounts w_fieldDefaults w_enumDefaults w_letterCount c_firsts c_seconds c_count = some res) : Met l yX5_isWholeFit1 wsX5_isWholeFit1 (rmX5_isWholeFit1 0 0) (pcW (sr_Z adK adV) (dC, dI) srCl [(cI, .int), (cB, .byte), (cJ, .long), (cZ, .boolean), (cQ, .object "SchemaReader$Schema")] [.ref obP] [(obP, .inr (7, [.ref obW, .ref obW, .ref obC])), (obW, .inr (8, [.ref wq_plain, .ref wq_kinds, .ref wq_meant, .ref wq_firsts, .ref wq_nexts, .ref wq_names, .ref wq_fieldNames, .ref wq_amounts, .ref wq_fieldDefaults, .ref wq_enumDefaults, .int w_letterCount, .int w_slotCount])), (wq_plain, .inl (cB, 4096, .inl w_plain)), (wq_kinds, .inl (cI, 128, .inl w_kinds)), (wq_meant, .inl (cI, 128, .inl w_meant)), (wq_firsts, .inl (cI, 128, .inl w_firsts)), (wq_nexts, .inl (cI, 128, .inl w_nexts)), (wq_names, .inl (cI, 128, .inl w_names)), (wq_fieldNames, .inl (cI, 128, .inl w_fieldNames)), (wq_amounts, .inl (cI, 128, .inl w_amounts)), (wq_fieldDefaults, .inl (cZ, 128, .inl w_fieldDefaults)), (wq_enumDefaults, .inl (cZ, 128, .inl w_enumDefaults)), (obC, .inr (3, [.ref cq_firsts, .ref cq_seconds, .int c_count])), (cq_firsts, .inl (cI, 128, .inl c_firsts)), (cq_seconds, .inl (cI, 128, .inl c_seconds))] sz) (va_Qi (fun r' u' => r' = res.1 ∧ u' = res.2) (pcB (dC, dI) srCl [(cI, .int), (cB, .byte), (cJ, .long), (cZ, .boolean), (cQ, .object "SchemaReader$Schema")] (fun u : (Nat → Int32) × (Nat → Int32) × Int32 => [(obP, .inr (7, [.ref obW, .ref obW, .ref obC])), (obW, .inr (8, [.ref wq_plain, .ref wq_kinds, .ref wq_meant, .ref wq_firsts, .ref wq_nexts, .ref wq_names, .ref wq_fieldNames, .ref wq_amounts, .ref wq_fieldDefaults, .ref wq_enumDefaults, .int w_letterCount, .int w_slotCount])), (wq_plain, .inl (cB, 4096, .inl w_plain)), (wq_kinds, .inl (cI, 128, .inl w_kinds)), (wq_meant, .inl (cI, 128, .inl w_meant)), (wq_firsts, .inl (cI, 128, .inl w_firsts)), (wq_nexts, .inl (cI, 128, .inl w_nexts)), (wq_names, .inl (cI, 128, .inl w_names)), (wq_fieldNames, .inl (cI, 128, .inl w_fieldNames)), (wq_amounts, .inl (cI, 128, .inl w_amounts)), (wq_fieldDefaults, .inl (cZ, 128, .inl w_fieldDefaults)), (wq_enumDefaults, .inl (cZ, 128, .inl w_enumDefaults)), (obC, .inr (3, [.ref cq_firsts, .ref cq_seconds, .int u.2.2])), (cq_firsts, .inl (cI, 128, .inl u.1)), (cq_seconds, .inl (cI, 128, .inl u.2.1))]) (va_A [(obP, .inr (7, [.ref obW, .ref obW, .ref obC])), (obW, .inr (8, [.ref wq_plain, .ref wq_kinds, .ref wq_meant, .ref wq_firsts, .ref wq_nexts, .ref wq_names, .ref wq_fieldNames, .ref wq_amounts, .ref wq_fieldDefaults, .ref wq_enumDefaults, .int w_letterCount, .int w_slotCount])), (wq_plain, .inl (cB, 4096, .inl w_plain)), (wq_kinds, .inl (cI, 128, .inl w_kinds)), (wq_meant, .inl (cI, 128, .inl w_meant)), (wq_firsts, .inl (cI, 128, .inl w_firsts)), (wq_nexts, .inl (cI, 128, .inl w_nexts)), (wq_names, .inl (cI, 128, .inl w_names)), (wq_fieldNames, .inl (cI, 128, .inl w_fieldNames)), (wq_amounts, .inl (cI, 128, .inl w_amounts)), (wq_fieldDefaults, .inl (cZ, 128, .inl w_fieldDefaults)), (wq_enumDefaults, .inl (cZ, 128, .inl w_enumDefaults)), (obC, .inr (3, [.ref cq_firsts, .ref cq_seconds, .int c_count])), (cq_firsts, .inl (cI, 128, .inl c_firsts)), (cq_seconds, .inl (cI, 128, .inl c_seconds))] sz)) (va_A [(obP, .inr (7, [.ref obW, .ref obW, .ref obC])), (obW, .inr (8, [.ref wq_plain, .ref wq_kinds, .ref wq_meant, .ref wq_firsts, .ref wq_nexts, .ref wq_names, .ref wq_fieldNames, .ref wq_amounts, .ref wq_fieldDefaults, .ref wq_enumDefaults, .int w_letterCount, .int w_slotCount])), (wq_plain, .inl (cB, 4096, .inl w_plain)), (wq_kinds, .inl (cI, 128, .inl w_kinds)), (wq_meant, .inl (cI, 128, .inl w_meant)), (wq_firsts, .inl (cI, 128, .inl w_firsts)), (wq_nexts, .inl (cI, 128, .inl w_nexts)), (wq_names, .inl (cI, 128, .inl w_names)), (wq_fieldNames, .inl (cI, 128, .inl w_fieldNames)), (wq_amounts, .inl (cI, 128, .inl w_amounts)), (wq_fieldDefaults, .inl (cZ, 128, .inl w_fieldDefaults)), (wq_enumDefaults, .inl (cZ, 128, .inl w_enumDefaults)), (obC, .inr (3, [.ref cq_firsts, .ref cq_seconds, .int c_count])), (cq_firsts, .inl (cI, 128, .inl c_firsts)), (cq_seconds, .inl (cI, 128, .inl c_seconds))] sz)) 0 0 (va_A [(obP, .inr (7, [.ref obW, .ref obW, .ref obC])), (obW, .inr (8, [.ref wq_plain, .ref wq_kinds, .ref wq_meant, .ref wq_firsts, .ref wq_nexts, .ref wq_names, .ref wq_fieldNames, .ref wq_amounts, .ref wq_fieldDefaults, .ref wq_enumDefaults, .int w_letterCount, .int w_slotCount])), (wq_plain, .inl (cB, 4096, .inl w_plain)), (wq_kinds, .inl (cI, 128, .inl w_kinds)), (wq_meant, .inl (cI, 128, .inl w_meant)), (wq_firsts, .inl (cI, 128, .inl w_firsts)), (wq_nexts, .inl (cI, 128, .inl w_nexts)), (wq_names, .inl (cI, 128, .inl w_names)), (wq_fieldNames, .inl (cI, 128, .inl w_fieldNames)), (wq_amounts, .inl (cI, 128, .inl w_amounts)), (wq_fieldDefaults, .inl (cZ, 128, .inl w_fieldDefaults)), (wq_enumDefaults, .inl (cZ, 128, .inl w_enumDefaults)), (obC, .inr (3, [.ref cq_firsts, .ref cq_seconds, .int c_count])), (cq_firsts, .inl (cI, 128, .inl c_firsts)), (cq_seconds, .inl (cI, 128, .inl c_seconds))] sz) := by
  refine Met.ofW (cc := cX5_isWholeFit1) (maxL := 2) (ret := (some .boolean)) (by decide) rfl ?_
  intro p e s m args below meth c s₁ B hml hv
  obtain ⟨rfl, hsz, hP, hK, hD0, hz0⟩ := hv
  have hx := B.exec
  have hb := B.bytes
  have hr := B.returns
  have hts := atoms_spec (ws := wsX5_isWholeFit1) B.pre
  have hown : s.vm.findClass RX5 = some m.cls := findClass_of_methodNamed B.named
  have hlocks := B.notSynchronized
  subst hsz
  have hD := hD0.self (sz := s.heap.size)
  generalize hAe : va_A [(obP, .inr (7, [.ref obW, .ref obW, .ref obC])), (obW, .inr (8, [.ref wq_plain, .ref wq_kinds, .ref wq_meant, .ref wq_firsts, .ref wq_nexts, .ref wq_names, .ref wq_fieldNames, .ref wq_amounts, .ref wq_fieldDefaults, .ref wq_enumDefaults, .int w_letterCount, .int w_slotCount])), (wq_plain, .inl (cB, 4096, .inl w_plain)), (wq_kinds, .inl (cI, 128, .inl w_kinds)), (wq_meant, .inl (cI, 128, .inl w_meant)), (wq_firsts, .inl (cI, 128, .inl w_firsts)), (wq_nexts, .inl (cI, 128, .inl w_nexts)), (wq_names, .inl (cI, 128, .inl w_names)), (wq_fieldNames, .inl (cI, 128, .inl w_fieldNames)), (wq_amounts, .inl (cI, 128, .inl w_amounts)), (wq_fieldDefaults, .inl (cZ, 128, .inl w_fieldDefaults)), (wq_enumDefaults, .inl (cZ, 128, .inl w_enumDefaults)), (obC, .inr (3, [.ref cq_firsts, .ref cq_seconds, .int c_count])), (cq_firsts, .inl (cI, 128, .inl c_firsts)), (cq_seconds, .inl (cI, 128, .inl c_seconds))] s.heap.size = A at hD hz0 ⊢
  have hA : ∀ q : Nat, s.heap.size ≤ q → A q := fun q h => by rw [← hAe]; exact Or.inr h
  have hS : va_S A s.heap s.heap [] := va_S.rf
  generalize hQ0 : MQ below (va_Qi (fun r' u' => r' = res.1 ∧ u' = res.2) (pcB (dC, dI) srCl [(cI, .int), (cB, .byte), (cJ, .long), (cZ, .boolean), (cQ, .object "SchemaReader$Schema")] (fun u : (Nat → Int32) × (Nat → Int32) × Int32 => [(obP, .inr (7, [.ref obW, .ref obW, .ref obC])), (obW, .inr (8, [.ref wq_plain, .ref wq_kinds, .ref wq_meant, .ref wq_firsts, .ref wq_nexts, .ref wq_names, .ref wq_fieldNames, .ref wq_amounts, .ref wq_fieldDefaults, .ref wq_enumDefaults, .int w_letterCount, .int w_slotCount])), (wq_plain, .inl (cB, 4096, .inl w_plain)), (wq_kinds, .inl (cI, 128, .inl w_kinds)), (wq_meant, .inl (cI, 128, .inl w_meant)), (wq_firsts, .inl (cI, 128, .inl w_firsts)), (wq_nexts, .inl (cI, 128, .inl w_nexts)), (wq_names, .inl (cI, 128, .inl w_names)), (wq_fieldNames, .inl (cI, 128, .inl w_fieldNames)), (wq_amounts, .inl (cI, 128, .inl w_amounts)), (wq_fieldDefaults, .inl (cZ, 128, .inl w_fieldDefaults)), (wq_enumDefaults, .inl (cZ, 128, .inl w_enumDefaults)), (obC, .inr (3, [.ref cq_firsts, .ref cq_seconds, .int u.2.2])), (cq_firsts, .inl (cI, 128, .inl u.1)), (cq_seconds, .inl (cI, 128, .inl u.2.1))]) A) A) [.ref obP].toArray s 0 0 A = Q0
  have hl := lv_entry [.ref obP] (n := 2) (Nat.le_of_ble_eq_true rfl)
  rw [lg_entry_eq]
  generalize (lg_sl [.ref obP] ++ List.replicate (2 - (lg_sl [.ref obP]).length) Slot.unset).toArray = ls at hl ⊢
  have hl : lv_has ls 2 [(0, .ref obP)] := hl
  unfold m_X5_isWholeFit1 at hm
  refine lv_aload_n hx hb dX5_isWholeFit_0 rfl (lv_at hl 0 rfl) ?_
  refine va_get (D := (dC, dI)) (ci := 7) (v := .ref obC) (C := RX5) (T := TX5) (N := 3) hx hb hts (inX5 _) hown hK hP 0 rfl rfl 2 (by decide) (hts _ (List.mem_cons_of_mem _ wf5_20)) (fun _ h9 => h9) rfl dX5_isWholeFit_1 ?_
  obtain ⟨c_count_1, hz1, hm⟩ := mr_bind hm
  try dsimp only at hm
  refine mr_wVv (As := []) (rest := []) (sr_okZ adK adV) ⟨hx, hb, hml, hown, hts⟩ (kX11_clear l htr dC dI adK adV cI cB cJ cZ cQ obC cq_firsts cq_seconds c_count _ _ hz1) (cwV 0 hts (g5_51 _) rfl rfl rfl (by decide +kernel) ⟨(by show 0 + 1 ≤ 81; omega), (by show 8 + (1 + 11) + (0) ≤ 2016; omega)⟩) hS hA hP hD hK hz0 (wr := [(obP, .inr (7, [.ref obW, .ref obW, .ref obC])), (obW, .inr (8, [.ref wq_plain, .ref wq_kinds, .ref wq_meant, .ref wq_firsts, .ref wq_nexts, .ref wq_names, .ref wq_fieldNames, .ref wq_amounts, .ref wq_fieldDefaults, .ref wq_enumDefaults, .int w_letterCount, .int w_slotCount])), (wq_plain, .inl (cB, 4096, .inl w_plain)), (wq_kinds, .inl (cI, 128, .inl w_kinds)), (wq_meant, .inl (cI, 128, .inl w_meant)), (wq_firsts, .inl (cI, 128, .inl w_firsts)), (wq_nexts, .inl (cI, 128, .inl w_nexts)), (wq_names, .inl (cI, 128, .inl w_names)), (wq_fieldNames, .inl (cI, 128, .inl w_fieldNames)), (wq_amounts, .inl (cI, 128, .inl w_amounts)), (wq_fieldDefaults, .inl (cZ, 128, .inl w_fieldDefaults)), (wq_enumDefaults, .inl (cZ, 128, .inl w_enumDefaults)), (cq_firsts, .inl (cI, 128, .inl c_firsts)), (cq_seconds, .inl (cI, 128, .inl c_seconds))]) (w1 := [(obP, .inr (7, [.ref obW, .ref obW, .ref obC])), (obW, .inr (8, [.ref wq_plain, .ref wq_kinds, .ref wq_meant, .ref wq_firsts, .ref wq_nexts, .ref wq_names, .ref wq_fieldNames, .ref wq_amounts, .ref wq_fieldDefaults, .ref wq_enumDefaults, .int w_letterCount, .int w_slotCount])), (wq_plain, .inl (cB, 4096, .inl w_plain)), (wq_kinds, .inl (cI, 128, .inl w_kinds)), (wq_meant, .inl (cI, 128, .inl w_meant)), (wq_firsts, .inl (cI, 128, .inl w_firsts)), (wq_nexts, .inl (cI, 128, .inl w_nexts)), (wq_names, .inl (cI, 128, .inl w_names)), (wq_fieldNames, .inl (cI, 128, .inl w_fieldNames)), (wq_amounts, .inl (cI, 128, .inl w_amounts)), (wq_fieldDefaults, .inl (cZ, 128, .inl w_fieldDefaults)), (wq_enumDefaults, .inl (cZ, 128, .inl w_enumDefaults)), (obC, .inr (3, [.ref cq_firsts, .ref cq_seconds, .int c_count_1])), (cq_firsts, .inl (cI, 128, .inl c_firsts)), (cq_seconds, .inl (cI, 128, .inl c_seconds))]) [12] [0, 1, 2, 3, 4, 5, 6, 7, 8, 9, 10, 11, 13, 14] [0, 1, 2, 3, 4, 5, 6, 7, 8, 9, 10, 11, 14, 12, 13] rfl rfl rfl rfl rfl (by decide) rfl rfl rfl (va_recv hK hP (ci := 3) (q0 := 12) rfl rfl) rfl rfl hl.1 (Nat.le_of_ble_eq_true rfl) dX5_isWholeFit_4 ⟨Nat.zero_le _, Nat.zero_le _⟩ (fun H locs hP hD hS => ?_)
  refine lv_aload_n hx hb dX5_isWholeFit_7 rfl (lv_at hl 0 rfl) ?_
  refine lv_iconst (v := 0) hx hb dX5_isWholeFit_8 (by decide) ?_
  refine lv_iconst (v := 0) hx hb dX5_isWholeFit_9 (by decide) ?_
  refine lv_iconst (v := 0) hx hb dX5_isWholeFit_10 (by decide) ?_
  obtain ⟨⟨r2, c_firsts_2, c_seconds_2, c_count_2⟩, hz2, hm⟩ := mr_bind hm
  try dsimp only at hm
  refine mr_wVi (As := [.int 0, .int 0, .int 0]) (rest := []) (sr_okZ adK adV) ⟨hx, hb, hml, hown, hts⟩ (kX5_isFit1 l htr dC dI adK adV cI cB cJ cZ cQ obP obW obC wq_plain wq_kinds wq_meant wq_firsts wq_nexts wq_names wq_fieldNames wq_amounts wq_fieldDefaults wq_enumDefaults cq_firsts cq_seconds 37 w_letterCount w_slotCount c_count_1 w_plain w_kinds w_meant w_firsts w_nexts w_names w_amounts w_enumDefaults c_firsts c_seconds _ 0 0 0 _ hz2) (cwV 3 hts (g5_56 _) rfl rfl rfl (by decide +kernel) ⟨(by show 2 * 37 + 5 + 1 ≤ 81; omega), (by show 8 + (6 + 11) + (50 * 37 + 116) ≤ 2016; omega)⟩) hS hA hP hD hK hz0 (wr := [(wq_fieldNames, .inl (cI, 128, .inl w_fieldNames)), (wq_fieldDefaults, .inl (cZ, 128, .inl w_fieldDefaults))]) (w1 := [(obP, .inr (7, [.ref obW, .ref obW, .ref obC])), (obW, .inr (8, [.ref wq_plain, .ref wq_kinds, .ref wq_meant, .ref wq_firsts, .ref wq_nexts, .ref wq_names, .ref wq_fieldNames, .ref wq_amounts, .ref wq_fieldDefaults, .ref wq_enumDefaults, .int w_letterCount, .int w_slotCount])), (wq_plain, .inl (cB, 4096, .inl w_plain)), (wq_kinds, .inl (cI, 128, .inl w_kinds)), (wq_meant, .inl (cI, 128, .inl w_meant)), (wq_firsts, .inl (cI, 128, .inl w_firsts)), (wq_nexts, .inl (cI, 128, .inl w_nexts)), (wq_names, .inl (cI, 128, .inl w_names)), (wq_fieldNames, .inl (cI, 128, .inl w_fieldNames)), (wq_amounts, .inl (cI, 128, .inl w_amounts)), (wq_fieldDefaults, .inl (cZ, 128, .inl w_fieldDefaults)), (wq_enumDefaults, .inl (cZ, 128, .inl w_enumDefaults)), (obC, .inr (3, [.ref cq_firsts, .ref cq_seconds, .int c_count_2])), (cq_firsts, .inl (cI, 128, .inl c_firsts_2)), (cq_seconds, .inl (cI, 128, .inl c_seconds_2))]) [0, 1, 2, 3, 4, 5, 6, 7, 9, 11, 12, 13, 14] [8, 10] [2, 3, 4, 5, 6, 7, 8, 9, 0, 10, 1, 11, 12, 13, 14] rfl rfl rfl rfl rfl (by decide) rfl rfl rfl (va_recv hK hP (ci := 7) (q0 := 0) rfl rfl) rfl rfl hl.1 (Nat.le_of_ble_eq_true rfl) dX5_isWholeFit_11 ⟨Nat.zero_le _, Nat.zero_le _⟩ (fun H locs hP hD hS => ?_)
  refine lv_if_ne (tgt := 19) hx hb dX5_isWholeFit_14 (by decide) (fun c3 => ?_) (fun c3 => ?_)
  · have hm := mr_un c3 hm
    refine lv_iconst (v := 0) hx hb dX5_isWholeFit_19 (by decide) ?_
    have j21 : ∀ (n21 : Nat) (c_firsts : Nat → Int32) (c_seconds : Nat → Int32) (c_count : Int32) (x1 : Int32) (H : Heap) (locs : List Loc) (ls : Array Slot), va_P (dC, dI) srCl [(obP, .inr (7, [.ref obW, .ref obW, .ref obC])), (obW, .inr (8, [.ref wq_plain, .ref wq_kinds, .ref wq_meant, .ref wq_firsts, .ref wq_nexts, .ref wq_names, .ref wq_fieldNames, .ref wq_amounts, .ref wq_fieldDefaults, .ref wq_enumDefaults, .int w_letterCount, .int w_slotCount])), (wq_plain, .inl (cB, 4096, .inl w_plain)), (wq_kinds, .inl (cI, 128, .inl w_kinds)), (wq_meant, .inl (cI, 128, .inl w_meant)), (wq_firsts, .inl (cI, 128, .inl w_firsts)), (wq_nexts, .inl (cI, 128, .inl w_nexts)), (wq_names, .inl (cI, 128, .inl w_names)), (wq_fieldNames, .inl (cI, 128, .inl w_fieldNames)), (wq_amounts, .inl (cI, 128, .inl w_amounts)), (wq_fieldDefaults, .inl (cZ, 128, .inl w_fieldDefaults)), (wq_enumDefaults, .inl (cZ, 128, .inl w_enumDefaults)), (obC, .inr (3, [.ref cq_firsts, .ref cq_seconds, .int c_count])), (cq_firsts, .inl (cI, 128, .inl c_firsts)), (cq_seconds, .inl (cI, 128, .inl c_seconds))] H → va_D A [(obP, .inr (7, [.ref obW, .ref obW, .ref obC])), (obW, .inr (8, [.ref wq_plain, .ref wq_kinds, .ref wq_meant, .ref wq_firsts, .ref wq_nexts, .ref wq_names, .ref wq_fieldNames, .ref wq_amounts, .ref wq_fieldDefaults, .ref wq_enumDefaults, .int w_letterCount, .int w_slotCount])), (wq_plain, .inl (cB, 4096, .inl w_plain)), (wq_kinds, .inl (cI, 128, .inl w_kinds)), (wq_meant, .inl (cI, 128, .inl w_meant)), (wq_firsts, .inl (cI, 128, .inl w_firsts)), (wq_nexts, .inl (cI, 128, .inl w_nexts)), (wq_names, .inl (cI, 128, .inl w_names)), (wq_fieldNames, .inl (cI, 128, .inl w_fieldNames)), (wq_amounts, .inl (cI, 128, .inl w_amounts)), (wq_fieldDefaults, .inl (cZ, 128, .inl w_fieldDefaults)), (wq_enumDefaults, .inl (cZ, 128, .inl w_enumDefaults)), (obC, .inr (3, [.ref cq_firsts, .ref cq_seconds, .int c_count])), (cq_firsts, .inl (cI, 128, .inl c_firsts)), (cq_seconds, .inl (cI, 128, .inl c_seconds))] → va_S A s.heap H locs → lv_has ls 2 [(0, .ref obP), (1, .int x1)] → m_X5_isWholeFit1_21 w_plain w_kinds w_meant w_firsts w_nexts w_names w_fieldNames w_amounts w_fieldDefaults w_enumDefaults w_letterCount n21 c_firsts c_seconds c_count x1 = some res → W p l e (headSpec wsX5_isWholeFit1 (rmX5_isWholeFit1 0 0)).room s m [.ref obP].toArray below meth c H locs 0 0 Q0 (F0 m 21 ls []) := by
      intro n21
      induction n21 with
      | zero => intro c_firsts c_seconds c_count x1 H locs ls hP hD hS hl hm; exact nomatch (show (none : Option _) = some res from hm)
      | succ n21 ih21 =>
        intro c_firsts c_seconds c_count x1 H locs ls hP hD hS hl hm
        rw [m_X5_isWholeFit1_21] at hm
        refine lv_iload_n hx hb dX5_isWholeFit_21 rfl (lv_at hl 1 rfl) ?_
        refine lv_aload_n hx hb dX5_isWholeFit_22 rfl (lv_at hl 0 rfl) ?_
        refine va_get (D := (dC, dI)) (ci := 7) (v := .ref obC) (C := RX5) (T := TX5) (N := 3) hx hb hts (inX5 _) hown hK hP 0 rfl rfl 2 (by decide) (hts _ (List.mem_cons_of_mem _ wf5_20)) (fun _ h9 => h9) rfl dX5_isWholeFit_23 ?_
        obtain ⟨r4, hz4, hm⟩ := mr_bind hm
        refine mr_pV (As := []) (rest := [.int x1]) (sr_okZ adK adV) ⟨hx, hb, hml, hown, hts⟩ (kX11_count l htr dC dI adK adV cI cB cJ cZ cQ obC cq_firsts cq_seconds c_count r4 hz4) (cwV 0 hts (g5_60 _) rfl rfl rfl (by decide +kernel) ⟨(by show 0 + 1 ≤ 81; omega), (by show 8 + (1 + 11) + (0) ≤ 2016; omega)⟩) hS hP hK hz0 [12] rfl (va_recv hK hP (ci := 3) (q0 := 12) rfl rfl) rfl rfl hl.1 (Nat.le_of_ble_eq_true rfl) dX5_isWholeFit_26 ⟨Nat.zero_le _, Nat.zero_le _⟩ ?_
        refine lv_icmp_ge (tgt := 70) hx hb dX5_isWholeFit_29 (by decide) (fun c5 => ?_) (fun c5 => ?_)
        · have hm := mr_if c5 hm
          refine lv_iconst (v := 1) hx hb dX5_isWholeFit_70 (by decide) ?_
          obtain rfl := Option.some.inj hm
          subst hQ0
          exact W.zret (v := 1) hx hb hr rfl (fun t ht hW => ⟨⟨1, (c_firsts, c_seconds, c_count), rfl, ⟨rfl, rfl⟩, by rw [ht]; exact hP, va_K.moved hW.alike hK, hD⟩, hS.F ht⟩) hS.2.2 dX5_isWholeFit_71
        · have hm := mr_un c5 hm
          refine lv_iload_n hx hb dX5_isWholeFit_32 rfl (lv_at hl 1 rfl) ?_
          refine lv_sipush (v := 128) hx hb dX5_isWholeFit_33 (by decide) ?_
          refine lv_icmp_ge (tgt := 70) hx hb dX5_isWholeFit_36 (by decide) (fun c6 => ?_) (fun c6 => ?_)
          · have hm := mr_if c6 hm
            refine lv_iconst (v := 1) hx hb dX5_isWholeFit_70 (by decide) ?_
            obtain rfl := Option.some.inj hm
            subst hQ0
            exact W.zret (v := 1) hx hb hr rfl (fun t ht hW => ⟨⟨1, (c_firsts, c_seconds, c_count), rfl, ⟨rfl, rfl⟩, by rw [ht]; exact hP, va_K.moved hW.alike hK, hD⟩, hS.F ht⟩) hS.2.2 dX5_isWholeFit_71
          · have hm := mr_un c6 hm
            refine lv_aload_n hx hb dX5_isWholeFit_39 rfl (lv_at hl 0 rfl) ?_
            refine lv_aload_n hx hb dX5_isWholeFit_40 rfl (lv_at hl 0 rfl) ?_
            refine va_get (D := (dC, dI)) (ci := 7) (v := .ref obC) (C := RX5) (T := TX5) (N := 3) hx hb hts (inX5 _) hown hK hP 0 rfl rfl 2 (by decide) (hts _ (List.mem_cons_of_mem _ wf5_20)) (fun _ h9 => h9) rfl dX5_isWholeFit_41 ?_
            refine lv_iload_n hx hb dX5_isWholeFit_44 rfl (lv_at hl 1 rfl) ?_
            obtain ⟨r7, hz7, hm⟩ := mr_bind hm
            refine mr_pV (As := [.int x1]) (rest := [.ref obP]) (sr_okZ adK adV) ⟨hx, hb, hml, hown, hts⟩ (kX11_first l htr dC dI adK adV cI cB cJ cZ cQ obC cq_firsts cq_seconds c_count c_firsts x1 r7 hz7) (cwV 1 hts (g5_64 _) rfl rfl rfl (by decide +kernel) ⟨(by show 1 + 1 ≤ 81; omega), (by show 8 + (2 + 11) + (21) ≤ 2016; omega)⟩) hS hP hK hz0 [12, 13] rfl (va_recv hK hP (ci := 3) (q0 := 12) rfl rfl) rfl rfl hl.1 (Nat.le_of_ble_eq_true rfl) dX5_isWholeFit_45 ⟨Nat.zero_le _, Nat.zero_le _⟩ ?_
            refine lv_aload_n hx hb dX5_isWholeFit_48 rfl (lv_at hl 0 rfl) ?_
            refine va_get (D := (dC, dI)) (ci := 7) (v := .ref obC) (C := RX5) (T := TX5) (N := 3) hx hb hts (inX5 _) hown hK hP 0 rfl rfl 2 (by decide) (hts _ (List.mem_cons_of_mem _ wf5_20)) (fun _ h9 => h9) rfl dX5_isWholeFit_49 ?_
            refine lv_iload_n hx hb dX5_isWholeFit_52 rfl (lv_at hl 1 rfl) ?_
            obtain ⟨r8, hz8, hm⟩ := mr_bind hm
            refine mr_pV (As := [.int x1]) (rest := [.int r7, .ref obP]) (sr_okZ adK adV) ⟨hx, hb, hml, hown, hts⟩ (kX11_second l htr dC dI adK adV cI cB cJ cZ cQ obC cq_firsts cq_seconds c_count c_seconds x1 r8 hz8) (cwV 1 hts (g5_65 _) rfl rfl rfl (by decide +kernel) ⟨(by show 1 + 1 ≤ 81; omega), (by show 8 + (2 + 11) + (21) ≤ 2016; omega)⟩) hS hP hK hz0 [12, 14] rfl (va_recv hK hP (ci := 3) (q0 := 12) rfl rfl) rfl rfl hl.1 (Nat.le_of_ble_eq_true rfl) dX5_isWholeFit_53 ⟨Nat.zero_le _, Nat.zero_le _⟩ ?_
            obtain ⟨⟨r9, c_firsts_9, c_seconds_9, c_count_9⟩, hz9, hm⟩ := mr_bind hm
            try dsimp only at hm
            refine mr_wVi (As := [.int r7, .int r8]) (rest := []) (sr_okZ adK adV) ⟨hx, hb, hml, hown, hts⟩ (kX5_isFieldsFit1 l htr dC dI adK adV cI cB cJ cZ cQ obP obW obC wq_plain wq_kinds wq_meant wq_firsts wq_nexts wq_names wq_fieldNames wq_amounts wq_fieldDefaults wq_enumDefaults cq_firsts cq_seconds w_letterCount w_slotCount c_count w_plain w_kinds w_meant w_firsts w_nexts w_names w_fieldNames w_amounts w_fieldDefaults w_enumDefaults c_firsts c_seconds _ r7 r8 _ hz9) (cwV 2 hts (g5_68 _) rfl rfl rfl (by decide +kernel) ⟨(by show 80 + 1 ≤ 81; omega), (by show 8 + (6 + 11) + (1991) ≤ 2016; omega)⟩) hS hA hP hD hK hz0 (wr := []) (w1 := [(obP, .inr (7, [.ref obW, .ref obW, .ref obC])), (obW, .inr (8, [.ref wq_plain, .ref wq_kinds, .ref wq_meant, .ref wq_firsts, .ref wq_nexts, .ref wq_names, .ref wq_fieldNames, .ref wq_amounts, .ref wq_fieldDefaults, .ref wq_enumDefaults, .int w_letterCount, .int w_slotCount])), (wq_plain, .inl (cB, 4096, .inl w_plain)), (wq_kinds, .inl (cI, 128, .inl w_kinds)), (wq_meant, .inl (cI, 128, .inl w_meant)), (wq_firsts, .inl (cI, 128, .inl w_firsts)), (wq_nexts, .inl (cI, 128, .inl w_nexts)), (wq_names, .inl (cI, 128, .inl w_names)), (wq_fieldNames, .inl (cI, 128, .inl w_fieldNames)), (wq_amounts, .inl (cI, 128, .inl w_amounts)), (wq_fieldDefaults, .inl (cZ, 128, .inl w_fieldDefaults)), (wq_enumDefaults, .inl (cZ, 128, .inl w_enumDefaults)), (obC, .inr (3, [.ref cq_firsts, .ref cq_seconds, .int c_count_9])), (cq_firsts, .inl (cI, 128, .inl c_firsts_9)), (cq_seconds, .inl (cI, 128, .inl c_seconds_9))]) [0, 1, 2, 3, 4, 5, 6, 7, 8, 9, 10, 11, 12, 13, 14] [] [0, 1, 2, 3, 4, 5, 6, 7, 8, 9, 10, 11, 12, 13, 14] rfl rfl rfl rfl rfl (by decide) rfl rfl rfl (va_recv hK hP (ci := 7) (q0 := 0) rfl rfl) rfl rfl hl.1 (Nat.le_of_ble_eq_true rfl) dX5_isWholeFit_56 ⟨Nat.zero_le _, Nat.zero_le _⟩ (fun H locs hP hD hS => ?_)
            refine lv_if_ne (tgt := 64) hx hb dX5_isWholeFit_59 (by decide) (fun c10 => ?_) (fun c10 => ?_)
            · have hm := mr_un c10 hm
              refine lv_iinc (v := x1 + 1) (lv' := [(1, .int (x1 + 1)), (0, .ref obP)]) hx hb dX5_isWholeFit_64 hl (k := 1) rfl rfl (by decide) rfl (fun ls hl => ?_)
              refine lv_goto (tgt := 21) hx hb dX5_isWholeFit_67 (by decide) ?_
              exact ih21 c_firsts_9 c_seconds_9 c_count_9 (x1 + 1) _ _ ls hP hD hS (lv_sub hl [1, 0] rfl) hm
            · have hm := mr_if c10 hm
              refine lv_iconst (v := 0) hx hb dX5_isWholeFit_62 (by decide) ?_
              obtain rfl := Option.some.inj hm
              subst hQ0
              exact W.zret (v := 0) hx hb hr rfl (fun t ht hW => ⟨⟨0, (c_firsts_9, c_seconds_9, c_count_9), rfl, ⟨rfl, rfl⟩, by rw [ht]; exact hP, va_K.moved hW.alike hK, hD⟩, hS.F ht⟩) hS.2.2 dX5_isWholeFit_63
    refine lv_istore_n (lv' := [(1, .int 0), (0, .ref obP)]) hx hb dX5_isWholeFit_20 rfl hl (by decide) rfl (fun ls hl => ?_)
    exact j21 sr_fuel c_firsts_2 c_seconds_2 c_count_2 0 _ _ ls hP hD hS (lv_sub hl [1, 0] rfl) hm
  · have hm := mr_if c3 hm
    refine lv_iconst (v := 0) hx hb dX5_isWholeFit_17 (by decide) ?_
    obtain rfl := Option.some.inj hm
    subst hQ0
    exact W.zret (v := 0) hx hb hr rfl (fun t ht hW => ⟨⟨0, (c_firsts_2, c_seconds_2, c_count_2), rfl, ⟨rfl, rfl⟩, by rw [ht]; exact hP, va_K.moved hW.alike hK, hD⟩, hS.F ht⟩) hS.2.2 dX5_isWholeFit_18
end
section
theorem mr_by {α : Type} {v : Int32} {a : Option α} {r : α} (h : (if v = 0 ∨ v = 1 then a else none) = some r) : (narrow .boolean (.int v) = .int v ∧ fits .boolean (.int v) = true) ∧ a = some r := by
  by_cases hc : v = 0 ∨ v = 1
  · rw [if_pos hc] at h
    exact ⟨by rcases hc with rfl | rfl <;> exact ⟨by decide +kernel, by decide +kernel⟩, h⟩
  · rw [if_neg hc] at h; cases h
end
