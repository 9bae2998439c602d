-- instructions read off one number: the code's bytes, the first lowest
section DEC
set_option maxRecDepth 100000
def qB (n k : Nat) : Nat := (n >>> (8 * k)) % 256
def qD : Nat → Nat → List Nat
  | 0, _ => []
  | s + 1, n => n % 256 :: qD s (n / 256)
def qOk (c : ByteArray) (n s : Nat) : Bool := qD s n == c.data.toList.map UInt8.toNat
theorem qD_len : ∀ s n, (qD s n).length = s
  | 0, _ => rfl
  | s + 1, n => by rw [qD, List.length_cons, qD_len s]
theorem qD_get : ∀ s n k, k < s → (qD s n)[k]? = some (n / 256 ^ k % 256)
  | 0, _, _, h => absurd h (Nat.not_lt_zero _)
  | s + 1, n, 0, _ => by simp [qD]
  | s + 1, n, k + 1, h => by
    rw [qD, List.getElem?_cons_succ, qD_get s _ k (by omega), Nat.div_div_eq_div_mul, Nat.pow_succ, Nat.mul_comm 256]
theorem qOk_at {c : ByteArray} {n s : Nat} (h : qOk c n s = true) : c.size = s ∧ ∀ k (hk : k < c.size), (c[k]'hk).toNat = qB n k := by
  have e : qD s n = c.data.toList.map UInt8.toNat := eq_of_beq h
  have hs : c.size = s := by
    have := congrArg List.length e
    rw [qD_len, List.length_map, Array.length_toList] at this
    exact this.symm
  refine ⟨hs, fun k hk => ?_⟩
  have g := congrArg (fun l : List Nat => l[k]?) e
  have hk' : k < c.data.size := hk
  rw [qD_get s n k (hs ▸ hk), List.getElem?_map, Array.getElem?_toList, Array.getElem?_eq_getElem hk', Option.map_some] at g
  have p8 : (2 : Nat) ^ 8 = 256 := rfl
  rw [qB, Nat.shiftRight_eq_div_pow, Nat.pow_mul, p8]
  exact (Option.some.inj g).symm
theorem q_u1 {c : ByteArray} {p b : Nat} (h : p < c.size) (hb : (c[p]'h).toNat = b) : (Reader.u1 : Decoder Nat) c p = .ok (b, p + 1) := by
  have e : (Reader.u1 : Decoder Nat) c p = (if h : p < c.size then ((do set (p + 1); pure (c[p]'h).toNat) : Decoder Nat) else throw (HasTruncated.truncated p)) c p := rfl
  rw [e, dif_pos h, ← hb]; rfl
theorem q_bd {α β : Type} (m : Decoder α) (f : α → Decoder β) {c : ByteArray} {p p' : Nat} {a : α} (h : m c p = .ok (a, p')) : (m >>= f) c p = f a c p' := by
  have e : (m >>= f) c p = (m c p >>= fun q => f q.1 c q.2) := rfl
  rw [e, h]; rfl
theorem q_mp {α β : Type} (g : α → β) (m : Decoder α) {c : ByteArray} {p p' : Nat} {a : α} (h : m c p = .ok (a, p')) : (g <$> m) c p = .ok (g a, p') := by
  have e : (g <$> m) c p = (m c p >>= fun q => pure (g q.1, q.2)) := rfl
  rw [e, h]; rfl
theorem q_u2 {c : ByteArray} {p x y : Nat} (h0 : (Reader.u1 : Decoder Nat) c p = .ok (x, p + 1)) (h1 : (Reader.u1 : Decoder Nat) c (p + 1) = .ok (y, p + 2)) : (Reader.u2 : Decoder Nat) c p = .ok (x * 256 + y, p + 2) := by
  show (Reader.u1 >>= fun hi => Reader.u1 >>= fun lo => (pure (hi * 256 + lo) : Decoder Nat)) c p = _
  rw [q_bd _ _ h0, q_bd _ _ h1]; rfl
theorem q_d {c : ByteArray} {pc nx len : Nat} {i : Instr} (h : (Decoder.instr pc) c pc = .ok (i, nx)) (hl : nx - pc = len) : decode c pc = .ok (i, len) := by
  have e : decode c pc = ((Decoder.instr pc) c pc >>= fun q => (pure (q.1, q.2 - pc) : Except DecodeError (Instr × Nat))) := rfl
  rw [e, h, ← hl]; rfl
theorem q_r {c : ByteArray} {n s p b : Nat} (h : qOk c n s = true) (l : p < s) (e : qB n p = b) : (Reader.u1 : Decoder Nat) c p = .ok (b, p + 1) := by
  obtain ⟨hs, hg⟩ := qOk_at h
  exact q_u1 (hs ▸ l) ((hg p (hs ▸ l)).trans e)
def qE1 (n s pc b : Nat) : Bool := Nat.ble (pc + 1) s && Nat.beq (qB n pc) b
def qE2 (n s pc b x : Nat) : Bool := Nat.ble (pc + 2) s && (Nat.beq (qB n pc) b && Nat.beq (qB n (pc + 1)) x)
def qE3 (n s pc b x : Nat) : Bool := Nat.ble (pc + 3) s && (Nat.beq (qB n pc) b && Nat.beq (qB n (pc + 1) * 256 + qB n (pc + 2)) x)
def qS2 (n s pc b : Nat) (x : Int) : Bool := Nat.ble (pc + 2) s && (Nat.beq (qB n pc) b && decide (Reader.signed 8 (qB n (pc + 1)) = x))
def qS3 (n s pc b : Nat) (x : Int) : Bool := Nat.ble (pc + 3) s && (Nat.beq (qB n pc) b && decide (Reader.signed 16 (qB n (pc + 1) * 256 + qB n (pc + 2)) = x))
def qI3 (n s pc b a : Nat) (x : Int) : Bool := Nat.ble (pc + 3) s && (Nat.beq (qB n pc) b && (Nat.beq (qB n (pc + 1)) a && decide (Reader.signed 8 (qB n (pc + 2)) = x)))
variable {c : ByteArray} {n s pc : Nat}
theorem qE1_r {b : Nat} (h : qOk c n s = true) (e : qE1 n s pc b = true) : (Reader.u1 : Decoder Nat) c pc = .ok (b, pc + 1) := by
  simp only [qE1, Bool.and_eq_true, Nat.ble_eq, Nat.beq_eq] at e
  exact q_r h (by omega) e.2
theorem qE2_r {b x : Nat} (h : qOk c n s = true) (e : qE2 n s pc b x = true) : (Reader.u1 : Decoder Nat) c pc = .ok (b, pc + 1) ∧ (Reader.u1 : Decoder Nat) c (pc + 1) = .ok (x, pc + 2) := by
  simp only [qE2, Bool.and_eq_true, Nat.ble_eq, Nat.beq_eq] at e
  exact ⟨q_r h (by omega) e.2.1, q_r h (by omega) e.2.2⟩
theorem qE3_r {b x : Nat} (h : qOk c n s = true) (e : qE3 n s pc b x = true) : (Reader.u1 : Decoder Nat) c pc = .ok (b, pc + 1) ∧ (Reader.u2 : Decoder Nat) c (pc + 1) = .ok (x, pc + 3) := by
  simp only [qE3, Bool.and_eq_true, Nat.ble_eq, Nat.beq_eq] at e
  refine ⟨q_r h (by omega) e.2.1, ?_⟩
  rw [← e.2.2]
  exact q_u2 (q_r h (by omega) rfl) (q_r h (by omega) rfl)
theorem qS2_r {b : Nat} {x : Int} (h : qOk c n s = true) (e : qS2 n s pc b x = true) : (Reader.u1 : Decoder Nat) c pc = .ok (b, pc + 1) ∧ (Reader.s1 : Decoder Int) c (pc + 1) = .ok (x, pc + 2) := by
  simp only [qS2, Bool.and_eq_true, Nat.ble_eq, Nat.beq_eq, decide_eq_true_eq] at e
  refine ⟨q_r h (by omega) e.2.1, ?_⟩
  rw [← e.2.2]
  exact q_mp _ _ (q_r h (by omega) rfl)
theorem qS3_r {b : Nat} {x : Int} (h : qOk c n s = true) (e : qS3 n s pc b x = true) : (Reader.u1 : Decoder Nat) c pc = .ok (b, pc + 1) ∧ (Reader.s2 : Decoder Int) c (pc + 1) = .ok (x, pc + 3) := by
  simp only [qS3, Bool.and_eq_true, Nat.ble_eq, Nat.beq_eq, decide_eq_true_eq] at e
  refine ⟨q_r h (by omega) e.2.1, ?_⟩
  rw [← e.2.2]
  exact q_mp _ _ (q_u2 (q_r h (by omega) rfl) (q_r h (by omega) rfl))
theorem qI3_r {b a : Nat} {x : Int} (h : qOk c n s = true) (e : qI3 n s pc b a x = true) : (Reader.u1 : Decoder Nat) c pc = .ok (b, pc + 1) ∧ (Reader.u1 : Decoder Nat) c (pc + 1) = .ok (a, pc + 2) ∧ (Reader.s1 : Decoder Int) c (pc + 2) = .ok (x, pc + 3) := by
  simp only [qI3, Bool.and_eq_true, Nat.ble_eq, Nat.beq_eq, decide_eq_true_eq] at e
  refine ⟨q_r h (by omega) e.2.1, q_r h (by omega) e.2.2.1, ?_⟩
  rw [← e.2.2.2]
  exact q_mp _ _ (q_r h (by omega) rfl)
theorem qd_2 (h : qOk c n s = true) (e : qE1 n s pc 2 = true) : decode c pc = .ok (.iconst (-1), 1) := by
  refine q_d (nx := pc + 1) ?_ (Nat.add_sub_cancel_left _ _)
  unfold Decoder.instr
  exact (q_bd _ _ (qE1_r h e)).trans rfl
theorem qd_3 (h : qOk c n s = true) (e : qE1 n s pc 3 = true) : decode c pc = .ok (.iconst 0, 1) := by
  refine q_d (nx := pc + 1) ?_ (Nat.add_sub_cancel_left _ _)
  unfold Decoder.instr
  exact (q_bd _ _ (qE1_r h e)).trans rfl
theorem qd_4 (h : qOk c n s = true) (e : qE1 n s pc 4 = true) : decode c pc = .ok (.iconst 1, 1) := by
  refine q_d (nx := pc + 1) ?_ (Nat.add_sub_cancel_left _ _)
  unfold Decoder.instr
  exact (q_bd _ _ (qE1_r h e)).trans rfl
theorem qd_5 (h : qOk c n s = true) (e : qE1 n s pc 5 = true) : decode c pc = .ok (.iconst 2, 1) := by
  refine q_d (nx := pc + 1) ?_ (Nat.add_sub_cancel_left _ _)
  unfold Decoder.instr
  exact (q_bd _ _ (qE1_r h e)).trans rfl
theorem qd_6 (h : qOk c n s = true) (e : qE1 n s pc 6 = true) : decode c pc = .ok (.iconst 3, 1) := by
  refine q_d (nx := pc + 1) ?_ (Nat.add_sub_cancel_left _ _)
  unfold Decoder.instr
  exact (q_bd _ _ (qE1_r h e)).trans rfl
theorem qd_7 (h : qOk c n s = true) (e : qE1 n s pc 7 = true) : decode c pc = .ok (.iconst 4, 1) := by
  refine q_d (nx := pc + 1) ?_ (Nat.add_sub_cancel_left _ _)
  unfold Decoder.instr
  exact (q_bd _ _ (qE1_r h e)).trans rfl
theorem qd_8 (h : qOk c n s = true) (e : qE1 n s pc 8 = true) : decode c pc = .ok (.iconst 5, 1) := by
  refine q_d (nx := pc + 1) ?_ (Nat.add_sub_cancel_left _ _)
  unfold Decoder.instr
  exact (q_bd _ _ (qE1_r h e)).trans rfl
theorem qd_9 (h : qOk c n s = true) (e : qE1 n s pc 9 = true) : decode c pc = .ok (.lconst 0, 1) := by
  refine q_d (nx := pc + 1) ?_ (Nat.add_sub_cancel_left _ _)
  unfold Decoder.instr
  exact (q_bd _ _ (qE1_r h e)).trans rfl
theorem qd_10 (h : qOk c n s = true) (e : qE1 n s pc 10 = true) : decode c pc = .ok (.lconst 1, 1) := by
  refine q_d (nx := pc + 1) ?_ (Nat.add_sub_cancel_left _ _)
  unfold Decoder.instr
  exact (q_bd _ _ (qE1_r h e)).trans rfl
theorem qd_26 (h : qOk c n s = true) (e : qE1 n s pc 26 = true) : decode c pc = .ok (.iload_n 0, 1) := by
  refine q_d (nx := pc + 1) ?_ (Nat.add_sub_cancel_left _ _)
  unfold Decoder.instr
  exact (q_bd _ _ (qE1_r h e)).trans rfl
theorem qd_27 (h : qOk c n s = true) (e : qE1 n s pc 27 = true) : decode c pc = .ok (.iload_n 1, 1) := by
  refine q_d (nx := pc + 1) ?_ (Nat.add_sub_cancel_left _ _)
  unfold Decoder.instr
  exact (q_bd _ _ (qE1_r h e)).trans rfl
theorem qd_28 (h : qOk c n s = true) (e : qE1 n s pc 28 = true) : decode c pc = .ok (.iload_n 2, 1) := by
  refine q_d (nx := pc + 1) ?_ (Nat.add_sub_cancel_left _ _)
  unfold Decoder.instr
  exact (q_bd _ _ (qE1_r h e)).trans rfl
theorem qd_29 (h : qOk c n s = true) (e : qE1 n s pc 29 = true) : decode c pc = .ok (.iload_n 3, 1) := by
  refine q_d (nx := pc + 1) ?_ (Nat.add_sub_cancel_left _ _)
  unfold Decoder.instr
  exact (q_bd _ _ (qE1_r h e)).trans rfl
theorem qd_31 (h : qOk c n s = true) (e : qE1 n s pc 31 = true) : decode c pc = .ok (.lload_n 1, 1) := by
  refine q_d (nx := pc + 1) ?_ (Nat.add_sub_cancel_left _ _)
  unfold Decoder.instr
  exact (q_bd _ _ (qE1_r h e)).trans rfl
theorem qd_33 (h : qOk c n s = true) (e : qE1 n s pc 33 = true) : decode c pc = .ok (.lload_n 3, 1) := by
  refine q_d (nx := pc + 1) ?_ (Nat.add_sub_cancel_left _ _)
  unfold Decoder.instr
  exact (q_bd _ _ (qE1_r h e)).trans rfl
theorem qd_42 (h : qOk c n s = true) (e : qE1 n s pc 42 = true) : decode c pc = .ok (.aload_n 0, 1) := by
  refine q_d (nx := pc + 1) ?_ (Nat.add_sub_cancel_left _ _)
  unfold Decoder.instr
  exact (q_bd _ _ (qE1_r h e)).trans rfl
theorem qd_43 (h : qOk c n s = true) (e : qE1 n s pc 43 = true) : decode c pc = .ok (.aload_n 1, 1) := by
  refine q_d (nx := pc + 1) ?_ (Nat.add_sub_cancel_left _ _)
  unfold Decoder.instr
  exact (q_bd _ _ (qE1_r h e)).trans rfl
theorem qd_44 (h : qOk c n s = true) (e : qE1 n s pc 44 = true) : decode c pc = .ok (.aload_n 2, 1) := by
  refine q_d (nx := pc + 1) ?_ (Nat.add_sub_cancel_left _ _)
  unfold Decoder.instr
  exact (q_bd _ _ (qE1_r h e)).trans rfl
theorem qd_45 (h : qOk c n s = true) (e : qE1 n s pc 45 = true) : decode c pc = .ok (.aload_n 3, 1) := by
  refine q_d (nx := pc + 1) ?_ (Nat.add_sub_cancel_left _ _)
  unfold Decoder.instr
  exact (q_bd _ _ (qE1_r h e)).trans rfl
theorem qd_46 (h : qOk c n s = true) (e : qE1 n s pc 46 = true) : decode c pc = .ok (.iaload, 1) := by
  refine q_d (nx := pc + 1) ?_ (Nat.add_sub_cancel_left _ _)
  unfold Decoder.instr
  exact (q_bd _ _ (qE1_r h e)).trans rfl
theorem qd_47 (h : qOk c n s = true) (e : qE1 n s pc 47 = true) : decode c pc = .ok (.laload, 1) := by
  refine q_d (nx := pc + 1) ?_ (Nat.add_sub_cancel_left _ _)
  unfold Decoder.instr
  exact (q_bd _ _ (qE1_r h e)).trans rfl
theorem qd_50 (h : qOk c n s = true) (e : qE1 n s pc 50 = true) : decode c pc = .ok (.aaload, 1) := by
  refine q_d (nx := pc + 1) ?_ (Nat.add_sub_cancel_left _ _)
  unfold Decoder.instr
  exact (q_bd _ _ (qE1_r h e)).trans rfl
theorem qd_51 (h : qOk c n s = true) (e : qE1 n s pc 51 = true) : decode c pc = .ok (.baload, 1) := by
  refine q_d (nx := pc + 1) ?_ (Nat.add_sub_cancel_left _ _)
  unfold Decoder.instr
  exact (q_bd _ _ (qE1_r h e)).trans rfl
theorem qd_60 (h : qOk c n s = true) (e : qE1 n s pc 60 = true) : decode c pc = .ok (.istore_n 1, 1) := by
  refine q_d (nx := pc + 1) ?_ (Nat.add_sub_cancel_left _ _)
  unfold Decoder.instr
  exact (q_bd _ _ (qE1_r h e)).trans rfl
theorem qd_61 (h : qOk c n s = true) (e : qE1 n s pc 61 = true) : decode c pc = .ok (.istore_n 2, 1) := by
  refine q_d (nx := pc + 1) ?_ (Nat.add_sub_cancel_left _ _)
  unfold Decoder.instr
  exact (q_bd _ _ (qE1_r h e)).trans rfl
theorem qd_62 (h : qOk c n s = true) (e : qE1 n s pc 62 = true) : decode c pc = .ok (.istore_n 3, 1) := by
  refine q_d (nx := pc + 1) ?_ (Nat.add_sub_cancel_left _ _)
  unfold Decoder.instr
  exact (q_bd _ _ (qE1_r h e)).trans rfl
theorem qd_64 (h : qOk c n s = true) (e : qE1 n s pc 64 = true) : decode c pc = .ok (.lstore_n 1, 1) := by
  refine q_d (nx := pc + 1) ?_ (Nat.add_sub_cancel_left _ _)
  unfold Decoder.instr
  exact (q_bd _ _ (qE1_r h e)).trans rfl
theorem qd_66 (h : qOk c n s = true) (e : qE1 n s pc 66 = true) : decode c pc = .ok (.lstore_n 3, 1) := by
  refine q_d (nx := pc + 1) ?_ (Nat.add_sub_cancel_left _ _)
  unfold Decoder.instr
  exact (q_bd _ _ (qE1_r h e)).trans rfl
theorem qd_76 (h : qOk c n s = true) (e : qE1 n s pc 76 = true) : decode c pc = .ok (.astore_n 1, 1) := by
  refine q_d (nx := pc + 1) ?_ (Nat.add_sub_cancel_left _ _)
  unfold Decoder.instr
  exact (q_bd _ _ (qE1_r h e)).trans rfl
theorem qd_77 (h : qOk c n s = true) (e : qE1 n s pc 77 = true) : decode c pc = .ok (.astore_n 2, 1) := by
  refine q_d (nx := pc + 1) ?_ (Nat.add_sub_cancel_left _ _)
  unfold Decoder.instr
  exact (q_bd _ _ (qE1_r h e)).trans rfl
theorem qd_78 (h : qOk c n s = true) (e : qE1 n s pc 78 = true) : decode c pc = .ok (.astore_n 3, 1) := by
  refine q_d (nx := pc + 1) ?_ (Nat.add_sub_cancel_left _ _)
  unfold Decoder.instr
  exact (q_bd _ _ (qE1_r h e)).trans rfl
theorem qd_79 (h : qOk c n s = true) (e : qE1 n s pc 79 = true) : decode c pc = .ok (.iastore, 1) := by
  refine q_d (nx := pc + 1) ?_ (Nat.add_sub_cancel_left _ _)
  unfold Decoder.instr
  exact (q_bd _ _ (qE1_r h e)).trans rfl
theorem qd_80 (h : qOk c n s = true) (e : qE1 n s pc 80 = true) : decode c pc = .ok (.lastore, 1) := by
  refine q_d (nx := pc + 1) ?_ (Nat.add_sub_cancel_left _ _)
  unfold Decoder.instr
  exact (q_bd _ _ (qE1_r h e)).trans rfl
theorem qd_83 (h : qOk c n s = true) (e : qE1 n s pc 83 = true) : decode c pc = .ok (.aastore, 1) := by
  refine q_d (nx := pc + 1) ?_ (Nat.add_sub_cancel_left _ _)
  unfold Decoder.instr
  exact (q_bd _ _ (qE1_r h e)).trans rfl
theorem qd_84 (h : qOk c n s = true) (e : qE1 n s pc 84 = true) : decode c pc = .ok (.bastore, 1) := by
  refine q_d (nx := pc + 1) ?_ (Nat.add_sub_cancel_left _ _)
  unfold Decoder.instr
  exact (q_bd _ _ (qE1_r h e)).trans rfl
theorem qd_87 (h : qOk c n s = true) (e : qE1 n s pc 87 = true) : decode c pc = .ok (.pop, 1) := by
  refine q_d (nx := pc + 1) ?_ (Nat.add_sub_cancel_left _ _)
  unfold Decoder.instr
  exact (q_bd _ _ (qE1_r h e)).trans rfl
theorem qd_88 (h : qOk c n s = true) (e : qE1 n s pc 88 = true) : decode c pc = .ok (.pop2, 1) := by
  refine q_d (nx := pc + 1) ?_ (Nat.add_sub_cancel_left _ _)
  unfold Decoder.instr
  exact (q_bd _ _ (qE1_r h e)).trans rfl
theorem qd_89 (h : qOk c n s = true) (e : qE1 n s pc 89 = true) : decode c pc = .ok (.dup, 1) := by
  refine q_d (nx := pc + 1) ?_ (Nat.add_sub_cancel_left _ _)
  unfold Decoder.instr
  exact (q_bd _ _ (qE1_r h e)).trans rfl
theorem qd_92 (h : qOk c n s = true) (e : qE1 n s pc 92 = true) : decode c pc = .ok (.dup2, 1) := by
  refine q_d (nx := pc + 1) ?_ (Nat.add_sub_cancel_left _ _)
  unfold Decoder.instr
  exact (q_bd _ _ (qE1_r h e)).trans rfl
theorem qd_96 (h : qOk c n s = true) (e : qE1 n s pc 96 = true) : decode c pc = .ok (.iadd, 1) := by
  refine q_d (nx := pc + 1) ?_ (Nat.add_sub_cancel_left _ _)
  unfold Decoder.instr
  exact (q_bd _ _ (qE1_r h e)).trans rfl
theorem qd_100 (h : qOk c n s = true) (e : qE1 n s pc 100 = true) : decode c pc = .ok (.isub, 1) := by
  refine q_d (nx := pc + 1) ?_ (Nat.add_sub_cancel_left _ _)
  unfold Decoder.instr
  exact (q_bd _ _ (qE1_r h e)).trans rfl
theorem qd_101 (h : qOk c n s = true) (e : qE1 n s pc 101 = true) : decode c pc = .ok (.lsub, 1) := by
  refine q_d (nx := pc + 1) ?_ (Nat.add_sub_cancel_left _ _)
  unfold Decoder.instr
  exact (q_bd _ _ (qE1_r h e)).trans rfl
theorem qd_104 (h : qOk c n s = true) (e : qE1 n s pc 104 = true) : decode c pc = .ok (.imul, 1) := by
  refine q_d (nx := pc + 1) ?_ (Nat.add_sub_cancel_left _ _)
  unfold Decoder.instr
  exact (q_bd _ _ (qE1_r h e)).trans rfl
theorem qd_105 (h : qOk c n s = true) (e : qE1 n s pc 105 = true) : decode c pc = .ok (.lmul, 1) := by
  refine q_d (nx := pc + 1) ?_ (Nat.add_sub_cancel_left _ _)
  unfold Decoder.instr
  exact (q_bd _ _ (qE1_r h e)).trans rfl
theorem qd_108 (h : qOk c n s = true) (e : qE1 n s pc 108 = true) : decode c pc = .ok (.idiv, 1) := by
  refine q_d (nx := pc + 1) ?_ (Nat.add_sub_cancel_left _ _)
  unfold Decoder.instr
  exact (q_bd _ _ (qE1_r h e)).trans rfl
theorem qd_112 (h : qOk c n s = true) (e : qE1 n s pc 112 = true) : decode c pc = .ok (.irem, 1) := by
  refine q_d (nx := pc + 1) ?_ (Nat.add_sub_cancel_left _ _)
  unfold Decoder.instr
  exact (q_bd _ _ (qE1_r h e)).trans rfl
theorem qd_117 (h : qOk c n s = true) (e : qE1 n s pc 117 = true) : decode c pc = .ok (.lneg, 1) := by
  refine q_d (nx := pc + 1) ?_ (Nat.add_sub_cancel_left _ _)
  unfold Decoder.instr
  exact (q_bd _ _ (qE1_r h e)).trans rfl
theorem qd_122 (h : qOk c n s = true) (e : qE1 n s pc 122 = true) : decode c pc = .ok (.ishr, 1) := by
  refine q_d (nx := pc + 1) ?_ (Nat.add_sub_cancel_left _ _)
  unfold Decoder.instr
  exact (q_bd _ _ (qE1_r h e)).trans rfl
theorem qd_124 (h : qOk c n s = true) (e : qE1 n s pc 124 = true) : decode c pc = .ok (.iushr, 1) := by
  refine q_d (nx := pc + 1) ?_ (Nat.add_sub_cancel_left _ _)
  unfold Decoder.instr
  exact (q_bd _ _ (qE1_r h e)).trans rfl
theorem qd_125 (h : qOk c n s = true) (e : qE1 n s pc 125 = true) : decode c pc = .ok (.lushr, 1) := by
  refine q_d (nx := pc + 1) ?_ (Nat.add_sub_cancel_left _ _)
  unfold Decoder.instr
  exact (q_bd _ _ (qE1_r h e)).trans rfl
theorem qd_126 (h : qOk c n s = true) (e : qE1 n s pc 126 = true) : decode c pc = .ok (.iand, 1) := by
  refine q_d (nx := pc + 1) ?_ (Nat.add_sub_cancel_left _ _)
  unfold Decoder.instr
  exact (q_bd _ _ (qE1_r h e)).trans rfl
theorem qd_127 (h : qOk c n s = true) (e : qE1 n s pc 127 = true) : decode c pc = .ok (.land, 1) := by
  refine q_d (nx := pc + 1) ?_ (Nat.add_sub_cancel_left _ _)
  unfold Decoder.instr
  exact (q_bd _ _ (qE1_r h e)).trans rfl
theorem qd_131 (h : qOk c n s = true) (e : qE1 n s pc 131 = true) : decode c pc = .ok (.lxor, 1) := by
  refine q_d (nx := pc + 1) ?_ (Nat.add_sub_cancel_left _ _)
  unfold Decoder.instr
  exact (q_bd _ _ (qE1_r h e)).trans rfl
theorem qd_133 (h : qOk c n s = true) (e : qE1 n s pc 133 = true) : decode c pc = .ok (.i2l, 1) := by
  refine q_d (nx := pc + 1) ?_ (Nat.add_sub_cancel_left _ _)
  unfold Decoder.instr
  exact (q_bd _ _ (qE1_r h e)).trans rfl
theorem qd_136 (h : qOk c n s = true) (e : qE1 n s pc 136 = true) : decode c pc = .ok (.l2i, 1) := by
  refine q_d (nx := pc + 1) ?_ (Nat.add_sub_cancel_left _ _)
  unfold Decoder.instr
  exact (q_bd _ _ (qE1_r h e)).trans rfl
theorem qd_145 (h : qOk c n s = true) (e : qE1 n s pc 145 = true) : decode c pc = .ok (.i2b, 1) := by
  refine q_d (nx := pc + 1) ?_ (Nat.add_sub_cancel_left _ _)
  unfold Decoder.instr
  exact (q_bd _ _ (qE1_r h e)).trans rfl
theorem qd_146 (h : qOk c n s = true) (e : qE1 n s pc 146 = true) : decode c pc = .ok (.i2c, 1) := by
  refine q_d (nx := pc + 1) ?_ (Nat.add_sub_cancel_left _ _)
  unfold Decoder.instr
  exact (q_bd _ _ (qE1_r h e)).trans rfl
theorem qd_148 (h : qOk c n s = true) (e : qE1 n s pc 148 = true) : decode c pc = .ok (.lcmp, 1) := by
  refine q_d (nx := pc + 1) ?_ (Nat.add_sub_cancel_left _ _)
  unfold Decoder.instr
  exact (q_bd _ _ (qE1_r h e)).trans rfl
theorem qd_172 (h : qOk c n s = true) (e : qE1 n s pc 172 = true) : decode c pc = .ok (.ireturn, 1) := by
  refine q_d (nx := pc + 1) ?_ (Nat.add_sub_cancel_left _ _)
  unfold Decoder.instr
  exact (q_bd _ _ (qE1_r h e)).trans rfl
theorem qd_173 (h : qOk c n s = true) (e : qE1 n s pc 173 = true) : decode c pc = .ok (.lreturn, 1) := by
  refine q_d (nx := pc + 1) ?_ (Nat.add_sub_cancel_left _ _)
  unfold Decoder.instr
  exact (q_bd _ _ (qE1_r h e)).trans rfl
theorem qd_176 (h : qOk c n s = true) (e : qE1 n s pc 176 = true) : decode c pc = .ok (.areturn, 1) := by
  refine q_d (nx := pc + 1) ?_ (Nat.add_sub_cancel_left _ _)
  unfold Decoder.instr
  exact (q_bd _ _ (qE1_r h e)).trans rfl
theorem qd_177 (h : qOk c n s = true) (e : qE1 n s pc 177 = true) : decode c pc = .ok (.return_, 1) := by
  refine q_d (nx := pc + 1) ?_ (Nat.add_sub_cancel_left _ _)
  unfold Decoder.instr
  exact (q_bd _ _ (qE1_r h e)).trans rfl
theorem qd_190 (h : qOk c n s = true) (e : qE1 n s pc 190 = true) : decode c pc = .ok (.arraylength, 1) := by
  refine q_d (nx := pc + 1) ?_ (Nat.add_sub_cancel_left _ _)
  unfold Decoder.instr
  exact (q_bd _ _ (qE1_r h e)).trans rfl
theorem qd_191 (h : qOk c n s = true) (e : qE1 n s pc 191 = true) : decode c pc = .ok (.athrow, 1) := by
  refine q_d (nx := pc + 1) ?_ (Nat.add_sub_cancel_left _ _)
  unfold Decoder.instr
  exact (q_bd _ _ (qE1_r h e)).trans rfl
theorem qd_18 {x : Nat} (h : qOk c n s = true) (e : qE2 n s pc 18 x = true) : decode c pc = .ok (.ldc x, 2) := by
  refine q_d (nx := pc + 2) ?_ (Nat.add_sub_cancel_left _ _)
  unfold Decoder.instr
  refine (q_bd _ _ (qE2_r h e).1).trans ?_
  show (Reader.u1 >>= fun a => (pure (.ldc a) : Decoder Instr)) c (pc + 1) = _
  exact (q_bd _ _ (qE2_r h e).2).trans rfl
theorem qd_21 {x : Nat} (h : qOk c n s = true) (e : qE2 n s pc 21 x = true) : decode c pc = .ok (.iload x, 2) := by
  refine q_d (nx := pc + 2) ?_ (Nat.add_sub_cancel_left _ _)
  unfold Decoder.instr
  refine (q_bd _ _ (qE2_r h e).1).trans ?_
  show (Reader.u1 >>= fun a => (pure (.iload a) : Decoder Instr)) c (pc + 1) = _
  exact (q_bd _ _ (qE2_r h e).2).trans rfl
theorem qd_22 {x : Nat} (h : qOk c n s = true) (e : qE2 n s pc 22 x = true) : decode c pc = .ok (.lload x, 2) := by
  refine q_d (nx := pc + 2) ?_ (Nat.add_sub_cancel_left _ _)
  unfold Decoder.instr
  refine (q_bd _ _ (qE2_r h e).1).trans ?_
  show (Reader.u1 >>= fun a => (pure (.lload a) : Decoder Instr)) c (pc + 1) = _
  exact (q_bd _ _ (qE2_r h e).2).trans rfl
theorem qd_25 {x : Nat} (h : qOk c n s = true) (e : qE2 n s pc 25 x = true) : decode c pc = .ok (.aload x, 2) := by
  refine q_d (nx := pc + 2) ?_ (Nat.add_sub_cancel_left _ _)
  unfold Decoder.instr
  refine (q_bd _ _ (qE2_r h e).1).trans ?_
  show (Reader.u1 >>= fun a => (pure (.aload a) : Decoder Instr)) c (pc + 1) = _
  exact (q_bd _ _ (qE2_r h e).2).trans rfl
theorem qd_54 {x : Nat} (h : qOk c n s = true) (e : qE2 n s pc 54 x = true) : decode c pc = .ok (.istore x, 2) := by
  refine q_d (nx := pc + 2) ?_ (Nat.add_sub_cancel_left _ _)
  unfold Decoder.instr
  refine (q_bd _ _ (qE2_r h e).1).trans ?_
  show (Reader.u1 >>= fun a => (pure (.istore a) : Decoder Instr)) c (pc + 1) = _
  exact (q_bd _ _ (qE2_r h e).2).trans rfl
theorem qd_55 {x : Nat} (h : qOk c n s = true) (e : qE2 n s pc 55 x = true) : decode c pc = .ok (.lstore x, 2) := by
  refine q_d (nx := pc + 2) ?_ (Nat.add_sub_cancel_left _ _)
  unfold Decoder.instr
  refine (q_bd _ _ (qE2_r h e).1).trans ?_
  show (Reader.u1 >>= fun a => (pure (.lstore a) : Decoder Instr)) c (pc + 1) = _
  exact (q_bd _ _ (qE2_r h e).2).trans rfl
theorem qd_58 {x : Nat} (h : qOk c n s = true) (e : qE2 n s pc 58 x = true) : decode c pc = .ok (.astore x, 2) := by
  refine q_d (nx := pc + 2) ?_ (Nat.add_sub_cancel_left _ _)
  unfold Decoder.instr
  refine (q_bd _ _ (qE2_r h e).1).trans ?_
  show (Reader.u1 >>= fun a => (pure (.astore a) : Decoder Instr)) c (pc + 1) = _
  exact (q_bd _ _ (qE2_r h e).2).trans rfl
theorem qd_19 {x : Nat} (h : qOk c n s = true) (e : qE3 n s pc 19 x = true) : decode c pc = .ok (.ldc_w x, 3) := by
  refine q_d (nx := pc + 3) ?_ (Nat.add_sub_cancel_left _ _)
  unfold Decoder.instr
  refine (q_bd _ _ (qE3_r h e).1).trans ?_
  show (Reader.u2 >>= fun a => (pure (.ldc_w a) : Decoder Instr)) c (pc + 1) = _
  exact (q_bd _ _ (qE3_r h e).2).trans rfl
theorem qd_20 {x : Nat} (h : qOk c n s = true) (e : qE3 n s pc 20 x = true) : decode c pc = .ok (.ldc2_w x, 3) := by
  refine q_d (nx := pc + 3) ?_ (Nat.add_sub_cancel_left _ _)
  unfold Decoder.instr
  refine (q_bd _ _ (qE3_r h e).1).trans ?_
  show (Reader.u2 >>= fun a => (pure (.ldc2_w a) : Decoder Instr)) c (pc + 1) = _
  exact (q_bd _ _ (qE3_r h e).2).trans rfl
theorem qd_178 {x : Nat} (h : qOk c n s = true) (e : qE3 n s pc 178 x = true) : decode c pc = .ok (.getstatic x, 3) := by
  refine q_d (nx := pc + 3) ?_ (Nat.add_sub_cancel_left _ _)
  unfold Decoder.instr
  refine (q_bd _ _ (qE3_r h e).1).trans ?_
  show (Reader.u2 >>= fun a => (pure (.getstatic a) : Decoder Instr)) c (pc + 1) = _
  exact (q_bd _ _ (qE3_r h e).2).trans rfl
theorem qd_180 {x : Nat} (h : qOk c n s = true) (e : qE3 n s pc 180 x = true) : decode c pc = .ok (.getfield x, 3) := by
  refine q_d (nx := pc + 3) ?_ (Nat.add_sub_cancel_left _ _)
  unfold Decoder.instr
  refine (q_bd _ _ (qE3_r h e).1).trans ?_
  show (Reader.u2 >>= fun a => (pure (.getfield a) : Decoder Instr)) c (pc + 1) = _
  exact (q_bd _ _ (qE3_r h e).2).trans rfl
theorem qd_181 {x : Nat} (h : qOk c n s = true) (e : qE3 n s pc 181 x = true) : decode c pc = .ok (.putfield x, 3) := by
  refine q_d (nx := pc + 3) ?_ (Nat.add_sub_cancel_left _ _)
  unfold Decoder.instr
  refine (q_bd _ _ (qE3_r h e).1).trans ?_
  show (Reader.u2 >>= fun a => (pure (.putfield a) : Decoder Instr)) c (pc + 1) = _
  exact (q_bd _ _ (qE3_r h e).2).trans rfl
theorem qd_182 {x : Nat} (h : qOk c n s = true) (e : qE3 n s pc 182 x = true) : decode c pc = .ok (.invokevirtual x, 3) := by
  refine q_d (nx := pc + 3) ?_ (Nat.add_sub_cancel_left _ _)
  unfold Decoder.instr
  refine (q_bd _ _ (qE3_r h e).1).trans ?_
  show (Reader.u2 >>= fun a => (pure (.invokevirtual a) : Decoder Instr)) c (pc + 1) = _
  exact (q_bd _ _ (qE3_r h e).2).trans rfl
theorem qd_183 {x : Nat} (h : qOk c n s = true) (e : qE3 n s pc 183 x = true) : decode c pc = .ok (.invokespecial x, 3) := by
  refine q_d (nx := pc + 3) ?_ (Nat.add_sub_cancel_left _ _)
  unfold Decoder.instr
  refine (q_bd _ _ (qE3_r h e).1).trans ?_
  show (Reader.u2 >>= fun a => (pure (.invokespecial a) : Decoder Instr)) c (pc + 1) = _
  exact (q_bd _ _ (qE3_r h e).2).trans rfl
theorem qd_184 {x : Nat} (h : qOk c n s = true) (e : qE3 n s pc 184 x = true) : decode c pc = .ok (.invokestatic x, 3) := by
  refine q_d (nx := pc + 3) ?_ (Nat.add_sub_cancel_left _ _)
  unfold Decoder.instr
  refine (q_bd _ _ (qE3_r h e).1).trans ?_
  show (Reader.u2 >>= fun a => (pure (.invokestatic a) : Decoder Instr)) c (pc + 1) = _
  exact (q_bd _ _ (qE3_r h e).2).trans rfl
theorem qd_187 {x : Nat} (h : qOk c n s = true) (e : qE3 n s pc 187 x = true) : decode c pc = .ok (.new x, 3) := by
  refine q_d (nx := pc + 3) ?_ (Nat.add_sub_cancel_left _ _)
  unfold Decoder.instr
  refine (q_bd _ _ (qE3_r h e).1).trans ?_
  show (Reader.u2 >>= fun a => (pure (.new a) : Decoder Instr)) c (pc + 1) = _
  exact (q_bd _ _ (qE3_r h e).2).trans rfl
theorem qd_189 {x : Nat} (h : qOk c n s = true) (e : qE3 n s pc 189 x = true) : decode c pc = .ok (.anewarray x, 3) := by
  refine q_d (nx := pc + 3) ?_ (Nat.add_sub_cancel_left _ _)
  unfold Decoder.instr
  refine (q_bd _ _ (qE3_r h e).1).trans ?_
  show (Reader.u2 >>= fun a => (pure (.anewarray a) : Decoder Instr)) c (pc + 1) = _
  exact (q_bd _ _ (qE3_r h e).2).trans rfl
theorem qd_16 {x : Int} (h : qOk c n s = true) (e : qS2 n s pc 16 x = true) : decode c pc = .ok (.bipush x, 2) := by
  refine q_d (nx := pc + 2) ?_ (Nat.add_sub_cancel_left _ _)
  unfold Decoder.instr
  refine (q_bd _ _ (qS2_r h e).1).trans ?_
  show (Reader.s1 >>= fun a => (pure (.bipush a) : Decoder Instr)) c (pc + 1) = _
  exact (q_bd _ _ (qS2_r h e).2).trans rfl
theorem qd_17 {x : Int} (h : qOk c n s = true) (e : qS3 n s pc 17 x = true) : decode c pc = .ok (.sipush x, 3) := by
  refine q_d (nx := pc + 3) ?_ (Nat.add_sub_cancel_left _ _)
  unfold Decoder.instr
  refine (q_bd _ _ (qS3_r h e).1).trans ?_
  show (Reader.s2 >>= fun a => (pure (.sipush a) : Decoder Instr)) c (pc + 1) = _
  exact (q_bd _ _ (qS3_r h e).2).trans rfl
theorem qd_167 {x : Int} (h : qOk c n s = true) (e : qS3 n s pc 167 x = true) : decode c pc = .ok (.goto x, 3) := by
  refine q_d (nx := pc + 3) ?_ (Nat.add_sub_cancel_left _ _)
  unfold Decoder.instr
  refine (q_bd _ _ (qS3_r h e).1).trans ?_
  show (Reader.s2 >>= fun a => (pure (.goto a) : Decoder Instr)) c (pc + 1) = _
  exact (q_bd _ _ (qS3_r h e).2).trans rfl
theorem qd_198 {x : Int} (h : qOk c n s = true) (e : qS3 n s pc 198 x = true) : decode c pc = .ok (.ifnull x, 3) := by
  refine q_d (nx := pc + 3) ?_ (Nat.add_sub_cancel_left _ _)
  unfold Decoder.instr
  refine (q_bd _ _ (qS3_r h e).1).trans ?_
  show (Reader.s2 >>= fun a => (pure (.ifnull a) : Decoder Instr)) c (pc + 1) = _
  exact (q_bd _ _ (qS3_r h e).2).trans rfl
theorem qd_199 {x : Int} (h : qOk c n s = true) (e : qS3 n s pc 199 x = true) : decode c pc = .ok (.ifnonnull x, 3) := by
  refine q_d (nx := pc + 3) ?_ (Nat.add_sub_cancel_left _ _)
  unfold Decoder.instr
  refine (q_bd _ _ (qS3_r h e).1).trans ?_
  show (Reader.s2 >>= fun a => (pure (.ifnonnull a) : Decoder Instr)) c (pc + 1) = _
  exact (q_bd _ _ (qS3_r h e).2).trans rfl
theorem qd_153 {x : Int} (h : qOk c n s = true) (e : qS3 n s pc 153 x = true) : decode c pc = .ok (.ifCond .eq x, 3) := by
  refine q_d (nx := pc + 3) ?_ (Nat.add_sub_cancel_left _ _)
  unfold Decoder.instr
  refine (q_bd _ _ (qS3_r h e).1).trans ?_
  show (Reader.s2 >>= fun a => (pure (.ifCond .eq a) : Decoder Instr)) c (pc + 1) = _
  exact (q_bd _ _ (qS3_r h e).2).trans rfl
theorem qd_159 {x : Int} (h : qOk c n s = true) (e : qS3 n s pc 159 x = true) : decode c pc = .ok (.if_icmp .eq x, 3) := by
  refine q_d (nx := pc + 3) ?_ (Nat.add_sub_cancel_left _ _)
  unfold Decoder.instr
  refine (q_bd _ _ (qS3_r h e).1).trans ?_
  show (Reader.s2 >>= fun a => (pure (.if_icmp .eq a) : Decoder Instr)) c (pc + 1) = _
  exact (q_bd _ _ (qS3_r h e).2).trans rfl
theorem qd_154 {x : Int} (h : qOk c n s = true) (e : qS3 n s pc 154 x = true) : decode c pc = .ok (.ifCond .ne x, 3) := by
  refine q_d (nx := pc + 3) ?_ (Nat.add_sub_cancel_left _ _)
  unfold Decoder.instr
  refine (q_bd _ _ (qS3_r h e).1).trans ?_
  show (Reader.s2 >>= fun a => (pure (.ifCond .ne a) : Decoder Instr)) c (pc + 1) = _
  exact (q_bd _ _ (qS3_r h e).2).trans rfl
theorem qd_160 {x : Int} (h : qOk c n s = true) (e : qS3 n s pc 160 x = true) : decode c pc = .ok (.if_icmp .ne x, 3) := by
  refine q_d (nx := pc + 3) ?_ (Nat.add_sub_cancel_left _ _)
  unfold Decoder.instr
  refine (q_bd _ _ (qS3_r h e).1).trans ?_
  show (Reader.s2 >>= fun a => (pure (.if_icmp .ne a) : Decoder Instr)) c (pc + 1) = _
  exact (q_bd _ _ (qS3_r h e).2).trans rfl
theorem qd_155 {x : Int} (h : qOk c n s = true) (e : qS3 n s pc 155 x = true) : decode c pc = .ok (.ifCond .lt x, 3) := by
  refine q_d (nx := pc + 3) ?_ (Nat.add_sub_cancel_left _ _)
  unfold Decoder.instr
  refine (q_bd _ _ (qS3_r h e).1).trans ?_
  show (Reader.s2 >>= fun a => (pure (.ifCond .lt a) : Decoder Instr)) c (pc + 1) = _
  exact (q_bd _ _ (qS3_r h e).2).trans rfl
theorem qd_161 {x : Int} (h : qOk c n s = true) (e : qS3 n s pc 161 x = true) : decode c pc = .ok (.if_icmp .lt x, 3) := by
  refine q_d (nx := pc + 3) ?_ (Nat.add_sub_cancel_left _ _)
  unfold Decoder.instr
  refine (q_bd _ _ (qS3_r h e).1).trans ?_
  show (Reader.s2 >>= fun a => (pure (.if_icmp .lt a) : Decoder Instr)) c (pc + 1) = _
  exact (q_bd _ _ (qS3_r h e).2).trans rfl
theorem qd_156 {x : Int} (h : qOk c n s = true) (e : qS3 n s pc 156 x = true) : decode c pc = .ok (.ifCond .ge x, 3) := by
  refine q_d (nx := pc + 3) ?_ (Nat.add_sub_cancel_left _ _)
  unfold Decoder.instr
  refine (q_bd _ _ (qS3_r h e).1).trans ?_
  show (Reader.s2 >>= fun a => (pure (.ifCond .ge a) : Decoder Instr)) c (pc + 1) = _
  exact (q_bd _ _ (qS3_r h e).2).trans rfl
theorem qd_162 {x : Int} (h : qOk c n s = true) (e : qS3 n s pc 162 x = true) : decode c pc = .ok (.if_icmp .ge x, 3) := by
  refine q_d (nx := pc + 3) ?_ (Nat.add_sub_cancel_left _ _)
  unfold Decoder.instr
  refine (q_bd _ _ (qS3_r h e).1).trans ?_
  show (Reader.s2 >>= fun a => (pure (.if_icmp .ge a) : Decoder Instr)) c (pc + 1) = _
  exact (q_bd _ _ (qS3_r h e).2).trans rfl
theorem qd_157 {x : Int} (h : qOk c n s = true) (e : qS3 n s pc 157 x = true) : decode c pc = .ok (.ifCond .gt x, 3) := by
  refine q_d (nx := pc + 3) ?_ (Nat.add_sub_cancel_left _ _)
  unfold Decoder.instr
  refine (q_bd _ _ (qS3_r h e).1).trans ?_
  show (Reader.s2 >>= fun a => (pure (.ifCond .gt a) : Decoder Instr)) c (pc + 1) = _
  exact (q_bd _ _ (qS3_r h e).2).trans rfl
theorem qd_163 {x : Int} (h : qOk c n s = true) (e : qS3 n s pc 163 x = true) : decode c pc = .ok (.if_icmp .gt x, 3) := by
  refine q_d (nx := pc + 3) ?_ (Nat.add_sub_cancel_left _ _)
  unfold Decoder.instr
  refine (q_bd _ _ (qS3_r h e).1).trans ?_
  show (Reader.s2 >>= fun a => (pure (.if_icmp .gt a) : Decoder Instr)) c (pc + 1) = _
  exact (q_bd _ _ (qS3_r h e).2).trans rfl
theorem qd_158 {x : Int} (h : qOk c n s = true) (e : qS3 n s pc 158 x = true) : decode c pc = .ok (.ifCond .le x, 3) := by
  refine q_d (nx := pc + 3) ?_ (Nat.add_sub_cancel_left _ _)
  unfold Decoder.instr
  refine (q_bd _ _ (qS3_r h e).1).trans ?_
  show (Reader.s2 >>= fun a => (pure (.ifCond .le a) : Decoder Instr)) c (pc + 1) = _
  exact (q_bd _ _ (qS3_r h e).2).trans rfl
theorem qd_164 {x : Int} (h : qOk c n s = true) (e : qS3 n s pc 164 x = true) : decode c pc = .ok (.if_icmp .le x, 3) := by
  refine q_d (nx := pc + 3) ?_ (Nat.add_sub_cancel_left _ _)
  unfold Decoder.instr
  refine (q_bd _ _ (qS3_r h e).1).trans ?_
  show (Reader.s2 >>= fun a => (pure (.if_icmp .le a) : Decoder Instr)) c (pc + 1) = _
  exact (q_bd _ _ (qS3_r h e).2).trans rfl
theorem qd_132 {a : Nat} {x : Int} (h : qOk c n s = true) (e : qI3 n s pc 132 a x = true) : decode c pc = .ok (.iinc a x, 3) := by
  refine q_d (nx := pc + 3) ?_ (Nat.add_sub_cancel_left _ _)
  unfold Decoder.instr
  refine (q_bd _ _ (qI3_r h e).1).trans ?_
  show (Reader.u1 >>= fun a => Reader.s1 >>= fun b => (pure (.iinc a b) : Decoder Instr)) c (pc + 1) = _
  exact ((q_bd _ _ (qI3_r h e).2.1).trans (q_bd _ _ (qI3_r h e).2.2)).trans rfl
theorem qd_188_4 (h : qOk c n s = true) (e : qE2 n s pc 188 4 = true) : decode c pc = .ok (.newarray .boolean, 2) := by
  refine q_d (nx := pc + 2) ?_ (Nat.add_sub_cancel_left _ _)
  unfold Decoder.instr
  refine (q_bd _ _ (qE2_r h e).1).trans ?_
  show (Decoder.newarray pc) c (pc + 1) = _
  unfold Decoder.newarray
  exact (q_bd _ _ (qE2_r h e).2).trans rfl
theorem qd_188_8 (h : qOk c n s = true) (e : qE2 n s pc 188 8 = true) : decode c pc = .ok (.newarray .byte, 2) := by
  refine q_d (nx := pc + 2) ?_ (Nat.add_sub_cancel_left _ _)
  unfold Decoder.instr
  refine (q_bd _ _ (qE2_r h e).1).trans ?_
  show (Decoder.newarray pc) c (pc + 1) = _
  unfold Decoder.newarray
  exact (q_bd _ _ (qE2_r h e).2).trans rfl
theorem qd_188_10 (h : qOk c n s = true) (e : qE2 n s pc 188 10 = true) : decode c pc = .ok (.newarray .int, 2) := by
  refine q_d (nx := pc + 2) ?_ (Nat.add_sub_cancel_left _ _)
  unfold Decoder.instr
  refine (q_bd _ _ (qE2_r h e).1).trans ?_
  show (Decoder.newarray pc) c (pc + 1) = _
  unfold Decoder.newarray
  exact (q_bd _ _ (qE2_r h e).2).trans rfl
theorem qd_188_11 (h : qOk c n s = true) (e : qE2 n s pc 188 11 = true) : decode c pc = .ok (.newarray .long, 2) := by
  refine q_d (nx := pc + 2) ?_ (Nat.add_sub_cancel_left _ _)
  unfold Decoder.instr
  refine (q_bd _ _ (qE2_r h e).1).trans ?_
  show (Decoder.newarray pc) c (pc + 1) = _
  unfold Decoder.newarray
  exact (q_bd _ _ (qE2_r h e).2).trans rfl
end DEC
