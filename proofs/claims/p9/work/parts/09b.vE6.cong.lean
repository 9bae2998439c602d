-- the telling hangs on the bytes below the length alone
section CONG
variable {B T : Nat → Int32} {L : Nat}
theorem cg_sbl (h : cb B L = cb T L) : sbl B L = sbl T L := by
  have go : ∀ n a, sblf B L n a = sblf T L n a := by
    intro n
    induction n with
    | zero => intro a; rfl
    | succ n ih => intro a; simp only [sblf, h, ih]
  exact funext (fun a => go _ a)
theorem cg_shex (h : cb B L = cb T L) : ∀ a n j v, shex B L a n j v = shex T L a n j v := by
  intro a n
  induction n with
  | zero => intro j v; rfl
  | succ n ih => intro j v; simp only [shex, h, ih]
theorem cg_sesc (h : cb B L = cb T L) : sesc B L = sesc T L := funext (fun a => by simp only [sesc, h, cg_shex h])
theorem cg_elen (h : cb B L = cb T L) : elen B L = elen T L := funext (fun a => by simp only [elen, h])
theorem cg_sstr (h : cb B L = cb T L) : sstr B L = sstr T L := by
  have go : ∀ n q, sstrf B L n q = sstrf T L n q := by
    intro n
    induction n with
    | zero => intro q; rfl
    | succ n ih => intro q; simp only [sstrf, h, ih, cg_sesc h, cg_elen h]
  exact funext (fun q => go _ q)
theorem cg_swd (h : cb B L = cb T L) : ∀ l p, swd B L l p = swd T L l p := by
  intro l
  induction l with
  | nil => intro p; rfl
  | cons c t ih => intro p; simp only [swd, h, ih]
theorem cg_sdg (h : cb B L = cb T L) : sdg B L = sdg T L := by
  have go : ∀ n a, sdgf B L n a = sdgf T L n a := by
    intro n
    induction n with
    | zero => intro a; rfl
    | succ n ih => intro a; simp only [sdgf, h, ih]
  exact funext (fun a => go _ a)
theorem cg_swl (h : cb B L = cb T L) : ∀ last n q v, swl B L last n q v = swl T L last n q v := by
  intro last n
  induction n with
  | zero => intro q v; rfl
  | succ n ih => intro q v; simp only [swl, h, ih]
theorem cg_snum (h : cb B L = cb T L) : snum B L = snum T L := funext (fun a => by simp only [snum, h, cg_sdg h, cg_swl h])
theorem cg_swv (h : cb B L = cb T L) : ∀ n q v, swv B L n q v = swv T L n q v := by
  intro n
  induction n with
  | zero => intro q v; rfl
  | succ n ih => intro q v; simp only [swv, h, ih]
theorem cg_snv (h : cb B L = cb T L) : snv B L = snv T L := funext (fun a => by simp only [snv, h, cg_sdg h, cg_swv h])
theorem cg_skey (h : cb B L = cb T L) : skey B L = skey T L := funext (fun a => funext (fun s => by simp only [skey, h, cg_sstr h, cg_sbl h]))
theorem cg_sgrp (h : cb B L = cb T L) (fv : Nat → Nat ⊕ Nat) (obj : Bool) (cl : Nat) : ∀ n part seen, sgrp fv B L obj cl n part seen = sgrp fv T L obj cl n part seen := by
  intro n
  induction n with
  | zero => intro part seen; rfl
  | succ n ih => intro part seen; simp only [sgrp, h, cg_sbl h, cg_skey h, ih]
theorem cg_sval (h : cb B L = cb T L) : ∀ d, sval B L d = sval T L d := by
  intro d
  induction d with
  | zero => exact funext (fun p => rfl)
  | succ d ih => exact funext (fun p => by simp only [sval, h, cg_sbl h, cg_sstr h, cg_swd h, cg_snum h, cg_sgrp h, ih])
theorem cg_GK (h : cb B L = cb T L) : ∀ d p l, GK B L d p l = GK T L d p l := fun d p l => by simp only [GK, h, cg_sbl h, cg_sgrp h, cg_sval h]
theorem cg_RKey (h : cb B L = cb T L) {K F S Lt : Nat → Int32} {N : Nat → Int64} {l : Nat} : RKey B L K F N S Lt l = RKey T L K F N S Lt l := funext (fun c => funext (fun p => by simp only [RKey, cg_sstr h]))
theorem cg_RT (h : cb B L = cb T L) {K F S I X Lt : Nat → Int32} {N : Nat → Int64} {l : Nat} : ∀ d, RT B L K F N S I X Lt l d = RT T L K F N S I X Lt l d := by
  intro d
  induction d with
  | zero => exact funext (fun n => funext (fun m => funext (fun p => rfl)))
  | succ d ih => exact funext (fun n => funext (fun m => funext (fun p => by simp only [RT, h, cg_sstr h, cg_GK h, cg_snv h, cg_RKey h, ih])))
end CONG
