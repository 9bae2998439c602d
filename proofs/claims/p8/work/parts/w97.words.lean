-- words for the law's cells
abbrev lw_ty (cI cB cJ cZ cQ : ClassId) : List (ClassId × FieldType) := [(cI, .int), (cB, .byte), (cJ, .long), (cZ, .boolean), (cQ, .object "SchemaReader$Schema")]
abbrev lw_x (obX obT obD obC kq pq obS : Nat) (xh xf xk : Int32) : Nat × va_E := (obX, .inr (2, [.ref obT, .ref obD, .ref obC, .ref kq, .ref pq, .ref obS, .int xh, .int xf, .int xk]))
abbrev lw_m (obM mt obY obA obB mk mz ma mp : Nat) (th tp ha pl mn : Int32) : Nat × va_E := (obM, .inr (1, [.int th, .ref mt, .int tp, .ref obY, .ref obA, .ref obB, .int ha, .int pl, .ref mk, .ref mz, .ref ma, .ref mp, .int mn]))
