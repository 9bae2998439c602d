abbrev cX5_isSame1 : ByteArray := cX5_isSame
abbrev yX5_isSame1 : MethodName := yX5_isSame
abbrev wsX5_isSame1 : List Cond := wsX5_isSame
def rmX5_isSame1 (mc ms : Nat) : Room := { frames := 2, cells := mc, slots := ms, locals := 42 }
abbrev cX5_isMatch1 : ByteArray := cX5_isMatch
abbrev yX5_isMatch1 : MethodName := yX5_isMatch
abbrev wsX5_isMatch1 : List Cond := wsX5_isMatch
def rmX5_isMatch1 (mc ms : Nat) : Room := { frames := 3, cells := mc, slots := ms, locals := 66 }
abbrev cX5_firstMatch1 : ByteArray := cX5_firstMatch
abbrev yX5_firstMatch1 : MethodName := yX5_firstMatch
abbrev wsX5_firstMatch1 : List Cond := wsX5_firstMatch
def rmX5_firstMatch1 (mc ms : Nat) : Room := { frames := 4, cells := mc, slots := ms, locals := 92 }
abbrev cX5_hasSymbol1 : ByteArray := cX5_hasSymbol
abbrev yX5_hasSymbol1 : MethodName := yX5_hasSymbol
abbrev wsX5_hasSymbol1 : List Cond := wsX5_hasSymbol
def rmX5_hasSymbol1 (mc ms : Nat) : Room := { frames := 2, cells := mc, slots := ms, locals := 43 }
abbrev cX5_hasAllSymbols1 : ByteArray := cX5_hasAllSymbols
abbrev yX5_hasAllSymbols1 : MethodName := yX5_hasAllSymbols
abbrev wsX5_hasAllSymbols1 : List Cond := wsX5_hasAllSymbols
def rmX5_hasAllSymbols1 (mc ms : Nat) : Room := { frames := 3, cells := mc, slots := ms, locals := 67 }
abbrev cX5_ask1 : ByteArray := cX5_ask
abbrev yX5_ask1 : MethodName := yX5_ask
abbrev wsX5_ask1 : List Cond := wsX5_ask
def rmX5_ask1 (mc ms : Nat) : Room := { frames := 2, cells := mc, slots := ms, locals := 44 }
abbrev cX5_writerField1 : ByteArray := cX5_writerField
abbrev yX5_writerField1 : MethodName := yX5_writerField
abbrev wsX5_writerField1 : List Cond := wsX5_writerField
def rmX5_writerField1 (mc ms : Nat) : Room := { frames := 2, cells := mc, slots := ms, locals := 42 }
abbrev cX5_isEveryBranchFit1 : ByteArray := cX5_isEveryBranchFit
abbrev yX5_isEveryBranchFit1 : MethodName := yX5_isEveryBranchFit
abbrev wsX5_isEveryBranchFit1 : List Cond := wsX5_isEveryBranchFit
def rmX5_isEveryBranchFit1 (d : Nat) (mc ms : Nat) : Room := { frames := 2 * d + 6, cells := mc, slots := ms, locals := 50 * d + 141 }
abbrev cX5_isFit1 : ByteArray := cX5_isFit
abbrev yX5_isFit1 : MethodName := yX5_isFit
abbrev wsX5_isFit1 : List Cond := wsX5_isFit
def rmX5_isFit1 (d : Nat) (mc ms : Nat) : Room := { frames := 2 * d + 5, cells := mc, slots := ms, locals := 50 * d + 116 }
abbrev cX5_isFieldsFit1 : ByteArray := cX5_isFieldsFit
abbrev yX5_isFieldsFit1 : MethodName := yX5_isFieldsFit
abbrev wsX5_isFieldsFit1 : List Cond := wsX5_isFieldsFit
def rmX5_isFieldsFit1 (mc ms : Nat) : Room := { frames := 80, cells := mc, slots := ms, locals := 1991 }
abbrev cX5_isWholeFit1 : ByteArray := cX5_isWholeFit
abbrev yX5_isWholeFit1 : MethodName := yX5_isWholeFit
abbrev wsX5_isWholeFit1 : List Cond := wsX5_isWholeFit
def rmX5_isWholeFit1 (mc ms : Nat) : Room := { frames := 81, cells := mc, slots := ms, locals := 2016 }
