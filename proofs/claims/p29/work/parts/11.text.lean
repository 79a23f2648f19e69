abbrev RQ : Type := Nat × Int32 × Int32 × Int32 × Int32
abbrev XU (g : wG) (xa sa ln : Nat) (u : RQ) (sg : Nat → Int32) : va_W := XT g xa sa (nI ln) (nI u.1) u.2.1 u.2.2.1 u.2.2.2.1 u.2.2.2.2 sg