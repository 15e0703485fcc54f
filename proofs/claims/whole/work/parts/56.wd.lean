/-! the cells of the class itself, by roles -/
abbrev wD (xo hx : Nat) (cH : ClassId) (ga : Nat → Nat) (t : Nat) (F : Nat → Int → Int) : va_W := [(xo, .inr (2, [.ref (ga 0), .ref (ga 1), .ref (ga 2), .ref hx, .int (iI (F 4 0)), .ref t, .int (iI (F 6 0)), .int (iI (F 7 0)), .int (iI (F 8 0)), .int (iI (F 9 0))])), (hx, .inl (cH, 4, .inr (.inr (.inr (.inr (fun j => some (ga (3 + j))))))))]
