/-! a cell of an array's contents, layer by layer -/
theorem rdS_ {f : Nat → Int32} {k j : Nat} {x v : Int32} (h : j ≠ k) (t : f j = v) : upd f k x j = v := (if_neg h).trans t
theorem rdH_ {f : Nat → Int32} {k j : Nat} {x : Int32} (h : j = k) : upd f k x j = x := if_pos h
theorem rdSL_ {f : Nat → Int64} {k j : Nat} {x v : Int64} (h : j ≠ k) (t : f j = v) : vp_updL f k x j = v := (if_neg h).trans t
theorem rdHL_ {f : Nat → Int64} {k j : Nat} {x : Int64} (h : j = k) : vp_updL f k x j = x := if_pos h
