theorem kv_eqd {a b : UInt64} (h : a = b) : (Sum.inl (some (Value.double a)) : Option Value ⊕ String) = .inl (some (.double b)) := by rw [h]
theorem kv_eql {a b : Int64} (h : a = b) : (Sum.inl (some (Value.long a)) : Option Value ⊕ String) = .inl (some (.long b)) := by rw [h]
theorem bdH_skip {bd : Nat → Int32} {k j : Nat} {x : Int64} (h : j = k) : bdH bd k (j + 1) x = bdH bd k j x := if_pos h
theorem bdH_add {bd : Nat → Int32} {k j : Nat} {x : Int64} (h : ¬ j = k) : bdH bd k (j + 1) x = fo (bdH bd k j x) (bd j) := if_neg h
theorem kgEl {L : List (Nat × Value)} {i : Nat} {x y : Int64} (h : kget L i = some (.long x)) (p : x = y) : kget L i = some (.long y) := by rw [h, p]
