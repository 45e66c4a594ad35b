set_option maxRecDepth 100000 in
theorem shl1 : ∀ t : Nat, t < 8 → (1 : Int32) <<< (nI t &&& 31) = nI (2 ^ t) := by decide +kernel
theorem shl1p {y : Int32} {t : Nat} (h : y = nI t) (ht : t < 8) : (1 : Int32) <<< (y &&& 31) = nI (2 ^ t) := by
  subst h
  exact shl1 t ht
set_option maxRecDepth 100000 in
theorem shr1 : ∀ z : Nat, z < 128 → ∀ t : Nat, t < 8 → ((nI z >>> ((nI t + 1) &&& 31)) ≤ 0 ↔ z < 2 ^ (t + 1)) := by decide +kernel
set_option maxRecDepth 100000 in
theorem bit1 : ∀ z : Nat, z < 128 → ∀ t : Nat, t < 8 → (nI z >>> (nI t &&& 31)) &&& 1 = b2i (z.testBit t = true) := by decide +kernel
set_option maxRecDepth 100000 in
theorem bit_le : ∀ z : Nat, z < 128 → ∀ t : Nat, t < 8 → z.testBit t = true → 2 ^ t ≤ z := by decide +kernel
set_option maxRecDepth 100000 in
theorem pow_le7 : ∀ t : Nat, t < 8 → 2 ^ t ≤ 128 ∧ 1 ≤ 2 ^ t := by decide +kernel
set_option maxRecDepth 100000 in
theorem log_of : ∀ z : Nat, z < 128 → ∀ t : Nat, t < 7 → 2 ^ t ≤ z → z < 2 ^ (t + 1) → Nat.log2 z = t := by decide +kernel
theorem pow_mono7 {a b : Nat} (h : a ≤ b) : 2 ^ a ≤ 2 ^ b := Nat.pow_le_pow_right (by decide) h
theorem kuf_kuf (f : Nat → Int32) (i : Nat) (x y : Int32) : kuf (kuf f i x) i y = kuf f i y := by
  funext j
  unfold kuf
  by_cases h : j = i <;> simp [h]
/-- what a set costs at the least, its top parcel t being alone or with one of the first o others -/
def inC (al : Nat → Int32) (bd : Nat → Nat → Int32) (T : Nat → Int32) (z t : Nat) : Nat → Int32
  | 0 => T (z - 2 ^ t) + al t
  | o + 1 => if (z - 2 ^ t).testBit o = true ∧ bd o t ≠ -1 ∧ T (z - 2 ^ t - 2 ^ o) + bd o t < inC al bd T z t o then T (z - 2 ^ t - 2 ^ o) + bd o t else inC al bd T z t o
def tbC (al : Nat → Int32) (bd : Nat → Nat → Int32) (co : Nat → Int32) : Nat → Nat → Int32
  | 0 => kuf co 0 0
  | z + 1 => kuf (tbC al bd co z) (z + 1) (inC al bd (tbC al bd co z) (z + 1) (Nat.log2 (z + 1)) (Nat.log2 (z + 1)))
theorem inC_congr {al : Nat → Int32} {bd : Nat → Nat → Int32} {T T' : Nat → Int32} {z t : Nat} (hz : 1 ≤ z) (h : ∀ i, i < z → T' i = T i) : ∀ o, inC al bd T' z t o = inC al bd T z t o
  | 0 => by
    have : 1 ≤ 2 ^ t := Nat.one_le_two_pow
    unfold inC
    rw [h _ (by omega)]
  | o + 1 => by
    have : 1 ≤ 2 ^ t := Nat.one_le_two_pow
    unfold inC
    rw [inC_congr hz h o, h (z - 2 ^ t - 2 ^ o) (Nat.lt_of_le_of_lt (Nat.sub_le _ _) (by omega))]
theorem tbC_congr {al : Nat → Int32} {bd : Nat → Nat → Int32} {co co' : Nat → Int32} : ∀ z i, i ≤ z → tbC al bd co' z i = tbC al bd co z i
  | 0, i, h => by
    have : i = 0 := by omega
    subst this
    rfl
  | z + 1, i, h => by
    unfold tbC
    by_cases h1 : i = z + 1
    · subst h1
      rw [kuf_eq, kuf_eq]
      exact inC_congr (by omega) (fun j hj => tbC_congr z j (by omega)) _
    · rw [kuf_ne h1, kuf_ne h1]
      exact tbC_congr z i (by omega)
/-- the cheapest bundling of c parcels, by sets -/
def setC (al : Nat → Int32) (bd : Nat → Nat → Int32) (c : Nat) : Int32 := tbC al bd (fun _ => 0) (2 ^ c - 1) (2 ^ c - 1)
theorem inC_al {al al' : Nat → Int32} {bd bd' : Nat → Nat → Int32} {T : Nat → Int32} {z t : Nat} (h1 : al' t = al t) : ∀ o, (∀ q, q < o → bd' q t = bd q t) → inC al' bd' T z t o = inC al bd T z t o
  | 0, _ => by unfold inC; rw [h1]
  | o + 1, h => by
    unfold inC
    rw [inC_al h1 o (fun q hq => h q (by omega)), h o (by omega)]
theorem inC_pos {al : Nat → Int32} {bd : Nat → Nat → Int32} {T : Nat → Int32} {z t o : Nat} (h1 : (z - 2 ^ t).testBit o = true) (h2 : ¬ bd o t = -1) (h3 : T (z - 2 ^ t - 2 ^ o) + bd o t < inC al bd T z t o) : inC al bd T z t (o + 1) = T (z - 2 ^ t - 2 ^ o) + bd o t := if_pos ⟨h1, h2, h3⟩
theorem inC_neg {al : Nat → Int32} {bd : Nat → Nat → Int32} {T : Nat → Int32} {z t o : Nat} (h : ¬ ((z - 2 ^ t).testBit o = true ∧ bd o t ≠ -1 ∧ T (z - 2 ^ t - 2 ^ o) + bd o t < inC al bd T z t o)) : inC al bd T z t (o + 1) = inC al bd T z t o := if_neg h
theorem tbC_step {al : Nat → Int32} {bd : Nat → Nat → Int32} {co : Nat → Int32} {z t : Nat} (hz : 1 ≤ z) (hl : Nat.log2 z = t) : kuf (tbC al bd co (z - 1)) z (inC al bd (tbC al bd co (z - 1)) z t t) = tbC al bd co z := by
  obtain ⟨y, rfl⟩ : ∃ y, z = y + 1 := ⟨z - 1, by omega⟩
  subst hl
  rfl
theorem pow_lt7 {t : Nat} (h : 2 ^ t < 128) : t < 7 := by
  rcases Nat.lt_or_ge t 7 with q | q
  · exact q
  · have := pow_mono7 q
    omega
theorem pow_ltc {t c z : Nat} (h1 : 2 ^ t ≤ z) (h2 : z < 2 ^ c) : t < c := by
  rcases Nat.lt_or_ge t c with q | q
  · exact q
  · have := pow_mono7 q
    omega
