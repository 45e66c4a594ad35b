/-- the model's fields when it is made -/
def tyM : Nat → FieldType := fun k => match k with
  | 0 => .array .int
  | 1 => .int
  | 2 => .array .boolean
  | 3 => .array .char
  | 4 => .int
  | 5 => .int
  | 6 => .array .int
  | 7 => .array .int
  | 8 => .int
  | _ => .object ""
def mF0 : Nat → Value := fun k => defaultValue (tyM k)
def iniB (b : Nat) : Nat → Int32 := fun i => if i = 0 then 5 else if i = 1 then 150 else if i = 2 then 2 else if i = 3 then 10 else if 4 ≤ i ∧ i < 4 + b then nI (5 * (i - 4) + 5) else 0
def iniZ (z : Nat) : Nat → Int32 := fun i => if 16 ≤ i ∧ i < 16 + z then nI (i - 16 + 1) else iniB 12 i
/-- the numbers of a new office -/
def iniS : Nat → Int32 := iniZ 4
theorem iniB_0 : kuf (kuf (kuf (kuf z0 0 5) 1 150) 2 2) 3 10 = iniB 0 := by
  funext i
  unfold kuf iniB
  by_cases h3 : i = 3
  · subst h3; rfl
  · by_cases h2 : i = 2
    · subst h2; rfl
    · by_cases h1 : i = 1
      · subst h1; rfl
      · by_cases h0 : i = 0
        · subst h0; rfl
        · simp [h0, h1, h2, h3]
          intro a b
          omega
theorem iniB_s {b : Nat} : kuf (iniB b) (4 + b) (nI (5 * b + 5)) = iniB (b + 1) := by
  funext i
  unfold kuf
  by_cases h : i = 4 + b
  · subst h
    rw [if_pos rfl]
    unfold iniB
    rw [if_neg (by omega), if_neg (by omega), if_neg (by omega), if_neg (by omega), if_pos (by omega), show 4 + b - 4 = b by omega]
  · rw [if_neg h]
    unfold iniB
    by_cases h2 : 4 ≤ i ∧ i < 4 + b
    · rw [if_pos h2, if_pos (show 4 ≤ i ∧ i < 4 + (b + 1) by omega)]
    · rw [if_neg h2, if_neg (show ¬ (4 ≤ i ∧ i < 4 + (b + 1)) by omega)]
theorem iniZ_0 : iniB 12 = iniZ 0 := by
  funext i
  unfold iniZ
  rw [if_neg (by omega)]
theorem iniZ_s {b : Nat} : kuf (iniZ b) (16 + b) (nI (b + 1)) = iniZ (b + 1) := by
  funext i
  unfold kuf
  by_cases h : i = 16 + b
  · subst h
    rw [if_pos rfl]
    unfold iniZ
    rw [if_pos (by omega), show 16 + b - 16 + 1 = b + 1 by omega]
  · rw [if_neg h]
    unfold iniZ
    by_cases h2 : 16 ≤ i ∧ i < 16 + b
    · rw [if_pos h2, if_pos (show 16 ≤ i ∧ i < 16 + (b + 1) by omega)]
    · rw [if_neg h2, if_neg (show ¬ (16 ≤ i ∧ i < 16 + (b + 1)) by omega)]
theorem mF0_s {mo : Nat} : kuF (kuF (kuF (kuF (kuF mF0 0 (.ref (mo + 1))) 2 (.ref (mo + 1 + 1))) 3 (.ref (mo + 1 + 1 + 1))) 6 (.ref (mo + 1 + 1 + 1 + 1))) 7 (.ref (mo + 1 + 1 + 1 + 1 + 1)) = mF mo 0 0 0 0 := by
  funext j
  match j with
  | 0 => rfl
  | 1 => rfl
  | 2 => rfl
  | 3 => rfl
  | 4 => rfl
  | 5 => rfl
  | 6 => rfl
  | 7 => rfl
  | 8 => rfl
  | z + 9 => simp [kuF, mF, mF0, tyM, defaultValue]
