def txF (t : Nat) (T p : Int32) : Nat → Value := fun k => match k with
  | 0 => .ref (t + 1)
  | 1 => .int T
  | 2 => .ref (t + 2)
  | 3 => .int p
  | _ => .null
theorem txF_1 {t : Nat} {T p x : Int32} : kuF (txF t T p) 1 (.int x) = txF t x p := by
  funext j
  match j with
  | 0 => rfl
  | 1 => rfl
  | 2 => rfl
  | 3 => rfl
  | z + 4 => simp [kuF, txF]
theorem txF_3 {t : Nat} {T p x : Int32} : kuF (txF t T p) 3 (.int x) = txF t T x := by
  funext j
  match j with
  | 0 => rfl
  | 1 => rfl
  | 2 => rfl
  | 3 => rfl
  | z + 4 => simp [kuF, txF]
/-- the reader's cells -/
def txS (w : kM) (t T : Nat) (st : pst) : Prop := w t = kO 3 (txF t (nI T) (nI st.1)) ∧ w (t + 2) = kI 0 6 (tr 6 st.2)
def txC (w : kM) (t : Nat) (bf : Nat → Int32) (T : Nat) : Prop := ∃ cf, w (t + 1) = kI 0 60 (tr 60 cf) ∧ ∀ j, j < T → cf j = bf j
abbrev txR (w w' : kM) (t T : Nat) : Option pst → Prop
  | none => w' = w
  | some st' => txS w' t T st' ∧ ∀ a, a ≠ t → a ≠ t + 2 → w' a = w a
theorem txR.n {w w' : kM} {t T : Nat} {o : Option pst} (h : o = none) (hw : w' = w) : txR w w' t T o := by
  subst h
  exact hw
theorem txR.s {w w' : kM} {t T : Nat} {o : Option pst} {st : pst} (h : o = some st) (hw : txS w' t T st ∧ ∀ a, a ≠ t → a ≠ t + 2 → w' a = w a) : txR w w' t T o := by
  subst h
  exact hw
theorem isn {o : Option pst} (h : o = none) : (0 : Int32) = b2i (o.isSome = true) := by
  subst h
  rfl
theorem iss {o : Option pst} {st : pst} (h : o = some st) : (1 : Int32) = b2i (o.isSome = true) := by
  subst h
  rfl
def wayV (c : Int32) : Int32 := if c = 114 then 0 else if c = 99 then 1 else if c = 100 then 2 else -1
def chS (p : Nat) (v : Nat → Int32) (x n : Int32) : Option pst := if x < 0 ∨ n ≤ x then none else some (p + 1, kuf v p x)
def enS (p : Nat) (v : Nat → Int32) : Option pst := if v p = 0 then none else some (p + 1, kuf v (p + 1) 0)
def nuS (p : Nat) (v : Nat → Int32) (c : Int32) : Option pst := if c = endC p then enS p v else if c < 48 ∨ 57 < c then none else if 10 * v p + (c - 48) < 1 ∨ most p < 10 * v p + (c - 48) then none else some (p, kuf v p (10 * v p + (c - 48)))
theorem stp_nu {p : Nat} {v : Nat → Int32} {c : Int32} (h : p < 4) : stp (p, v) c = nuS p v c := by
  unfold stp nuS enS
  rw [if_pos h]
theorem stp_4 {v : Nat → Int32} {c : Int32} : stp (4, v) c = chS 4 v (c - 48) 4 := rfl
theorem stp_5 {v : Nat → Int32} {c : Int32} : stp (5, v) c = chS 5 v (wayV c) 3 := by
  show (if c = 114 then some (6, kuf v 5 0) else if c = 99 then some (6, kuf v 5 1) else if c = 100 then some (6, kuf v 5 2) else none) = _
  unfold chS wayV
  by_cases h1 : c = 114
  · simp [h1]
  · by_cases h2 : c = 99
    · simp [h2]
    · by_cases h3 : c = 100
      · simp [h3]
      · simp [h1, h2, h3]
