/-! ===== the model's cells: the object at mo, its arrays behind it ===== -/
def mF (mo : Nat) (sv ty th sp : Int32) : Nat → Value := fun k => match k with
  | 0 => .ref (mo + 1)
  | 1 => .int sv
  | 2 => .ref (mo + 2)
  | 3 => .ref (mo + 3)
  | 4 => .int ty
  | 5 => .int th
  | 6 => .ref (mo + 4)
  | 7 => .ref (mo + 5)
  | 8 => .int sp
  | _ => .null
def mM (w0 : kM) (mo : Nat) (s : Nat → Int32) (sv : Int32) (kp bf : Nat → Int32) (ty th : Int32) (co ma : Nat → Int32) (sp : Int32) : kM := fun k =>
  if k = mo then kO 6 (mF mo sv ty th sp) else if k = mo + 1 then kI 0 682 s else if k = mo + 2 then kI 1 2 kp else if k = mo + 3 then kI 2 60 bf else if k = mo + 4 then kI 0 128 co else if k = mo + 5 then kI 0 7 ma else w0 k
section MM
variable {w0 : kM} {mo : Nat} {s : Nat → Int32} {sv : Int32} {kp bf : Nat → Int32} {ty th : Int32} {co ma : Nat → Int32} {sp : Int32}
theorem mM_0 : (mM w0 mo s sv kp bf ty th co ma sp) mo = kO 6 (mF mo sv ty th sp) := by simp [mM]
theorem mM_1 : (mM w0 mo s sv kp bf ty th co ma sp) (mo + 1) = kI 0 682 s := by simp [mM]
theorem mM_2 : (mM w0 mo s sv kp bf ty th co ma sp) (mo + 2) = kI 1 2 kp := by simp [mM]
theorem mM_3 : (mM w0 mo s sv kp bf ty th co ma sp) (mo + 3) = kI 2 60 bf := by simp [mM]
theorem mM_4 : (mM w0 mo s sv kp bf ty th co ma sp) (mo + 4) = kI 0 128 co := by simp [mM]
theorem mM_5 : (mM w0 mo s sv kp bf ty th co ma sp) (mo + 5) = kI 0 7 ma := by simp [mM]
theorem mMs_1 {x : Nat → Int32} : kup (mM w0 mo s sv kp bf ty th co ma sp) (mo + 1) (kI 0 682 x) = mM w0 mo x sv kp bf ty th co ma sp := by
  funext k
  unfold kup mM
  by_cases h : k = mo + 1
  · subst h; simp
  · simp [h]
theorem mMs_2 {x : Nat → Int32} : kup (mM w0 mo s sv kp bf ty th co ma sp) (mo + 2) (kI 1 2 x) = mM w0 mo s sv x bf ty th co ma sp := by
  funext k
  unfold kup mM
  by_cases h : k = mo + 2
  · subst h; simp
  · simp [h]
theorem mMs_3 {x : Nat → Int32} : kup (mM w0 mo s sv kp bf ty th co ma sp) (mo + 3) (kI 2 60 x) = mM w0 mo s sv kp x ty th co ma sp := by
  funext k
  unfold kup mM
  by_cases h : k = mo + 3
  · subst h; simp
  · simp [h]
theorem mMs_4 {x : Nat → Int32} : kup (mM w0 mo s sv kp bf ty th co ma sp) (mo + 4) (kI 0 128 x) = mM w0 mo s sv kp bf ty th x ma sp := by
  funext k
  unfold kup mM
  by_cases h : k = mo + 4
  · subst h; simp
  · simp [h]
theorem mMs_5 {x : Nat → Int32} : kup (mM w0 mo s sv kp bf ty th co ma sp) (mo + 5) (kI 0 7 x) = mM w0 mo s sv kp bf ty th co x sp := by
  funext k
  unfold kup mM
  by_cases h : k = mo + 5
  · subst h; simp
  · simp [h]
theorem mFs_1 {x : Int32} : kuF (mF mo sv ty th sp) 1 (.int x) = mF mo x ty th sp := by
  funext j
  match j with
  | 0 => rfl
  | 1 => rfl
  | 2 => rfl
  | 3 => rfl
  | 4 => rfl
  | 5 => rfl
  | 6 => rfl
  | 7 => rfl
  | 8 => rfl
  | z + 9 => simp [kuF, mF]
theorem mMf_1 {x : Int32} : kup (mM w0 mo s sv kp bf ty th co ma sp) mo (kO 6 (kuF (mF mo sv ty th sp) 1 (.int x))) = mM w0 mo s x kp bf ty th co ma sp := by
  rw [mFs_1]
  funext k
  unfold kup mM
  by_cases h : k = mo
  · subst h; simp
  · simp [h]
theorem mFs_4 {x : Int32} : kuF (mF mo sv ty th sp) 4 (.int x) = mF mo sv x th sp := by
  funext j
  match j with
  | 0 => rfl
  | 1 => rfl
  | 2 => rfl
  | 3 => rfl
  | 4 => rfl
  | 5 => rfl
  | 6 => rfl
  | 7 => rfl
  | 8 => rfl
  | z + 9 => simp [kuF, mF]
theorem mMf_4 {x : Int32} : kup (mM w0 mo s sv kp bf ty th co ma sp) mo (kO 6 (kuF (mF mo sv ty th sp) 4 (.int x))) = mM w0 mo s sv kp bf x th co ma sp := by
  rw [mFs_4]
  funext k
  unfold kup mM
  by_cases h : k = mo
  · subst h; simp
  · simp [h]
theorem mFs_5 {x : Int32} : kuF (mF mo sv ty th sp) 5 (.int x) = mF mo sv ty x sp := by
  funext j
  match j with
  | 0 => rfl
  | 1 => rfl
  | 2 => rfl
  | 3 => rfl
  | 4 => rfl
  | 5 => rfl
  | 6 => rfl
  | 7 => rfl
  | 8 => rfl
  | z + 9 => simp [kuF, mF]
theorem mMf_5 {x : Int32} : kup (mM w0 mo s sv kp bf ty th co ma sp) mo (kO 6 (kuF (mF mo sv ty th sp) 5 (.int x))) = mM w0 mo s sv kp bf ty x co ma sp := by
  rw [mFs_5]
  funext k
  unfold kup mM
  by_cases h : k = mo
  · subst h; simp
  · simp [h]
theorem mFs_8 {x : Int32} : kuF (mF mo sv ty th sp) 8 (.int x) = mF mo sv ty th x := by
  funext j
  match j with
  | 0 => rfl
  | 1 => rfl
  | 2 => rfl
  | 3 => rfl
  | 4 => rfl
  | 5 => rfl
  | 6 => rfl
  | 7 => rfl
  | 8 => rfl
  | z + 9 => simp [kuF, mF]
theorem mMf_8 {x : Int32} : kup (mM w0 mo s sv kp bf ty th co ma sp) mo (kO 6 (kuF (mF mo sv ty th sp) 8 (.int x))) = mM w0 mo s sv kp bf ty th co ma x := by
  rw [mFs_8]
  funext k
  unfold kup mM
  by_cases h : k = mo
  · subst h; simp
  · simp [h]
end MM
/-! ===== what the numbers are: P a parcel's seven, s the office's ===== -/
def gI (a b : Int32) : Int32 := if b < a then a else b
def pG (P : Nat → Int32) : Int32 := P 0 + 2 * (P 1 + P 2)
def pS (s P : Nat → Int32) : Int32 := (P 6 + 1) * s 0 + (if P 6 + 1 = 1 then 2 * (P 1 + P 2) else if P 6 + 1 = 2 then 2 * P 0 + 2 * P 1 + 4 * P 2 else 4 * P 0 + 2 * P 1 + 6 * P 2)
def bnd (z : Int32) : Int32 := if 600 < z then 11 else (z - 1) / 50
def rM (s : Nat → Int32) : Nat → Int32
  | 0 => 0
  | k + 1 => gI (s (4 + k)) (rM s k)
def rateF (s : Nat → Int32) (z : Int32) : Int32 := rM s ((bnd z).toNatClampNeg + 1)
def pW (s P : Nat → Int32) (z : Int32) : Int32 := rateF s z * s (16 + (P 4).toNatClampNeg) + (if s 1 < pG P then rateF s z * s (16 + (P 4).toNatClampNeg) / 2 else 0) + s 2 * P 5
def pP (s P : Nat → Int32) : Int32 := pW s P (pS s P)
def pR (s P : Nat → Int32) : Int32 := if (30 < P 3 ∧ P 6 = 0) ∨ (60 < P 3 ∧ P 6 = 1) then 1 else if 2 * s 1 < pG P then 2 else if 0 < P 5 ∧ P 6 = 0 then 3 else 0
/-- the parcel at the place p of a row -/
abbrev pa (s : Nat → Int32) (p : Nat) : Nat → Int32 := fun k => s (p + k)
