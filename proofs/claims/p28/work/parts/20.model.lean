/-! ===== the model's cells: the object at mo, its arrays behind it ===== -/
def mF (mo : Nat) (sv ty th sp : Int32) : Nat → Value := fun k => match k with
  | 0 => .ref (mo + 1)
  | 1 => .int sv
  | 2 => .ref (mo + 2)
  | 3 => .ref (mo + 3)
  | 4 => .int ty
  | 5 => .int th
  | 6 => .ref (mo + 4)
  | 7 => .ref (mo + 5)
  | 8 => .int sp
  | _ => .null
def mM (w0 : kM) (mo : Nat) (s : Nat → Int32) (sv : Int32) (kp bf : Nat → Int32) (ty th : Int32) (co ma : Nat → Int32) (sp : Int32) : kM := fun k =>
  if k = mo then kO 6 (mF mo sv ty th sp) else if k = mo + 1 then kI 0 682 s else if k = mo + 2 then kI 1 2 kp else if k = mo + 3 then kI 2 60 bf else if k = mo + 4 then kI 0 128 co else if k = mo + 5 then kI 0 7 ma else w0 k
section MM
variable {w0 : kM} {mo : Nat} {s : Nat → Int32} {sv : Int32} {kp bf : Nat → Int32} {ty th : Int32} {co ma : Nat → Int32} {sp : Int32}
theorem mM_0 : (mM w0 mo s sv kp bf ty th co ma sp) mo = kO 6 (mF mo sv ty th sp) := by simp [mM]
theorem mM_1 : (mM w0 mo s sv kp bf ty th co ma sp) (mo + 1) = kI 0 682 s := by simp [mM]
theorem mM_2 : (mM w0 mo s sv kp bf ty th co ma sp) (mo + 2) = kI 1 2 kp := by simp [mM]
theorem mM_3 : (mM w0 mo s sv kp bf ty th co ma sp) (mo + 3) = kI 2 60 bf := by simp [mM]
theorem mM_4 : (mM w0 mo s sv kp bf ty th co ma sp) (mo + 4) = kI 0 128 co := by simp [mM]
theorem mM_5 : (mM w0 mo s sv kp bf ty th co ma sp) (mo + 5) = kI 0 7 ma := by simp [mM]
theorem mMs_1 {x : Nat → Int32} : kup (mM w0 mo s sv kp bf ty th co ma sp) (mo + 1) (kI 0 682 x) = mM w0 mo x sv kp bf ty th co ma sp := by
  funext k
  unfold kup mM
  by_cases h : k = mo + 1
  · subst h; simp
  · simp [h]
theorem mMs_2 {x : Nat → Int32} : kup (mM w0 mo s sv kp bf ty th co ma sp) (mo + 2) (kI 1 2 x) = mM w0 mo s sv x bf ty th co ma sp := by
  funext k
  unfold kup mM
  by_cases h : k = mo + 2
  · subst h; simp
  · simp [h]
theorem mMs_3 {x : Nat → Int32} : kup (mM w0 mo s sv kp bf ty th co ma sp) (mo + 3) (kI 2 60 x) = mM w0 mo s sv kp x ty th co ma sp := by
  funext k
  unfold kup mM
  by_cases h : k = mo + 3
  · subst h; simp
  · simp [h]
theorem mMs_4 {x : Nat → Int32} : kup (mM w0 mo s sv kp bf ty th co ma sp) (mo + 4) (kI 0 128 x) = mM w0 mo s sv kp bf ty th x ma sp := by
  funext k
  unfold kup mM
  by_cases h : k = mo + 4
  · subst h; simp
  · simp [h]
theorem mMs_5 {x : Nat → Int32} : kup (mM w0 mo s sv kp bf ty th co ma sp) (mo + 5) (kI 0 7 x) = mM w0 mo s sv kp bf ty th co x sp := by
  funext k
  unfold kup mM
  by_cases h : k = mo + 5
  · subst h; simp
  · simp [h]
theorem mFs_1 {x : Int32} : kuF (mF mo sv ty th sp) 1 (.int x) = mF mo x ty th sp := by
  funext j
  match j with
  | 0 => rfl
  | 1 => rfl
  | 2 => rfl
  | 3 => rfl
  | 4 => rfl
  | 5 => rfl
  | 6 => rfl
  | 7 => rfl
  | 8 => rfl
  | z + 9 => simp [kuF, mF]
theorem mMf_1 {x : Int32} : kup (mM w0 mo s sv kp bf ty th co ma sp) mo (kO 6 (kuF (mF mo sv ty th sp) 1 (.int x))) = mM w0 mo s x kp bf ty th co ma sp := by
  rw [mFs_1]
  funext k
  unfold kup mM
  by_cases h : k = mo
  · subst h; simp
  · simp [h]
theorem mFs_4 {x : Int32} : kuF (mF mo sv ty th sp) 4 (.int x) = mF mo sv x th sp := by
  funext j
  match j with
  | 0 => rfl
  | 1 => rfl
  | 2 => rfl
  | 3 => rfl
  | 4 => rfl
  | 5 => rfl
  | 6 => rfl
  | 7 => rfl
  | 8 => rfl
  | z + 9 => simp [kuF, mF]
theorem mMf_4 {x : Int32} : kup (mM w0 mo s sv kp bf ty th co ma sp) mo (kO 6 (kuF (mF mo sv ty th sp) 4 (.int x))) = mM w0 mo s sv kp bf x th co ma sp := by
  rw [mFs_4]
  funext k
  unfold kup mM
  by_cases h : k = mo
  · subst h; simp
  · simp [h]
theorem mFs_5 {x : Int32} : kuF (mF mo sv ty th sp) 5 (.int x) = mF mo sv ty x sp := by
  funext j
  match j with
  | 0 => rfl
  | 1 => rfl
  | 2 => rfl
  | 3 => rfl
  | 4 => rfl
  | 5 => rfl
  | 6 => rfl
  | 7 => rfl
  | 8 => rfl
  | z + 9 => simp [kuF, mF]
theorem mMf_5 {x : Int32} : kup (mM w0 mo s sv kp bf ty th co ma sp) mo (kO 6 (kuF (mF mo sv ty th sp) 5 (.int x))) = mM w0 mo s sv kp bf ty x co ma sp := by
  rw [mFs_5]
  funext k
  unfold kup mM
  by_cases h : k = mo
  · subst h; simp
  · simp [h]
theorem mFs_8 {x : Int32} : kuF (mF mo sv ty th sp) 8 (.int x) = mF mo sv ty th x := by
  funext j
  match j with
  | 0 => rfl
  | 1 => rfl
  | 2 => rfl
  | 3 => rfl
  | 4 => rfl
  | 5 => rfl
  | 6 => rfl
  | 7 => rfl
  | 8 => rfl
  | z + 9 => simp [kuF, mF]
theorem mMf_8 {x : Int32} : kup (mM w0 mo s sv kp bf ty th co ma sp) mo (kO 6 (kuF (mF mo sv ty th sp) 8 (.int x))) = mM w0 mo s sv kp bf ty th co ma x := by
  rw [mFs_8]
  funext k
  unfold kup mM
  by_cases h : k = mo
  · subst h; simp
  · simp [h]
end MM
/-! ===== what the numbers are: P a parcel's seven, s the office's ===== -/
def gI (a b : Int32) : Int32 := if b < a then a else b
def pG (P : Nat → Int32) : Int32 := P 0 + 2 * (P 1 + P 2)
def pS (s P : Nat → Int32) : Int32 := (P 6 + 1) * s 0 + (if P 6 + 1 = 1 then 2 * (P 1 + P 2) else if P 6 + 1 = 2 then 2 * P 0 + 2 * P 1 + 4 * P 2 else 4 * P 0 + 2 * P 1 + 6 * P 2)
def bnd (z : Int32) : Int32 := if 600 < z then 11 else (z - 1) / 50
def rM (s : Nat → Int32) : Nat → Int32
  | 0 => 0
  | k + 1 => gI (s (4 + k)) (rM s k)
def rateF (s : Nat → Int32) (z : Int32) : Int32 := rM s ((bnd z).toNatClampNeg + 1)
def pW (s P : Nat → Int32) (z : Int32) : Int32 := rateF s z * s (16 + (P 4).toNatClampNeg) + (if s 1 < pG P then rateF s z * s (16 + (P 4).toNatClampNeg) / 2 else 0) + s 2 * P 5
def pP (s P : Nat → Int32) : Int32 := pW s P (pS s P)
def pR (s P : Nat → Int32) : Int32 := if (30 < P 3 ∧ P 6 = 0) ∨ (60 < P 3 ∧ P 6 = 1) then 1 else if 2 * s 1 < pG P then 2 else if 0 < P 5 ∧ P 6 = 0 then 3 else 0
/-- the parcel at the place p of a row -/
abbrev pa (s : Nat → Int32) (p : Nat) : Nat → Int32 := fun k => s (p + k)
def kSubL (L : List (Nat × Value)) : List (Nat × Value) → Prop
  | [] => True
  | q :: t => kget L q.1 = some q.2 ∧ kSubL L t
theorem kSubL_mem {L : List (Nat × Value)} : ∀ {L' : List (Nat × Value)}, kSubL L L' → ∀ q ∈ L', q ∈ L
  | [], _, q, h => by cases h
  | a :: t, h, q, hq => by
    rcases List.mem_cons.mp hq with e | e
    · rw [e]; exact kget_mem h.1
    · exact kSubL_mem h.2 q e
theorem kW.locs {X : Nat × (Nat → Int32)} {M : kMi} {dd : Nat} {Q : kQ} {rc rs n : Nat} {w : kM} {L L' : List (Nat × Value)} {st : List Value} {pc : Nat} (k : kW X M dd Q rc rs n w pc L' st) (h : kSubL L L') : kW X M dd Q rc rs n w pc L st := kW.loc (kSubL_mem h) k
theorem kgE {L : List (Nat × Value)} {i : Nat} {x y : Int32} (h : kget L i = some (.int x)) (p : x = y) : kget L i = some (.int y) := by rw [h, p]
theorem kv_eq {a b : Int32} (h : a = b) : (Sum.inl (some (Value.int a)) : Option Value ⊕ String) = .inl (some (.int b)) := by rw [h]
def lowN (s : Nat → Int32) : Nat → Int32
  | 0 => 0
  | k + 1 => lowN s k + (if s (4 + k) < rM s k then 1 else 0)
/-- of the first k parcels: the odd ones, or those that are taken -/
def cntN (odd : Int32) (s : Nat → Int32) : Nat → Int32
  | 0 => 0
  | k + 1 => cntN odd s k + (if odd ≠ 0 then (if s 1 < pG (pa s (21 + 7 * k)) then 1 else 0) else (if pR s (pa s (21 + 7 * k)) = 0 then 1 else 0))
/-- of the first k parcels the dearest that is taken -/
def dpN (s : Nat → Int32) : Nat → Option Nat
  | 0 => none
  | k + 1 => if pR s (pa s (21 + 7 * k)) = 0 then (match dpN s k with
      | none => some k
      | some f => if pP s (pa s (21 + 7 * f)) < pP s (pa s (21 + 7 * k)) then some k else some f) else dpN s k
def oI : Option Nat → Int32
  | none => -1
  | some k => nI k
def rDn (s : Nat → Int32) : Nat → Nat → Nat
  | 0, best => best
  | j + 1, best => rDn s j (if s (4 + best) < s (4 + j) then j else best)
def goesT (a b : Int32) : Int32 := if a = 0 then 1 else if b = 0 then 2 else 0
/-- the row at 75 t, its first k numbers already those of the row at 75 f -/
def cpR (s : Nat → Int32) (f t k : Nat) : Nat → Int32 := fun i => if 75 * t ≤ i ∧ i < 75 * t + k then s (75 * f + (i - 75 * t)) else s i
theorem cpR_0 (s : Nat → Int32) (f t : Nat) : cpR s f t 0 = s := by
  funext i
  unfold cpR
  rw [if_neg (by omega)]
theorem cpR_step {s : Nat → Int32} {f t k : Nat} (h : f ≠ t) (hk : k < 75) : kuf (cpR s f t k) (75 * t + k) (cpR s f t k (75 * f + k)) = cpR s f t (k + 1) := by
  funext i
  unfold kuf
  by_cases h1 : i = 75 * t + k
  · subst h1
    rw [if_pos rfl]
    unfold cpR
    rw [if_neg (by omega), if_pos (by omega)]
    congr 1
    omega
  · rw [if_neg h1]
    unfold cpR
    by_cases h2 : 75 * t ≤ i ∧ i < 75 * t + k
    · rw [if_pos h2, if_pos (by omega)]
    · rw [if_neg h2, if_neg (by omega)]
/-- three sides, the longest one first -/
def sort3 (x y z : Int32) : Nat → Int32 := fun k => if k = 0 then gI x (gI y z) else if k = 1 then x + y + z - gI x (gI y z) - -gI (-x) (gI (-y) (-z)) else -gI (-x) (gI (-y) (-z))
/-- p's three sides written -/
def putS (s : Nat → Int32) (p : Nat) (x y z : Int32) : Nat → Int32 := kuf (kuf (kuf s p (sort3 x y z 0)) (p + 1) (sort3 x y z 1)) (p + 2) (sort3 x y z 2)
theorem pW_of {s P : Nat → Int32} {z : Int32} {K zz : Nat} (hb : bnd z = nI K) (hK : K < 12) (hz : P 4 = nI zz) (hzz : zz < 4) : pW s P z = rM s (K + 1) * s (16 + zz) + (if s 1 < pG P then rM s (K + 1) * s (16 + zz) / 2 else 0) + s 2 * P 5 := by
  unfold pW rateF
  rw [kcl0 hb (by omega), kcl0 hz (by omega)]
/-- a parcel whose postage can be told -/
def fineZ (P : Nat → Int32) : Prop := ∃ zz, zz < 4 ∧ P 4 = nI zz
def fineB (z : Int32) : Prop := ∃ K, K < 12 ∧ bnd z = nI K
def fineP (s P : Nat → Int32) : Prop := fineZ P ∧ fineB (pS s P)
def pAl (s P : Nat → Int32) : Int32 := if pR s P = 0 then pP s P else 0
def inSet (st v : Int32) : Prop := (if st = 1 then 50 else 0) ≤ v ∧ v ≤ (if st = 1 then 300 else if st = 3 then 50 else 20)
