/-! ===== what is told of numbers that agree ===== -/
theorem prp_congr {s s' P P' : Nat → Int32} (hs : ∀ i, i < 75 → s' i = s i) (h : ∀ k, k < 7 → P' k = P k) (hf : fineP s P) {j : Nat} (hj : j < 11) : prp s' P' j = prp s P j := by
  match j, hj with
  | 0, _ => exact h 0 (by decide)
  | 1, _ => exact h 1 (by decide)
  | 2, _ => exact h 2 (by decide)
  | 3, _ => exact h 3 (by decide)
  | 4, _ => exact h 4 (by decide)
  | 5, _ => exact h 5 (by decide)
  | 6, _ => exact h 6 (by decide)
  | 7, _ => exact pG_congr h
  | 8, _ => exact pS_congr hs h
  | 9, _ => exact pP_congr hs h hf
  | 10, _ => exact pR_congr hs h
theorem wyR_congr {s s' P P' : Nat → Int32} (hs : ∀ i, i < 75 → s' i = s i) (h : ∀ k, k < 7 → P' k = P k) (hf : ∀ v, v < 3 → fineP s (wyP P (nI v))) : ∀ v, v ≤ 3 → wyR s' P' v = wyR s P v
  | 0, _ => rfl
  | v + 1, hv => by
    show wyS s' P' (nI v) (wyR s' P' v) = wyS s P (nI v) (wyR s P v)
    rw [wyR_congr hs h hf v (by omega)]
    unfold wyS
    rw [pR_congr hs (wyP_congr h), pP_congr hs (wyP_congr h) (hf v (by omega))]
theorem wyF_congr {s s' P P' : Nat → Int32} (hs : ∀ i, i < 75 → s' i = s i) (h : ∀ k, k < 7 → P' k = P k) (hf : ∀ v, v < 3 → fineP s (wyP P (nI v))) : wyF s' P' = wyF s P := by
  unfold wyF
  rw [wyR_congr hs h hf 3 (Nat.le_refl _)]
theorem dpN_agr {s s' : Nat → Int32} {c : Nat} (H : fineS s c) (ha : agr s s') : ∀ k, k ≤ c → dpN s' k = dpN s k
  | 0, _ => rfl
  | k + 1, hk => by
    have h7 := H.1
    unfold dpN
    rw [dpN_agr H ha k (by omega), pR_congr ha.lo (ha.pa (k := k) (by omega)), pP_congr ha.lo (ha.pa (k := k) (by omega)) (H.2.2.1 k (by omega)).1]
    cases hd : dpN s k with
    | none => rfl
    | some f =>
      have := dpN_lt hd
      dsimp only
      rw [pP_congr ha.lo (ha.pa (k := f) (by omega)) (H.2.2.1 f (by omega)).1]
theorem inC_all {al al' : Nat → Int32} {bd bd' : Nat → Nat → Int32} {T T' : Nat → Int32} {z t : Nat} (h1 : al' t = al t) (hT : T' = T) : ∀ o, (∀ q, q < o → bd' q t = bd q t) → inC al' bd' T' z t o = inC al bd T z t o := by
  subst hT
  exact inC_al h1
theorem tbC_al {al al' : Nat → Int32} {bd bd' : Nat → Nat → Int32} {co : Nat → Int32} {c : Nat} (h1 : ∀ k, k < c → al' k = al k) (h2 : ∀ k, k < c → ∀ j, j < c → k ≠ j → bd' k j = bd k j) (hc : c ≤ 7) : ∀ z, z < 2 ^ c → tbC al' bd' co z = tbC al bd co z
  | 0, _ => rfl
  | z + 1, hz => by
    have hl : Nat.log2 (z + 1) < c := (Nat.log2_lt (by omega)).mpr hz
    unfold tbC
    rw [tbC_al h1 h2 hc z (by omega), inC_all (h1 _ hl) rfl _ (fun q hq => h2 q (by omega) _ hl (by omega))]
theorem setC_al {al al' : Nat → Int32} {bd bd' : Nat → Nat → Int32} {c : Nat} (h1 : ∀ k, k < c → al' k = al k) (h2 : ∀ k, k < c → ∀ j, j < c → k ≠ j → bd' k j = bd k j) (hc : c ≤ 7) : setC al' bd' c = setC al bd c := by
  have : 1 ≤ 2 ^ c := Nat.one_le_two_pow
  unfold setC
  rw [tbC_al h1 h2 hc _ (by omega)]
theorem setC_agr {s s' : Nat → Int32} {c : Nat} (H : fineS s c) (ha : agr s s') : setC (alS s') (bdS s') c = setC (alS s) (bdS s) c :=
  setC_al (fun _ hk => alS_agr H ha hk) (fun _ hk _ hj hne => bdS_agr H ha hk hj hne) H.1
theorem chB_agr {s s' : Nat → Int32} {c k j : Nat} {mu : Nat → Nat} (H : fineS s c) (ha : agr s s') (hk : k < c) (hj : j < c) : chB s' mu k j = chB s mu k j := by
  unfold chB
  by_cases h : j = k
  · simp [h]
  · rw [bdS_agr H ha hk hj (fun e => h e.symm)]
theorem dsI_congr {f g : Nat → Int32 → Int32} {c : Nat} (h : ∀ j, j < c → ∀ L, f j L = g j L) : ∀ r, r ≤ c → ∀ L, dsI f c r L = dsI g c r L
  | 0, _, _ => rfl
  | r + 1, hr, L => by
    unfold dsI
    rw [h _ (by omega), dsI_congr h r (by omega)]
theorem dsF_agr {s s' : Nat → Int32} {c : Nat} (H : fineS s c) (ha : agr s s') : ∀ d, d ≤ c → ∀ (mu : Nat → Nat), (∀ k, k < c → mu k < c) → ∀ L, dsF s' c d mu L = dsF s c d mu L
  | 0, _, mu, hmu, L => by
    unfold dsF
    rw [cosN_agr H ha hmu (Nat.le_refl _)]
  | d + 1, hd, mu, hmu, L => by
    unfold dsF
    refine dsI_congr (fun j hj L => ?_) c (Nat.le_refl _) L
    rw [chB_agr H ha (by omega) hj, dsF_agr H ha d (by omega) _ (fun k hk => by
      unfold updN
      split
      · exact hj
      · exact hmu k hk)]
abbrev tryC (s : Nat → Int32) (c : Nat) : Int32 := dsF s c c (fun _ => 0) (-1)
theorem tryC_agr {s s' : Nat → Int32} {c : Nat} (H : fineS s c) (ha : agr s s') : tryC s' c = tryC s c := dsF_agr H ha c (Nat.le_refl _) _ (fun k hk => by omega) _
/-! ===== the share and the digest ===== -/
def sumF (al : Nat → Int32) : Nat → Int32
  | 0 => 0
  | k + 1 => sumF al k + al k
theorem sumF_al {al al' : Nat → Int32} : ∀ c, (∀ k, k < c → al' k = al k) → sumF al' c = sumF al c
  | 0, _ => rfl
  | c + 1, h => by
    unfold sumF
    rw [sumF_al c (fun k hk => h k (by omega)), h c (by omega)]
def shV (A B : Int32) : UInt64 := if A = 0 then FP.dconst0 else FP.ddiv (FP.i2d (A - B)) (FP.i2d A)
theorem shV_ok (A B : Int32) : Jvm.FP.Core.dIsNaN (shV A B) = false := by
  unfold shV
  by_cases h : A = 0
  · rw [if_pos h]; decide +kernel
  · rw [if_neg h]; exact ddiv_ok h
abbrev shS (s : Nat → Int32) (c : Nat) : UInt64 := shV (sumF (alS s) c) (setC (alS s) (bdS s) c)
theorem shS_agr {s s' : Nat → Int32} {c : Nat} (H : fineS s c) (ha : agr s s') : shS s' c = shS s c := by
  unfold shS
  rw [setC_agr H ha, sumF_al c (fun _ hk => alS_agr H ha hk)]
abbrev fo (h : Int64) (x : Int32) : Int64 := 31 * h + x.toInt64
def prH (s P : Nat → Int32) : Nat → Int64 → Int64
  | 0, h => h
  | j + 1, h => fo (prH s P j h) (prp s P j)
def bdH (bd : Nat → Int32) (k : Nat) : Nat → Int64 → Int64
  | 0, h => h
  | j + 1, h => if j = k then bdH bd k j h else fo (bdH bd k j h) (bd j)
def opF (s : Nat → Int32) (c : Nat) (h : Int64) (k : Nat) : Int64 := bdH (fun j => bdS s k j) k c (fo (prH s (pa s (21 + 7 * k)) 11 h) (wyF s (pa s (21 + 7 * k))))
def rwH (f : Nat → Int32) : Nat → Int64 → Int64
  | 0, h => h
  | j + 1, h => fo (rwH f j h) (f j)
def opH (s : Nat → Int32) (c : Nat) : Nat → Int64 → Int64
  | 0, h => h
  | k + 1, h => opF s c (opH s c k h) k
def dgA (s : Nat → Int32) (sv : Int32) (c : Nat) : Int64 := fo (fo (fo (fo (rwH s 20 (rwH (fun j => ctd s sv c j) 10 3691)) (rM s 3)) (s (4 + rDn s 2 2))) (rM s 12)) (s (4 + rDn s 11 11))
def dgB (s : Nat → Int32) (sv : Int32) (c : Nat) : Int64 := fo (fo (fo (opH s c c (dgA s sv c)) (setC (alS s) (bdS s) c)) (tryC s c)) (oI (dpN s c))
def dgF (s : Nat → Int32) (sv : Int32) (kp bf : Nat → Int32) (T c : Nat) : Int64 := rwH bf T (fo (fo (fo (31 * dgB s sv c + (shS s c).toInt64) (if kp 0 = 0 then 0 else 1)) (if kp 1 = 0 then 0 else 1)) (nI T))
theorem prH_congr {s s' P P' : Nat → Int32} (hs : ∀ i, i < 75 → s' i = s i) (h : ∀ k, k < 7 → P' k = P k) (hf : fineP s P) (x : Int64) : ∀ j, j ≤ 11 → prH s' P' j x = prH s P j x
  | 0, _ => rfl
  | j + 1, hj => by
    unfold prH
    rw [prH_congr hs h hf x j (by omega), prp_congr hs h hf (by omega)]
theorem bdH_congr {bd bd' : Nat → Int32} {k : Nat} (x : Int64) : ∀ j, (∀ i, i < j → i ≠ k → bd' i = bd i) → bdH bd' k j x = bdH bd k j x
  | 0, _ => rfl
  | j + 1, h => by
    unfold bdH
    rw [bdH_congr x j (fun i hi => h i (by omega))]
    by_cases e : j = k
    · rw [if_pos e, if_pos e]
    · rw [if_neg e, if_neg e, h j (by omega) e]
theorem opF_agr {s s' : Nat → Int32} {c k : Nat} (H : fineS s c) (ha : agr s s') (hk : k < c) (x : Int64) : opF s' c x k = opF s c x k := by
  have h7 := H.1
  unfold opF
  rw [bdH_congr _ c (fun i hi hne => bdS_agr H ha hk hi (fun e => hne e.symm)), prH_congr ha.lo (ha.pa (k := k) (by omega)) (H.2.2.1 k hk).1 x 11 (Nat.le_refl _), wyF_congr ha.lo (ha.pa (k := k) (by omega)) (H.2.2.1 k hk).2]
