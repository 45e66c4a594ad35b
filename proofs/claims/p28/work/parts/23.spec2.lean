section KN2
variable {X : Nat × (Nat → Int32)} {M : kMi} {dd : Nat} {Q : kQ} {rc rs n : Nat} {w : kM} {L : List (Nat × Value)} {st : List Value}
theorem kw_callVw0 {My : kMi} {dy pc idx o ci k : Nat} {F : Nat → Value} {As rest st0 : List Value} {P : kM → Prop} (d : decode M.2.1 pc = .ok (.invokevirtual idx, 3)) (hl0 : kLV M.1.cls idx My k) (hC : kCtrW My dy (.ref o :: As) w none P) (ho : w o = kO ci F) (hci : (kcl[ci]?).map (fun r => r.1) = some My.1.cls) (hst : st0 = As.reverse ++ .ref o :: rest) (hk : As.length = k)
    (hroom : dy + 1 ≤ dd ∧ My.2.2.1 ≤ 40 ∧ (rest.map fun v => v.category).sum ≤ 8)
    (kk : ∀ w', P w' → kW X M dd Q rc rs n w' (pc + 3) L rest) : kW X M dd Q rc rs n w pc L st0 := kw_callVw d hl0 hC ho hci hst hk hroom kk
theorem kw_callVw1 {My : kMi} {dy pc idx o ci k : Nat} {F : Nat → Value} {As rest st0 : List Value} {v : Value} {P : kM → Prop} (d : decode M.2.1 pc = .ok (.invokevirtual idx, 3)) (hl0 : kLV M.1.cls idx My k) (hC : kCtrW My dy (.ref o :: As) w (some v) P) (ho : w o = kO ci F) (hci : (kcl[ci]?).map (fun r => r.1) = some My.1.cls) (hst : st0 = As.reverse ++ .ref o :: rest) (hk : As.length = k)
    (hroom : dy + 1 ≤ dd ∧ My.2.2.1 ≤ 40 ∧ (rest.map fun v => v.category).sum ≤ 8)
    (kk : ∀ w', P w' → kW X M dd Q rc rs n w' (pc + 3) L (v :: rest)) : kW X M dd Q rc rs n w pc L st0 := kw_callVw d hl0 hC ho hci hst hk hroom kk
end KN2
/-- the saved rows, the first j of them moved down by one -/
def shf (s : Nat → Int32) : Nat → Nat → Int32
  | 0 => s
  | j + 1 => cpR (shf s j) (j + 2) (j + 1) 75
def svS (s : Nat → Int32) (q : Nat) : Nat → Int32 := if q = 6 then cpR (shf s 5) 0 6 75 else cpR s 0 (q + 1) 75
def svN (q : Nat) : Nat := if q = 6 then 6 else q + 1
theorem cpR_low {s : Nat → Int32} {f t k i : Nat} (h : i < 75 * t) : cpR s f t k i = s i := by
  unfold cpR
  rw [if_neg (by omega)]
theorem shf_low {s : Nat → Int32} {i : Nat} (h : i < 75) : ∀ j, shf s j i = s i
  | 0 => rfl
  | j + 1 => by
    show cpR (shf s j) (j + 2) (j + 1) 75 i = s i
    rw [cpR_low (by omega), shf_low h j]
theorem svS_low {s : Nat → Int32} {q i : Nat} (h : i < 75) : svS s q i = s i := by
  unfold svS
  split
  · rw [cpR_low (by omega), shf_low h]
  · rw [cpR_low (by omega)]
/-- the parcel k of c gone, as far as the place t -/
def goneP (s : Nat → Int32) (k c t : Nat) : Nat → Int32 := fun i => if i = 20 then nI (c - 1) else if 21 + 7 * k ≤ i ∧ i < t then s (i + 7) else s i
def goneS (s : Nat → Int32) (k c : Nat) : Nat → Int32 := goneP s k c (21 + 7 * (c - 1))
theorem goneP_0 {s : Nat → Int32} {k c : Nat} (hc : s 20 = nI c) (h1 : 1 ≤ c) : kuf s 20 (s 20 - 1) = goneP s k c (21 + 7 * k) := by
  have e : s 20 - 1 = nI (c - 1) := kS hc (rfl : (1 : Int32) = nI 1) h1
  rw [e]
  funext i
  unfold kuf goneP
  by_cases h : i = 20
  · rw [if_pos h, if_pos h]
  · rw [if_neg h, if_neg h, if_neg (by omega)]
theorem goneP_20 {s : Nat → Int32} {k c t : Nat} : goneP s k c t 20 = nI (c - 1) := by
  unfold goneP
  rw [if_pos rfl]
theorem goneP_step {s : Nat → Int32} {k c t : Nat} (h : 21 + 7 * k ≤ t) : kuf (goneP s k c t) t (goneP s k c t (t + 7)) = goneP s k c (t + 1) := by
  funext i
  unfold kuf goneP
  by_cases h1 : i = t
  · subst h1
    rw [if_pos rfl, if_neg (by omega), if_neg (by omega), if_neg (by omega), if_pos (by omega)]
  · rw [if_neg h1]
    by_cases h2 : i = 20
    · rw [if_pos h2, if_pos h2]
    · rw [if_neg h2, if_neg h2]
      by_cases h3 : 21 + 7 * k ≤ i ∧ i < t
      · rw [if_pos h3, if_pos (by omega)]
      · rw [if_neg h3, if_neg (by omega)]
def comeR (s : Nat → Int32) (p : Nat) (x y z wt zn wy : Int32) : Nat → Int32 := kuf (kuf (kuf (kuf (putS s p x y z) (p + 3) wt) (p + 4) zn) (p + 5) 0) (p + 6) wy
/-- a parcel comes behind c others -/
def comeS (s : Nat → Int32) (c : Nat) (x y z wt zn wy : Int32) : Nat → Int32 := if c = 7 then kuf s 74 (s 74 + 1) else kuf (comeR s (21 + 7 * c) x y z wt zn wy) 20 (nI (c + 1))
def comeV (c : Nat) : Int32 := if c = 7 then -1 else nI c
/-- two parcels tied together -/
def bnP (P Q : Nat → Int32) : Nat → Int32 := fun k => if k < 3 then sort3 (gI (P 0) (Q 0)) (gI (P 1) (Q 1)) (P 2 + Q 2) k else if k = 3 then P 3 + Q 3 else if k = 4 then P 4 else if k = 5 then P 5 + Q 5 else gI (P 6) (Q 6)
abbrev bOK (s P Q : Nat → Int32) : Prop := P 4 = Q 4 ∧ pR s P = 0 ∧ pR s Q = 0 ∧ P 3 + Q 3 ≤ 99 ∧ pR s (bnP P Q) = 0
def bdF (s P Q : Nat → Int32) : Int32 := if bOK s P Q then pP s (bnP P Q) else -1
/-- the numbers of the office and all that is kept are the same -/
def agr (s s' : Nat → Int32) : Prop := ∀ i, i < 675 → s' i = s i
theorem agr.rf {s : Nat → Int32} : agr s s := fun _ _ => rfl
theorem agr.tr {s s1 s2 : Nat → Int32} (h1 : agr s s1) (h2 : agr s1 s2) : agr s s2 := fun i hi => (h2 i hi).trans (h1 i hi)
theorem pG_congr {P P' : Nat → Int32} (h : ∀ k, k < 7 → P' k = P k) : pG P' = pG P := by
  unfold pG
  rw [h 0 (by decide), h 1 (by decide), h 2 (by decide)]
theorem pS_congr {s s' P P' : Nat → Int32} (hs : ∀ i, i < 75 → s' i = s i) (h : ∀ k, k < 7 → P' k = P k) : pS s' P' = pS s P := by
  unfold pS
  rw [h 0 (by decide), h 1 (by decide), h 2 (by decide), h 6 (by decide), hs 0 (by decide)]
theorem pR_congr {s s' P P' : Nat → Int32} (hs : ∀ i, i < 75 → s' i = s i) (h : ∀ k, k < 7 → P' k = P k) : pR s' P' = pR s P := by
  unfold pR
  rw [h 3 (by decide), h 5 (by decide), h 6 (by decide), hs 1 (by decide), pG_congr h]
theorem rM_congr {s s' : Nat → Int32} (hs : ∀ i, i < 75 → s' i = s i) : ∀ k, k ≤ 12 → rM s' k = rM s k
  | 0, _ => rfl
  | k + 1, h => by
    show gI (s' (4 + k)) (rM s' k) = gI (s (4 + k)) (rM s k)
    rw [hs _ (by omega), rM_congr hs k (by omega)]
theorem pW_congr {s s' P P' : Nat → Int32} {z : Int32} (hs : ∀ i, i < 75 → s' i = s i) (h : ∀ k, k < 7 → P' k = P k) (h4 : fineZ P) (h5 : fineB z) : pW s' P' z = pW s P z := by
  obtain ⟨zz, h6, h7⟩ := h4
  obtain ⟨K, h8, h9⟩ := h5
  rw [pW_of h9 h8 h7 h6, pW_of h9 h8 ((h 4 (by decide)).trans h7) h6, rM_congr hs _ (by omega), hs _ (by omega), hs 1 (by decide), hs 2 (by decide), h 5 (by decide), pG_congr h]
theorem fineP_congr {s s' P P' : Nat → Int32} (hs : ∀ i, i < 75 → s' i = s i) (h : ∀ k, k < 7 → P' k = P k) (hf : fineP s P) : fineP s' P' := by
  obtain ⟨⟨zz, h6, h7⟩, K, h8, h9⟩ := hf
  exact ⟨⟨zz, h6, (h 4 (by decide)).trans h7⟩, K, h8, by rw [pS_congr hs h]; exact h9⟩
theorem pP_congr {s s' P P' : Nat → Int32} (hs : ∀ i, i < 75 → s' i = s i) (h : ∀ k, k < 7 → P' k = P k) (hf : fineP s P) : pP s' P' = pP s P := by
  unfold pP
  rw [pS_congr hs h]
  exact pW_congr hs h hf.1 hf.2
theorem pAl_congr {s s' P P' : Nat → Int32} (hs : ∀ i, i < 75 → s' i = s i) (h : ∀ k, k < 7 → P' k = P k) (hf : fineP s P) : pAl s' P' = pAl s P := by
  unfold pAl
  rw [pR_congr hs h, pP_congr hs h hf]
def prp (s P : Nat → Int32) (j : Nat) : Int32 := match j with
  | 7 => pG P
  | 8 => pS s P
  | 9 => pP s P
  | 10 => pR s P
  | j => P j
def ctd (s : Nat → Int32) (sv : Int32) (c j : Nat) : Int32 := match j with
  | 0 => s 20
  | 1 => cntN 0 s c
  | 2 => cntN 1 s c
  | 8 => lowN s 12
  | 9 => sv
  | j => s (67 + j)
/-- a parcel tied in another way -/
def wyP (P : Nat → Int32) (v : Int32) : Nat → Int32 := fun k => if k = 6 then v else P k
def wyS (s P : Nat → Int32) (v : Int32) (r : Int32 × Int32) : Int32 × Int32 := if pR s (wyP P v) = 0 ∧ (r.1 = -1 ∨ pP s (wyP P v) < r.2) then (v, pP s (wyP P v)) else r
def wyR (s P : Nat → Int32) : Nat → Int32 × Int32
  | 0 => (-1, 0)
  | k + 1 => wyS s P (nI k) (wyR s P k)
def wyF (s P : Nat → Int32) : Int32 := (wyR s P 3).1
/-- the first k numbers of p laid out behind all rows -/
def layP (s : Nat → Int32) (p k : Nat) : Nat → Int32 := fun i => if 675 ≤ i ∧ i < 675 + k then s (p + (i - 675)) else s i
theorem layP_step {s : Nat → Int32} {p k : Nat} (hp : p + 6 < 675) (hk : k < 7) : kuf (layP s p k) (675 + k) (layP s p k (p + k)) = layP s p (k + 1) := by
  funext i
  unfold kuf layP
  by_cases h : i = 675 + k
  · subst h
    rw [if_pos rfl, if_neg (by omega), if_pos (by omega), show 675 + k - 675 = k by omega]
  · rw [if_neg h]
    by_cases h2 : 675 ≤ i ∧ i < 675 + k
    · rw [if_pos h2, if_pos (by omega)]
    · rw [if_neg h2, if_neg (by omega)]
theorem layP_0 {s : Nat → Int32} {p : Nat} : layP s p 0 = s := by
  funext i
  unfold layP
  rw [if_neg (by omega)]
theorem kuf_eq (f : Nat → Int32) (i : Nat) (x : Int32) : kuf f i x i = x := if_pos rfl
theorem kuf_ne {f : Nat → Int32} {i j : Nat} {x : Int32} (h : j ≠ i) : kuf f i x j = f j := if_neg h
