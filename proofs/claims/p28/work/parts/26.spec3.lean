def frB (ma : Nat → Int32) (p : Int32) : Nat → Bool
  | 0 => true
  | k + 1 => frB ma p k && decide (ma k ≠ p)
/-- what the office's numbers must be for every postage to be told -/
def fineS (s : Nat → Int32) (c : Nat) : Prop := c ≤ 7 ∧ s 20 = nI c ∧ (∀ k, k < c → fineP s (pa s (21 + 7 * k)) ∧ ∀ v, v < 3 → fineP s (wyP (pa s (21 + 7 * k)) (nI v))) ∧ ∀ k, k < c → ∀ j, j < c → k ≠ j → bOK s (pa s (21 + 7 * k)) (pa s (21 + 7 * j)) → fineP s (bnP (pa s (21 + 7 * k)) (pa s (21 + 7 * j)))
abbrev alS (s : Nat → Int32) (k : Nat) : Int32 := pAl s (pa s (21 + 7 * k))
abbrev bdS (s : Nat → Int32) (k j : Nat) : Int32 := bdF s (pa s (21 + 7 * k)) (pa s (21 + 7 * j))
theorem agr.lo {s s' : Nat → Int32} (h : agr s s') : ∀ i, i < 75 → s' i = s i := fun i hi => h i (by omega)
theorem agr.pa {s s' : Nat → Int32} (h : agr s s') {k : Nat} (hk : k < 7) : ∀ i, i < 7 → pa s' (21 + 7 * k) i = pa s (21 + 7 * k) i := fun i hi => h _ (by omega)
theorem sort3_congr {a b c a' b' c' : Int32} (h1 : a' = a) (h2 : b' = b) (h3 : c' = c) (k : Nat) : sort3 a' b' c' k = sort3 a b c k := by rw [h1, h2, h3]
theorem bnP_congr {P P' Q Q' : Nat → Int32} (h : ∀ k, k < 7 → P' k = P k) (h2 : ∀ k, k < 7 → Q' k = Q k) (k : Nat) : bnP P' Q' k = bnP P Q k := by
  unfold bnP
  rw [h 0 (by decide), h 1 (by decide), h 2 (by decide), h 3 (by decide), h 4 (by decide), h 5 (by decide), h 6 (by decide), h2 0 (by decide), h2 1 (by decide), h2 2 (by decide), h2 3 (by decide), h2 5 (by decide), h2 6 (by decide)]
theorem bOK_congr {s s' P P' Q Q' : Nat → Int32} (hs : ∀ i, i < 75 → s' i = s i) (h : ∀ k, k < 7 → P' k = P k) (h2 : ∀ k, k < 7 → Q' k = Q k) : bOK s' P' Q' ↔ bOK s P Q := by
  unfold bOK
  rw [pR_congr hs h, pR_congr hs h2, pR_congr hs (fun k _ => bnP_congr h h2 k), h 4 (by decide), h2 4 (by decide), h 3 (by decide), h2 3 (by decide)]
theorem bdF_congr {s s' P P' Q Q' : Nat → Int32} (hs : ∀ i, i < 75 → s' i = s i) (h : ∀ k, k < 7 → P' k = P k) (h2 : ∀ k, k < 7 → Q' k = Q k) (hf : bOK s P Q → fineP s (bnP P Q)) : bdF s' P' Q' = bdF s P Q := by
  unfold bdF
  by_cases hb : bOK s P Q
  · rw [if_pos hb, if_pos ((bOK_congr hs h h2).mpr hb), pP_congr hs (fun k _ => bnP_congr h h2 k) (hf hb)]
  · rw [if_neg hb, if_neg (fun q => hb ((bOK_congr hs h h2).mp q))]
theorem wyP_congr {P P' : Nat → Int32} {v : Int32} (h : ∀ k, k < 7 → P' k = P k) : ∀ k, k < 7 → wyP P' v k = wyP P v k := by
  intro k hk
  unfold wyP
  rw [h k hk]
theorem fineS.agr {s s' : Nat → Int32} {c : Nat} (h : fineS s c) (ha : agr s s') : fineS s' c := by
  obtain ⟨h1, h2, h3, h4⟩ := h
  refine ⟨h1, (ha 20 (by decide)).trans h2, fun k hk => ⟨fineP_congr ha.lo (ha.pa (by omega)) (h3 k hk).1, fun v hv => fineP_congr ha.lo (wyP_congr (ha.pa (by omega))) ((h3 k hk).2 v hv)⟩, fun k hk j hj hne hb => ?_⟩
  exact fineP_congr ha.lo (fun i _ => bnP_congr (ha.pa (by omega)) (ha.pa (by omega)) i) (h4 k hk j hj hne ((bOK_congr ha.lo (ha.pa (by omega)) (ha.pa (by omega))).mp hb))
theorem alS_agr {s s' : Nat → Int32} {c k : Nat} (h : fineS s c) (ha : agr s s') (hk : k < c) : alS s' k = alS s k := pAl_congr ha.lo (ha.pa (by have := h.1; omega)) (h.2.2.1 k hk).1
theorem bdS_agr {s s' : Nat → Int32} {c k j : Nat} (h : fineS s c) (ha : agr s s') (hk : k < c) (hj : j < c) (hne : k ≠ j) : bdS s' k j = bdS s k j := bdF_congr ha.lo (ha.pa (by have := h.1; omega)) (ha.pa (by have := h.1; omega)) (h.2.2.2 k hk j hj hne)
theorem dpN_lt {s : Nat → Int32} {f : Nat} : ∀ {k : Nat}, dpN s k = some f → f < k
  | 0, h => by cases h
  | k + 1, h => by
    unfold dpN at h
    split at h
    · split at h
      · cases h; omega
      · rename_i g hg
        have := dpN_lt hg
        split at h
        · cases h; omega
        · cases h; omega
    · have := dpN_lt h
      omega
theorem oI_ne {k : Nat} (h : k < 100) : ¬ nI k = -1 := by
  intro q
  have a := nI_toInt (n := k) (by omega)
  rw [q] at a
  have : (-1 : Int32).toInt = -1 := by decide
  omega
theorem oI_none {o : Option Nat} (h : ∀ f, o = some f → f < 100) : oI o = -1 ↔ o = none := by
  cases o with
  | none => exact ⟨fun _ => rfl, fun _ => rfl⟩
  | some f => exact ⟨fun q => absurd q (oI_ne (h f rfl)), fun q => by cases q⟩
/-- can the parcel k have the mate j -/
abbrev chH (s ma : Nat → Int32) (k j : Nat) : Prop := if j < k then ma j = nI k else frB ma (nI k) k = true ∧ (j = k ∨ (frB ma (nI j) k = true ∧ bdS s k j ≠ -1))
/-- what the mates mu of the first k parcels cost -/
def cosN (s : Nat → Int32) (mu : Nat → Nat) : Nat → Int32
  | 0 => 0
  | k + 1 => cosN s mu k + (if mu k = k then alS s k else if k < mu k then bdS s k (mu k) else 0)
