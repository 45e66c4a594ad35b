theorem kuf_add0 (f : Nat → Int32) (i : Nat) : kuf f i (f i + 0) = f := by
  funext j
  unfold kuf
  by_cases h : j = i
  · rw [if_pos h, h]; exact Int32.add_zero _
  · rw [if_neg h]
/-- the saved rows do not touch the present one -/
theorem sv_pa {s : Nat → Int32} {q k : Nat} (hk : k < 7) : ∀ i, i < 7 → pa (svS s q) (21 + 7 * k) i = pa s (21 + 7 * k) i := fun i hi => svS_low (by omega)
theorem kuf_lo {s s' : Nat → Int32} {i : Nat} {x : Int32} (hi : 70 ≤ i) (h : ∀ j, j < 70 → s' j = s j) : ∀ j, j < 70 → kuf s' i x j = s j := fun j hj => by rw [kuf_ne (by omega)]; exact h j hj
theorem fineZ_congr {P P' : Nat → Int32} (h : ∀ k, k < 7 → P' k = P k) (hz : fineZ P) : fineZ P' := by
  obtain ⟨zz, h1, h2⟩ := hz
  exact ⟨zz, h1, (h 4 (by decide)).trans h2⟩
theorem k72_lo {s : Nat → Int32} {q : Nat} {x : Int32} : ∀ i, i < 70 → kuf (svS s q) 72 x i = s i := fun i hi => by rw [kuf_ne (by omega)]; exact svS_low (by omega)
theorem k72_pa {s : Nat → Int32} {q k : Nat} {x : Int32} (hk : k < 7) : ∀ i, i < 7 → pa (kuf (svS s q) 72 x) (21 + 7 * k) i = pa s (21 + 7 * k) i := fun i hi => k72_lo _ (by omega)
theorem rM_congr72 {s s' : Nat → Int32} (hs : ∀ i, i < 70 → s' i = s i) : ∀ k, k ≤ 12 → rM s' k = rM s k
  | 0, _ => rfl
  | k + 1, h => by
    show gI (s' (4 + k)) (rM s' k) = gI (s (4 + k)) (rM s k)
    rw [hs _ (by omega), rM_congr72 hs k (by omega)]
theorem pW_congr72 {s s' P P' : Nat → Int32} {z : Int32} (hs : ∀ i, i < 70 → s' i = s i) (h : ∀ k, k < 7 → P' k = P k) (h4 : fineZ P) (h5 : fineB z) : pW s' P' z = pW s P z := by
  obtain ⟨zz, h6, h7⟩ := h4
  obtain ⟨K, h8, h9⟩ := h5
  rw [pW_of h9 h8 h7 h6, pW_of h9 h8 ((h 4 (by decide)).trans h7) h6, rM_congr72 hs _ (by omega), hs _ (by omega), hs 1 (by decide), hs 2 (by decide), h 5 (by decide), pG_congr h]
