theorem vp_ofE {j : Int32} {i N : Nat} (h : j = nI i) (hi : i < N) (hN : N < 2147483648) : vp_in j N := by
  rw [h]
  exact vp_in_nI hi hN
theorem sEnd {p : Nat} (hp : p < 4) : ([120, 120, 42, 122] : List Int32).getD (nI p).toNatClampNeg 0 = endC p := by
  rw [nI_clamp (by omega)]
  match p, hp with
  | 0, _ => rfl
  | 1, _ => rfl
  | 2, _ => rfl
  | 3, _ => rfl
theorem sMost {p : Nat} (hp : p < 4) : ([60, 60, 60, 99] : List Int32).getD (nI p).toNatClampNeg 0 = most p := by
  rw [nI_clamp (by omega)]
  match p, hp with
  | 0, _ => rfl
  | 1, _ => rfl
  | 2, _ => rfl
  | 3, _ => rfl
theorem stp_le {st st' : pst} {c : Int32} (h : stp st c = some st') (h6 : st.1 ≤ 6) : st'.1 ≤ 6 := by
  obtain ⟨p, v⟩ := st
  have h6 : p ≤ 6 := h6
  by_cases h4 : p < 4
  · rw [stp_nu h4] at h
    unfold nuS enS at h
    repeat' (split at h)
    all_goals first | (cases h; done) | (cases h; show _ ≤ 6; omega)
  · by_cases e4 : p = 4
    · subst e4
      rw [stp_4] at h
      unfold chS at h
      split at h
      · cases h
      · cases h; exact Nat.le_of_ble_eq_true rfl
    · by_cases e5 : p = 5
      · subst e5
        rw [stp_5] at h
        unfold chS at h
        split at h
        · cases h
        · cases h; exact Nat.le_of_ble_eq_true rfl
      · have e6 : p = 6 := by omega
        subst e6
        by_cases hc : c = 59
        · rw [stp_6 hc] at h; cases h; exact Nat.le_of_ble_eq_true rfl
        · rw [stp_6no hc] at h; cases h
theorem nu_e {p : Nat} {v : Nat → Int32} {c : Int32} (h : c = endC p) : nuS p v c = enS p v := if_pos h
theorem nu_n {p : Nat} {v : Nat → Int32} {c : Int32} (h : ¬ c = endC p) (h2 : c < 48 ∨ 57 < c) : nuS p v c = none := (if_neg h).trans (if_pos h2)
theorem nu_o {p : Nat} {v : Nat → Int32} {c : Int32} (h : ¬ c = endC p) (h2 : ¬ (c < 48 ∨ 57 < c)) (h3 : 10 * v p + (c - 48) < 1 ∨ most p < 10 * v p + (c - 48)) : nuS p v c = none := (if_neg h).trans ((if_neg h2).trans (if_pos h3))
theorem nu_s {p : Nat} {v : Nat → Int32} {c : Int32} (h : ¬ c = endC p) (h2 : ¬ (c < 48 ∨ 57 < c)) (h3 : ¬ (10 * v p + (c - 48) < 1 ∨ most p < 10 * v p + (c - 48))) : nuS p v c = some (p, kuf v p (10 * v p + (c - 48))) := (if_neg h).trans ((if_neg h2).trans (if_neg h3))
theorem six_n {p : Nat} {v : Nat → Int32} {c : Int32} (h : p = 6) (h2 : ¬ c = 59) : stp (p, v) c = none := by subst h; exact stp_6no h2
theorem six_s {p : Nat} {v : Nat → Int32} {c : Int32} (h : p = 6) (h2 : c = 59) : stp (p, v) c = some (0, kuf v 0 0) := by subst h; exact stp_6 h2
theorem aln_le6 {bf : Nat → Int32} : ∀ (n : Nat) (st : pst) (i : Nat), st.1 ≤ 6 → (aln bf n st i).2.1 ≤ 6
  | 0, _, _, h => h
  | n + 1, st, i, h => by
    show (match stp st (bf i) with | none => (i, st) | some st' => aln bf n st' (i + 1)).2.1 ≤ 6
    cases hs : stp st (bf i) with
    | none => exact h
    | some st' => exact aln_le6 n st' (i + 1) (stp_le hs h)
theorem al_le6 {bf : Nat → Int32} {T i : Nat} {st : pst} (h : st.1 ≤ 6) : (al bf T st i).2.1 ≤ 6 := aln_le6 _ _ _ h
