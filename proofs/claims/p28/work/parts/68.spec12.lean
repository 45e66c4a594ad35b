/-! ===== readings that agree; what has been read ===== -/
def eqv (a b : pst) : Prop := a.1 = b.1 ∧ ∀ j, (j < a.1 ∨ (j = a.1 ∧ j < 4)) → a.2 j = b.2 j
theorem eqv_nu {p : Nat} {u v : Nat → Int32} {c : Int32} (h : eqv (p, u) (p, v)) (hp : p < 4) : (nuS p u c = none ∧ nuS p v c = none) ∨ ∃ a b, nuS p u c = some a ∧ nuS p v c = some b ∧ eqv a b := by
  have e : u p = v p := h.2 p (Or.inr ⟨rfl, hp⟩)
  unfold nuS enS
  rw [e]
  by_cases h1 : c = endC p
  · rw [if_pos h1, if_pos h1]
    by_cases h2 : v p = 0
    · rw [if_pos h2, if_pos h2]
      exact Or.inl ⟨rfl, rfl⟩
    · rw [if_neg h2, if_neg h2]
      refine Or.inr ⟨_, _, rfl, rfl, rfl, fun j hj => ?_⟩
      show kuf u (p + 1) 0 j = kuf v (p + 1) 0 j
      unfold kuf
      by_cases h3 : j = p + 1
      · rw [if_pos h3, if_pos h3]
      · rw [if_neg h3, if_neg h3]
        have hj : j < p + 1 ∨ (j = p + 1 ∧ j < 4) := hj
        exact h.2 j (by show j < p ∨ (j = p ∧ j < 4); omega)
  · rw [if_neg h1, if_neg h1]
    by_cases h2 : c < 48 ∨ 57 < c
    · rw [if_pos h2, if_pos h2]
      exact Or.inl ⟨rfl, rfl⟩
    · rw [if_neg h2, if_neg h2]
      by_cases h3 : 10 * v p + (c - 48) < 1 ∨ most p < 10 * v p + (c - 48)
      · rw [if_pos h3, if_pos h3]
        exact Or.inl ⟨rfl, rfl⟩
      · rw [if_neg h3, if_neg h3]
        refine Or.inr ⟨_, _, rfl, rfl, rfl, fun j hj => ?_⟩
        show kuf u p (10 * v p + (c - 48)) j = kuf v p (10 * v p + (c - 48)) j
        unfold kuf
        by_cases h4 : j = p
        · rw [if_pos h4, if_pos h4]
        · rw [if_neg h4, if_neg h4]
          exact h.2 j hj
theorem eqv_ch {p : Nat} {u v : Nat → Int32} {x m : Int32} (h : eqv (p, u) (p, v)) (hp : 4 ≤ p) : (chS p u x m = none ∧ chS p v x m = none) ∨ ∃ a b, chS p u x m = some a ∧ chS p v x m = some b ∧ eqv a b := by
  unfold chS
  by_cases h1 : x < 0 ∨ m ≤ x
  · rw [if_pos h1, if_pos h1]
    exact Or.inl ⟨rfl, rfl⟩
  · rw [if_neg h1, if_neg h1]
    refine Or.inr ⟨_, _, rfl, rfl, rfl, fun j hj => ?_⟩
    show kuf u p x j = kuf v p x j
    unfold kuf
    by_cases h4 : j = p
    · rw [if_pos h4, if_pos h4]
    · rw [if_neg h4, if_neg h4]
      have hj : j < p + 1 ∨ (j = p + 1 ∧ j < 4) := hj
      exact h.2 j (by show j < p ∨ (j = p ∧ j < 4); omega)
theorem eqv_stp {a b : pst} {c : Int32} (h : eqv a b) (h6 : a.1 ≤ 6) : (stp a c = none ∧ stp b c = none) ∨ ∃ x y, stp a c = some x ∧ stp b c = some y ∧ eqv x y := by
  obtain ⟨p, u⟩ := a
  obtain ⟨p', v⟩ := b
  have e : p = p' := h.1
  subst e
  have h6 : p ≤ 6 := h6
  by_cases h4 : p < 4
  · rw [stp_nu h4, stp_nu h4]
    exact eqv_nu h h4
  · by_cases e4 : p = 4
    · subst e4
      rw [stp_4, stp_4]
      exact eqv_ch h (by decide)
    · by_cases e5 : p = 5
      · subst e5
        rw [stp_5, stp_5]
        exact eqv_ch h (by decide)
      · have e6 : p = 6 := by omega
        subst e6
        by_cases hc : c = 59
        · rw [stp_6 hc, stp_6 hc]
          refine Or.inr ⟨_, _, rfl, rfl, rfl, fun j hj => ?_⟩
          have hj : j < 0 ∨ (j = 0 ∧ j < 4) := hj
          have : j = 0 := by omega
          subst this
          show kuf u 0 0 0 = kuf v 0 0 0
          rw [kuf_eq, kuf_eq]
        · rw [stp_6no hc, stp_6no hc]
          exact Or.inl ⟨rfl, rfl⟩
theorem eqv0 {u v : Nat → Int32} (hu : u 0 = 0) (hv : v 0 = 0) : eqv (0, u) (0, v) := ⟨rfl, fun j hj => by
  have hj : j < 0 ∨ (j = 0 ∧ j < 4) := hj
  have : j = 0 := by omega
  subst this
  exact hu.trans hv.symm⟩
theorem aln_eqv {bf : Nat → Int32} : ∀ (n : Nat) (a b : pst) (i : Nat), eqv a b → a.1 ≤ 6 → (aln bf n a i).1 = (aln bf n b i).1 ∧ (aln bf n a i).2.1 = (aln bf n b i).2.1
  | 0, a, b, i, h, _ => ⟨rfl, h.1⟩
  | n + 1, a, b, i, h, h6 => by
    show (match stp a (bf i) with | none => (i, a) | some st' => aln bf n st' (i + 1)).1 = (match stp b (bf i) with | none => (i, b) | some st' => aln bf n st' (i + 1)).1 ∧ (match stp a (bf i) with | none => (i, a) | some st' => aln bf n st' (i + 1)).2.1 = (match stp b (bf i) with | none => (i, b) | some st' => aln bf n st' (i + 1)).2.1
    rcases eqv_stp (c := bf i) h h6 with ⟨e1, e2⟩ | ⟨x, y, e1, e2, e3⟩
    · rw [e1, e2]; exact ⟨rfl, h.1⟩
    · rw [e1, e2]; exact aln_eqv n x y (i + 1) e3 (stp_le e1 h6)
theorem aln_cf {cf bf : Nat → Int32} {T : Nat} (h : ∀ j, j < T → cf j = bf j) : ∀ (n : Nat) (st : pst) (i : Nat), i + n ≤ T → aln cf n st i = aln bf n st i
  | 0, _, _, _ => rfl
  | n + 1, st, i, hi => by
    show (match stp st (cf i) with | none => (i, st) | some st' => aln cf n st' (i + 1)) = (match stp st (bf i) with | none => (i, st) | some st' => aln bf n st' (i + 1))
    rw [h i (by omega)]
    cases stp st (bf i) with
    | none => rfl
    | some st' => exact aln_cf h n st' (i + 1) (by omega)
theorem al_z {cf bf : Nat → Int32} {T : Nat} {u : Nat → Int32} (h : ∀ j, j < T → cf j = bf j) (hu : u 0 = 0) : (al cf T (0, u) 0).1 = (al bf T (0, z0) 0).1 ∧ (al cf T (0, u) 0).2.1 = (al bf T (0, z0) 0).2.1 := by
  unfold al
  rw [aln_cf h _ _ _ (by omega)]
  exact aln_eqv _ _ _ _ (eqv0 hu rfl) (Nat.zero_le _)
/-- what has been read lies in its bounds -/
def inv (a : pst) : Prop := (∀ j, j < a.1 → j < 4 → 1 ≤ a.2 j ∧ a.2 j ≤ most j) ∧ (a.1 < 4 → 0 ≤ a.2 a.1 ∧ a.2 a.1 ≤ most a.1) ∧ (4 < a.1 → 0 ≤ a.2 4 ∧ a.2 4 ≤ 3) ∧ (5 < a.1 → 0 ≤ a.2 5 ∧ a.2 5 ≤ 2)
theorem most_pos (p : Nat) : 0 ≤ most p := by
  rcases most_ge (p := p) with q | q <;> rw [q] <;> decide
theorem inv0 {u : Nat → Int32} (h : u 0 = 0) : inv (0, u) := ⟨fun j hj => absurd hj (Nat.not_lt_zero j), fun _ => by
  show 0 ≤ u 0 ∧ u 0 ≤ most 0
  rw [h]; exact ⟨by decide, most_pos 0⟩, fun hj => absurd hj (by show ¬ 4 < 0; decide), fun hj => absurd hj (by show ¬ 5 < 0; decide)⟩
theorem inv_stp {a b : pst} {c : Int32} (h : inv a) (h6 : a.1 ≤ 6) (hs : stp a c = some b) : inv b := by
  obtain ⟨p, u⟩ := a
  obtain ⟨i1, i2, i3, i4⟩ := h
  have h6 : p ≤ 6 := h6
  have i1 : ∀ j, j < p → j < 4 → 1 ≤ u j ∧ u j ≤ most j := i1
  have i2 : p < 4 → 0 ≤ u p ∧ u p ≤ most p := i2
  have i3 : 4 < p → 0 ≤ u 4 ∧ u 4 ≤ 3 := i3
  by_cases h4 : p < 4
  · rw [stp_nu h4] at hs
    unfold nuS enS at hs
    by_cases h1 : c = endC p
    · rw [if_pos h1] at hs
      by_cases h2 : u p = 0
      · rw [if_pos h2] at hs; cases hs
      · rw [if_neg h2] at hs
        cases hs
        refine ⟨fun j hj hj4 => ?_, fun hp1 => ?_, fun hp1 => absurd hp1 (by show ¬ 4 < p + 1; omega), fun hp1 => absurd hp1 (by show ¬ 5 < p + 1; omega)⟩
        · have hj : j < p + 1 := hj
          show 1 ≤ kuf u (p + 1) 0 j ∧ kuf u (p + 1) 0 j ≤ most j
          rw [kuf_ne (by omega)]
          by_cases e : j = p
          · subst e
            have := i2 h4
            exact ⟨by grind, this.2⟩
          · exact i1 j (by omega) hj4
        · show 0 ≤ kuf u (p + 1) 0 (p + 1) ∧ kuf u (p + 1) 0 (p + 1) ≤ most (p + 1)
          rw [kuf_eq]
          exact ⟨by decide, most_pos _⟩
    · rw [if_neg h1] at hs
      by_cases h2 : c < 48 ∨ 57 < c
      · rw [if_pos h2] at hs; cases hs
      · rw [if_neg h2] at hs
        by_cases h3 : 10 * u p + (c - 48) < 1 ∨ most p < 10 * u p + (c - 48)
        · rw [if_pos h3] at hs; cases hs
        · rw [if_neg h3] at hs
          cases hs
          refine ⟨fun j hj hj4 => ?_, fun _ => ?_, fun hp1 => absurd hp1 (by show ¬ 4 < p; omega), fun hp1 => absurd hp1 (by show ¬ 5 < p; omega)⟩
          · have hj : j < p := hj
            show 1 ≤ kuf u p (10 * u p + (c - 48)) j ∧ kuf u p (10 * u p + (c - 48)) j ≤ most j
            rw [kuf_ne (by omega)]
            exact i1 j hj hj4
          · show 0 ≤ kuf u p (10 * u p + (c - 48)) p ∧ kuf u p (10 * u p + (c - 48)) p ≤ most p
            rw [kuf_eq]
            exact ⟨by grind, by grind⟩
  · by_cases e4 : p = 4
    · subst e4
      rw [stp_4] at hs
      unfold chS at hs
      by_cases h1 : c - 48 < 0 ∨ 4 ≤ c - 48
      · rw [if_pos h1] at hs; cases hs
      · rw [if_neg h1] at hs
        cases hs
        refine ⟨fun j hj hj4 => ?_, fun hp1 => absurd hp1 (by show ¬ 4 + 1 < 4; decide), fun _ => ?_, fun hp1 => absurd hp1 (by show ¬ 5 < 4 + 1; decide)⟩
        · show 1 ≤ kuf u 4 (c - 48) j ∧ kuf u 4 (c - 48) j ≤ most j
          rw [kuf_ne (by omega)]
          exact i1 j hj4 hj4
        · show 0 ≤ kuf u 4 (c - 48) 4 ∧ kuf u 4 (c - 48) 4 ≤ 3
          rw [kuf_eq]
          exact ⟨by grind, by grind⟩
    · by_cases e5 : p = 5
      · subst e5
        rw [stp_5] at hs
        unfold chS at hs
        by_cases h1 : wayV c < 0 ∨ 3 ≤ wayV c
        · rw [if_pos h1] at hs; cases hs
        · rw [if_neg h1] at hs
          cases hs
          refine ⟨fun j hj hj4 => ?_, fun hp1 => absurd hp1 (by show ¬ 5 + 1 < 4; decide), fun _ => ?_, fun _ => ?_⟩
          · show 1 ≤ kuf u 5 (wayV c) j ∧ kuf u 5 (wayV c) j ≤ most j
            rw [kuf_ne (by omega)]
            exact i1 j (by omega) hj4
          · show 0 ≤ kuf u 5 (wayV c) 4 ∧ kuf u 5 (wayV c) 4 ≤ 3
            rw [kuf_ne (by decide)]
            exact i3 (by decide)
          · show 0 ≤ kuf u 5 (wayV c) 5 ∧ kuf u 5 (wayV c) 5 ≤ 2
            rw [kuf_eq]
            exact ⟨by grind, by grind⟩
      · have e6 : p = 6 := by omega
        subst e6
        by_cases hc : c = 59
        · rw [stp_6 hc] at hs
          cases hs
          exact inv0 (kuf_eq _ _ _)
        · rw [stp_6no hc] at hs; cases hs
/-- the parcels come, code by code -/
def crN (bf : Nat → Int32) : Nat → Nat → pst → (Nat → Int32) → Nat → Nat → (Nat → Int32) × Nat
  | 0, _, _, S, _, n => (S, n)
  | f + 1, i, st, S, c, n => match stp st (bf i) with
    | none => (S, n)
    | some st' => if st'.1 = 6 then (if c = 7 then (comeS S c (st'.2 0) (st'.2 1) (st'.2 2) (st'.2 3) (st'.2 4) (st'.2 5), n) else crN bf f (i + 1) st' (comeS S c (st'.2 0) (st'.2 1) (st'.2 2) (st'.2 3) (st'.2 4) (st'.2 5)) (c + 1) (n + 1)) else crN bf f (i + 1) st' S c n
def cr (bf : Nat → Int32) (T : Nat) (st : pst) (i : Nat) (S : Nat → Int32) (c n : Nat) : (Nat → Int32) × Nat := crN bf (T - i) i st S c n
theorem cr_end {bf : Nat → Int32} {T i : Nat} {st : pst} {S : Nat → Int32} {c n : Nat} (h : T ≤ i) : cr bf T st i S c n = (S, n) := by
  unfold cr
  rw [show T - i = 0 by omega]
  rfl
theorem cr_u {bf : Nat → Int32} {T i : Nat} {st st' : pst} {S : Nat → Int32} {c n : Nat} (h : i < T) (hs : stp st (bf i) = some st') : cr bf T st i S c n = if st'.1 = 6 then (if c = 7 then (comeS S c (st'.2 0) (st'.2 1) (st'.2 2) (st'.2 3) (st'.2 4) (st'.2 5), n) else cr bf T st' (i + 1) (comeS S c (st'.2 0) (st'.2 1) (st'.2 2) (st'.2 3) (st'.2 4) (st'.2 5)) (c + 1) (n + 1)) else cr bf T st' (i + 1) S c n := by
  unfold cr
  rw [show T - i = (T - (i + 1)) + 1 by omega]
  show (match stp st (bf i) with
    | none => (S, n)
    | some st' => if st'.1 = 6 then (if c = 7 then (comeS S c (st'.2 0) (st'.2 1) (st'.2 2) (st'.2 3) (st'.2 4) (st'.2 5), n) else crN bf (T - (i + 1)) (i + 1) st' (comeS S c (st'.2 0) (st'.2 1) (st'.2 2) (st'.2 3) (st'.2 4) (st'.2 5)) (c + 1) (n + 1)) else crN bf (T - (i + 1)) (i + 1) st' S c n) = _
  rw [hs]
theorem crN_cf {cf bf : Nat → Int32} {T : Nat} (h : ∀ j, j < T → cf j = bf j) : ∀ (f i : Nat) (st : pst) (S : Nat → Int32) (c n : Nat), i + f ≤ T → crN cf f i st S c n = crN bf f i st S c n
  | 0, _, _, _, _, _, _ => rfl
  | f + 1, i, st, S, c, n, hi => by
    unfold crN
    rw [h i (by omega)]
    cases stp st (bf i) with
    | none => rfl
    | some st' =>
      dsimp only
      rw [crN_cf h f (i + 1) st' _ _ _ (by omega), crN_cf h f (i + 1) st' _ _ _ (by omega)]
theorem crN_eqv {bf : Nat → Int32} : ∀ (f i : Nat) (a b : pst) (S : Nat → Int32) (c n : Nat), eqv a b → a.1 ≤ 6 → crN bf f i a S c n = crN bf f i b S c n
  | 0, _, _, _, _, _, _, _, _ => rfl
  | f + 1, i, a, b, S, c, n, h, h6 => by
    unfold crN
    rcases eqv_stp (c := bf i) h h6 with ⟨e1, e2⟩ | ⟨x, y, e1, e2, e3⟩
    · rw [e1, e2]
    · rw [e1, e2]
      dsimp only
      have hx6 := stp_le e1 h6
      rw [← e3.1]
      by_cases e6 : x.1 = 6
      · have ev : ∀ j, j < 6 → y.2 j = x.2 j := fun j hj => (e3.2 j (Or.inl (by omega))).symm
        rw [if_pos e6, if_pos e6, ev 0 (by decide), ev 1 (by decide), ev 2 (by decide), ev 3 (by decide), ev 4 (by decide), ev 5 (by decide), crN_eqv f (i + 1) x y _ _ _ e3 hx6]
      · rw [if_neg e6, if_neg e6, crN_eqv f (i + 1) x y _ _ _ e3 hx6]
/-- as far as a parcel's end -/
theorem cr_go {bf : Nat → Int32} {T : Nat} {S : Nat → Int32} {c n : Nat} : ∀ (m i : Nat) (st : pst), m = T - i → ¬ st.1 = 6 → (go bf T st i).2.1 = 6 → cr bf T st i S c n = if c = 7 then (comeS S c ((go bf T st i).2.2 0) ((go bf T st i).2.2 1) ((go bf T st i).2.2 2) ((go bf T st i).2.2 3) ((go bf T st i).2.2 4) ((go bf T st i).2.2 5), n) else cr bf T (go bf T st i).2 (go bf T st i).1 (comeS S c ((go bf T st i).2.2 0) ((go bf T st i).2.2 1) ((go bf T st i).2.2 2) ((go bf T st i).2.2 3) ((go bf T st i).2.2 4) ((go bf T st i).2.2 5)) (c + 1) (n + 1)
  | m, i, st, hm, h6, hg => by
    rcases Nat.lt_or_ge i T with q | q
    · cases hs : stp st (bf i) with
      | none => rw [go_no hs] at hg; exact absurd hg h6
      | some st' =>
        rw [go_one q h6 hs] at hg ⊢
        rw [cr_u q hs]
        by_cases e6 : st'.1 = 6
        · rw [if_pos e6, go_six e6]
        · rw [if_neg e6]
          match m, hm with
          | 0, hm => omega
          | m + 1, hm => exact cr_go m (i + 1) st' (by omega) e6 hg
    · rw [go_end q] at hg
      exact absurd hg h6
/-- parcel by parcel it is the same, where the text tells parcels -/
theorem cr_rn {bf : Nat → Int32} {T : Nat} : ∀ (f i : Nat) (v : Nat → Int32) (S : Nat → Int32) (c n : Nat), T + 1 - i ≤ f → i ≤ T → v 0 = 0 → (al bf T (0, v) i).1 = T → (al bf T (0, v) i).2.1 = 6 → cr bf T (0, v) i S c n = rnF bf T f v i S c n
  | 0, i, v, S, c, n, hf, hi, _, _, _ => by omega
  | f + 1, i, v, S, c, n, hf, hi, hv, h1, h2 => by
    obtain ⟨e1, e2⟩ := al_go (bf := bf) (T := T) _ (0, v) i rfl
    have hg : (go bf T (0, v) i).2.1 = 6 := by
      rcases e2 with h | h
      · exact h
      · rw [h] at h2; exact h2
    have hle := go_le (bf := bf) (T := T) (st := (0, v)) hi
    have hne := go_ne hg hi
    rw [cr_go _ i (0, v) rfl (by show ¬ (0 : Nat) = 6; decide) hg]
    show _ = rnF bf T (f + 1) v i S c n
    unfold rnF
    by_cases h7 : c = 7
    · rw [if_pos h7, if_pos h7]
    · rw [if_neg h7, if_neg h7]
      rw [e1] at h1 h2
      generalize go bf T (0, v) i = r at hg hle hne h1 h2 ⊢
      obtain ⟨j, p, w⟩ := r
      have hg : p = 6 := hg
      subst hg
      dsimp only at hle hne h1 h2 ⊢
      by_cases hj : j < T
      · rw [if_pos hj]
        cases hs : stp (6, w) (bf j) with
        | none => rw [al_no hs] at h1; exact absurd h1 (Nat.ne_of_lt hj)
        | some st' =>
          have hc : bf j = 59 := Decidable.not_not.mp (fun h => by rw [stp_6no h] at hs; cases hs)
          rw [stp_6 hc] at hs
          cases hs
          rw [cr_u hj (stp_6 hc), if_neg (by show ¬ (0 : Nat) = 6; decide)]
          rw [al_one hj (stp_6 hc)] at h1 h2
          exact cr_rn f (j + 1) (kuf w 0 0) _ _ _ (by omega) hj (kuf_eq _ _ _) h1 h2
      · rw [if_neg hj, cr_end (by omega)]
