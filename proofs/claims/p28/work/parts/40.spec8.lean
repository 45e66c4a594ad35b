/-! ===== the whole text ===== -/
def aln (bf : Nat → Int32) : Nat → pst → Nat → Nat × pst
  | 0, st, i => (i, st)
  | n + 1, st, i => match stp st (bf i) with
    | none => (i, st)
    | some st' => aln bf n st' (i + 1)
/-- read on as far as an error or the end -/
def al (bf : Nat → Int32) (T : Nat) (st : pst) (i : Nat) : Nat × pst := aln bf (T - i) st i
theorem al_end {bf : Nat → Int32} {T i : Nat} {st : pst} (h : T ≤ i) : al bf T st i = (i, st) := by
  unfold al
  rw [show T - i = 0 by omega]
  rfl
theorem al_no {bf : Nat → Int32} {T i : Nat} {st : pst} (h : stp st (bf i) = none) : al bf T st i = (i, st) := by
  unfold al
  cases T - i with
  | zero => rfl
  | succ n =>
    show (match stp st (bf i) with | none => (i, st) | some st' => aln bf n st' (i + 1)) = _
    rw [h]
theorem al_one {bf : Nat → Int32} {T i : Nat} {st st' : pst} (h : i < T) (hs : stp st (bf i) = some st') : al bf T st i = al bf T st' (i + 1) := by
  unfold al
  rw [show T - i = (T - (i + 1)) + 1 by omega]
  show (match stp st (bf i) with | none => (i, st) | some st' => aln bf (T - (i + 1)) st' (i + 1)) = _
  rw [hs]
theorem aln_le {bf : Nat → Int32} : ∀ (n : Nat) (st : pst) (i : Nat), (aln bf n st i).1 ≤ i + n ∧ i ≤ (aln bf n st i).1
  | 0, st, i => ⟨Nat.le_refl _, Nat.le_refl _⟩
  | n + 1, st, i => by
    show (match stp st (bf i) with | none => (i, st) | some st' => aln bf n st' (i + 1)).1 ≤ _ ∧ _ ≤ (match stp st (bf i) with | none => (i, st) | some st' => aln bf n st' (i + 1)).1
    split
    · exact ⟨Nat.le_add_right _ _, Nat.le_refl _⟩
    · rename_i st' h
      have := aln_le (bf := bf) n st' (i + 1)
      omega
theorem al_le {bf : Nat → Int32} {T i : Nat} {st : pst} (h : i ≤ T) : (al bf T st i).1 ≤ T ∧ i ≤ (al bf T st i).1 := by
  have := aln_le (bf := bf) (T - i) st i
  unfold al
  omega
theorem al_go {bf : Nat → Int32} {T : Nat} : ∀ (n : Nat) (st : pst) (i : Nat), n = T - i → al bf T st i = al bf T (go bf T st i).2 (go bf T st i).1 ∧ ((go bf T st i).2.1 = 6 ∨ al bf T st i = go bf T st i)
  | n, st, i, hn => by
    by_cases h6 : st.1 = 6
    · rw [go_six h6]
      exact ⟨rfl, Or.inl h6⟩
    · rcases Nat.lt_or_ge i T with q | q
      · cases hs : stp st (bf i) with
        | none => rw [go_no hs]; exact ⟨rfl, Or.inr (al_no hs)⟩
        | some st' =>
          rw [go_one q h6 hs, al_one q hs]
          match n, hn with
          | 0, hn => omega
          | n + 1, hn => exact al_go n st' (i + 1) (by omega)
      · rw [go_end q]
        exact ⟨rfl, Or.inr (al_end q)⟩
abbrev z0 : Nat → Int32 := fun _ => 0
abbrev tells (bf : Nat → Int32) (T : Nat) : Prop := (al bf T (0, z0) 0).1 = T ∧ (al bf T (0, z0) 0).2.1 = 6
def erV (bf : Nat → Int32) (T : Nat) : Int32 := if tells bf T then -1 else nI (al bf T (0, z0) 0).1
theorem stp_6 {c : Int32} {u : Nat → Int32} (h : c = 59) : stp (6, u) c = some (0, kuf u 0 0) := by
  subst h
  rfl
theorem stp_6no {c : Int32} {u : Nat → Int32} (h : ¬ c = 59) : stp (6, u) c = none := by
  unfold stp
  simp only [show ¬ (6 : Nat) < 4 by decide, show ¬ (6 : Nat) = 4 by decide, show ¬ (6 : Nat) = 5 by decide, if_false, h]
theorem go_ne {bf : Nat → Int32} {T i : Nat} {v : Nat → Int32} (h : (go bf T (0, v) i).2.1 = 6) (hi : i ≤ T) : i < (go bf T (0, v) i).1 := by
  rcases Nat.lt_or_ge i T with q | q
  · cases hs : stp (0, v) (bf i) with
    | none => rw [go_no hs] at h; exact absurd h (show ¬ (0 : Nat) = 6 by decide)
    | some st' =>
      rw [go_one q (show ¬ (0 : Nat) = 6 by decide) hs]
      have := go_le (bf := bf) (st := st') (show i + 1 ≤ T by omega)
      omega
  · rw [go_end q] at h
    exact absurd h (show ¬ (0 : Nat) = 6 by decide)
/-- the parcels of a text that tells parcels come, one after the other, as long as there is room -/
def rnF (bf : Nat → Int32) (T : Nat) : Nat → (Nat → Int32) → Nat → (Nat → Int32) → Nat → Nat → (Nat → Int32) × Nat
  | 0, _, _, s, _, n => (s, n)
  | f + 1, v, i, s, c, n =>
    if c = 7 then (comeS s c ((go bf T (0, v) i).2.2 0) ((go bf T (0, v) i).2.2 1) ((go bf T (0, v) i).2.2 2) ((go bf T (0, v) i).2.2 3) ((go bf T (0, v) i).2.2 4) ((go bf T (0, v) i).2.2 5), n)
    else if (go bf T (0, v) i).1 < T then rnF bf T f (kuf (go bf T (0, v) i).2.2 0 0) ((go bf T (0, v) i).1 + 1) (comeS s c ((go bf T (0, v) i).2.2 0) ((go bf T (0, v) i).2.2 1) ((go bf T (0, v) i).2.2 2) ((go bf T (0, v) i).2.2 3) ((go bf T (0, v) i).2.2 4) ((go bf T (0, v) i).2.2 5)) (c + 1) (n + 1)
    else (comeS s c ((go bf T (0, v) i).2.2 0) ((go bf T (0, v) i).2.2 1) ((go bf T (0, v) i).2.2 2) ((go bf T (0, v) i).2.2 3) ((go bf T (0, v) i).2.2 4) ((go bf T (0, v) i).2.2 5), n + 1)
theorem comeS_agr {s s1 : Nat → Int32} {c : Nat} (h : agr s s1) {x y z wt zn wy : Int32} : agr (comeS s c x y z wt zn wy) (comeS s1 c x y z wt zn wy) := by
  intro i hi
  unfold comeS
  split
  · unfold kuf
    split
    · rw [h 74 (by decide)]
    · exact h i hi
  · unfold comeR putS kuf
    simp only [h i hi]
theorem comeS_20 {s : Nat → Int32} {c : Nat} (h : ¬ c = 7) {x y z wt zn wy : Int32} : comeS s c x y z wt zn wy 20 = nI (c + 1) := by
  unfold comeS
  rw [if_neg h, kuf_eq]
