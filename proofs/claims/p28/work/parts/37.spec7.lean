/-! ===== the text: its reading code by code ===== -/
abbrev hereF (bf : Nat → Int32) (T i : Nat) (lo hi : Int32) : Prop := i < T ∧ lo ≤ bf i ∧ bf i ≤ hi
abbrev twoF (bf : Nat → Int32) (T i : Nat) (g : Int32) : Prop := hereF bf T (i + 1) 48 57 ∧ 10 * (bf i - 48) + bf (i + 1) - 48 ≤ g
def nmV (bf : Nat → Int32) (T i : Nat) (g : Int32) : Int32 := if hereF bf T i 49 57 then (if twoF bf T i g then 10 * (bf i - 48) + bf (i + 1) - 48 else bf i - 48) else -1
def nmI (bf : Nat → Int32) (T i : Nat) (g : Int32) : Nat := if hereF bf T i 49 57 then (if twoF bf T i g then i + 2 else i + 1) else i
abbrev pst : Type := Nat × (Nat → Int32)
def most (p : Nat) : Int32 := if p < 3 then 60 else 99
def endC (p : Nat) : Int32 := if p < 2 then 120 else if p = 2 then 42 else 122
/-- one code more; none: it is an error -/
def stp (st : pst) (c : Int32) : Option pst :=
  if st.1 < 4 then
    (if c = endC st.1 then (if st.2 st.1 = 0 then none else some (st.1 + 1, kuf st.2 (st.1 + 1) 0))
    else if c < 48 ∨ 57 < c then none
    else if 10 * st.2 st.1 + (c - 48) < 1 ∨ most st.1 < 10 * st.2 st.1 + (c - 48) then none
    else some (st.1, kuf st.2 st.1 (10 * st.2 st.1 + (c - 48))))
  else if st.1 = 4 then (if c - 48 < 0 ∨ 4 ≤ c - 48 then none else some (5, kuf st.2 4 (c - 48)))
  else if st.1 = 5 then (if c = 114 then some (6, kuf st.2 5 0) else if c = 99 then some (6, kuf st.2 5 1) else if c = 100 then some (6, kuf st.2 5 2) else none)
  else (if c = 59 then some (0, kuf st.2 0 0) else none)
def gon (bf : Nat → Int32) : Nat → pst → Nat → Nat × pst
  | 0, st, i => (i, st)
  | n + 1, st, i => if st.1 = 6 then (i, st) else match stp st (bf i) with
    | none => (i, st)
    | some st' => gon bf n st' (i + 1)
/-- read on as far as a parcel's end, an error or the end -/
def go (bf : Nat → Int32) (T : Nat) (st : pst) (i : Nat) : Nat × pst := gon bf (T - i) st i
theorem go_end {bf : Nat → Int32} {T i : Nat} {st : pst} (h : T ≤ i) : go bf T st i = (i, st) := by
  unfold go
  rw [show T - i = 0 by omega]
  rfl
theorem go_six {bf : Nat → Int32} {T i : Nat} {st : pst} (h : st.1 = 6) : go bf T st i = (i, st) := by
  unfold go
  cases T - i with
  | zero => rfl
  | succ n => show (if st.1 = 6 then (i, st) else _) = _; rw [if_pos h]
theorem go_no {bf : Nat → Int32} {T i : Nat} {st : pst} (h : stp st (bf i) = none) : go bf T st i = (i, st) := by
  unfold go
  cases T - i with
  | zero => rfl
  | succ n =>
    show (if st.1 = 6 then (i, st) else match stp st (bf i) with | none => (i, st) | some st' => gon bf n st' (i + 1)) = _
    rw [h]
    split <;> rfl
theorem go_one {bf : Nat → Int32} {T i : Nat} {st st' : pst} (h : i < T) (h6 : st.1 ≠ 6) (hs : stp st (bf i) = some st') : go bf T st i = go bf T st' (i + 1) := by
  unfold go
  rw [show T - i = (T - (i + 1)) + 1 by omega]
  show (if st.1 = 6 then (i, st) else match stp st (bf i) with | none => (i, st) | some st' => gon bf (T - (i + 1)) st' (i + 1)) = _
  rw [if_neg h6, hs]
theorem gon_le {bf : Nat → Int32} : ∀ (n : Nat) (st : pst) (i : Nat), (gon bf n st i).1 ≤ i + n ∧ i ≤ (gon bf n st i).1
  | 0, st, i => ⟨Nat.le_refl _, Nat.le_refl _⟩
  | n + 1, st, i => by
    show (if st.1 = 6 then (i, st) else match stp st (bf i) with | none => (i, st) | some st' => gon bf n st' (i + 1)).1 ≤ _ ∧ _ ≤ (if st.1 = 6 then (i, st) else match stp st (bf i) with | none => (i, st) | some st' => gon bf n st' (i + 1)).1
    split
    · exact ⟨Nat.le_add_right _ _, Nat.le_refl _⟩
    · split
      · exact ⟨Nat.le_add_right _ _, Nat.le_refl _⟩
      · rename_i st' h
        have := gon_le (bf := bf) n st' (i + 1)
        omega
theorem go_le {bf : Nat → Int32} {T i : Nat} {st : pst} (h : i ≤ T) : (go bf T st i).1 ≤ T ∧ i ≤ (go bf T st i).1 := by
  have := gon_le (bf := bf) (T - i) st i
  unfold go
  omega
theorem stp_num_no {c : Int32} {p : Nat} {u : Nat → Int32} (hp : p < 4) (h0 : u p = 0) (h : ¬ (49 ≤ c ∧ c ≤ 57)) : stp (p, u) c = none := by
  unfold stp
  simp only [hp, h0, if_true]
  by_cases h1 : c = endC p
  · rw [if_pos h1]
  · rw [if_neg h1]
    by_cases h2 : c < 48 ∨ 57 < c
    · rw [if_pos h2]
    · rw [if_neg h2, if_pos (by grind)]
theorem most_ge {p : Nat} : most p = 60 ∨ most p = 99 := by
  unfold most
  split
  · exact Or.inl rfl
  · exact Or.inr rfl
theorem endC_no {c : Int32} {p : Nat} (h : 48 ≤ c ∧ c ≤ 57) : ¬ c = endC p := by
  unfold endC
  grind
theorem stp_dig {c : Int32} {p : Nat} {u : Nat → Int32} (hp : p < 4) (h : 48 ≤ c ∧ c ≤ 57) (h1 : 1 ≤ 10 * u p + (c - 48)) (h2 : 10 * u p + (c - 48) ≤ most p) : stp (p, u) c = some (p, kuf u p (10 * u p + (c - 48))) := by
  unfold stp
  simp only [hp, if_true]
  rw [if_neg (endC_no h), if_neg (by grind), if_neg (by grind)]
theorem stp_dig_no {c : Int32} {p : Nat} {u : Nat → Int32} (hp : p < 4) (h0 : c = endC p → False) (h2 : 48 ≤ c ∧ c ≤ 57 → most p < 10 * u p + (c - 48)) : stp (p, u) c = none := by
  unfold stp
  simp only [hp, if_true]
  rw [if_neg h0]
  by_cases h : c < 48 ∨ 57 < c
  · rw [if_pos h]
  · rw [if_neg h, if_pos (by grind)]
theorem stp_end {p : Nat} {u : Nat → Int32} (hp : p < 4) (h0 : ¬ u p = 0) : stp (p, u) (endC p) = some (p + 1, kuf u (p + 1) 0) := by
  unfold stp
  simp only [hp, h0, if_true, if_false]
theorem dig_nat {c : Int32} (h : 48 ≤ c ∧ c ≤ 57) : ∃ n, n ≤ 9 ∧ c - 48 = nI n ∧ c = nI (n + 48) := by
  obtain ⟨n, h1, h2, rfl⟩ := rngN (lo := 48) (hi := 57) (by decide) (by decide) h
  exact ⟨n - 48, by omega, kS (a := n) (b := 48) rfl rfl h1, by rw [Nat.sub_add_cancel h1]⟩
theorem num_two : ∀ a : Nat, a < 10 → ∀ b : Nat, b < 10 → 10 * nI a + nI (b + 48) - 48 = 10 * nI a + nI b := by decide +kernel
theorem num_big : ∀ a : Nat, a < 100 → ∀ b : Nat, b < 10 → 1 ≤ a → 1 ≤ 10 * nI a + nI b ∧ ¬ 10 * nI a + nI b = 0 ∧ ¬ 10 * nI a + nI b = -1 ∧ (10 ≤ a → 99 < 10 * nI a + nI b) := by decide +kernel
theorem num_one : ∀ a : Nat, a < 100 → 1 ≤ a → 1 ≤ 10 * 0 + nI a ∧ ¬ nI a = 0 ∧ ¬ nI a = -1 ∧ 10 * 0 + nI a = nI a ∧ (a ≤ 9 → nI a ≤ 60 ∧ nI a ≤ 99) := by decide +kernel
theorem num_ten : ∀ a : Nat, a < 10 → ∀ b : Nat, b < 10 → 10 * nI a + nI b = nI (10 * a + b) := by decide +kernel
theorem num_no {bf : Nat → Int32} {T i p : Nat} {u : Nat → Int32} (hp : p < 4) (h0 : u p = 0) (hx : nmV bf T i (most p) = -1) : nmI bf T i (most p) = i ∧ go bf T (p, u) i = (i, (p, u)) := by
  unfold nmV at hx
  by_cases h : hereF bf T i 49 57
  · rw [if_pos h] at hx
    exfalso
    obtain ⟨a, a1, a2, a3⟩ := dig_nat (c := bf i) (by have := h.2; grind)
    have ha : 1 ≤ a := by
      rcases Nat.eq_zero_or_pos a with q | q
      · subst q
        have := h.2.1
        rw [a3] at this
        exact absurd this (by decide)
      · exact q
    by_cases h2 : twoF bf T i (most p)
    · rw [if_pos h2] at hx
      obtain ⟨b, b1, b2, b3⟩ := dig_nat (c := bf (i + 1)) h2.1.2
      rw [a2, b3, num_two a (by omega) b (by omega)] at hx
      exact (num_big a (by omega) b (by omega) ha).2.2.1 hx
    · rw [if_neg h2, a2] at hx
      exact (num_one a (by omega) ha).2.2.1 hx
  · refine ⟨by unfold nmI; rw [if_neg h], ?_⟩
    rcases Nat.lt_or_ge i T with q | q
    · exact go_no (stp_num_no hp h0 (fun z => h ⟨q, z⟩))
    · exact go_end q
theorem num_ok {bf : Nat → Int32} {T i p : Nat} {u : Nat → Int32} (hp : p < 4) (h0 : u p = 0) (hi : i ≤ T) (hx : ¬ nmV bf T i (most p) = -1) :
    nmI bf T i (most p) ≤ T ∧ go bf T (p, u) i = go bf T (p, kuf u p (nmV bf T i (most p))) (nmI bf T i (most p)) ∧ ¬ nmV bf T i (most p) = 0 ∧
    (nmI bf T i (most p) < T → ¬ bf (nmI bf T i (most p)) = endC p → stp (p, kuf u p (nmV bf T i (most p))) (bf (nmI bf T i (most p))) = none) := by
  unfold nmV at hx
  by_cases h : hereF bf T i 49 57
  · obtain ⟨a, a1, a2, a3⟩ := dig_nat (c := bf i) (by have := h.2; grind)
    have ha : 1 ≤ a := by
      rcases Nat.eq_zero_or_pos a with q | q
      · subst q
        have := h.2.1
        rw [a3] at this
        exact absurd this (by decide)
      · exact q
    obtain ⟨o1, o2, o3, o4, o5⟩ := num_one a (by omega) ha
    have e1 : 10 * u p + (bf i - 48) = nI a := by rw [h0, a2, o4]
    have s1 : stp (p, u) (bf i) = some (p, kuf u p (nI a)) := by
      have := stp_dig (c := bf i) (u := u) hp (by have := h.2; grind) (by rw [h0, a2]; exact o1) (by rw [e1]; rcases most_ge (p := p) with q | q <;> rw [q] <;> grind)
      rw [e1] at this
      exact this
    have g1 := go_one h.1 (by show p ≠ 6; omega) s1
    unfold nmV nmI
    rw [if_pos h, if_pos h]
    by_cases h2 : twoF bf T i (most p)
    · obtain ⟨b, b1, b2, b3⟩ := dig_nat (c := bf (i + 1)) h2.1.2
      obtain ⟨q1, q2, q3, q4⟩ := num_big a (by omega) b (by omega) ha
      have e0 : 10 * (bf i - 48) + bf (i + 1) - 48 = 10 * nI a + nI b := by rw [a2, b3, num_two a (by omega) b (by omega)]
      have h22 := h2.2
      rw [e0] at h22
      rw [if_pos h2, if_pos h2, e0]
      have e2 : 10 * kuf u p (nI a) p + (bf (i + 1) - 48) = 10 * nI a + nI b := by rw [kuf_eq, b2]
      have s2 : stp (p, kuf u p (nI a)) (bf (i + 1)) = some (p, kuf (kuf u p (nI a)) p (10 * nI a + nI b)) := by
        have := stp_dig (c := bf (i + 1)) (u := kuf u p (nI a)) hp h2.1.2 (by rw [e2]; exact q1) (by rw [e2]; exact h22)
        rw [e2] at this
        exact this
      have g2 := go_one (bf := bf) h2.1.1 (by show p ≠ 6; omega) s2
      rw [kuf_kuf] at g2
      refine ⟨by have := h2.1.1; omega, g1.trans g2, q2, fun _ hn => ?_⟩
      refine stp_dig_no hp (fun z => hn z) (fun hd => ?_)
      obtain ⟨d, d1, d2, d3⟩ := dig_nat hd
      rw [kuf_eq, num_ten a (by omega) b (by omega), d2]
      have hab : 10 * a + b < 100 := by omega
      obtain ⟨-, -, -, w4⟩ := num_big (10 * a + b) hab d (by omega) (by omega)
      have w5 := w4 (by omega)
      rcases most_ge (p := p) with q | q <;> rw [q]
      · exact Int32.lt_trans (by decide) w5
      · exact w5
    · rw [if_neg h2, if_neg h2, a2]
      refine ⟨by have := h.1; omega, g1, o2, fun hlt hn => ?_⟩
      refine stp_dig_no hp (fun z => hn z) (fun hd => ?_)
      obtain ⟨d, d1, d2, d3⟩ := dig_nat hd
      have hno : ¬ 10 * (bf i - 48) + bf (i + 1) - 48 ≤ most p := fun z => h2 ⟨⟨hlt, hd⟩, z⟩
      rw [a2, d3, num_two a (by omega) d (by omega)] at hno
      rw [kuf_eq, d2]
      exact Int32.not_le.mp hno
  · rw [if_neg h] at hx
    exact absurd rfl hx
