theorem erV_ne {bf : Nat → Int32} {T : Nat} (hT60 : T ≤ 60) : erV bf T = -1 ↔ tells bf T := by
  unfold erV
  by_cases h : tells bf T
  · rw [if_pos h]; exact ⟨fun _ => h, fun _ => rfl⟩
  · rw [if_neg h]
    have := al_le (bf := bf) (st := (0, z0)) (Nat.zero_le T)
    exact ⟨fun e => absurd e (oI_ne (by omega)), fun e => absurd e h⟩
theorem erV_no {bf : Nat → Int32} {T : Nat} (h : ¬ tells bf T) : erV bf T = nI (al bf T (0, z0) 0).1 := if_neg h
theorem cpR_agr {s s1 : Nat → Int32} (h : agr s s1) {f t : Nat} (hf : f < 9) : agr (cpR s f t 75) (cpR s1 f t 75) := by
  intro i hi
  unfold cpR
  split
  · exact h _ (by omega)
  · exact h i hi
theorem shf_agr {s s1 : Nat → Int32} (h : agr s s1) : ∀ j, j ≤ 5 → agr (shf s j) (shf s1 j)
  | 0, _ => h
  | j + 1, hj => cpR_agr (shf_agr h j (by omega)) (by omega)
theorem svS_agr {s s1 : Nat → Int32} {q : Nat} (h : agr s s1) : agr (svS s q) (svS s1 q) := by
  unfold svS
  split
  · exact cpR_agr (shf_agr h 5 (by decide)) (by decide)
  · exact cpR_agr h (by decide)
