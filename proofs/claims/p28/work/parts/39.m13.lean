theorem rp_fin {s u : Nat → Int32} {x y : Int32} (F : ∀ j, j < 4 → s (675 + j) = u j) : (∀ j, j < 4 → kuf (kuf s 679 x) 681 y (675 + j) = kuf (kuf (kuf u 4 0) 4 x) 5 y j) ∧ kuf (kuf s 679 x) 681 y 679 = kuf (kuf (kuf u 4 0) 4 x) 5 y 4 ∧ kuf (kuf s 679 x) 681 y 681 = kuf (kuf (kuf u 4 0) 4 x) 5 y 5 := by
  refine ⟨fun j hj => ?_, ?_, ?_⟩
  · rw [kuf_ne (by omega), kuf_ne (by omega), kuf_ne (by omega), kuf_ne (by omega), kuf_ne (by omega)]
    exact F j hj
  · rw [kuf_ne (by decide), kuf_eq, kuf_ne (by decide), kuf_eq]
  · rw [kuf_eq, kuf_eq]
theorem go_not {bf : Nat → Int32} {T i p : Nat} {u : Nat → Int32} (h : ¬ hereF bf T i (endC p) (endC p)) (hE : i < T → ¬ bf i = endC p → stp (p, u) (bf i) = none) : go bf T (p, u) i = (i, (p, u)) := by
  rcases Nat.lt_or_ge i T with q | q
  · exact go_no (hE q (fun e => h ⟨q, by rw [e]; exact ⟨Int32.le_refl _, Int32.le_refl _⟩⟩))
  · exact go_end q
theorem go_not2 {bf : Nat → Int32} {T i : Nat} {st : pst} {lo hi : Int32} (h : ¬ hereF bf T i lo hi) (hE : i < T → ¬ (lo ≤ bf i ∧ bf i ≤ hi) → stp st (bf i) = none) : go bf T st i = (i, st) := by
  rcases Nat.lt_or_ge i T with q | q
  · exact go_no (hE q (fun e => h ⟨q, e⟩))
  · exact go_end q
theorem stp_zone_no {c : Int32} {u : Nat → Int32} (h : ¬ (48 ≤ c ∧ c ≤ 51)) (h2 : 33 ≤ c ∧ c ≤ 126) : stp (4, u) c = none := by
  unfold stp
  simp only [show ¬ (4 : Nat) < 4 by decide, if_false, if_true]
  rw [if_pos (by grind)]
theorem stp_zone {c : Int32} {u : Nat → Int32} (h : 48 ≤ c ∧ c ≤ 51) : stp (4, u) c = some (5, kuf u 4 (c - 48)) := by
  unfold stp
  simp only [show ¬ (4 : Nat) < 4 by decide, if_false, if_true]
  rw [if_neg (by grind)]
theorem stp_way_no {c : Int32} {u : Nat → Int32} (h1 : ¬ c = 114) (h2 : ¬ c = 99) (h3 : ¬ c = 100) : stp (5, u) c = none := by
  unfold stp
  simp only [show ¬ (5 : Nat) < 4 by decide, show ¬ (5 : Nat) = 4 by decide, if_false, if_true]
  rw [if_neg h1, if_neg h2, if_neg h3]
