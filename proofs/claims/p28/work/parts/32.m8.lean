def noM (ma : Nat → Int32) (k : Nat) : Nat → Int32 := fun i => if i < k then -1 else ma i
theorem noM_0 {ma : Nat → Int32} : noM ma 0 = ma := by
  funext i
  unfold noM
  rw [if_neg (by omega)]
theorem noM_step {ma : Nat → Int32} {k : Nat} : kuf (noM ma k) k (-1) = noM ma (k + 1) := by
  funext i
  unfold kuf noM
  by_cases h : i = k
  · rw [if_pos h, if_pos (by omega)]
  · rw [if_neg h]
    by_cases h2 : i < k
    · rw [if_pos h2, if_pos (by omega)]
    · rw [if_neg h2, if_neg (by omega)]
theorem cosN_agr {s s1 : Nat → Int32} {c : Nat} {mu : Nat → Nat} (H : fineS s c) (ha : agr s s1) (hmu : ∀ k, k < c → mu k < c) : ∀ {k : Nat}, k ≤ c → cosN s1 mu k = cosN s mu k
  | 0, _ => rfl
  | k + 1, h => by
    unfold cosN
    rw [cosN_agr H ha hmu (by omega), alS_agr H ha (by omega)]
    by_cases h2 : k < mu k
    · rw [bdS_agr H ha (by omega) (hmu k (by omega)) (by omega)]
    · simp only [if_neg h2]
theorem chH_agr {s s1 ma : Nat → Int32} {c k j : Nat} (H : fineS s c) (ha : agr s s1) (hk : k < c) (hj : j < c) : chH s1 ma k j ↔ chH s ma k j := by
  unfold chH
  by_cases h : k = j
  · subst h; simp
  · rw [bdS_agr H ha hk hj h]
