theorem in_nat {b n : Nat} (hn : n ≤ 1000) (hb : b < n) {hi : Int32} (e : hi = nI (n - 1) := by rfl) : (0 : Int32) ≤ nI b ∧ nI b ≤ hi := by
  subst e
  exact ⟨nI_pos' (by omega), nI_le (by omega) (by omega)⟩
