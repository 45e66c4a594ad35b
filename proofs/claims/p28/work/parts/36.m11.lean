/-- a number between two others is a natural one -/
theorem rngN {v : Int32} {lo hi : Nat} (hl : lo < 2147483648) (hh : hi < 2147483648) (h : nI lo ≤ v ∧ v ≤ nI hi) : ∃ n, lo ≤ n ∧ n ≤ hi ∧ v = nI n := by
  obtain ⟨h1, h2⟩ := h
  rw [Int32.le_iff_toInt_le, nI_toInt (by assumption)] at h1 h2
  exact ⟨v.toInt.toNat, by omega, by omega, by rw [← Int32.toInt_inj, nI_toInt (by omega)]; omega⟩
theorem chr_all : ∀ n : Nat, n < 128 → ((nI n).toUInt32 % 65536).toInt32 = nI n := by decide +kernel
theorem chr_of {v : Int32} (h : 33 ≤ v ∧ v ≤ 126) : (v.toUInt32 % 65536).toInt32 = v := by
  obtain ⟨n, h1, h2, rfl⟩ := rngN (lo := 33) (hi := 126) (by decide) (by decide) h
  exact chr_all n (by omega)
theorem chr_nall : ∀ n : Nat, n < 128 → ((nI n).toUInt32.toNat &&& 65535) = n := by decide +kernel
theorem chr_nar {v : Int32} (h : 33 ≤ v ∧ v ≤ 126) : narrow .char (.int (v.toUInt32 % 65536).toInt32) = .int (v.toUInt32 % 65536).toInt32 := by
  obtain ⟨n, h1, h2, rfl⟩ := rngN (lo := 33) (hi := 126) (by decide) (by decide) h
  rw [chr_all n (by omega)]
  exact congrArg Value.int (chr_all n (by omega))
theorem slot_of {b : Nat} (hb : b < 2) : nI b = 0 ∨ nI b = 1 := by
  match b, hb with
  | 0, _ => exact Or.inl rfl
  | 1, _ => exact Or.inr rfl
