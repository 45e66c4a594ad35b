/-! ===== the cheapest by sets in its bounds; the share ===== -/
theorem tbC_pre {al : Nat → Int32} {bd : Nat → Nat → Int32} {co : Nat → Int32} : ∀ Z i, i ≤ Z → tbC al bd co Z i = tbC al bd co i i
  | 0, i, h => by
    obtain rfl : i = 0 := by omega
    rfl
  | Z + 1, i, h => by
    by_cases e : i = Z + 1
    · subst e; rfl
    · rw [← tbC_pre Z i (by omega)]
      show kuf (tbC al bd co Z) (Z + 1) _ i = _
      exact kuf_ne e
theorem tbC_at {al : Nat → Int32} {bd : Nat → Nat → Int32} {co : Nat → Int32} {Z i : Nat} (h1 : 1 ≤ i) (h : i ≤ Z) : tbC al bd co Z i = inC al bd (tbC al bd co Z) i (Nat.log2 i) (Nat.log2 i) := by
  obtain ⟨y, rfl⟩ : ∃ y, i = y + 1 := ⟨i - 1, by omega⟩
  rw [tbC_pre Z (y + 1) h]
  show kuf (tbC al bd co y) (y + 1) (inC al bd (tbC al bd co y) (y + 1) (Nat.log2 (y + 1)) (Nat.log2 (y + 1))) (y + 1) = _
  rw [kuf_eq]
  exact inC_congr (by omega) (fun j hj => by rw [tbC_pre y j (by omega), tbC_pre Z j (by omega)]) _
theorem log_b : ∀ z : Nat, z < 128 → 1 ≤ z → 2 ^ Nat.log2 z ≤ z ∧ z - 2 ^ Nat.log2 z < 2 ^ Nat.log2 z := by decide +kernel
theorem log_t : ∀ m : Nat, m < 7 → Nat.log2 (2 ^ (m + 1) - 1) = m ∧ 2 ^ (m + 1) - 1 - 2 ^ m = 2 ^ m - 1 ∧ 1 ≤ 2 ^ (m + 1) - 1 := by decide +kernel
theorem log_lt : ∀ m : Nat, m < 8 → ∀ z : Nat, z < 128 → 1 ≤ z → z < 2 ^ m → Nat.log2 z < m := by decide +kernel
theorem inC_nat {s T : Nat → Int32} {c : Nat} (h : okN s c) {z t n : Nat} (ht : t < c) (hT : ∀ y, y < 2 ^ t → ∃ V, V ≤ n ∧ T y = nI V) (hn : n ≤ 20000) (hz : z - 2 ^ t < 2 ^ t) : ∀ o, o ≤ t → ∃ V, V ≤ n + 2000 ∧ inC (alS s) (bdS s) T z t o = nI V ∧ (∀ V0 A, V0 ≤ n → A ≤ 2000 → T (z - 2 ^ t) = nI V0 → alS s t = nI A → V ≤ V0 + A)
  | 0, _ => by
    obtain ⟨V, v1, v2⟩ := hT _ hz
    obtain ⟨A, a1, a2⟩ := h.al (k := t) ht
    refine ⟨V + A, by omega, ?_, fun V0 A0 g1 g2 g3 g4 => ?_⟩
    · show T (z - 2 ^ t) + alS s t = _
      rw [v2, a2, nI_add]
    · have e1 := (nI_eq (by omega) (by omega)).mp (v2.symm.trans g3)
      have e2 := (nI_eq (by omega) (by omega)).mp (a2.symm.trans g4)
      omega
  | o + 1, ho => by
    obtain ⟨V, v1, v2, v3⟩ := inC_nat h ht hT hn hz o (by omega)
    rw [inC_u]
    split
    · rename_i hc
      obtain ⟨W, w1, w2⟩ := hT (z - 2 ^ t - 2 ^ o) (Nat.lt_of_le_of_lt (Nat.sub_le _ _) hz)
      rcases h.bd (k := o) (j := t) (by omega) ht with q | ⟨D, d1, d2⟩
      · exact absurd q hc.2.1
      · have e : T (z - 2 ^ t - 2 ^ o) + bdS s o t = nI (W + D) := by rw [w2, d2, nI_add]
        have hlt := hc.2.2
        rw [e, v2] at hlt
        have := (nI_ltI (by omega) (by omega)).mp hlt
        exact ⟨W + D, by omega, e, fun V0 A0 g1 g2 g3 g4 => by have := v3 V0 A0 g1 g2 g3 g4; omega⟩
    · exact ⟨V, v1, v2, v3⟩
theorem tbC_nat {s : Nat → Int32} {c : Nat} (h : okN s c) : ∀ m, m ≤ c → ∀ z, z < 2 ^ m → ∃ V, V ≤ 2000 * m ∧ tbC (alS s) (bdS s) (fun _ => 0) (2 ^ c - 1) z = nI V
  | 0, _, z, hz => by
    obtain rfl : z = 0 := by omega
    refine ⟨0, by decide, ?_⟩
    rw [tbC_pre _ 0 (Nat.zero_le _)]
    rfl
  | m + 1, hm, z, hz => by
    have h7 := h.1
    have p1 := pow_mono7 hm
    have p2 := pow_mono7 h7
    by_cases h0 : z < 2 ^ m
    · obtain ⟨V, v1, v2⟩ := tbC_nat h m (by omega) z h0
      exact ⟨V, by omega, v2⟩
    · have p3 : 1 ≤ 2 ^ m := Nat.one_le_two_pow
      have hl : Nat.log2 z = m := log_of z (by omega) m (by omega) (by omega) hz
      have hb := log_b z (by omega) (by omega)
      rw [hl] at hb
      obtain ⟨V, v1, v2, -⟩ := inC_nat h (z := z) (t := m) (n := 2000 * m) (by omega) (fun y hy => tbC_nat h m (by omega) y hy) (by omega) hb.2 m (Nat.le_refl _)
      refine ⟨V, by omega, ?_⟩
      rw [tbC_at (by omega) (by omega), hl]
      exact v2
theorem sumF_nat {s : Nat → Int32} {c : Nat} (h : okN s c) : ∀ k, k ≤ c → ∃ S, S ≤ 2000 * k ∧ sumF (alS s) k = nI S
  | 0, _ => ⟨0, by decide, rfl⟩
  | k + 1, hk => by
    obtain ⟨S, s1, s2⟩ := sumF_nat h k (by omega)
    obtain ⟨A, a1, a2⟩ := h.al (k := k) (by omega)
    refine ⟨S + A, by omega, ?_⟩
    show sumF (alS s) k + alS s k = _
    rw [s2, a2, nI_add]
theorem set_le {s : Nat → Int32} {c : Nat} (h : okN s c) : ∀ m, m ≤ c → ∃ V S, V ≤ S ∧ S ≤ 2000 * m ∧ tbC (alS s) (bdS s) (fun _ => 0) (2 ^ c - 1) (2 ^ m - 1) = nI V ∧ sumF (alS s) m = nI S
  | 0, _ => by
    refine ⟨0, 0, by decide, by decide, ?_, rfl⟩
    rw [show 2 ^ 0 - 1 = 0 by decide, tbC_pre _ 0 (Nat.zero_le _)]
    rfl
  | m + 1, hm => by
    have h7 := h.1
    have p1 := pow_mono7 hm
    obtain ⟨V0, S0, e1, e2, e3, e4⟩ := set_le h m (by omega)
    obtain ⟨l1, l2, l3⟩ := log_t m (by omega)
    obtain ⟨A, a1, a2⟩ := h.al (k := m) (by omega)
    have p3 : 1 ≤ 2 ^ m := Nat.one_le_two_pow
    obtain ⟨V, v1, v2, v3⟩ := inC_nat h (z := 2 ^ (m + 1) - 1) (t := m) (n := 2000 * m) (by omega) (fun y hy => tbC_nat h m (by omega) y hy) (by omega) (by omega) m (Nat.le_refl _)
    refine ⟨V, S0 + A, ?_, by omega, ?_, ?_⟩
    · have := v3 V0 A (by omega) a1 (by rw [l2]; exact e3) a2
      omega
    · rw [tbC_at l3 (by omega), l1]
      exact v2
    · show sumF (alS s) m + alS s m = _
      rw [e4, a2, nI_add]
theorem div_z {S : Nat} (h : 1 ≤ S) (h2 : S < 2147483648) : FP.ddiv (FP.i2d (nI 0)) (FP.i2d (nI S)) = FP.dconst0 := by
  obtain ⟨c, q, v, e⟩ := i2d_shape h h2
  have hc : ¬ c = 0 := fun z => by
    rw [z, Nat.zero_mul] at e
    have p : 0 < S * 2 ^ (-q).toNat := Nat.mul_pos (by omega) (Nat.two_pow_pos _)
    omega
  have v0 : Jvm.FP.Core.val64 (FP.i2d (nI 0)) = .fin false 0 Jvm.FP.Core.b64.qmin := by decide +kernel
  have vv : Jvm.FP.Core.val64 (FP.ddiv (FP.i2d (nI 0)) (FP.i2d (nI S))) = .fin false 0 Jvm.FP.Core.b64.qmin := by
    refine (Jvm.FP.Core.val64_ddiv (FP.i2d (nI 0)) (FP.i2d (nI S))).trans ?_
    rw [v0, v]
    show (if c = 0 then _ else Jvm.FP.Core.roundRatio Jvm.FP.Core.b64 (false != false) 0 c _) = _
    rw [if_neg hc]
    rfl
  exact Jvm.FP.Core.val64_inj (by rw [vv]; intro z; cases z) (vv.trans Jvm.FP.Core.val64_dconst0.symm)
theorem share_ok {s : Nat → Int32} {c : Nat} (h : okN s c) : shOK (shS s c) := by
  have h7 := h.1
  obtain ⟨V, S, e1, e2, e3, e4⟩ := set_le h c (Nat.le_refl _)
  have e3 : setC (alS s) (bdS s) c = nI V := e3
  show shOK (shV (sumF (alS s) c) (setC (alS s) (bdS s) c))
  rw [e3, e4]
  unfold shV
  by_cases h0 : nI S = 0
  · rw [if_pos h0]
    exact Or.inl rfl
  · rw [if_neg h0, kS rfl rfl e1]
    have hS : 1 ≤ S := by
      rcases Nat.eq_zero_or_pos S with q | q
      · subst q; exact absurd rfl h0
      · exact q
    rcases Nat.eq_zero_or_pos (S - V) with q | q
    · rw [q]
      exact Or.inl (div_z hS (by omega))
    · obtain ⟨E, m, x1, x2, x3, x4, -⟩ := share_shape (A := S - V) (B := S) q (by omega) (by omega)
      exact Or.inr ⟨E, m, x1, x2, x3, x4⟩
