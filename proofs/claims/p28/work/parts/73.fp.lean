/-! ===== the share's bits ===== -/
theorem dec_nm {E m : Nat} (h1 : 1 ≤ E) (h2 : E ≤ 2046) (hm : m < 2 ^ 52) : Jvm.FP.Core.decode Jvm.FP.Core.b64 (E * 2 ^ 52 + m) = .fin false (2 ^ 52 + m) (-1074 + ((E : Int) - 1)) := by
  have t : Jvm.FP.Core.b64.tails = 2 ^ 52 := Jvm.FP.Core.tails_b64
  have x : Jvm.FP.Core.b64.exps = 2048 := by decide
  have q : Jvm.FP.Core.b64.qmin = -1074 := Jvm.FP.Core.qmin_b64
  have hT : Jvm.FP.Core.fieldT Jvm.FP.Core.b64 (E * 2 ^ 52 + m) = m := by
    unfold Jvm.FP.Core.fieldT
    rw [t, Nat.mul_comm, Nat.mul_add_mod, Nat.mod_eq_of_lt hm]
  have hd : (E * 2 ^ 52 + m) / 2 ^ 52 = E := by omega
  have hE : Jvm.FP.Core.fieldE Jvm.FP.Core.b64 (E * 2 ^ 52 + m) = E := by
    unfold Jvm.FP.Core.fieldE
    rw [t, x, hd, Nat.mod_eq_of_lt (by omega)]
  have hS : Jvm.FP.Core.fieldS Jvm.FP.Core.b64 (E * 2 ^ 52 + m) = false := by
    unfold Jvm.FP.Core.fieldS
    rw [t, x, hd, Nat.div_eq_of_lt (by omega)]
    rfl
  unfold Jvm.FP.Core.decode
  rw [hT, hE, hS, x, t, q, if_neg (by omega), if_neg (by omega)]
def xE (E m : Nat) : UInt64 := UInt64.ofNat (E * 2 ^ 52 + m)
theorem xE_nat {E m : Nat} (h2 : E ≤ 2046) (hm : m < 2 ^ 52) : (xE E m).toNat = E * 2 ^ 52 + m := by
  unfold xE
  exact UInt64.toNat_ofNat_of_lt' (by show _ < 2 ^ 64; omega)
theorem xE_val {E m : Nat} (h1 : 1 ≤ E) (h2 : E ≤ 2046) (hm : m < 2 ^ 52) : Jvm.FP.Core.val64 (xE E m) = .fin false (2 ^ 52 + m) (-1074 + ((E : Int) - 1)) := by
  unfold Jvm.FP.Core.val64
  rw [xE_nat h2 hm]
  exact dec_nm h1 h2 hm
theorem xE_two : (4611686018427387904 : UInt64) = xE 1024 0 := by decide
theorem xE_one : FP.dconst1 = xE 1023 0 := by decide
theorem xE_52 : (4841369599423283200 : UInt64) = xE 1075 0 := by decide
theorem fits_nm {m : Nat} {q : Int} (hm : m < 2 ^ 52) (h1 : -1074 ≤ q) (h2 : q ≤ 971) : Jvm.FP.Core.fits Jvm.FP.Core.b64 (.fin false (2 ^ 52 + m) q) := by
  have t : Jvm.FP.Core.b64.tails = 2 ^ 52 := Jvm.FP.Core.tails_b64
  have q1 : Jvm.FP.Core.b64.qmin = -1074 := Jvm.FP.Core.qmin_b64
  have q2 : Jvm.FP.Core.b64.qmax = 971 := by decide
  have p : Jvm.FP.Core.b64.p = 53 := rfl
  refine ⟨by rw [p]; omega, by rw [q1]; exact h1, by rw [q2]; exact h2, Or.inr (by rw [t]; omega)⟩
theorem xE_dbl {E m : Nat} (h1 : 1 ≤ E) (h2 : E ≤ 2045) (hm : m < 2 ^ 52) : FP.dmul (xE E m) 4611686018427387904 = xE (E + 1) m := by
  have v : Jvm.FP.Core.val64 (FP.dmul (xE E m) 4611686018427387904) = .fin false (2 ^ 52 + m) (-1074 + (((E + 1 : Nat) : Int) - 1)) := by
    refine (Jvm.FP.Core.val64_dmul (xE E m) 4611686018427387904).trans ?_
    rw [xE_two, xE_val h1 (by omega) hm, xE_val (by decide) (by decide) (by decide)]
    show Jvm.FP.Core.roundRatio Jvm.FP.Core.b64 false ((2 ^ 52 + m) * (2 ^ 52 + 0)) 1 (-1074 + ((E : Int) - 1) + (-1074 + ((1024 : Nat) : Int) - 1)) = _
    refine Jvm.FP.Core.roundRatio_exact Jvm.FP.Core.good_b64 (by decide) (fits_nm hm (by omega) (by omega)) ?_
    rw [show (-1074 + ((E : Int) - 1) + (-1074 + ((1024 : Nat) : Int) - 1) - (-1074 + (((E + 1 : Nat) : Int) - 1))).toNat = 0 by omega, show (-1074 + (((E + 1 : Nat) : Int) - 1) - (-1074 + ((E : Int) - 1) + (-1074 + ((1024 : Nat) : Int) - 1))).toNat = 52 by omega]
    simp
  exact Jvm.FP.Core.val64_inj (by rw [v]; exact Jvm.FP.Core.Datum.noConfusion) (v.trans (xE_val (by omega) (by omega) hm).symm)
theorem xE_fin {E m : Nat} (h1 : 1 ≤ E) (h2 : E ≤ 2046) (hm : m < 2 ^ 52) : Jvm.FP.Core.DFin (xE E m) := ⟨_, _, _, xE_val h1 h2 hm⟩
theorem xE_key {E m : Nat} (h2 : E ≤ 2046) (hm : m < 2 ^ 52) : Jvm.FP.Core.dkey (xE E m) = ((E * 2 ^ 52 + m : Nat) : Int) := by
  unfold Jvm.FP.Core.dkey
  rw [xE_nat h2 hm, if_neg (by omega)]
theorem xE_cmp {E m : Nat} (h1 : 1 ≤ E) (h2 : E ≤ 2046) (hm : m < 2 ^ 52) : FP.dcmp (xE E m) FP.dconst1 = some (compare ((E * 2 ^ 52 + m : Nat) : Int) ((1023 * 2 ^ 52 + 0 : Nat) : Int)) := by
  rw [xE_one]
  refine (Jvm.FP.Core.dcmp_key (xE_fin h1 h2 hm).ne_nan (xE_fin (by decide) (by decide) (by decide)).ne_nan).trans ?_
  rw [xE_key h2 hm, xE_key (by decide) (by decide)]
theorem xE_lt {E m : Nat} (h1 : 1 ≤ E) (h2 : E < 1023) (hm : m < 2 ^ 52) : FP.dcmp (xE E m) FP.dconst1 = some .lt := by
  rw [xE_cmp h1 (by omega) hm]
  exact congrArg some (Int.compare_eq_lt.mpr (by omega))
theorem xE_ge {m : Nat} (hm : m < 2 ^ 52) : ¬ FP.dcmp (xE 1023 m) FP.dconst1 = some .lt := by
  rw [xE_cmp (by decide) (by decide) hm]
  intro h
  have h := Int.compare_eq_lt.mp (Option.some.inj h)
  omega
theorem xE_sub {m : Nat} (hm : m < 2 ^ 52) : ∃ (c' : Nat) (q' : Int), Jvm.FP.Core.val64 (FP.dsub (xE 1023 m) FP.dconst1) = .fin false c' q' ∧ -1074 ≤ q' ∧ (q' = -1074 ∨ 2 ^ 52 ≤ c') ∧ c' * 2 ^ (q' + 1074).toNat = m * 2 ^ 1022 := by
  have q1 : Jvm.FP.Core.b64.qmin = -1074 := Jvm.FP.Core.qmin_b64
  have t : Jvm.FP.Core.b64.tails = 2 ^ 52 := Jvm.FP.Core.tails_b64
  have v : Jvm.FP.Core.val64 (FP.dsub (xE 1023 m) FP.dconst1) = Jvm.FP.Core.round Jvm.FP.Core.b64 (.fin false m (-52)) := by
    refine (Jvm.FP.Core.val64_dsub (xE 1023 m) FP.dconst1).trans ?_
    rw [xE_one, xE_val (by decide) (by decide) hm, xE_val (by decide) (by decide) (by decide)]
    have e1 : (-1074 + (((1023 : Nat) : Int) - 1)) = -52 := by decide
    rw [e1]
    show Jvm.FP.Core.round Jvm.FP.Core.b64 (.fin (Jvm.FP.Core.sumSign false true (Jvm.FP.Core.sumUnits false (2 ^ 52 + m) (-52) true (2 ^ 52 + 0) (-52) (min (-52) (-52)))) (Jvm.FP.Core.sumUnits false (2 ^ 52 + m) (-52) true (2 ^ 52 + 0) (-52) (min (-52) (-52))).natAbs (min (-52) (-52))) = _
    have e2 : Jvm.FP.Core.sumUnits false (2 ^ 52 + m) (-52) true (2 ^ 52 + 0) (-52) (min (-52) (-52)) = (m : Int) := by
      unfold Jvm.FP.Core.sumUnits Jvm.FP.Core.signed Jvm.FP.Core.inUnits
      rw [show (min (-52 : Int) (-52)) = -52 by decide, show ((-52 : Int) - -52).toNat = 0 by decide]
      simp
      omega
    rw [e2, show (min (-52 : Int) (-52)) = -52 by decide]
    have e3 : Jvm.FP.Core.sumSign false true (m : Int) = false := by
      unfold Jvm.FP.Core.sumSign
      by_cases h : (m : Int) = 0
      · rw [if_pos h]; rfl
      · rw [if_neg h]
        exact decide_eq_false (by omega)
    rw [e3]
    rfl
  obtain ⟨c', q', h1, h2⟩ := Jvm.FP.Core.round_exact Jvm.FP.Core.good_b64 false (c := m) (q := -52) (by show m < 2 ^ 53; omega) (by rw [q1]; decide) (by decide)
  have hf := Jvm.FP.Core.round_fits Jvm.FP.Core.good_b64 (.fin false m (-52))
  rw [h1] at hf
  obtain ⟨f1, f2, f3, f4⟩ := hf
  rw [q1] at f2 f4 h2
  rw [t] at f4
  refine ⟨c', q', v.trans h1, f2, f4, ?_⟩
  unfold Jvm.FP.Core.inUnits at h2
  rw [show (q' - -1074).toNat = (q' + 1074).toNat by congr 1, show ((-52 : Int) - -1074).toNat = 1022 by decide] at h2
  exact h2
theorem xE_prod {m c' : Nat} {q' : Int} (hm : m < 2 ^ 52) (h1 : -1074 ≤ q') (h2 : q' = -1074 ∨ 2 ^ 52 ≤ c') (h3 : c' * 2 ^ (q' + 1074).toNat = m * 2 ^ 1022) : q' ≤ 0 ∧ c' * 2 ^ 52 = m * 2 ^ (-q').toNat := by
  have hq : q' ≤ 0 := by
    rcases Int.le_total q' 0 with h | h
    · exact h
    · exfalso
      have hc : 2 ^ 52 ≤ c' := by
        rcases h2 with h2 | h2
        · omega
        · exact h2
      have e1 : 2 ^ 1074 ≤ 2 ^ (q' + 1074).toNat := Nat.pow_le_pow_right (by decide) (by omega)
      have e2 : 2 ^ 52 * 2 ^ 1074 ≤ c' * 2 ^ (q' + 1074).toNat := Nat.mul_le_mul hc e1
      rw [h3] at e2
      have e3 : m * 2 ^ 1022 < 2 ^ 52 * 2 ^ 1022 := Nat.mul_lt_mul_of_pos_right hm (Nat.two_pow_pos _)
      have e4 : 2 ^ 52 * 2 ^ 1022 ≤ 2 ^ 52 * 2 ^ 1074 := Nat.mul_le_mul_left _ (Nat.pow_le_pow_right (by decide) (by decide))
      omega
  refine ⟨hq, ?_⟩
  refine Nat.eq_of_mul_eq_mul_right (Nat.two_pow_pos (q' + 1074).toNat) ?_
  have e : (-q').toNat + (q' + 1074).toNat = 1022 + 52 := by omega
  rw [Nat.mul_assoc m, ← Nat.pow_add, e, Nat.pow_add, ← Nat.mul_assoc, ← h3]
  rw [Nat.mul_assoc, Nat.mul_assoc, Nat.mul_comm (2 ^ 52)]
theorem xE_dint {m : Nat} (hm : m < 2 ^ 52) : Jvm.FP.Core.DInt (m : Int) (FP.dmul (FP.dsub (xE 1023 m) FP.dconst1) 4841369599423283200) := by
  obtain ⟨c', q', v, h1, h2, h3⟩ := xE_sub hm
  obtain ⟨h4, h5⟩ := xE_prod hm h1 h2 h3
  unfold Jvm.FP.Core.DInt
  have e : Jvm.FP.Core.val64 (FP.dmul (FP.dsub (xE 1023 m) FP.dconst1) 4841369599423283200) = Jvm.FP.Core.round Jvm.FP.Core.b64 (.fin false (c' * (2 ^ 52 + 0)) (q' + (-1074 + (((1075 : Nat) : Int) - 1)))) := by
    refine (Jvm.FP.Core.val64_dmul (FP.dsub (xE 1023 m) FP.dconst1) 4841369599423283200).trans ?_
    rw [v, xE_52, xE_val (by decide) (by decide) (by decide)]
    rfl
  rw [e, show (-1074 + (((1075 : Nat) : Int) - 1)) = 0 by decide, Int.add_zero, Nat.add_zero]
  refine Jvm.FP.Core.whole_round Jvm.FP.Core.good_b64 Jvm.FP.Core.wide_b64 (by show m ≤ 2 ^ 53; omega) ?_
  show Jvm.FP.Core.signed false (c' * 2 ^ 52 * 2 ^ q'.toNat) = (m : Int) * ((2 ^ (-q').toNat : Nat) : Int)
  rw [show q'.toNat = 0 by omega, Nat.pow_zero, Nat.mul_one, h5]
  rfl
theorem xE_d2l {m : Nat} (hm : m < 2 ^ 52) : FP.d2l (FP.dmul (FP.dsub (xE 1023 m) FP.dconst1) 4841369599423283200) = Int64.ofNat m := by
  refine Jvm.FP.Core.d2l_int ?_
  rw [Int64.toInt_ofNat_of_lt (by omega)]
  exact xE_dint hm
theorem xE_n1 {m : Nat} (hm : m < 2 ^ 52) : vf_n64 (FP.dsub (xE 1023 m) FP.dconst1) := n64_of (Jvm.FP.Core.dsub_out (xE_fin (by decide) (by decide) hm).notNaN (by rw [xE_one]; exact xE_fin (by decide) (by decide) (by decide)))
theorem xE_n2 {m : Nat} (hm : m < 2 ^ 52) : vf_n64 (FP.dmul (FP.dsub (xE 1023 m) FP.dconst1) 4841369599423283200) := by
  obtain ⟨c', q', v, -⟩ := xE_sub hm
  exact n64_of (Jvm.FP.Core.dmul_out ⟨_, _, _, v⟩ (by rw [xE_52]; exact xE_fin (by decide) (by decide) (by decide)))
theorem xE_n3 {E m : Nat} (h1 : 1 ≤ E) (h2 : E ≤ 2045) (hm : m < 2 ^ 52) : vf_n64 (FP.dmul (xE E m) 4611686018427387904) := by
  rw [xE_dbl h1 h2 hm]
  exact n64_of (xE_fin (by omega) (by omega) hm).notNaN
theorem xE_bits {E m : Nat} (h2 : E ≤ 1023) (hm : m < 2 ^ 52) : (xE E m).toInt64 = Int64.ofNat (E * 2 ^ 52 + m) := by
  unfold xE
  rfl
