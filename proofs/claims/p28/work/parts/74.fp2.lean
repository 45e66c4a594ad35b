theorem cross {A B cA cB : Nat} {a b : Int} (h1 : cA * 2 ^ a.toNat = A * 2 ^ (-a).toNat) (h2 : cB * 2 ^ b.toNat = B * 2 ^ (-b).toNat) : cA * B * 2 ^ (a - b - 0).toNat = A * cB * 2 ^ (0 - (a - b)).toNat := by
  refine Nat.eq_of_mul_eq_mul_right (Nat.two_pow_pos (a.toNat + (-b).toNat)) ?_
  have e : (a - b - 0).toNat + ((-a).toNat + b.toNat) = (0 - (a - b)).toNat + (a.toNat + (-b).toNat) := by omega
  calc cA * B * 2 ^ (a - b - 0).toNat * 2 ^ (a.toNat + (-b).toNat) = (cA * 2 ^ a.toNat) * (B * 2 ^ (-b).toNat) * 2 ^ (a - b - 0).toNat := by rw [Nat.pow_add]; ac_rfl
    _ = (A * 2 ^ (-a).toNat) * (cB * 2 ^ b.toNat) * 2 ^ (a - b - 0).toNat := by rw [h1, h2]
    _ = A * cB * 2 ^ ((a - b - 0).toNat + ((-a).toNat + b.toNat)) := by rw [Nat.pow_add, Nat.pow_add]; ac_rfl
    _ = A * cB * 2 ^ (0 - (a - b)).toNat * 2 ^ (a.toNat + (-b).toNat) := by rw [e, Nat.pow_add, ← Nat.mul_assoc]
theorem i2d_shape {A : Nat} (h : 1 ≤ A) (hA : A < 2147483648) : ∃ (c : Nat) (q : Int), Jvm.FP.Core.val64 (FP.i2d (nI A)) = .fin false c q ∧ c * 2 ^ q.toNat = A * 2 ^ (-q).toNat := by
  obtain ⟨s, c, q, v⟩ := Jvm.FP.Core.i2d_fin (nI A)
  have w := Jvm.FP.Core.i2d_int (nI A)
  unfold Jvm.FP.Core.DInt at w
  have v' : Jvm.FP.Core.val64 (FP.i2d (nI A)) = .fin s c q := v
  rw [v] at w
  have w : Jvm.FP.Core.signed s (c * 2 ^ q.toNat) = (nI A).toInt * ((2 ^ (-q).toNat : Nat) : Int) := w
  rw [nI_toInt hA] at w
  have p : 0 < A * 2 ^ (-q).toNat := Nat.mul_pos (by omega) (Nat.two_pow_pos _)
  have e : (A : Int) * ((2 ^ (-q).toNat : Nat) : Int) = ((A * 2 ^ (-q).toNat : Nat) : Int) := (Int.natCast_mul _ _).symm
  rw [e] at w
  unfold Jvm.FP.Core.signed at w
  cases s with
  | true =>
    exfalso
    simp only [if_true] at w
    omega
  | false =>
    simp only [Bool.false_eq_true, if_false] at w
    exact ⟨c, q, v', by exact_mod_cast w⟩
theorem one_units : Jvm.FP.Core.unitsOf Jvm.FP.Core.b64 (1023 * 2 ^ 52) = 2 ^ 1074 := by
  unfold Jvm.FP.Core.unitsOf
  rw [Jvm.FP.Core.tails_b64, if_neg (by decide), show 1023 * 2 ^ 52 % 2 ^ 52 = 0 by decide, show 1023 * 2 ^ 52 / 2 ^ 52 - 1 = 1022 by decide, Nat.add_zero, ← Nat.pow_add]
theorem low_units : Jvm.FP.Core.unitsOf Jvm.FP.Core.b64 (993 * 2 ^ 52) = 2 ^ 1044 := by
  unfold Jvm.FP.Core.unitsOf
  rw [Jvm.FP.Core.tails_b64, if_neg (by decide), show 993 * 2 ^ 52 % 2 ^ 52 = 0 by decide, show 993 * 2 ^ 52 / 2 ^ 52 - 1 = 992 by decide, Nat.add_zero, ← Nat.pow_add]
theorem share_shape {A B : Nat} (h1 : 1 ≤ A) (h2 : A ≤ B) (hB : B ≤ 2 ^ 30) : ∃ E m, FP.ddiv (FP.i2d (nI A)) (FP.i2d (nI B)) = xE E m ∧ 993 ≤ E ∧ E ≤ 1023 ∧ m < 2 ^ 52 ∧ (E = 1023 → m = 0) := by
  obtain ⟨cA, qA, vA, eA⟩ := i2d_shape h1 (by omega)
  obtain ⟨cB, qB, vB, eB⟩ := i2d_shape (A := B) (by omega) (by omega)
  have q1 : Jvm.FP.Core.b64.qmin = -1074 := Jvm.FP.Core.qmin_b64
  have hcB : ¬ cB = 0 := fun h => by
    rw [h, Nat.zero_mul] at eB
    have p : 0 < B * 2 ^ (-qB).toNat := Nat.mul_pos (by omega) (Nat.two_pow_pos _)
    omega
  generalize hx : FP.ddiv (FP.i2d (nI A)) (FP.i2d (nI B)) = x
  have v : Jvm.FP.Core.val64 x = Jvm.FP.Core.roundRatio Jvm.FP.Core.b64 false A B 0 := by
    rw [← hx]
    refine (Jvm.FP.Core.val64_ddiv (FP.i2d (nI A)) (FP.i2d (nI B))).trans ?_
    rw [vA, vB]
    show (if cB = 0 then (if cA = 0 then _ else _) else Jvm.FP.Core.roundRatio Jvm.FP.Core.b64 (false != false) cA cB (qA - qB)) = _
    rw [if_neg hcB]
    exact Jvm.FP.Core.roundRatio_congr (by omega) (by omega) (cross eA eB)
  have hn : Jvm.FP.Core.val64 x ≠ .nan := by
    rw [v]
    exact Jvm.FP.Core.roundRatio_ne_nan _ _ _ _ _
  have hu : Jvm.FP.Core.inUnits A 0 (-1074) = A * 2 ^ 1074 := rfl
  have up := Jvm.FP.Core.mag_le Jvm.FP.Core.good_b64 (n := x.toNat) (m := 1023 * 2 ^ 52) (e0 := -1074) v (by omega) (by rw [q1]; decide) (by decide) (by
    rw [hu, one_units, q1, show ((-1074 : Int) - -1074).toNat = 0 by decide, Nat.pow_zero, Nat.mul_one, Nat.mul_comm]
    exact Nat.mul_le_mul_left _ h2)
  have lo := Jvm.FP.Core.mag_ge Jvm.FP.Core.good_b64 (n := x.toNat) (m := 993 * 2 ^ 52) (e0 := -1074) v (by omega) (by rw [q1]; decide) (by decide) (by rw [Jvm.FP.Core.infBits_b64]; decide) (by
    rw [hu, low_units, q1, show ((-1074 : Int) - -1074).toNat = 0 by decide, Nat.pow_zero, Nat.mul_one, show (1074 : Nat) = 30 + 1044 from rfl, Nat.pow_add, ← Nat.mul_assoc, Nat.mul_comm (2 ^ 1044)]
    refine Nat.mul_le_mul_right _ ?_
    calc B ≤ 2 ^ 30 := hB
      _ ≤ A * 2 ^ 30 := Nat.le_mul_of_pos_left _ h1)
  rw [Jvm.FP.Core.mag_toNat64] at up lo
  have hs : x.toNat < 2 ^ 63 := by
    have e := Jvm.FP.Core.sgn_bits hn
    rw [v, Jvm.FP.Core.sgn_roundRatio] at e
    exact Nat.lt_of_not_le (of_decide_eq_false e.symm)
  rw [Nat.mod_eq_of_lt hs] at up lo
  refine ⟨x.toNat / 2 ^ 52, x.toNat % 2 ^ 52, ?_, by omega, by omega, Nat.mod_lt _ (by decide), fun h => by omega⟩
  unfold xE
  rw [show x.toNat / 2 ^ 52 * 2 ^ 52 + x.toNat % 2 ^ 52 = x.toNat by omega]
  exact UInt64.ofNat_toNat.symm
