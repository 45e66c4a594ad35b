theorem xE_gt0 {E m : Nat} (h1 : 1 ≤ E) (h2 : E ≤ 2046) (hm : m < 2 ^ 52) : FP.dcmp (xE E m) FP.dconst0 = some .gt := by
  refine (Jvm.FP.Core.dcmp_key (xE_fin h1 h2 hm).ne_nan (by rw [show Jvm.FP.Core.val64 FP.dconst0 = .fin false 0 Jvm.FP.Core.b64.qmin from Jvm.FP.Core.val64_dconst0]; exact Jvm.FP.Core.Datum.noConfusion)).trans ?_
  rw [xE_key h2 hm, show Jvm.FP.Core.dkey FP.dconst0 = 0 by decide]
  exact congrArg some (Int.compare_eq_gt.mpr (by omega))
theorem xE_cg {E m : Nat} (h1 : 1 ≤ E) (h2 : E ≤ 1023) (hm : m < 2 ^ 52) : 0 ≤ Op.cmpValue (FP.dcmp (xE E m) FP.dconst1) .g ↔ ¬ E < 1023 := by
  by_cases h : E < 1023
  · rw [xE_lt h1 h hm]
    exact ⟨fun z => absurd z (by decide), fun z => absurd h z⟩
  · obtain rfl : E = 1023 := by omega
    have hg := xE_ge hm
    refine ⟨fun _ => h, fun _ => ?_⟩
    have hn : FP.dcmp (xE 1023 m) FP.dconst1 = some (compare ((1023 * 2 ^ 52 + m : Nat) : Int) ((1023 * 2 ^ 52 + 0 : Nat) : Int)) := xE_cmp (by decide) (by decide) hm
    rw [hn] at hg ⊢
    cases hc : compare ((1023 * 2 ^ 52 + m : Nat) : Int) ((1023 * 2 ^ 52 + 0 : Nat) : Int) with
    | lt => rw [hc] at hg; exact absurd rfl hg
    | eq => decide
    | gt => decide
theorem exp_shl : ∀ E : Nat, E < 1024 → (Int64.ofNat E) <<< ((52 : Int32).toInt64 &&& 63) = Int64.ofNat (E * 2 ^ 52) := by decide +kernel
theorem bits_end {E i m : Nat} (h2 : E ≤ 1023) (hm : m < 2 ^ 52) (h : E + i = 1023) : Int64.ofNat (1023 - i) <<< ((52 : Int32).toInt64 &&& 63) + FP.d2l (FP.dmul (FP.dsub (xE (E + i) m) FP.dconst1) 4841369599423283200) = Int64.ofNat (E * 2 ^ 52 + m) := by
  rw [h, xE_d2l hm, show 1023 - i = E by omega, exp_shl E (by omega), ← Int64.ofNat_add]
theorem exp_pred : ∀ i : Nat, i < 1023 → Int64.ofNat (1023 - i) - Int64.ofNat 1 = Int64.ofNat (1023 - (i + 1)) := by decide +kernel
def shOK (x : UInt64) : Prop := x = FP.dconst0 ∨ ∃ E m, x = xE E m ∧ 993 ≤ E ∧ E ≤ 1023 ∧ m < 2 ^ 52
