/-! ===== doubles ===== -/
theorem n64_of {r : UInt64} (h : Jvm.FP.Core.dIsNaN r = false) : vf_n64 r := by
  have h1 : ¬ (9218868437227405312 < r.toNat % 2 ^ 63) := fun z => by
    rw [(Jvm.FP.Core.isNaN_bits r).mpr z] at h
    cases h
  unfold vf_n64
  rw [UInt64.le_iff_toNat_le, UInt64.toNat_and]
  have e : (0x7fffffffffffffff : UInt64).toNat = 2 ^ 63 - 1 := by decide
  rw [e, Nat.and_two_pow_sub_one_eq_mod]
  exact Nat.le_of_not_lt h1
section KRAW
variable {X : Nat × (Nat → Int32)} {M : kMi} {dd : Nat} {Q : kQ} {rc rs n : Nat} {w : kM} {L : List (Nat × Value)} {st : List Value}
theorem kw_raw {pc idx : Nat} {x : UInt64} (d : decode M.2.1 pc = .ok (.invokestatic idx, 3)) (w1 : Cond.methodLink M.1.cls idx ⟨"java/lang/Double", "doubleToRawLongBits", "(D)J"⟩ ∈ kTb) (w2 : Cond.native ⟨"java/lang/Double", "doubleToRawLongBits", "(D)J"⟩ ∈ kTb) (w3 : Cond.static ⟨"java/lang/Double", "doubleToRawLongBits", "(D)J"⟩ ∈ kTb) (w4 : Cond.initialized "java/lang/Double" ∈ kTb) (hd : 1 ≤ dd) (hr : (st.map fun v => v.category).sum ≤ 8) (k : kW X M dd Q rc rs n w (pc + 3) L (.long x.toInt64 :: st)) : kW X M dd Q rc rs n w pc L (.double x :: st) := by
  intro G b p l e R s m args below meth c H locs cells slots ls Z hO hE hR hS hc hs hl
  obtain ⟨hx, hb, hml, hown, hts, -, -, -, -, -, -, hdR, hlR, -, -⟩ := id hO
  exact vn_d2l hx hb (hml.trans hl.1.symm) hown (hts _ (List.mem_cons_of_mem _ w1)) (hts _ (List.mem_cons_of_mem _ w2)) (hts _ (List.mem_cons_of_mem _ w3)) (hts _ (List.mem_cons_of_mem _ w4)) (by omega) (by rw [kcats]; omega) d (k G b p l e R s m args below meth c H locs cells slots ls Z hO hE hR hS hc hs hl)
end KRAW
theorem ddiv_ok {A B : Int32} (h : ¬ B = 0) : Jvm.FP.Core.dIsNaN (FP.ddiv (FP.i2d A) (FP.i2d B)) = false := by
  refine Jvm.FP.Core.ddiv_out (Jvm.FP.Core.i2d_fin A).notNaN (Jvm.FP.Core.i2d_fin B) (fun hz => ?_)
  have h1 := Jvm.FP.Core.i2d_ne_zero h
  have h2 := (Jvm.FP.Core.zero_bits2 (Jvm.FP.i2d B)).mp hz
  exact h1 h2
