theorem xE_gt0 {E m : Nat} (h1 : 1 ≤ E) (h2 : E ≤ 2046) (hm : m < 2 ^ 52) : FP.dcmp (xE E m) FP.dconst0 = some .gt := by
  refine (Jvm.FP.Core.dcmp_key (xE_fin h1 h2 hm).ne_nan (by rw [show Jvm.FP.Core.val64 FP.dconst0 = .fin false 0 Jvm.FP.Core.b64.qmin from Jvm.FP.Core.val64_dconst0]; exact Jvm.FP.Core.Datum.noConfusion)).trans ?_
  rw [xE_key h2 hm, show Jvm.FP.Core.dkey FP.dconst0 = 0 by decide]
  exact congrArg some (Int.compare_eq_gt.mpr (by omega))
theorem xE_cg {E m : Nat} (h1 : 1 ≤ E) (h2 : E ≤ 1023) (hm : m < 2 ^ 52) : 0 ≤ Op.cmpValue (FP.dcmp (xE E m) FP.dconst1) .g ↔ ¬ E < 1023 := by
  by_cases h : E < 1023
  · rw [xE_lt h1 h hm]
    exact ⟨fun z => absurd z (by decide), fun z => absurd h z⟩
  · obtain rfl : E = 1023 := by omega
    have hg := xE_ge hm
    refine ⟨fun _ => h, fun _ => ?_⟩
    have hn : FP.dcmp (xE 1023 m) FP.dconst1 = some (compare ((1023 * 2 ^ 52 + m : Nat) : Int) ((1023 * 2 ^ 52 + 0 : Nat) : Int)) := xE_cmp (by decide) (by decide) hm
    rw [hn] at hg ⊢
    cases hc : compare ((1023 * 2 ^ 52 + m : Nat) : Int) ((1023 * 2 ^ 52 + 0 : Nat) : Int) with
    | lt => rw [hc] at hg; exact absurd rfl hg
    | eq => decide
    | gt => decide
theorem exp_shl : ∀ E : Nat, E < 1024 → (Int64.ofNat E) <<< ((52 : Int32).toInt64 &&& 63) = Int64.ofNat (E * 2 ^ 52) := by decide +kernel
theorem bits_end {E i m : Nat} (h2 : E ≤ 1023) (hm : m < 2 ^ 52) (h : E + i = 1023) : Int64.ofNat (1023 - i) <<< ((52 : Int32).toInt64 &&& 63) + FP.d2l (FP.dmul (FP.dsub (xE (E + i) m) FP.dconst1) 4841369599423283200) = Int64.ofNat (E * 2 ^ 52 + m) := by
  rw [h, xE_d2l hm, show 1023 - i = E by omega, exp_shl E (by omega), ← Int64.ofNat_add]
theorem exp_pred : ∀ i : Nat, i < 1023 → Int64.ofNat (1023 - i) - Int64.ofNat 1 = Int64.ofNat (1023 - (i + 1)) := by decide +kernel
set_option maxRecDepth 100000 in
set_option maxHeartbeats 4000000 in
theorem c5_bitsE {w : kM} {E m : Nat} (h1 : 993 ≤ E) (h2 : E ≤ 1023) (hm : m < 2 ^ 52) : kCtrR mX5_bitsOfShare 1 [.double (xE E m)] w (.long (Int64.ofNat (E * 2 ^ 52 + m))) := by
  refine kCtrR.of pl5 nlX5_bitsOfShare rfl (Nat.le_of_ble_eq_true rfl) (fun n => ?_)
  have loop : ∀ (k i : Nat), k = 1023 - E - i → i ≤ 1023 - E → kW (0, fun _ => 0) mX5_bitsOfShare 1 (fun o' w' n' => o' = .inl (some (.long (Int64.ofNat (E * 2 ^ 52 + m)))) ∧ w' = w ∧ n' = n) 0 0 n w 18 [(0, .double (xE E m)), (2, .double (xE (E + i) m)), (4, .long (Int64.ofNat (1023 - i))), (6, .int (nI i))] [] := by
    intro k
    induction k using Nat.strongRecOn with
    | _ k ih =>
      intro i hk hi
      refine kw_iload (pc := 18) dX5_bitsOfShare_18 rfl ?_
      refine kw_bipush (v := 64) (pc := 20) dX5_bitsOfShare_20 (by decide) ?_
      refine kw_icmp_ge (tgt := 49) (pc := 22) dX5_bitsOfShare_22 (by decide) (fun h22 => ?_) (fun h22 => ?_)
      · have h22 := (kLeI (a := 64) (b := i) (by omega) (by omega) (rfl : (64 : Int32) = nI 64) rfl).mp h22
        exfalso; omega
      · have h22 := mt (kLeI (a := 64) (b := i) (by omega) (by omega) (rfl : (64 : Int32) = nI 64) rfl).mpr h22
        refine kw_dload_n (pc := 25) dX5_bitsOfShare_25 rfl ?_
        refine kw_dconst1 (pc := 26) dX5_bitsOfShare_26 ?_
        refine kw_dcmp (pc := 27) dX5_bitsOfShare_27 ?_
        refine kw_if_ge (tgt := 49) (pc := 28) dX5_bitsOfShare_28 (by decide) (fun h28 => ?_) (fun h28 => ?_)
        · have hE := (xE_cg (E := E + i) (by omega) (by omega) hm).mp h28
          refine kw_lload (pc := 49) dX5_bitsOfShare_49 rfl ?_
          refine kw_bipush (v := 52) (pc := 51) dX5_bitsOfShare_51 (by decide) ?_
          refine kw_lshl (pc := 53) dX5_bitsOfShare_53 ?_
          refine kw_dload_n (pc := 54) dX5_bitsOfShare_54 rfl ?_
          refine kw_dconst1 (pc := 55) dX5_bitsOfShare_55 ?_
          refine kw_dsub (pc := 56) dX5_bitsOfShare_56 (by rw [show E + i = 1023 by omega]; exact xE_n1 hm) ?_
          refine kw_ldc2d (pc := 57) dX5_bitsOfShare_57 gX5_268 ?_
          refine kw_dmul (pc := 60) dX5_bitsOfShare_60 (by rw [show E + i = 1023 by omega]; exact xE_n2 hm) ?_
          refine kw_d2l (pc := 61) dX5_bitsOfShare_61 ?_
          refine kw_ladd (pc := 62) dX5_bitsOfShare_62 ?_
          exact kw_lreturn nlX5_bitsOfShare (pc := 63) dX5_bitsOfShare_63 rfl ⟨kv_eql (bits_end h2 hm (by omega)), rfl, rfl⟩
        · have hE : E + i < 1023 := Decidable.not_not.mp (mt (xE_cg (E := E + i) (by omega) (by omega) hm).mpr h28)
          refine kw_dload_n (pc := 31) dX5_bitsOfShare_31 rfl ?_
          refine kw_ldc2d (pc := 32) dX5_bitsOfShare_32 gX5_266 ?_
          refine kw_dmul (pc := 35) dX5_bitsOfShare_35 (xE_n3 (by omega) (by omega) hm) ?_
          refine kw_dstore_n (pc := 36) dX5_bitsOfShare_36 (by decide) rfl ?_
          refine kw_lload (pc := 37) dX5_bitsOfShare_37 rfl ?_
          refine kw_lconst (pc := 39) dX5_bitsOfShare_39 rfl ?_
          refine kw_lsub (pc := 40) dX5_bitsOfShare_40 ?_
          refine kw_lstore (pc := 41) dX5_bitsOfShare_41 (by decide) rfl ?_
          refine kw_iinc (pc := 43) dX5_bitsOfShare_43 (by decide) rfl rfl rfl ?_
          refine kw_goto (tgt := 18) (pc := 46) dX5_bitsOfShare_46 (by decide) ?_
          exact kW.locs (ih (1023 - E - (i + 1)) (by omega) (i + 1) rfl (by omega)) ⟨rfl, by rw [show E + (i + 1) = E + i + 1 by omega, ← xE_dbl (by omega) (by omega) hm]; rfl, kgEl rfl (exp_pred i (by omega)), kgE rfl (kA (a := i) (b := 1) rfl (rfl : (Int32.ofInt 1) = nI 1)), trivial⟩
  refine kw_dload_n (pc := 0) dX5_bitsOfShare_0 rfl ?_
  refine kw_dconst0 (pc := 1) dX5_bitsOfShare_1 ?_
  refine kw_dcmp (pc := 2) dX5_bitsOfShare_2 ?_
  refine kw_if_gt (tgt := 8) (pc := 3) dX5_bitsOfShare_3 (by decide) (fun h3 => ?_) (fun h3 => ?_)
  · refine kw_dload_n (pc := 8) dX5_bitsOfShare_8 rfl ?_
    refine kw_dstore_n (pc := 9) dX5_bitsOfShare_9 (by decide) rfl ?_
    refine kw_ldc2 (pc := 10) dX5_bitsOfShare_10 gX5_264 ?_
    refine kw_lstore (pc := 13) dX5_bitsOfShare_13 (by decide) rfl ?_
    refine kw_iconst (v := 0) (pc := 15) dX5_bitsOfShare_15 (by decide) ?_
    refine kw_istore (pc := 16) dX5_bitsOfShare_16 (by decide) rfl ?_
    exact kW.locs (loop (1023 - E - 0) 0 rfl (Nat.zero_le _)) ⟨rfl, rfl, rfl, rfl, trivial⟩
  · exact absurd (by rw [xE_gt0 (by omega) (by omega) hm]; decide) h3
set_option maxRecDepth 100000 in
set_option maxHeartbeats 4000000 in
theorem c5_bits0 {w : kM} : kCtrR mX5_bitsOfShare 1 [.double FP.dconst0] w (.long 0) := by
  refine kCtrR.of pl5 nlX5_bitsOfShare rfl (Nat.le_of_ble_eq_true rfl) (fun n => ?_)
  refine kw_dload_n (pc := 0) dX5_bitsOfShare_0 rfl ?_
  refine kw_dconst0 (pc := 1) dX5_bitsOfShare_1 ?_
  refine kw_dcmp (pc := 2) dX5_bitsOfShare_2 ?_
  refine kw_if_gt (tgt := 8) (pc := 3) dX5_bitsOfShare_3 (by decide) (fun h3 => ?_) (fun h3 => ?_)
  · exact absurd h3 (by decide +kernel)
  · refine kw_lconst (pc := 6) dX5_bitsOfShare_6 rfl ?_
    exact kw_lreturn nlX5_bitsOfShare (pc := 7) dX5_bitsOfShare_7 rfl ⟨rfl, rfl, rfl⟩
def shOK (x : UInt64) : Prop := x = FP.dconst0 ∨ ∃ E m, x = xE E m ∧ 993 ≤ E ∧ E ≤ 1023 ∧ m < 2 ^ 52
theorem c5_bitsX {w : kM} {x : UInt64} (h : shOK x) : kCtrR mX5_bitsOfShare 1 [.double x] w (.long x.toInt64) := by
  rcases h with rfl | ⟨E, m, rfl, h1, h2, h3⟩
  · exact c5_bits0
  · rw [xE_bits h2 h3]
    exact c5_bitsE h1 h2 h3
set_option maxRecDepth 100000 in
set_option maxHeartbeats 4000000 in
theorem c5_fold {w : kM} (h v : Int64) : kCtrR mX5_fold 0 [.long h, .long v] w (.long (31 * h + v)) := by
  refine kCtrR.of pl5 nlX5_fold rfl (Nat.le_of_ble_eq_true rfl) (fun n => ?_)
  refine kw_ldc2 (pc := 0) dX5_fold_0 gX5_253 ?_
  refine kw_lload_n (pc := 3) dX5_fold_3 rfl ?_
  refine kw_lmul (pc := 4) dX5_fold_4 ?_
  refine kw_lload_n (pc := 5) dX5_fold_5 rfl ?_
  refine kw_ladd (pc := 6) dX5_fold_6 ?_
  exact kw_lreturn nlX5_fold (pc := 7) dX5_fold_7 rfl ⟨rfl, rfl, rfl⟩
set_option maxRecDepth 100000 in
set_option maxHeartbeats 4000000 in
theorem c5_foldRow {w : kM} {r Z u : Nat} {f : Nat → Int32} (hr : w r = kI 0 Z (tr Z f)) (hu : u ≤ Z) (hZ : Z < 1000) (h : Int64) : kCtrR mX5_foldRow 1 [.long h, .ref r, .int (nI u)] w (.long (rwH f u h)) := by
  refine kCtrR.of pl5 nlX5_foldRow rfl (Nat.le_of_ble_eq_true rfl) (fun n => ?_)
  have loop : ∀ (m : Nat) (i : Nat), m = u - i → i ≤ u → kW (0, fun _ => 0) mX5_foldRow 1 (fun o' w' n' => o' = .inl (some (.long (rwH f u h))) ∧ w' = w ∧ n' = n) 0 0 n w 6 [(0, .long h), (2, .ref r), (3, .int (nI u)), (4, .long (rwH f i h)), (6, .int (nI i))] [] := by
    intro m
    induction m using Nat.strongRecOn with
    | _ m ih =>
      intro i hm hi
      refine kw_iload (pc := 6) dX5_foldRow_6 rfl ?_
      refine kw_iload_n (pc := 8) dX5_foldRow_8 rfl ?_
      refine kw_icmp_ge (tgt := 37) (pc := 9) dX5_foldRow_9 (by decide) (fun h9 => ?_) (fun h9 => ?_)
      · have h9 := (kLeI (a := u) (b := i) (by omega) (by omega) rfl rfl).mp h9
        refine kw_lload (pc := 37) dX5_foldRow_37 rfl ?_
        exact kw_lreturn nlX5_foldRow (pc := 39) dX5_foldRow_39 rfl ⟨kv_eql (by rw [show i = u by omega]), rfl, rfl⟩
      · have h9 := mt (kLeI (a := u) (b := i) (by omega) (by omega) rfl rfl).mpr h9
        refine kw_iload (pc := 12) dX5_foldRow_12 rfl ?_
        refine kw_aload_n (pc := 14) dX5_foldRow_14 rfl ?_
        refine kw_alenI (pc := 15) (v := nI Z) dX5_foldRow_15 hr rfl ?_
        refine kw_icmp_ge (tgt := 37) (pc := 16) dX5_foldRow_16 (by decide) (fun h16 => ?_) (fun h16 => ?_)
        · have h16 := (kLeI (a := Z) (b := i) (by omega) (by omega) rfl rfl).mp h16
          exfalso; omega
        · have h16 := mt (kLeI (a := Z) (b := i) (by omega) (by omega) rfl rfl).mpr h16
          refine kw_lload (pc := 19) dX5_foldRow_19 rfl ?_
          refine kw_aload_n (pc := 21) dX5_foldRow_21 rfl ?_
          refine kw_iload (pc := 22) dX5_foldRow_22 rfl ?_
          refine kw_ialoadT (pc := 24) (i := i) dX5_foldRow_24 hr rfl (by omega) (by omega) ?_
          refine kw_i2l (pc := 25) dX5_foldRow_25 ?_
          refine kw_callSr (pc := 26) dX5_foldRow_26 lX5_197 (c5_fold _ _) rfl rfl ⟨by decide, by decide, Nat.le_of_ble_eq_true rfl⟩ ?_
          refine kw_lstore (pc := 29) dX5_foldRow_29 (by decide) rfl ?_
          refine kw_iinc (pc := 31) dX5_foldRow_31 (by decide) rfl rfl rfl ?_
          refine kw_goto (tgt := 6) (pc := 34) dX5_foldRow_34 (by decide) ?_
          exact kW.locs (ih (u - (i + 1)) (by omega) (i + 1) rfl (by omega)) ⟨rfl, rfl, rfl, kgEl rfl rfl, kgE rfl (kA (a := i) (b := 1) rfl (rfl : (Int32.ofInt 1) = nI 1)), trivial⟩
  refine kw_lload_n (pc := 0) dX5_foldRow_0 rfl ?_
  refine kw_lstore (pc := 1) dX5_foldRow_1 (by decide) rfl ?_
  refine kw_iconst (v := 0) (pc := 3) dX5_foldRow_3 (by decide) ?_
  refine kw_istore (pc := 4) dX5_foldRow_4 (by decide) rfl ?_
  exact kW.locs (loop (u - 0) 0 rfl (by omega)) ⟨rfl, rfl, rfl, rfl, rfl, trivial⟩
